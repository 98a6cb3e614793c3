theorem gd_nil (big : List Cond) : GoodIn big [] := fun _ h => absurd h List.not_mem_nil
theorem gd_cons {big ws : List Cond} {w : Cond} (h1 : w ∈ big) (h2 : goodWord w = true) (h3 : GoodIn big ws) : GoodIn big (w :: ws) := fun x hx => (List.mem_cons.mp hx).elim (fun e => e ▸ ⟨h1, good_of_word h2⟩) (h3 x)
theorem dX0_letGo_0 : decode cX0_letGo 0 = .ok (.iload_n 0, 1) := dq_26 (dst 0 rd_prog_2_method_2_code_0 rfl)
theorem dX0_letGo_1 : decode cX0_letGo 1 = .ok (.sipush 1000, 3) := dq_17 (dst 1 rd_prog_2_method_2_code_0 rfl) (by decide +kernel)
theorem dX0_letGo_4 : decode cX0_letGo 4 = .ok (.idiv, 1) := dq_108 (dst 4 rd_prog_2_method_2_code_0 rfl)
theorem dX0_letGo_5 : decode cX0_letGo 5 = .ok (.ireturn, 1) := dq_172 (dst 5 rd_prog_2_method_2_code_0 rfl)
theorem dX0_taken_0 : decode cX0_taken 0 = .ok (.iload_n 0, 1) := dq_26 (dst 0 rd_prog_2_method_3_code_0 rfl)
theorem dX0_taken_1 : decode cX0_taken 1 = .ok (.bipush 100, 2) := dq_16 (dst 1 rd_prog_2_method_3_code_0 rfl) (by decide +kernel)
theorem dX0_taken_3 : decode cX0_taken 3 = .ok (.idiv, 1) := dq_108 (dst 3 rd_prog_2_method_3_code_0 rfl)
theorem dX0_taken_4 : decode cX0_taken 4 = .ok (.bipush 10, 2) := dq_16 (dst 4 rd_prog_2_method_3_code_0 rfl) (by decide +kernel)
theorem dX0_taken_6 : decode cX0_taken 6 = .ok (.irem, 1) := dq_112 (dst 6 rd_prog_2_method_3_code_0 rfl)
theorem dX0_taken_7 : decode cX0_taken 7 = .ok (.ireturn, 1) := dq_172 (dst 7 rd_prog_2_method_3_code_0 rfl)
theorem dX0_taught_0 : decode cX0_taught 0 = .ok (.iload_n 0, 1) := dq_26 (dst 0 rd_prog_2_method_4_code_0 rfl)
theorem dX0_taught_1 : decode cX0_taught 1 = .ok (.bipush 10, 2) := dq_16 (dst 1 rd_prog_2_method_4_code_0 rfl) (by decide +kernel)
theorem dX0_taught_3 : decode cX0_taught 3 = .ok (.idiv, 1) := dq_108 (dst 3 rd_prog_2_method_4_code_0 rfl)
theorem dX0_taught_4 : decode cX0_taught 4 = .ok (.bipush 10, 2) := dq_16 (dst 4 rd_prog_2_method_4_code_0 rfl) (by decide +kernel)
theorem dX0_taught_6 : decode cX0_taught 6 = .ok (.irem, 1) := dq_112 (dst 6 rd_prog_2_method_4_code_0 rfl)
theorem dX0_taught_7 : decode cX0_taught 7 = .ok (.ireturn, 1) := dq_172 (dst 7 rd_prog_2_method_4_code_0 rfl)
theorem dX0_ordered_0 : decode cX0_ordered 0 = .ok (.iload_n 0, 1) := dq_26 (dst 0 rd_prog_2_method_5_code_0 rfl)
theorem dX0_ordered_1 : decode cX0_ordered 1 = .ok (.bipush 10, 2) := dq_16 (dst 1 rd_prog_2_method_5_code_0 rfl) (by decide +kernel)
theorem dX0_ordered_3 : decode cX0_ordered 3 = .ok (.irem, 1) := dq_112 (dst 3 rd_prog_2_method_5_code_0 rfl)
theorem dX0_ordered_4 : decode cX0_ordered 4 = .ok (.ireturn, 1) := dq_172 (dst 4 rd_prog_2_method_5_code_0 rfl)
theorem lf_X0_done_1 : ∀ w ∈ ([Cond.methodLink RX0 7 yX0_letGo, Cond.static yX0_letGo, Cond.initialized RX0, Cond.code yX0_letGo cX0_letGo 1 (some .int), Cond.methodLink RX0 13 yX3_lessYoungestFirst, Cond.static yX3_lessYoungestFirst, Cond.initialized RX3, Cond.code yX3_lessYoungestFirst cX3_lessYoungestFirst 4 (some .int), Cond.methodLink RX3 19 Lib.Math.min.name, Cond.static Lib.Math.min.name, Cond.initialized "java/lang/Math", Cond.code Lib.Math.min.name Lib.Math.min.code 2 (some .int), Cond.methodLink RX0 19 yX0_taken, Cond.static yX0_taken, Cond.code yX0_taken cX0_taken 1 (some .int), Cond.methodLink RX0 22 yX0_taught, Cond.static yX0_taught, Cond.code yX0_taught cX0_taught 1 (some .int)] : List Cond), w ∈ wsX0_done := fun _ h => (List.mem_cons_of_mem _ h)
set_option maxRecDepth 20000 in
theorem ggX0_done_X0_letGo : GoodIn wsX0_done wsX0_letGo := (gd_cons (lf_X0_done_1 _ (List.mem_of_getElem? (i := 3) rfl)) rfl (gd_nil _))
set_option maxRecDepth 20000 in
theorem gX0_done_X0_letGo : GoodIn wsX0_done (va_wsS RX0 7 yX0_letGo wsX0_letGo) := goodIn_app (gd_cons (lf_X0_done_1 _ (List.mem_of_getElem? (i := 0) rfl)) rfl (gd_cons (lf_X0_done_1 _ (List.mem_of_getElem? (i := 1) rfl)) rfl (gd_cons (lf_X0_done_1 _ (List.mem_of_getElem? (i := 2) rfl)) rfl (gd_nil _)))) ggX0_done_X0_letGo
set_option maxRecDepth 20000 in
theorem ggX0_done_X3_lessYoungestFirst : GoodIn wsX0_done wsX3_lessYoungestFirst := (gd_cons (lf_X0_done_1 _ (List.mem_of_getElem? (i := 7) rfl)) rfl (gd_cons (lf_X0_done_1 _ (List.mem_of_getElem? (i := 8) rfl)) rfl (gd_cons (lf_X0_done_1 _ (List.mem_of_getElem? (i := 9) rfl)) rfl (gd_cons (lf_X0_done_1 _ (List.mem_of_getElem? (i := 10) rfl)) rfl (gd_cons (lf_X0_done_1 _ (List.mem_of_getElem? (i := 11) rfl)) rfl (gd_nil _))))))
set_option maxRecDepth 20000 in
theorem gX0_done_X3_lessYoungestFirst : GoodIn wsX0_done (va_wsS RX0 13 yX3_lessYoungestFirst wsX3_lessYoungestFirst) := goodIn_app (gd_cons (lf_X0_done_1 _ (List.mem_of_getElem? (i := 4) rfl)) rfl (gd_cons (lf_X0_done_1 _ (List.mem_of_getElem? (i := 5) rfl)) rfl (gd_cons (lf_X0_done_1 _ (List.mem_of_getElem? (i := 6) rfl)) rfl (gd_nil _)))) ggX0_done_X3_lessYoungestFirst
set_option maxRecDepth 20000 in
theorem ggX0_done_X0_taken : GoodIn wsX0_done wsX0_taken := (gd_cons (lf_X0_done_1 _ (List.mem_of_getElem? (i := 14) rfl)) rfl (gd_nil _))
set_option maxRecDepth 20000 in
theorem gX0_done_X0_taken : GoodIn wsX0_done (va_wsS RX0 19 yX0_taken wsX0_taken) := goodIn_app (gd_cons (lf_X0_done_1 _ (List.mem_of_getElem? (i := 12) rfl)) rfl (gd_cons (lf_X0_done_1 _ (List.mem_of_getElem? (i := 13) rfl)) rfl (gd_cons (lf_X0_done_1 _ (List.mem_of_getElem? (i := 2) rfl)) rfl (gd_nil _)))) ggX0_done_X0_taken
set_option maxRecDepth 20000 in
theorem ggX0_done_X0_taught : GoodIn wsX0_done wsX0_taught := (gd_cons (lf_X0_done_1 _ (List.mem_of_getElem? (i := 17) rfl)) rfl (gd_nil _))
set_option maxRecDepth 20000 in
theorem gX0_done_X0_taught : GoodIn wsX0_done (va_wsS RX0 22 yX0_taught wsX0_taught) := goodIn_app (gd_cons (lf_X0_done_1 _ (List.mem_of_getElem? (i := 15) rfl)) rfl (gd_cons (lf_X0_done_1 _ (List.mem_of_getElem? (i := 16) rfl)) rfl (gd_cons (lf_X0_done_1 _ (List.mem_of_getElem? (i := 2) rfl)) rfl (gd_nil _)))) ggX0_done_X0_taught
theorem dX0_done_0 : decode cX0_done 0 = .ok (.iload_n 0, 1) := dq_26 (dst 0 rd_prog_2_method_6_code_0 rfl)
theorem dX0_done_1 : decode cX0_done 1 = .ok (.iload_n 1, 1) := dq_27 (dst 1 rd_prog_2_method_6_code_0 rfl)
theorem dX0_done_2 : decode cX0_done 2 = .ok (.invokestatic 7, 3) := dq_184 (dst 2 rd_prog_2_method_6_code_0 rfl) rfl
theorem dX0_done_5 : decode cX0_done 5 = .ok (.invokestatic 13, 3) := dq_184 (dst 5 rd_prog_2_method_6_code_0 rfl) rfl
theorem dX0_done_8 : decode cX0_done 8 = .ok (.bipush 100, 2) := dq_16 (dst 8 rd_prog_2_method_6_code_0 rfl) (by decide +kernel)
theorem dX0_done_10 : decode cX0_done 10 = .ok (.iload_n 1, 1) := dq_27 (dst 10 rd_prog_2_method_6_code_0 rfl)
theorem dX0_done_11 : decode cX0_done 11 = .ok (.invokestatic 19, 3) := dq_184 (dst 11 rd_prog_2_method_6_code_0 rfl) rfl
theorem dX0_done_14 : decode cX0_done 14 = .ok (.imul, 1) := dq_104 (dst 14 rd_prog_2_method_6_code_0 rfl)
theorem dX0_done_15 : decode cX0_done 15 = .ok (.iadd, 1) := dq_96 (dst 15 rd_prog_2_method_6_code_0 rfl)
theorem dX0_done_16 : decode cX0_done 16 = .ok (.bipush 90, 2) := dq_16 (dst 16 rd_prog_2_method_6_code_0 rfl) (by decide +kernel)
theorem dX0_done_18 : decode cX0_done 18 = .ok (.iload_n 1, 1) := dq_27 (dst 18 rd_prog_2_method_6_code_0 rfl)
theorem dX0_done_19 : decode cX0_done 19 = .ok (.invokestatic 22, 3) := dq_184 (dst 19 rd_prog_2_method_6_code_0 rfl) rfl
theorem dX0_done_22 : decode cX0_done 22 = .ok (.imul, 1) := dq_104 (dst 22 rd_prog_2_method_6_code_0 rfl)
theorem dX0_done_23 : decode cX0_done 23 = .ok (.isub, 1) := dq_100 (dst 23 rd_prog_2_method_6_code_0 rfl)
theorem dX0_done_24 : decode cX0_done 24 = .ok (.ireturn, 1) := dq_172 (dst 24 rd_prog_2_method_6_code_0 rfl)
theorem dX1_init_0 : decode cX1_init 0 = .ok (.aload_n 0, 1) := dq_42 (dst 0 rd_prog_3_method_1_code_0 rfl)
theorem dX1_init_1 : decode cX1_init 1 = .ok (.invokespecial 3, 3) := dq_183 (dst 1 rd_prog_3_method_1_code_0 rfl) rfl
theorem dX1_init_4 : decode cX1_init 4 = .ok (.aload_n 0, 1) := dq_42 (dst 4 rd_prog_3_method_1_code_0 rfl)
theorem dX1_init_5 : decode cX1_init 5 = .ok (.bipush 35, 2) := dq_16 (dst 5 rd_prog_3_method_1_code_0 rfl) (by decide +kernel)
theorem dX1_init_7 : decode cX1_init 7 = .ok (.newarray .long, 2) := dq_188_11 (dst 7 rd_prog_3_method_1_code_0 rfl)
theorem dX1_init_9 : decode cX1_init 9 = .ok (.putfield 11, 3) := dq_181 (dst 9 rd_prog_3_method_1_code_0 rfl) rfl
theorem dX1_init_12 : decode cX1_init 12 = .ok (.aload_n 0, 1) := dq_42 (dst 12 rd_prog_3_method_1_code_0 rfl)
theorem dX1_init_13 : decode cX1_init 13 = .ok (.bipush 35, 2) := dq_16 (dst 13 rd_prog_3_method_1_code_0 rfl) (by decide +kernel)
theorem dX1_init_15 : decode cX1_init 15 = .ok (.newarray .long, 2) := dq_188_11 (dst 15 rd_prog_3_method_1_code_0 rfl)
theorem dX1_init_17 : decode cX1_init 17 = .ok (.putfield 17, 3) := dq_181 (dst 17 rd_prog_3_method_1_code_0 rfl) rfl
theorem dX1_init_20 : decode cX1_init 20 = .ok (.return_, 1) := dq_177 (dst 20 rd_prog_3_method_1_code_0 rfl)
theorem lf_X1_start_1 : ∀ w ∈ ([Cond.fieldLink RX1 11 "StillInAugust$Course" "ahead" "[J", Cond.fieldLink RX1 30 "StillInAugust$Course" "scale" "J", Cond.fieldLink RX1 34 "StillInAugust$Course" "costs" "J", Cond.methodLink RX1 20 yJ7_fill_d0a16, Cond.static yJ7_fill_d0a16, Cond.initialized RJ7, Cond.code yJ7_fill_d0a16 cJ7_fill_d0a16 5 none, Cond.methodLink RX1 26 yX3_kind, Cond.static yX3_kind, Cond.initialized RX3, Cond.code yX3_kind cX3_kind 4 (some .int), Cond.fieldLink RX3 15 "StillInAugust$Hands" "BEGINNINGS" "[I"] : List Cond), w ∈ wsX1_start := fun _ h => (List.mem_cons_of_mem _ (List.mem_append_left _ h))
theorem lf_X1_start_2 : ∀ w ∈ wsX10, w ∈ wsX1_start := fun _ h => (List.mem_cons_of_mem _ (List.mem_append_right _ h))
set_option maxRecDepth 20000 in
theorem ggX1_start_J7_fill_d0a16 : GoodIn wsX1_start wsJ7_fill_d0a16 := (gd_cons (lf_X1_start_1 _ (List.mem_of_getElem? (i := 6) rfl)) rfl (gd_nil _))
set_option maxRecDepth 20000 in
theorem gX1_start_J7_fill_d0a16 : GoodIn wsX1_start (va_wsS RX1 20 yJ7_fill_d0a16 wsJ7_fill_d0a16) := goodIn_app (gd_cons (lf_X1_start_1 _ (List.mem_of_getElem? (i := 3) rfl)) rfl (gd_cons (lf_X1_start_1 _ (List.mem_of_getElem? (i := 4) rfl)) rfl (gd_cons (lf_X1_start_1 _ (List.mem_of_getElem? (i := 5) rfl)) rfl (gd_nil _)))) ggX1_start_J7_fill_d0a16
set_option maxRecDepth 20000 in
theorem ggX1_start_X3_kind : GoodIn wsX1_start wsX3_kind := (gd_cons (lf_X1_start_1 _ (List.mem_of_getElem? (i := 10) rfl)) rfl (gd_cons (lf_X1_start_1 _ (List.mem_of_getElem? (i := 11) rfl)) rfl (gd_nil _)))
set_option maxRecDepth 20000 in
theorem gX1_start_X3_kind : GoodIn wsX1_start (va_wsS RX1 26 yX3_kind wsX3_kind) := goodIn_app (gd_cons (lf_X1_start_1 _ (List.mem_of_getElem? (i := 7) rfl)) rfl (gd_cons (lf_X1_start_1 _ (List.mem_of_getElem? (i := 8) rfl)) rfl (gd_cons (lf_X1_start_1 _ (List.mem_of_getElem? (i := 9) rfl)) rfl (gd_nil _)))) ggX1_start_X3_kind
theorem dX1_start_0 : decode cX1_start 0 = .ok (.aload_n 0, 1) := dq_42 (dst 0 rd_prog_3_method_2_code_0 rfl)
theorem dX1_start_1 : decode cX1_start 1 = .ok (.getfield 11, 3) := dq_180 (dst 1 rd_prog_3_method_2_code_0 rfl) rfl
theorem dX1_start_4 : decode cX1_start 4 = .ok (.lconst 0, 1) := dq_9 (dst 4 rd_prog_3_method_2_code_0 rfl)
theorem dX1_start_5 : decode cX1_start 5 = .ok (.invokestatic 20, 3) := dq_184 (dst 5 rd_prog_3_method_2_code_0 rfl) rfl
theorem dX1_start_8 : decode cX1_start 8 = .ok (.aload_n 0, 1) := dq_42 (dst 8 rd_prog_3_method_2_code_0 rfl)
theorem dX1_start_9 : decode cX1_start 9 = .ok (.getfield 11, 3) := dq_180 (dst 9 rd_prog_3_method_2_code_0 rfl) rfl
theorem dX1_start_12 : decode cX1_start 12 = .ok (.iload_n 1, 1) := dq_27 (dst 12 rd_prog_3_method_2_code_0 rfl)
theorem dX1_start_13 : decode cX1_start 13 = .ok (.invokestatic 26, 3) := dq_184 (dst 13 rd_prog_3_method_2_code_0 rfl) rfl
theorem dX1_start_16 : decode cX1_start 16 = .ok (.lconst 1, 1) := dq_10 (dst 16 rd_prog_3_method_2_code_0 rfl)
theorem dX1_start_17 : decode cX1_start 17 = .ok (.lastore, 1) := dq_80 (dst 17 rd_prog_3_method_2_code_0 rfl)
theorem dX1_start_18 : decode cX1_start 18 = .ok (.aload_n 0, 1) := dq_42 (dst 18 rd_prog_3_method_2_code_0 rfl)
theorem dX1_start_19 : decode cX1_start 19 = .ok (.lconst 1, 1) := dq_10 (dst 19 rd_prog_3_method_2_code_0 rfl)
theorem dX1_start_20 : decode cX1_start 20 = .ok (.putfield 30, 3) := dq_181 (dst 20 rd_prog_3_method_2_code_0 rfl) rfl
theorem dX1_start_23 : decode cX1_start 23 = .ok (.aload_n 0, 1) := dq_42 (dst 23 rd_prog_3_method_2_code_0 rfl)
theorem dX1_start_24 : decode cX1_start 24 = .ok (.lconst 0, 1) := dq_9 (dst 24 rd_prog_3_method_2_code_0 rfl)
theorem dX1_start_25 : decode cX1_start 25 = .ok (.putfield 34, 3) := dq_181 (dst 25 rd_prog_3_method_2_code_0 rfl) rfl
theorem dX1_start_28 : decode cX1_start 28 = .ok (.return_, 1) := dq_177 (dst 28 rd_prog_3_method_2_code_0 rfl)
theorem lf_X1_passWeek_1 : ∀ w ∈ wsX1_passWeek_r1, w ∈ wsX1_passWeek := fun _ h => (List.mem_cons_of_mem _ (List.mem_append_left _ (List.mem_append_left _ (List.mem_append_left _ h))))
theorem lf_X1_passWeek_2 : ∀ w ∈ wsX1_passWeek_r2, w ∈ wsX1_passWeek := fun _ h => (List.mem_cons_of_mem _ (List.mem_append_left _ (List.mem_append_left _ (List.mem_append_right _ (List.mem_append_left _ h)))))
theorem lf_X1_passWeek_3 : ∀ w ∈ wsX1_passWeek_r3, w ∈ wsX1_passWeek := fun _ h => (List.mem_cons_of_mem _ (List.mem_append_left _ (List.mem_append_left _ (List.mem_append_right _ (List.mem_append_right _ h)))))
theorem lf_X1_passWeek_4 : ∀ w ∈ wsX10, w ∈ wsX1_passWeek := fun _ h => (List.mem_cons_of_mem _ (List.mem_append_left _ (List.mem_append_right _ h)))
theorem lf_X1_passWeek_5 : ∀ w ∈ wsX40, w ∈ wsX1_passWeek := fun _ h => (List.mem_cons_of_mem _ (List.mem_append_right _ h))
set_option maxRecDepth 20000 in
theorem ggX1_passWeek_J7_fill_d0a16 : GoodIn wsX1_passWeek wsJ7_fill_d0a16 := (gd_cons (lf_X1_passWeek_1 _ (List.mem_of_getElem? (i := 8) rfl)) rfl (gd_nil _))
set_option maxRecDepth 20000 in
theorem gX1_passWeek_J7_fill_d0a16 : GoodIn wsX1_passWeek (va_wsS RX1 20 yJ7_fill_d0a16 wsJ7_fill_d0a16) := goodIn_app (gd_cons (lf_X1_passWeek_1 _ (List.mem_of_getElem? (i := 5) rfl)) rfl (gd_cons (lf_X1_passWeek_1 _ (List.mem_of_getElem? (i := 6) rfl)) rfl (gd_cons (lf_X1_passWeek_1 _ (List.mem_of_getElem? (i := 7) rfl)) rfl (gd_nil _)))) ggX1_passWeek_J7_fill_d0a16
theorem ga_wsX40 : List.all wsX40 goodWord = true := by decide +kernel
set_option maxRecDepth 20000 in
theorem ggX1_passWeek_X4_takenByLevel : GoodIn wsX1_passWeek wsX4_takenByLevel := (gd_cons (lf_X1_passWeek_1 _ (List.mem_of_getElem? (i := 13) rfl)) rfl (goodIn_app (gd_cons (lf_X1_passWeek_1 _ (List.mem_of_getElem? (i := 14) rfl)) rfl (gd_cons (lf_X1_passWeek_1 _ (List.mem_of_getElem? (i := 15) rfl)) rfl (gd_cons (lf_X1_passWeek_1 _ (List.mem_of_getElem? (i := 16) rfl)) rfl (gd_cons (lf_X1_passWeek_1 _ (List.mem_of_getElem? (i := 17) rfl)) rfl (gd_cons (lf_X1_passWeek_1 _ (List.mem_of_getElem? (i := 18) rfl)) rfl (gd_cons (lf_X1_passWeek_1 _ (List.mem_of_getElem? (i := 19) rfl)) rfl (gd_cons (lf_X1_passWeek_1 _ (List.mem_of_getElem? (i := 20) rfl)) rfl (gd_cons (lf_X1_passWeek_1 _ (List.mem_of_getElem? (i := 21) rfl)) rfl (gd_cons (lf_X1_passWeek_1 _ (List.mem_of_getElem? (i := 22) rfl)) rfl (gd_cons (lf_X1_passWeek_1 _ (List.mem_of_getElem? (i := 23) rfl)) rfl (gd_cons (lf_X1_passWeek_1 _ (List.mem_of_getElem? (i := 12) rfl)) rfl (gd_cons (lf_X1_passWeek_2 _ (List.mem_of_getElem? (i := 0) rfl)) rfl (gd_cons (lf_X1_passWeek_2 _ (List.mem_of_getElem? (i := 1) rfl)) rfl (gd_cons (lf_X1_passWeek_2 _ (List.mem_of_getElem? (i := 2) rfl)) rfl (gd_cons (lf_X1_passWeek_2 _ (List.mem_of_getElem? (i := 3) rfl)) rfl (gd_cons (lf_X1_passWeek_2 _ (List.mem_of_getElem? (i := 4) rfl)) rfl (gd_cons (lf_X1_passWeek_2 _ (List.mem_of_getElem? (i := 5) rfl)) rfl (gd_cons (lf_X1_passWeek_2 _ (List.mem_of_getElem? (i := 6) rfl)) rfl (gd_nil _))))))))))))))))))) (goodIn_sub lf_X1_passWeek_5 ga_wsX40)))
set_option maxRecDepth 20000 in
theorem gX1_passWeek_X4_takenByLevel : GoodIn wsX1_passWeek (wsV RX1 47 RX4 yX4_takenByLevel wsX4_takenByLevel) := goodIn_app (gd_cons (lf_X1_passWeek_1 _ (List.mem_of_getElem? (i := 9) rfl)) rfl (gd_cons (lf_X1_passWeek_1 _ (List.mem_of_getElem? (i := 10) rfl)) rfl (gd_cons (lf_X1_passWeek_1 _ (List.mem_of_getElem? (i := 11) rfl)) rfl (gd_cons (lf_X1_passWeek_1 _ (List.mem_of_getElem? (i := 12) rfl)) rfl (gd_nil _))))) ggX1_passWeek_X4_takenByLevel
theorem ga_wsX10 : List.all wsX10 goodWord = true := by decide +kernel
set_option maxRecDepth 20000 in
theorem ggX1_passWeek_X1_passWeekWith : GoodIn wsX1_passWeek wsX1_passWeekWith := (gd_cons (lf_X1_passWeek_2 _ (List.mem_of_getElem? (i := 11) rfl)) rfl (goodIn_app (goodIn_app (goodIn_app (gd_cons (lf_X1_passWeek_2 _ (List.mem_of_getElem? (i := 12) rfl)) rfl (gd_cons (lf_X1_passWeek_1 _ (List.mem_of_getElem? (i := 1) rfl)) rfl (gd_cons (lf_X1_passWeek_1 _ (List.mem_of_getElem? (i := 2) rfl)) rfl (gd_cons (lf_X1_passWeek_2 _ (List.mem_of_getElem? (i := 13) rfl)) rfl (gd_cons (lf_X1_passWeek_1 _ (List.mem_of_getElem? (i := 15) rfl)) rfl (gd_cons (lf_X1_passWeek_1 _ (List.mem_of_getElem? (i := 16) rfl)) rfl (gd_cons (lf_X1_passWeek_1 _ (List.mem_of_getElem? (i := 17) rfl)) rfl (gd_cons (lf_X1_passWeek_1 _ (List.mem_of_getElem? (i := 0) rfl)) rfl (gd_cons (lf_X1_passWeek_2 _ (List.mem_of_getElem? (i := 14) rfl)) rfl (gd_cons (lf_X1_passWeek_2 _ (List.mem_of_getElem? (i := 15) rfl)) rfl (gd_cons (lf_X1_passWeek_2 _ (List.mem_of_getElem? (i := 16) rfl)) rfl (gd_cons (lf_X1_passWeek_1 _ (List.mem_of_getElem? (i := 12) rfl)) rfl (gd_cons (lf_X1_passWeek_2 _ (List.mem_of_getElem? (i := 17) rfl)) rfl (gd_cons (lf_X1_passWeek_2 _ (List.mem_of_getElem? (i := 18) rfl)) rfl (gd_cons (lf_X1_passWeek_2 _ (List.mem_of_getElem? (i := 19) rfl)) rfl (gd_cons (lf_X1_passWeek_2 _ (List.mem_of_getElem? (i := 20) rfl)) rfl (gd_cons (lf_X1_passWeek_2 _ (List.mem_of_getElem? (i := 21) rfl)) rfl (gd_cons (lf_X1_passWeek_2 _ (List.mem_of_getElem? (i := 22) rfl)) rfl (gd_cons (lf_X1_passWeek_2 _ (List.mem_of_getElem? (i := 23) rfl)) rfl (gd_cons (lf_X1_passWeek_3 _ (List.mem_of_getElem? (i := 0) rfl)) rfl (gd_cons (lf_X1_passWeek_3 _ (List.mem_of_getElem? (i := 1) rfl)) rfl (gd_cons (lf_X1_passWeek_1 _ (List.mem_of_getElem? (i := 14) rfl)) rfl (gd_cons (lf_X1_passWeek_3 _ (List.mem_of_getElem? (i := 2) rfl)) rfl (gd_cons (lf_X1_passWeek_3 _ (List.mem_of_getElem? (i := 3) rfl)) rfl (gd_nil _))))))))))))))))))))))))) (gd_cons (lf_X1_passWeek_3 _ (List.mem_of_getElem? (i := 4) rfl)) rfl (gd_cons (lf_X1_passWeek_3 _ (List.mem_of_getElem? (i := 5) rfl)) rfl (gd_cons (lf_X1_passWeek_3 _ (List.mem_of_getElem? (i := 6) rfl)) rfl (gd_cons (lf_X1_passWeek_3 _ (List.mem_of_getElem? (i := 7) rfl)) rfl (gd_cons (lf_X1_passWeek_3 _ (List.mem_of_getElem? (i := 8) rfl)) rfl (gd_cons (lf_X1_passWeek_2 _ (List.mem_of_getElem? (i := 3) rfl)) rfl (gd_cons (lf_X1_passWeek_2 _ (List.mem_of_getElem? (i := 4) rfl)) rfl (gd_cons (lf_X1_passWeek_2 _ (List.mem_of_getElem? (i := 5) rfl)) rfl (gd_cons (lf_X1_passWeek_2 _ (List.mem_of_getElem? (i := 6) rfl)) rfl (gd_cons (lf_X1_passWeek_3 _ (List.mem_of_getElem? (i := 9) rfl)) rfl (gd_cons (lf_X1_passWeek_3 _ (List.mem_of_getElem? (i := 10) rfl)) rfl (gd_cons (lf_X1_passWeek_3 _ (List.mem_of_getElem? (i := 11) rfl)) rfl (gd_cons (lf_X1_passWeek_3 _ (List.mem_of_getElem? (i := 12) rfl)) rfl (gd_cons (lf_X1_passWeek_3 _ (List.mem_of_getElem? (i := 13) rfl)) rfl (gd_cons (lf_X1_passWeek_3 _ (List.mem_of_getElem? (i := 14) rfl)) rfl (gd_cons (lf_X1_passWeek_3 _ (List.mem_of_getElem? (i := 15) rfl)) rfl (gd_cons (lf_X1_passWeek_3 _ (List.mem_of_getElem? (i := 16) rfl)) rfl (gd_nil _))))))))))))))))))) (goodIn_sub lf_X1_passWeek_4 ga_wsX10)) (goodIn_sub lf_X1_passWeek_5 ga_wsX40)))
set_option maxRecDepth 20000 in
theorem gX1_passWeek_X1_passWeekWith : GoodIn wsX1_passWeek (wsV RX1 53 RX1 yX1_passWeekWith wsX1_passWeekWith) := goodIn_app (gd_cons (lf_X1_passWeek_2 _ (List.mem_of_getElem? (i := 7) rfl)) rfl (gd_cons (lf_X1_passWeek_2 _ (List.mem_of_getElem? (i := 8) rfl)) rfl (gd_cons (lf_X1_passWeek_2 _ (List.mem_of_getElem? (i := 9) rfl)) rfl (gd_cons (lf_X1_passWeek_2 _ (List.mem_of_getElem? (i := 10) rfl)) rfl (gd_nil _))))) ggX1_passWeek_X1_passWeekWith
theorem dX1_passWeek_0 : decode cX1_passWeek 0 = .ok (.aload_n 0, 1) := dq_42 (dst 0 rd_prog_3_method_3_code_0 rfl)
theorem dX1_passWeek_1 : decode cX1_passWeek 1 = .ok (.getfield 17, 3) := dq_180 (dst 1 rd_prog_3_method_3_code_0 rfl) rfl
theorem dX1_passWeek_4 : decode cX1_passWeek 4 = .ok (.lconst 0, 1) := dq_9 (dst 4 rd_prog_3_method_3_code_0 rfl)
theorem dX1_passWeek_5 : decode cX1_passWeek 5 = .ok (.invokestatic 20, 3) := dq_184 (dst 5 rd_prog_3_method_3_code_0 rfl) rfl
theorem dX1_passWeek_8 : decode cX1_passWeek 8 = .ok (.aload_n 0, 1) := dq_42 (dst 8 rd_prog_3_method_3_code_0 rfl)
theorem dX1_passWeek_9 : decode cX1_passWeek 9 = .ok (.lconst 0, 1) := dq_9 (dst 9 rd_prog_3_method_3_code_0 rfl)
theorem dX1_passWeek_10 : decode cX1_passWeek 10 = .ok (.putfield 37, 3) := dq_181 (dst 10 rd_prog_3_method_3_code_0 rfl) rfl
theorem dX1_passWeek_13 : decode cX1_passWeek 13 = .ok (.aload_n 0, 1) := dq_42 (dst 13 rd_prog_3_method_3_code_0 rfl)
theorem dX1_passWeek_14 : decode cX1_passWeek 14 = .ok (.lconst 0, 1) := dq_9 (dst 14 rd_prog_3_method_3_code_0 rfl)
theorem dX1_passWeek_15 : decode cX1_passWeek 15 = .ok (.putfield 40, 3) := dq_181 (dst 15 rd_prog_3_method_3_code_0 rfl) rfl
theorem dX1_passWeek_18 : decode cX1_passWeek 18 = .ok (.iconst 0, 1) := dq_3 (dst 18 rd_prog_3_method_3_code_0 rfl)
theorem dX1_passWeek_19 : decode cX1_passWeek 19 = .ok (.istore 5, 2) := dq_54 (dst 19 rd_prog_3_method_3_code_0 rfl) rfl
theorem dX1_passWeek_21 : decode cX1_passWeek 21 = .ok (.iload 5, 2) := dq_21 (dst 21 rd_prog_3_method_3_code_0 rfl) rfl
theorem dX1_passWeek_23 : decode cX1_passWeek 23 = .ok (.bipush 35, 2) := dq_16 (dst 23 rd_prog_3_method_3_code_0 rfl) (by decide +kernel)
theorem dX1_passWeek_25 : decode cX1_passWeek 25 = .ok (.if_icmp .ge 62, 3) := dq_162 (dst 25 rd_prog_3_method_3_code_0 rfl) (by decide +kernel)
theorem dX1_passWeek_28 : decode cX1_passWeek 28 = .ok (.aload_n 0, 1) := dq_42 (dst 28 rd_prog_3_method_3_code_0 rfl)
theorem dX1_passWeek_29 : decode cX1_passWeek 29 = .ok (.getfield 11, 3) := dq_180 (dst 29 rd_prog_3_method_3_code_0 rfl) rfl
theorem dX1_passWeek_32 : decode cX1_passWeek 32 = .ok (.iload 5, 2) := dq_21 (dst 0 rd_prog_3_method_3_code_1 rfl) rfl
theorem dX1_passWeek_34 : decode cX1_passWeek 34 = .ok (.laload, 1) := dq_47 (dst 2 rd_prog_3_method_3_code_1 rfl)
theorem dX1_passWeek_35 : decode cX1_passWeek 35 = .ok (.lconst 0, 1) := dq_9 (dst 3 rd_prog_3_method_3_code_1 rfl)
theorem dX1_passWeek_36 : decode cX1_passWeek 36 = .ok (.lcmp, 1) := dq_148 (dst 4 rd_prog_3_method_3_code_1 rfl)
theorem dX1_passWeek_37 : decode cX1_passWeek 37 = .ok (.ifCond .eq 44, 3) := dq_153 (dst 5 rd_prog_3_method_3_code_1 rfl) (by decide +kernel)
theorem dX1_passWeek_40 : decode cX1_passWeek 40 = .ok (.getstatic 43, 3) := dq_178 (dst 8 rd_prog_3_method_3_code_1 rfl) rfl
theorem dX1_passWeek_43 : decode cX1_passWeek 43 = .ok (.iload 5, 2) := dq_21 (dst 11 rd_prog_3_method_3_code_1 rfl) rfl
theorem dX1_passWeek_45 : decode cX1_passWeek 45 = .ok (.iaload, 1) := dq_46 (dst 13 rd_prog_3_method_3_code_1 rfl)
theorem dX1_passWeek_46 : decode cX1_passWeek 46 = .ok (.istore 6, 2) := dq_54 (dst 14 rd_prog_3_method_3_code_1 rfl) rfl
theorem dX1_passWeek_48 : decode cX1_passWeek 48 = .ok (.bipush 100, 2) := dq_16 (dst 16 rd_prog_3_method_3_code_1 rfl) (by decide +kernel)
theorem dX1_passWeek_50 : decode cX1_passWeek 50 = .ok (.aload_n 1, 1) := dq_43 (dst 18 rd_prog_3_method_3_code_1 rfl)
theorem dX1_passWeek_51 : decode cX1_passWeek 51 = .ok (.iload_n 2, 1) := dq_28 (dst 19 rd_prog_3_method_3_code_1 rfl)
theorem dX1_passWeek_52 : decode cX1_passWeek 52 = .ok (.iload 6, 2) := dq_21 (dst 20 rd_prog_3_method_3_code_1 rfl) rfl
theorem dX1_passWeek_54 : decode cX1_passWeek 54 = .ok (.iload_n 3, 1) := dq_29 (dst 22 rd_prog_3_method_3_code_1 rfl)
theorem dX1_passWeek_55 : decode cX1_passWeek 55 = .ok (.invokevirtual 47, 3) := dq_182 (dst 23 rd_prog_3_method_3_code_1 rfl) rfl
theorem dX1_passWeek_58 : decode cX1_passWeek 58 = .ok (.imul, 1) := dq_104 (dst 26 rd_prog_3_method_3_code_1 rfl)
theorem dX1_passWeek_59 : decode cX1_passWeek 59 = .ok (.istore 7, 2) := dq_54 (dst 27 rd_prog_3_method_3_code_1 rfl) rfl
theorem dX1_passWeek_61 : decode cX1_passWeek 61 = .ok (.aload_n 0, 1) := dq_42 (dst 29 rd_prog_3_method_3_code_1 rfl)
theorem dX1_passWeek_62 : decode cX1_passWeek 62 = .ok (.aload_n 1, 1) := dq_43 (dst 30 rd_prog_3_method_3_code_1 rfl)
theorem dX1_passWeek_63 : decode cX1_passWeek 63 = .ok (.iload_n 2, 1) := dq_28 (dst 31 rd_prog_3_method_3_code_1 rfl)
theorem dX1_passWeek_64 : decode cX1_passWeek 64 = .ok (.iload 6, 2) := dq_21 (dst 0 rd_prog_3_method_3_code_2 rfl) rfl
theorem dX1_passWeek_66 : decode cX1_passWeek 66 = .ok (.iload 7, 2) := dq_21 (dst 2 rd_prog_3_method_3_code_2 rfl) rfl
theorem dX1_passWeek_68 : decode cX1_passWeek 68 = .ok (.iadd, 1) := dq_96 (dst 4 rd_prog_3_method_3_code_2 rfl)
theorem dX1_passWeek_69 : decode cX1_passWeek 69 = .ok (.iload 4, 2) := dq_21 (dst 5 rd_prog_3_method_3_code_2 rfl) rfl
theorem dX1_passWeek_71 : decode cX1_passWeek 71 = .ok (.aload_n 0, 1) := dq_42 (dst 7 rd_prog_3_method_3_code_2 rfl)
theorem dX1_passWeek_72 : decode cX1_passWeek 72 = .ok (.getfield 11, 3) := dq_180 (dst 8 rd_prog_3_method_3_code_2 rfl) rfl
theorem dX1_passWeek_75 : decode cX1_passWeek 75 = .ok (.iload 5, 2) := dq_21 (dst 11 rd_prog_3_method_3_code_2 rfl) rfl
theorem dX1_passWeek_77 : decode cX1_passWeek 77 = .ok (.laload, 1) := dq_47 (dst 13 rd_prog_3_method_3_code_2 rfl)
theorem dX1_passWeek_78 : decode cX1_passWeek 78 = .ok (.invokevirtual 53, 3) := dq_182 (dst 14 rd_prog_3_method_3_code_2 rfl) rfl
theorem dX1_passWeek_81 : decode cX1_passWeek 81 = .ok (.iinc 5 1, 3) := dq_132 (dst 17 rd_prog_3_method_3_code_2 rfl) rfl (by decide +kernel)
theorem dX1_passWeek_84 : decode cX1_passWeek 84 = .ok (.goto (-63), 3) := dq_167 (dst 20 rd_prog_3_method_3_code_2 rfl) (by decide +kernel)
theorem dX1_passWeek_87 : decode cX1_passWeek 87 = .ok (.return_, 1) := dq_177 (dst 23 rd_prog_3_method_3_code_2 rfl)
theorem lf_X1_passWeekWith_1 : ∀ w ∈ wsX1_passWeekWith_r1, w ∈ wsX1_passWeekWith := fun _ h => (List.mem_cons_of_mem _ (List.mem_append_left _ (List.mem_append_left _ (List.mem_append_left _ h))))
theorem lf_X1_passWeekWith_2 : ∀ w ∈ wsX1_passWeekWith_r2, w ∈ wsX1_passWeekWith := fun _ h => (List.mem_cons_of_mem _ (List.mem_append_left _ (List.mem_append_left _ (List.mem_append_right _ h))))
theorem lf_X1_passWeekWith_3 : ∀ w ∈ wsX10, w ∈ wsX1_passWeekWith := fun _ h => (List.mem_cons_of_mem _ (List.mem_append_left _ (List.mem_append_right _ h)))
theorem lf_X1_passWeekWith_4 : ∀ w ∈ wsX40, w ∈ wsX1_passWeekWith := fun _ h => (List.mem_cons_of_mem _ (List.mem_append_right _ h))
set_option maxRecDepth 20000 in
theorem ggX1_passWeekWith_X4_lack : GoodIn wsX1_passWeekWith wsX4_lack := (gd_cons (lf_X1_passWeekWith_1 _ (List.mem_of_getElem? (i := 12) rfl)) rfl (goodIn_app (gd_cons (lf_X1_passWeekWith_1 _ (List.mem_of_getElem? (i := 13) rfl)) rfl (gd_cons (lf_X1_passWeekWith_1 _ (List.mem_of_getElem? (i := 14) rfl)) rfl (gd_nil _))) (goodIn_sub lf_X1_passWeekWith_4 ga_wsX40)))
set_option maxRecDepth 20000 in
theorem gX1_passWeekWith_X4_lack : GoodIn wsX1_passWeekWith (wsV RX1 57 RX4 yX4_lack wsX4_lack) := goodIn_app (gd_cons (lf_X1_passWeekWith_1 _ (List.mem_of_getElem? (i := 8) rfl)) rfl (gd_cons (lf_X1_passWeekWith_1 _ (List.mem_of_getElem? (i := 9) rfl)) rfl (gd_cons (lf_X1_passWeekWith_1 _ (List.mem_of_getElem? (i := 10) rfl)) rfl (gd_cons (lf_X1_passWeekWith_1 _ (List.mem_of_getElem? (i := 11) rfl)) rfl (gd_nil _))))) ggX1_passWeekWith_X4_lack
set_option maxRecDepth 20000 in
theorem ggX1_passWeekWith_X4_weekCost : GoodIn wsX1_passWeekWith wsX4_weekCost := (gd_cons (lf_X1_passWeekWith_1 _ (List.mem_of_getElem? (i := 18) rfl)) rfl (goodIn_app (goodIn_app (gd_cons (lf_X1_passWeekWith_1 _ (List.mem_of_getElem? (i := 19) rfl)) rfl (gd_cons (lf_X1_passWeekWith_1 _ (List.mem_of_getElem? (i := 20) rfl)) rfl (gd_cons (lf_X1_passWeekWith_1 _ (List.mem_of_getElem? (i := 21) rfl)) rfl (gd_cons (lf_X1_passWeekWith_1 _ (List.mem_of_getElem? (i := 4) rfl)) rfl (gd_cons (lf_X1_passWeekWith_1 _ (List.mem_of_getElem? (i := 5) rfl)) rfl (gd_cons (lf_X1_passWeekWith_1 _ (List.mem_of_getElem? (i := 6) rfl)) rfl (gd_cons (lf_X1_passWeekWith_1 _ (List.mem_of_getElem? (i := 22) rfl)) rfl (gd_cons (lf_X1_passWeekWith_1 _ (List.mem_of_getElem? (i := 23) rfl)) rfl (gd_cons (lf_X1_passWeekWith_2 _ (List.mem_of_getElem? (i := 0) rfl)) rfl (gd_cons (lf_X1_passWeekWith_2 _ (List.mem_of_getElem? (i := 1) rfl)) rfl (gd_cons (lf_X1_passWeekWith_2 _ (List.mem_of_getElem? (i := 2) rfl)) rfl (gd_cons (lf_X1_passWeekWith_2 _ (List.mem_of_getElem? (i := 3) rfl)) rfl (gd_cons (lf_X1_passWeekWith_2 _ (List.mem_of_getElem? (i := 4) rfl)) rfl (gd_cons (lf_X1_passWeekWith_2 _ (List.mem_of_getElem? (i := 5) rfl)) rfl (gd_cons (lf_X1_passWeekWith_2 _ (List.mem_of_getElem? (i := 6) rfl)) rfl (gd_cons (lf_X1_passWeekWith_2 _ (List.mem_of_getElem? (i := 7) rfl)) rfl (gd_cons (lf_X1_passWeekWith_2 _ (List.mem_of_getElem? (i := 8) rfl)) rfl (gd_cons (lf_X1_passWeekWith_2 _ (List.mem_of_getElem? (i := 9) rfl)) rfl (gd_cons (lf_X1_passWeekWith_1 _ (List.mem_of_getElem? (i := 9) rfl)) rfl (gd_cons (lf_X1_passWeekWith_1 _ (List.mem_of_getElem? (i := 10) rfl)) rfl (gd_cons (lf_X1_passWeekWith_1 _ (List.mem_of_getElem? (i := 11) rfl)) rfl (gd_cons (lf_X1_passWeekWith_1 _ (List.mem_of_getElem? (i := 12) rfl)) rfl (gd_cons (lf_X1_passWeekWith_1 _ (List.mem_of_getElem? (i := 13) rfl)) rfl (gd_cons (lf_X1_passWeekWith_1 _ (List.mem_of_getElem? (i := 14) rfl)) rfl (gd_nil _))))))))))))))))))))))))) (gd_cons (lf_X1_passWeekWith_2 _ (List.mem_of_getElem? (i := 10) rfl)) rfl (gd_cons (lf_X1_passWeekWith_2 _ (List.mem_of_getElem? (i := 11) rfl)) rfl (gd_cons (lf_X1_passWeekWith_2 _ (List.mem_of_getElem? (i := 12) rfl)) rfl (gd_nil _))))) (goodIn_sub lf_X1_passWeekWith_4 ga_wsX40)))
set_option maxRecDepth 20000 in
theorem gX1_passWeekWith_X4_weekCost : GoodIn wsX1_passWeekWith (wsV RX1 61 RX4 yX4_weekCost wsX4_weekCost) := goodIn_app (gd_cons (lf_X1_passWeekWith_1 _ (List.mem_of_getElem? (i := 15) rfl)) rfl (gd_cons (lf_X1_passWeekWith_1 _ (List.mem_of_getElem? (i := 16) rfl)) rfl (gd_cons (lf_X1_passWeekWith_1 _ (List.mem_of_getElem? (i := 17) rfl)) rfl (gd_cons (lf_X1_passWeekWith_1 _ (List.mem_of_getElem? (i := 11) rfl)) rfl (gd_nil _))))) ggX1_passWeekWith_X4_weekCost
set_option maxRecDepth 20000 in
theorem ggX1_passWeekWith_X3_kind : GoodIn wsX1_passWeekWith wsX3_kind := (gd_cons (lf_X1_passWeekWith_2 _ (List.mem_of_getElem? (i := 15) rfl)) rfl (gd_cons (lf_X1_passWeekWith_2 _ (List.mem_of_getElem? (i := 16) rfl)) rfl (gd_nil _)))
set_option maxRecDepth 20000 in
theorem gX1_passWeekWith_X3_kind : GoodIn wsX1_passWeekWith (va_wsS RX1 26 yX3_kind wsX3_kind) := goodIn_app (gd_cons (lf_X1_passWeekWith_2 _ (List.mem_of_getElem? (i := 13) rfl)) rfl (gd_cons (lf_X1_passWeekWith_2 _ (List.mem_of_getElem? (i := 14) rfl)) rfl (gd_cons (lf_X1_passWeekWith_2 _ (List.mem_of_getElem? (i := 7) rfl)) rfl (gd_nil _)))) ggX1_passWeekWith_X3_kind
theorem dX1_passWeekWith_0 : decode cX1_passWeekWith 0 = .ok (.aload_n 1, 1) := dq_43 (dst 0 rd_prog_3_method_4_code_0 rfl)
theorem dX1_passWeekWith_1 : decode cX1_passWeekWith 1 = .ok (.iload_n 2, 1) := dq_28 (dst 1 rd_prog_3_method_4_code_0 rfl)
theorem dX1_passWeekWith_2 : decode cX1_passWeekWith 2 = .ok (.iload_n 3, 1) := dq_29 (dst 2 rd_prog_3_method_4_code_0 rfl)
theorem dX1_passWeekWith_3 : decode cX1_passWeekWith 3 = .ok (.iload 4, 2) := dq_21 (dst 3 rd_prog_3_method_4_code_0 rfl) rfl
theorem dX1_passWeekWith_5 : decode cX1_passWeekWith 5 = .ok (.iconst 0, 1) := dq_3 (dst 5 rd_prog_3_method_4_code_0 rfl)
theorem dX1_passWeekWith_6 : decode cX1_passWeekWith 6 = .ok (.invokevirtual 57, 3) := dq_182 (dst 6 rd_prog_3_method_4_code_0 rfl) rfl
theorem dX1_passWeekWith_9 : decode cX1_passWeekWith 9 = .ok (.istore 7, 2) := dq_54 (dst 9 rd_prog_3_method_4_code_0 rfl) rfl
theorem dX1_passWeekWith_11 : decode cX1_passWeekWith 11 = .ok (.aload_n 0, 1) := dq_42 (dst 11 rd_prog_3_method_4_code_0 rfl)
theorem dX1_passWeekWith_12 : decode cX1_passWeekWith 12 = .ok (.dup, 1) := dq_89 (dst 12 rd_prog_3_method_4_code_0 rfl)
theorem dX1_passWeekWith_13 : decode cX1_passWeekWith 13 = .ok (.getfield 34, 3) := dq_180 (dst 13 rd_prog_3_method_4_code_0 rfl) rfl
theorem dX1_passWeekWith_16 : decode cX1_passWeekWith 16 = .ok (.lload 5, 2) := dq_22 (dst 16 rd_prog_3_method_4_code_0 rfl) rfl
theorem dX1_passWeekWith_18 : decode cX1_passWeekWith 18 = .ok (.aload_n 1, 1) := dq_43 (dst 18 rd_prog_3_method_4_code_0 rfl)
theorem dX1_passWeekWith_19 : decode cX1_passWeekWith 19 = .ok (.iload_n 2, 1) := dq_28 (dst 19 rd_prog_3_method_4_code_0 rfl)
theorem dX1_passWeekWith_20 : decode cX1_passWeekWith 20 = .ok (.iload_n 3, 1) := dq_29 (dst 20 rd_prog_3_method_4_code_0 rfl)
theorem dX1_passWeekWith_21 : decode cX1_passWeekWith 21 = .ok (.iload 4, 2) := dq_21 (dst 21 rd_prog_3_method_4_code_0 rfl) rfl
theorem dX1_passWeekWith_23 : decode cX1_passWeekWith 23 = .ok (.iconst 0, 1) := dq_3 (dst 23 rd_prog_3_method_4_code_0 rfl)
theorem dX1_passWeekWith_24 : decode cX1_passWeekWith 24 = .ok (.invokevirtual 61, 3) := dq_182 (dst 24 rd_prog_3_method_4_code_0 rfl) rfl
theorem dX1_passWeekWith_27 : decode cX1_passWeekWith 27 = .ok (.i2l, 1) := dq_133 (dst 27 rd_prog_3_method_4_code_0 rfl)
theorem dX1_passWeekWith_28 : decode cX1_passWeekWith 28 = .ok (.lmul, 1) := dq_105 (dst 28 rd_prog_3_method_4_code_0 rfl)
theorem dX1_passWeekWith_29 : decode cX1_passWeekWith 29 = .ok (.ladd, 1) := dq_97 (dst 29 rd_prog_3_method_4_code_0 rfl)
theorem dX1_passWeekWith_30 : decode cX1_passWeekWith 30 = .ok (.putfield 34, 3) := dq_181 (dst 30 rd_prog_3_method_4_code_0 rfl) rfl
theorem dX1_passWeekWith_33 : decode cX1_passWeekWith 33 = .ok (.aload_n 0, 1) := dq_42 (dst 1 rd_prog_3_method_4_code_1 rfl)
theorem dX1_passWeekWith_34 : decode cX1_passWeekWith 34 = .ok (.dup, 1) := dq_89 (dst 2 rd_prog_3_method_4_code_1 rfl)
theorem dX1_passWeekWith_35 : decode cX1_passWeekWith 35 = .ok (.getfield 37, 3) := dq_180 (dst 3 rd_prog_3_method_4_code_1 rfl) rfl
theorem dX1_passWeekWith_38 : decode cX1_passWeekWith 38 = .ok (.iload 7, 2) := dq_21 (dst 6 rd_prog_3_method_4_code_1 rfl) rfl
theorem dX1_passWeekWith_40 : decode cX1_passWeekWith 40 = .ok (.ifCond .le 8, 3) := dq_158 (dst 8 rd_prog_3_method_4_code_1 rfl) (by decide +kernel)
theorem dX1_passWeekWith_43 : decode cX1_passWeekWith 43 = .ok (.lload 5, 2) := dq_22 (dst 11 rd_prog_3_method_4_code_1 rfl) rfl
theorem dX1_passWeekWith_45 : decode cX1_passWeekWith 45 = .ok (.goto 4, 3) := dq_167 (dst 13 rd_prog_3_method_4_code_1 rfl) (by decide +kernel)
theorem dX1_passWeekWith_48 : decode cX1_passWeekWith 48 = .ok (.lconst 0, 1) := dq_9 (dst 16 rd_prog_3_method_4_code_1 rfl)
theorem dX1_passWeekWith_49 : decode cX1_passWeekWith 49 = .ok (.ladd, 1) := dq_97 (dst 17 rd_prog_3_method_4_code_1 rfl)
theorem dX1_passWeekWith_50 : decode cX1_passWeekWith 50 = .ok (.putfield 37, 3) := dq_181 (dst 18 rd_prog_3_method_4_code_1 rfl) rfl
theorem dX1_passWeekWith_53 : decode cX1_passWeekWith 53 = .ok (.aload_n 0, 1) := dq_42 (dst 21 rd_prog_3_method_4_code_1 rfl)
theorem dX1_passWeekWith_54 : decode cX1_passWeekWith 54 = .ok (.dup, 1) := dq_89 (dst 22 rd_prog_3_method_4_code_1 rfl)
theorem dX1_passWeekWith_55 : decode cX1_passWeekWith 55 = .ok (.getfield 40, 3) := dq_180 (dst 23 rd_prog_3_method_4_code_1 rfl) rfl
theorem dX1_passWeekWith_58 : decode cX1_passWeekWith 58 = .ok (.lload 5, 2) := dq_22 (dst 26 rd_prog_3_method_4_code_1 rfl) rfl
theorem dX1_passWeekWith_60 : decode cX1_passWeekWith 60 = .ok (.iconst 0, 1) := dq_3 (dst 28 rd_prog_3_method_4_code_1 rfl)
theorem dX1_passWeekWith_61 : decode cX1_passWeekWith 61 = .ok (.iload 7, 2) := dq_21 (dst 29 rd_prog_3_method_4_code_1 rfl) rfl
theorem dX1_passWeekWith_63 : decode cX1_passWeekWith 63 = .ok (.ineg, 1) := dq_116 (dst 31 rd_prog_3_method_4_code_1 rfl)
theorem dX1_passWeekWith_64 : decode cX1_passWeekWith 64 = .ok (.invokestatic 64, 3) := dq_184 (dst 0 rd_prog_3_method_4_code_2 rfl) rfl
theorem dX1_passWeekWith_67 : decode cX1_passWeekWith 67 = .ok (.i2l, 1) := dq_133 (dst 3 rd_prog_3_method_4_code_2 rfl)
theorem dX1_passWeekWith_68 : decode cX1_passWeekWith 68 = .ok (.lmul, 1) := dq_105 (dst 4 rd_prog_3_method_4_code_2 rfl)
theorem dX1_passWeekWith_69 : decode cX1_passWeekWith 69 = .ok (.ladd, 1) := dq_97 (dst 5 rd_prog_3_method_4_code_2 rfl)
theorem dX1_passWeekWith_70 : decode cX1_passWeekWith 70 = .ok (.putfield 40, 3) := dq_181 (dst 6 rd_prog_3_method_4_code_2 rfl) rfl
theorem dX1_passWeekWith_73 : decode cX1_passWeekWith 73 = .ok (.aload_n 0, 1) := dq_42 (dst 9 rd_prog_3_method_4_code_2 rfl)
theorem dX1_passWeekWith_74 : decode cX1_passWeekWith 74 = .ok (.getfield 17, 3) := dq_180 (dst 10 rd_prog_3_method_4_code_2 rfl) rfl
theorem dX1_passWeekWith_77 : decode cX1_passWeekWith 77 = .ok (.iload_n 3, 1) := dq_29 (dst 13 rd_prog_3_method_4_code_2 rfl)
theorem dX1_passWeekWith_78 : decode cX1_passWeekWith 78 = .ok (.invokestatic 26, 3) := dq_184 (dst 14 rd_prog_3_method_4_code_2 rfl) rfl
theorem dX1_passWeekWith_81 : decode cX1_passWeekWith 81 = .ok (.dup2, 1) := dq_92 (dst 17 rd_prog_3_method_4_code_2 rfl)
theorem dX1_passWeekWith_82 : decode cX1_passWeekWith 82 = .ok (.laload, 1) := dq_47 (dst 18 rd_prog_3_method_4_code_2 rfl)
theorem dX1_passWeekWith_83 : decode cX1_passWeekWith 83 = .ok (.lload 5, 2) := dq_22 (dst 19 rd_prog_3_method_4_code_2 rfl) rfl
theorem dX1_passWeekWith_85 : decode cX1_passWeekWith 85 = .ok (.ladd, 1) := dq_97 (dst 21 rd_prog_3_method_4_code_2 rfl)
theorem dX1_passWeekWith_86 : decode cX1_passWeekWith 86 = .ok (.lastore, 1) := dq_80 (dst 22 rd_prog_3_method_4_code_2 rfl)
theorem dX1_passWeekWith_87 : decode cX1_passWeekWith 87 = .ok (.return_, 1) := dq_177 (dst 23 rd_prog_3_method_4_code_2 rfl)
theorem lf_X1_passSunday_1 : ∀ w ∈ ([Cond.fieldLink RX1 11 "StillInAugust$Course" "ahead" "[J", Cond.fieldLink RX1 17 "StillInAugust$Course" "during" "[J", Cond.fieldLink RX1 30 "StillInAugust$Course" "scale" "J", Cond.constantLong RX1 73 (625), Cond.fieldLink RX1 34 "StillInAugust$Course" "costs" "J", Cond.methodLink RX1 20 yJ7_fill_d0a16, Cond.static yJ7_fill_d0a16, Cond.initialized RJ7, Cond.code yJ7_fill_d0a16 cJ7_fill_d0a16 5 none, Cond.methodLink RX1 70 yX4_partsTo, Cond.instanceMethod yX4_partsTo, Cond.selects RX4 yX4_partsTo yX4_partsTo, Cond.initialized RX4, Cond.code yX4_partsTo cX4_partsTo 3 (some .int), Cond.fieldLink RX4 26 "StillInAugust$House" "sundays" "[I"] : List Cond), w ∈ wsX1_passSunday := fun _ h => (List.mem_cons_of_mem _ (List.mem_append_left _ (List.mem_append_left _ h)))
theorem lf_X1_passSunday_2 : ∀ w ∈ wsX10, w ∈ wsX1_passSunday := fun _ h => (List.mem_cons_of_mem _ (List.mem_append_left _ (List.mem_append_right _ h)))
theorem lf_X1_passSunday_3 : ∀ w ∈ wsX40, w ∈ wsX1_passSunday := fun _ h => (List.mem_cons_of_mem _ (List.mem_append_right _ h))
set_option maxRecDepth 20000 in
theorem ggX1_passSunday_J7_fill_d0a16 : GoodIn wsX1_passSunday wsJ7_fill_d0a16 := (gd_cons (lf_X1_passSunday_1 _ (List.mem_of_getElem? (i := 8) rfl)) rfl (gd_nil _))
set_option maxRecDepth 20000 in
theorem gX1_passSunday_J7_fill_d0a16 : GoodIn wsX1_passSunday (va_wsS RX1 20 yJ7_fill_d0a16 wsJ7_fill_d0a16) := goodIn_app (gd_cons (lf_X1_passSunday_1 _ (List.mem_of_getElem? (i := 5) rfl)) rfl (gd_cons (lf_X1_passSunday_1 _ (List.mem_of_getElem? (i := 6) rfl)) rfl (gd_cons (lf_X1_passSunday_1 _ (List.mem_of_getElem? (i := 7) rfl)) rfl (gd_nil _)))) ggX1_passSunday_J7_fill_d0a16
set_option maxRecDepth 20000 in
theorem ggX1_passSunday_X4_partsTo : GoodIn wsX1_passSunday wsX4_partsTo := (gd_cons (lf_X1_passSunday_1 _ (List.mem_of_getElem? (i := 13) rfl)) rfl (goodIn_app (gd_cons (lf_X1_passSunday_1 _ (List.mem_of_getElem? (i := 14) rfl)) rfl (gd_nil _)) (goodIn_sub lf_X1_passSunday_3 ga_wsX40)))
set_option maxRecDepth 20000 in
theorem gX1_passSunday_X4_partsTo : GoodIn wsX1_passSunday (wsV RX1 70 RX4 yX4_partsTo wsX4_partsTo) := goodIn_app (gd_cons (lf_X1_passSunday_1 _ (List.mem_of_getElem? (i := 9) rfl)) rfl (gd_cons (lf_X1_passSunday_1 _ (List.mem_of_getElem? (i := 10) rfl)) rfl (gd_cons (lf_X1_passSunday_1 _ (List.mem_of_getElem? (i := 11) rfl)) rfl (gd_cons (lf_X1_passSunday_1 _ (List.mem_of_getElem? (i := 12) rfl)) rfl (gd_nil _))))) ggX1_passSunday_X4_partsTo
theorem dX1_passSunday_0 : decode cX1_passSunday 0 = .ok (.aload_n 0, 1) := dq_42 (dst 0 rd_prog_3_method_5_code_0 rfl)
theorem dX1_passSunday_1 : decode cX1_passSunday 1 = .ok (.getfield 11, 3) := dq_180 (dst 1 rd_prog_3_method_5_code_0 rfl) rfl
theorem dX1_passSunday_4 : decode cX1_passSunday 4 = .ok (.lconst 0, 1) := dq_9 (dst 4 rd_prog_3_method_5_code_0 rfl)
theorem dX1_passSunday_5 : decode cX1_passSunday 5 = .ok (.invokestatic 20, 3) := dq_184 (dst 5 rd_prog_3_method_5_code_0 rfl) rfl
theorem dX1_passSunday_8 : decode cX1_passSunday 8 = .ok (.iconst 0, 1) := dq_3 (dst 8 rd_prog_3_method_5_code_0 rfl)
theorem dX1_passSunday_9 : decode cX1_passSunday 9 = .ok (.istore_n 2, 1) := dq_61 (dst 9 rd_prog_3_method_5_code_0 rfl)
theorem dX1_passSunday_10 : decode cX1_passSunday 10 = .ok (.iload_n 2, 1) := dq_28 (dst 10 rd_prog_3_method_5_code_0 rfl)
theorem dX1_passSunday_11 : decode cX1_passSunday 11 = .ok (.bipush 35, 2) := dq_16 (dst 11 rd_prog_3_method_5_code_0 rfl) (by decide +kernel)
theorem dX1_passSunday_13 : decode cX1_passSunday 13 = .ok (.if_icmp .ge 57, 3) := dq_162 (dst 13 rd_prog_3_method_5_code_0 rfl) (by decide +kernel)
theorem dX1_passSunday_16 : decode cX1_passSunday 16 = .ok (.aload_n 0, 1) := dq_42 (dst 16 rd_prog_3_method_5_code_0 rfl)
theorem dX1_passSunday_17 : decode cX1_passSunday 17 = .ok (.getfield 17, 3) := dq_180 (dst 17 rd_prog_3_method_5_code_0 rfl) rfl
theorem dX1_passSunday_20 : decode cX1_passSunday 20 = .ok (.iload_n 2, 1) := dq_28 (dst 20 rd_prog_3_method_5_code_0 rfl)
theorem dX1_passSunday_21 : decode cX1_passSunday 21 = .ok (.laload, 1) := dq_47 (dst 21 rd_prog_3_method_5_code_0 rfl)
theorem dX1_passSunday_22 : decode cX1_passSunday 22 = .ok (.lconst 0, 1) := dq_9 (dst 22 rd_prog_3_method_5_code_0 rfl)
theorem dX1_passSunday_23 : decode cX1_passSunday 23 = .ok (.lcmp, 1) := dq_148 (dst 23 rd_prog_3_method_5_code_0 rfl)
theorem dX1_passSunday_24 : decode cX1_passSunday 24 = .ok (.ifCond .eq 40, 3) := dq_153 (dst 24 rd_prog_3_method_5_code_0 rfl) (by decide +kernel)
theorem dX1_passSunday_27 : decode cX1_passSunday 27 = .ok (.iconst 0, 1) := dq_3 (dst 27 rd_prog_3_method_5_code_0 rfl)
theorem dX1_passSunday_28 : decode cX1_passSunday 28 = .ok (.istore_n 3, 1) := dq_62 (dst 28 rd_prog_3_method_5_code_0 rfl)
theorem dX1_passSunday_29 : decode cX1_passSunday 29 = .ok (.iload_n 3, 1) := dq_29 (dst 29 rd_prog_3_method_5_code_0 rfl)
theorem dX1_passSunday_30 : decode cX1_passSunday 30 = .ok (.bipush 15, 2) := dq_16 (dst 30 rd_prog_3_method_5_code_0 rfl) (by decide +kernel)
theorem dX1_passSunday_32 : decode cX1_passSunday 32 = .ok (.if_icmp .ge 32, 3) := dq_162 (dst 0 rd_prog_3_method_5_code_1 rfl) (by decide +kernel)
theorem dX1_passSunday_35 : decode cX1_passSunday 35 = .ok (.aload_n 0, 1) := dq_42 (dst 3 rd_prog_3_method_5_code_1 rfl)
theorem dX1_passSunday_36 : decode cX1_passSunday 36 = .ok (.getfield 11, 3) := dq_180 (dst 4 rd_prog_3_method_5_code_1 rfl) rfl
theorem dX1_passSunday_39 : decode cX1_passSunday 39 = .ok (.iload_n 3, 1) := dq_29 (dst 7 rd_prog_3_method_5_code_1 rfl)
theorem dX1_passSunday_40 : decode cX1_passSunday 40 = .ok (.dup2, 1) := dq_92 (dst 8 rd_prog_3_method_5_code_1 rfl)
theorem dX1_passSunday_41 : decode cX1_passSunday 41 = .ok (.laload, 1) := dq_47 (dst 9 rd_prog_3_method_5_code_1 rfl)
theorem dX1_passSunday_42 : decode cX1_passSunday 42 = .ok (.aload_n 0, 1) := dq_42 (dst 10 rd_prog_3_method_5_code_1 rfl)
theorem dX1_passSunday_43 : decode cX1_passSunday 43 = .ok (.getfield 17, 3) := dq_180 (dst 11 rd_prog_3_method_5_code_1 rfl) rfl
theorem dX1_passSunday_46 : decode cX1_passSunday 46 = .ok (.iload_n 2, 1) := dq_28 (dst 14 rd_prog_3_method_5_code_1 rfl)
theorem dX1_passSunday_47 : decode cX1_passSunday 47 = .ok (.laload, 1) := dq_47 (dst 15 rd_prog_3_method_5_code_1 rfl)
theorem dX1_passSunday_48 : decode cX1_passSunday 48 = .ok (.aload_n 1, 1) := dq_43 (dst 16 rd_prog_3_method_5_code_1 rfl)
theorem dX1_passSunday_49 : decode cX1_passSunday 49 = .ok (.iload_n 2, 1) := dq_28 (dst 17 rd_prog_3_method_5_code_1 rfl)
theorem dX1_passSunday_50 : decode cX1_passSunday 50 = .ok (.iload_n 3, 1) := dq_29 (dst 18 rd_prog_3_method_5_code_1 rfl)
theorem dX1_passSunday_51 : decode cX1_passSunday 51 = .ok (.invokevirtual 70, 3) := dq_182 (dst 19 rd_prog_3_method_5_code_1 rfl) rfl
theorem dX1_passSunday_54 : decode cX1_passSunday 54 = .ok (.i2l, 1) := dq_133 (dst 22 rd_prog_3_method_5_code_1 rfl)
theorem dX1_passSunday_55 : decode cX1_passSunday 55 = .ok (.lmul, 1) := dq_105 (dst 23 rd_prog_3_method_5_code_1 rfl)
theorem dX1_passSunday_56 : decode cX1_passSunday 56 = .ok (.ladd, 1) := dq_97 (dst 24 rd_prog_3_method_5_code_1 rfl)
theorem dX1_passSunday_57 : decode cX1_passSunday 57 = .ok (.lastore, 1) := dq_80 (dst 25 rd_prog_3_method_5_code_1 rfl)
theorem dX1_passSunday_58 : decode cX1_passSunday 58 = .ok (.iinc 3 1, 3) := dq_132 (dst 26 rd_prog_3_method_5_code_1 rfl) rfl (by decide +kernel)
theorem dX1_passSunday_61 : decode cX1_passSunday 61 = .ok (.goto (-32), 3) := dq_167 (dst 29 rd_prog_3_method_5_code_1 rfl) (by decide +kernel)
theorem dX1_passSunday_64 : decode cX1_passSunday 64 = .ok (.iinc 2 1, 3) := dq_132 (dst 0 rd_prog_3_method_5_code_2 rfl) rfl (by decide +kernel)
theorem dX1_passSunday_67 : decode cX1_passSunday 67 = .ok (.goto (-57), 3) := dq_167 (dst 3 rd_prog_3_method_5_code_2 rfl) (by decide +kernel)
theorem dX1_passSunday_70 : decode cX1_passSunday 70 = .ok (.aload_n 0, 1) := dq_42 (dst 6 rd_prog_3_method_5_code_2 rfl)
theorem dX1_passSunday_71 : decode cX1_passSunday 71 = .ok (.dup, 1) := dq_89 (dst 7 rd_prog_3_method_5_code_2 rfl)
theorem dX1_passSunday_72 : decode cX1_passSunday 72 = .ok (.getfield 30, 3) := dq_180 (dst 8 rd_prog_3_method_5_code_2 rfl) rfl
theorem dX1_passSunday_75 : decode cX1_passSunday 75 = .ok (.ldc2_w 73, 3) := dq_20 (dst 11 rd_prog_3_method_5_code_2 rfl) rfl
theorem dX1_passSunday_78 : decode cX1_passSunday 78 = .ok (.lmul, 1) := dq_105 (dst 14 rd_prog_3_method_5_code_2 rfl)
theorem dX1_passSunday_79 : decode cX1_passSunday 79 = .ok (.putfield 30, 3) := dq_181 (dst 15 rd_prog_3_method_5_code_2 rfl) rfl
theorem dX1_passSunday_82 : decode cX1_passSunday 82 = .ok (.aload_n 0, 1) := dq_42 (dst 18 rd_prog_3_method_5_code_2 rfl)
theorem dX1_passSunday_83 : decode cX1_passSunday 83 = .ok (.dup, 1) := dq_89 (dst 19 rd_prog_3_method_5_code_2 rfl)
theorem dX1_passSunday_84 : decode cX1_passSunday 84 = .ok (.getfield 34, 3) := dq_180 (dst 20 rd_prog_3_method_5_code_2 rfl) rfl
theorem dX1_passSunday_87 : decode cX1_passSunday 87 = .ok (.ldc2_w 73, 3) := dq_20 (dst 23 rd_prog_3_method_5_code_2 rfl) rfl
theorem dX1_passSunday_90 : decode cX1_passSunday 90 = .ok (.lmul, 1) := dq_105 (dst 26 rd_prog_3_method_5_code_2 rfl)
theorem dX1_passSunday_91 : decode cX1_passSunday 91 = .ok (.putfield 34, 3) := dq_181 (dst 27 rd_prog_3_method_5_code_2 rfl) rfl
theorem dX1_passSunday_94 : decode cX1_passSunday 94 = .ok (.return_, 1) := dq_177 (dst 30 rd_prog_3_method_5_code_2 rfl)
theorem lf_X1_payBonus_1 : ∀ w ∈ ([Cond.fieldLink RX1 34 "StillInAugust$Course" "costs" "J", Cond.fieldLink RX1 11 "StillInAugust$Course" "ahead" "[J", Cond.fieldLink RX1 43 "StillInAugust$Hands" "ALL" "[I", Cond.methodLink RX1 75 yX4_bonusFor, Cond.instanceMethod yX4_bonusFor, Cond.selects RX4 yX4_bonusFor yX4_bonusFor, Cond.initialized RX4, Cond.code yX4_bonusFor cX4_bonusFor 2 (some .int), Cond.fieldLink RX4 60 "StillInAugust$House" "bonus" "I", Cond.methodLink RX4 105 yX3_total, Cond.static yX3_total, Cond.initialized RX3, Cond.code yX3_total cX3_total 1 (some .int)] : List Cond), w ∈ wsX1_payBonus := fun _ h => (List.mem_cons_of_mem _ (List.mem_append_left _ (List.mem_append_left _ h)))
theorem lf_X1_payBonus_2 : ∀ w ∈ wsX10, w ∈ wsX1_payBonus := fun _ h => (List.mem_cons_of_mem _ (List.mem_append_left _ (List.mem_append_right _ h)))
theorem lf_X1_payBonus_3 : ∀ w ∈ wsX40, w ∈ wsX1_payBonus := fun _ h => (List.mem_cons_of_mem _ (List.mem_append_right _ h))
set_option maxRecDepth 20000 in
theorem ggX1_payBonus_X4_bonusFor : GoodIn wsX1_payBonus wsX4_bonusFor := (gd_cons (lf_X1_payBonus_1 _ (List.mem_of_getElem? (i := 7) rfl)) rfl (goodIn_app (gd_cons (lf_X1_payBonus_1 _ (List.mem_of_getElem? (i := 8) rfl)) rfl (gd_cons (lf_X1_payBonus_1 _ (List.mem_of_getElem? (i := 9) rfl)) rfl (gd_cons (lf_X1_payBonus_1 _ (List.mem_of_getElem? (i := 10) rfl)) rfl (gd_cons (lf_X1_payBonus_1 _ (List.mem_of_getElem? (i := 11) rfl)) rfl (gd_cons (lf_X1_payBonus_1 _ (List.mem_of_getElem? (i := 12) rfl)) rfl (gd_nil _)))))) (goodIn_sub lf_X1_payBonus_3 ga_wsX40)))
set_option maxRecDepth 20000 in
theorem gX1_payBonus_X4_bonusFor : GoodIn wsX1_payBonus (wsV RX1 75 RX4 yX4_bonusFor wsX4_bonusFor) := goodIn_app (gd_cons (lf_X1_payBonus_1 _ (List.mem_of_getElem? (i := 3) rfl)) rfl (gd_cons (lf_X1_payBonus_1 _ (List.mem_of_getElem? (i := 4) rfl)) rfl (gd_cons (lf_X1_payBonus_1 _ (List.mem_of_getElem? (i := 5) rfl)) rfl (gd_cons (lf_X1_payBonus_1 _ (List.mem_of_getElem? (i := 6) rfl)) rfl (gd_nil _))))) ggX1_payBonus_X4_bonusFor
theorem dX1_payBonus_0 : decode cX1_payBonus 0 = .ok (.iconst 0, 1) := dq_3 (dst 0 rd_prog_3_method_6_code_0 rfl)
theorem dX1_payBonus_1 : decode cX1_payBonus 1 = .ok (.istore_n 2, 1) := dq_61 (dst 1 rd_prog_3_method_6_code_0 rfl)
theorem dX1_payBonus_2 : decode cX1_payBonus 2 = .ok (.iload_n 2, 1) := dq_28 (dst 2 rd_prog_3_method_6_code_0 rfl)
theorem dX1_payBonus_3 : decode cX1_payBonus 3 = .ok (.bipush 35, 2) := dq_16 (dst 3 rd_prog_3_method_6_code_0 rfl) (by decide +kernel)
theorem dX1_payBonus_5 : decode cX1_payBonus 5 = .ok (.if_icmp .ge 35, 3) := dq_162 (dst 5 rd_prog_3_method_6_code_0 rfl) (by decide +kernel)
theorem dX1_payBonus_8 : decode cX1_payBonus 8 = .ok (.aload_n 0, 1) := dq_42 (dst 8 rd_prog_3_method_6_code_0 rfl)
theorem dX1_payBonus_9 : decode cX1_payBonus 9 = .ok (.dup, 1) := dq_89 (dst 9 rd_prog_3_method_6_code_0 rfl)
theorem dX1_payBonus_10 : decode cX1_payBonus 10 = .ok (.getfield 34, 3) := dq_180 (dst 10 rd_prog_3_method_6_code_0 rfl) rfl
theorem dX1_payBonus_13 : decode cX1_payBonus 13 = .ok (.aload_n 0, 1) := dq_42 (dst 13 rd_prog_3_method_6_code_0 rfl)
theorem dX1_payBonus_14 : decode cX1_payBonus 14 = .ok (.getfield 11, 3) := dq_180 (dst 14 rd_prog_3_method_6_code_0 rfl) rfl
theorem dX1_payBonus_17 : decode cX1_payBonus 17 = .ok (.iload_n 2, 1) := dq_28 (dst 17 rd_prog_3_method_6_code_0 rfl)
theorem dX1_payBonus_18 : decode cX1_payBonus 18 = .ok (.laload, 1) := dq_47 (dst 18 rd_prog_3_method_6_code_0 rfl)
theorem dX1_payBonus_19 : decode cX1_payBonus 19 = .ok (.aload_n 1, 1) := dq_43 (dst 19 rd_prog_3_method_6_code_0 rfl)
theorem dX1_payBonus_20 : decode cX1_payBonus 20 = .ok (.getstatic 43, 3) := dq_178 (dst 20 rd_prog_3_method_6_code_0 rfl) rfl
theorem dX1_payBonus_23 : decode cX1_payBonus 23 = .ok (.iload_n 2, 1) := dq_28 (dst 23 rd_prog_3_method_6_code_0 rfl)
theorem dX1_payBonus_24 : decode cX1_payBonus 24 = .ok (.iaload, 1) := dq_46 (dst 24 rd_prog_3_method_6_code_0 rfl)
theorem dX1_payBonus_25 : decode cX1_payBonus 25 = .ok (.invokevirtual 75, 3) := dq_182 (dst 25 rd_prog_3_method_6_code_0 rfl) rfl
theorem dX1_payBonus_28 : decode cX1_payBonus 28 = .ok (.i2l, 1) := dq_133 (dst 28 rd_prog_3_method_6_code_0 rfl)
theorem dX1_payBonus_29 : decode cX1_payBonus 29 = .ok (.lmul, 1) := dq_105 (dst 29 rd_prog_3_method_6_code_0 rfl)
theorem dX1_payBonus_30 : decode cX1_payBonus 30 = .ok (.ladd, 1) := dq_97 (dst 30 rd_prog_3_method_6_code_0 rfl)
theorem dX1_payBonus_31 : decode cX1_payBonus 31 = .ok (.putfield 34, 3) := dq_181 (dst 31 rd_prog_3_method_6_code_0 rfl) rfl
theorem dX1_payBonus_34 : decode cX1_payBonus 34 = .ok (.iinc 2 1, 3) := dq_132 (dst 2 rd_prog_3_method_6_code_1 rfl) rfl (by decide +kernel)
theorem dX1_payBonus_37 : decode cX1_payBonus 37 = .ok (.goto (-35), 3) := dq_167 (dst 5 rd_prog_3_method_6_code_1 rfl) (by decide +kernel)
theorem dX1_payBonus_40 : decode cX1_payBonus 40 = .ok (.return_, 1) := dq_177 (dst 8 rd_prog_3_method_6_code_1 rfl)
theorem lf_X1_shareOf_1 : ∀ w ∈ ([Cond.fieldLink RX1 43 "StillInAugust$Hands" "ALL" "[I", Cond.fieldLink RX1 11 "StillInAugust$Course" "ahead" "[J", Cond.methodLink RX1 78 yX3_total, Cond.static yX3_total, Cond.initialized RX3, Cond.code yX3_total cX3_total 1 (some .int)] : List Cond), w ∈ wsX1_shareOf := fun _ h => (List.mem_cons_of_mem _ (List.mem_append_left _ h))
theorem lf_X1_shareOf_2 : ∀ w ∈ wsX10, w ∈ wsX1_shareOf := fun _ h => (List.mem_cons_of_mem _ (List.mem_append_right _ h))
set_option maxRecDepth 20000 in
theorem ggX1_shareOf_X3_total : GoodIn wsX1_shareOf wsX3_total := (gd_cons (lf_X1_shareOf_1 _ (List.mem_of_getElem? (i := 5) rfl)) rfl (gd_nil _))
set_option maxRecDepth 20000 in
theorem gX1_shareOf_X3_total : GoodIn wsX1_shareOf (va_wsS RX1 78 yX3_total wsX3_total) := goodIn_app (gd_cons (lf_X1_shareOf_1 _ (List.mem_of_getElem? (i := 2) rfl)) rfl (gd_cons (lf_X1_shareOf_1 _ (List.mem_of_getElem? (i := 3) rfl)) rfl (gd_cons (lf_X1_shareOf_1 _ (List.mem_of_getElem? (i := 4) rfl)) rfl (gd_nil _)))) ggX1_shareOf_X3_total
theorem dX1_shareOf_0 : decode cX1_shareOf 0 = .ok (.lconst 0, 1) := dq_9 (dst 0 rd_prog_3_method_7_code_0 rfl)
theorem dX1_shareOf_1 : decode cX1_shareOf 1 = .ok (.lstore_n 2, 1) := dq_65 (dst 1 rd_prog_3_method_7_code_0 rfl)
theorem dX1_shareOf_2 : decode cX1_shareOf 2 = .ok (.iconst 0, 1) := dq_3 (dst 2 rd_prog_3_method_7_code_0 rfl)
theorem dX1_shareOf_3 : decode cX1_shareOf 3 = .ok (.istore 4, 2) := dq_54 (dst 3 rd_prog_3_method_7_code_0 rfl) rfl
theorem dX1_shareOf_5 : decode cX1_shareOf 5 = .ok (.iload 4, 2) := dq_21 (dst 5 rd_prog_3_method_7_code_0 rfl) rfl
theorem dX1_shareOf_7 : decode cX1_shareOf 7 = .ok (.bipush 35, 2) := dq_16 (dst 7 rd_prog_3_method_7_code_0 rfl) (by decide +kernel)
theorem dX1_shareOf_9 : decode cX1_shareOf 9 = .ok (.if_icmp .ge 32, 3) := dq_162 (dst 9 rd_prog_3_method_7_code_0 rfl) (by decide +kernel)
theorem dX1_shareOf_12 : decode cX1_shareOf 12 = .ok (.getstatic 43, 3) := dq_178 (dst 12 rd_prog_3_method_7_code_0 rfl) rfl
theorem dX1_shareOf_15 : decode cX1_shareOf 15 = .ok (.iload 4, 2) := dq_21 (dst 15 rd_prog_3_method_7_code_0 rfl) rfl
theorem dX1_shareOf_17 : decode cX1_shareOf 17 = .ok (.iaload, 1) := dq_46 (dst 17 rd_prog_3_method_7_code_0 rfl)
theorem dX1_shareOf_18 : decode cX1_shareOf 18 = .ok (.invokestatic 78, 3) := dq_184 (dst 18 rd_prog_3_method_7_code_0 rfl) rfl
theorem dX1_shareOf_21 : decode cX1_shareOf 21 = .ok (.iload_n 1, 1) := dq_27 (dst 21 rd_prog_3_method_7_code_0 rfl)
theorem dX1_shareOf_22 : decode cX1_shareOf 22 = .ok (.if_icmp .ne 13, 3) := dq_160 (dst 22 rd_prog_3_method_7_code_0 rfl) (by decide +kernel)
theorem dX1_shareOf_25 : decode cX1_shareOf 25 = .ok (.lload_n 2, 1) := dq_32 (dst 25 rd_prog_3_method_7_code_0 rfl)
theorem dX1_shareOf_26 : decode cX1_shareOf 26 = .ok (.aload_n 0, 1) := dq_42 (dst 26 rd_prog_3_method_7_code_0 rfl)
theorem dX1_shareOf_27 : decode cX1_shareOf 27 = .ok (.getfield 11, 3) := dq_180 (dst 27 rd_prog_3_method_7_code_0 rfl) rfl
theorem dX1_shareOf_30 : decode cX1_shareOf 30 = .ok (.iload 4, 2) := dq_21 (dst 30 rd_prog_3_method_7_code_0 rfl) rfl
theorem dX1_shareOf_32 : decode cX1_shareOf 32 = .ok (.laload, 1) := dq_47 (dst 0 rd_prog_3_method_7_code_1 rfl)
theorem dX1_shareOf_33 : decode cX1_shareOf 33 = .ok (.ladd, 1) := dq_97 (dst 1 rd_prog_3_method_7_code_1 rfl)
theorem dX1_shareOf_34 : decode cX1_shareOf 34 = .ok (.lstore_n 2, 1) := dq_65 (dst 2 rd_prog_3_method_7_code_1 rfl)
theorem dX1_shareOf_35 : decode cX1_shareOf 35 = .ok (.iinc 4 1, 3) := dq_132 (dst 3 rd_prog_3_method_7_code_1 rfl) rfl (by decide +kernel)
theorem dX1_shareOf_38 : decode cX1_shareOf 38 = .ok (.goto (-33), 3) := dq_167 (dst 6 rd_prog_3_method_7_code_1 rfl) (by decide +kernel)
theorem dX1_shareOf_41 : decode cX1_shareOf 41 = .ok (.lload_n 2, 1) := dq_32 (dst 9 rd_prog_3_method_7_code_1 rfl)
theorem dX1_shareOf_42 : decode cX1_shareOf 42 = .ok (.lreturn, 1) := dq_173 (dst 10 rd_prog_3_method_7_code_1 rfl)
theorem dX2_init_0 : decode cX2_init 0 = .ok (.aload_n 0, 1) := dq_42 (dst 0 rd_prog_4_method_1_code_0 rfl)
theorem dX2_init_1 : decode cX2_init 1 = .ok (.invokespecial 3, 3) := dq_183 (dst 1 rd_prog_4_method_1_code_0 rfl) rfl
theorem dX2_init_4 : decode cX2_init 4 = .ok (.aload_n 0, 1) := dq_42 (dst 4 rd_prog_4_method_1_code_0 rfl)
theorem dX2_init_5 : decode cX2_init 5 = .ok (.aload_n 1, 1) := dq_43 (dst 5 rd_prog_4_method_1_code_0 rfl)
theorem dX2_init_6 : decode cX2_init 6 = .ok (.putfield 9, 3) := dq_181 (dst 6 rd_prog_4_method_1_code_0 rfl) rfl
theorem dX2_init_9 : decode cX2_init 9 = .ok (.return_, 1) := dq_177 (dst 9 rd_prog_4_method_1_code_0 rfl)
theorem dX2_start_0 : decode cX2_start 0 = .ok (.aload_n 0, 1) := dq_42 (dst 0 rd_prog_4_method_2_code_0 rfl)
theorem dX2_start_1 : decode cX2_start 1 = .ok (.iconst 0, 1) := dq_3 (dst 1 rd_prog_4_method_2_code_0 rfl)
theorem dX2_start_2 : decode cX2_start 2 = .ok (.putfield 15, 3) := dq_181 (dst 2 rd_prog_4_method_2_code_0 rfl) rfl
theorem dX2_start_5 : decode cX2_start 5 = .ok (.aload_n 0, 1) := dq_42 (dst 5 rd_prog_4_method_2_code_0 rfl)
theorem dX2_start_6 : decode cX2_start 6 = .ok (.iconst 0, 1) := dq_3 (dst 6 rd_prog_4_method_2_code_0 rfl)
theorem dX2_start_7 : decode cX2_start 7 = .ok (.putfield 19, 3) := dq_181 (dst 7 rd_prog_4_method_2_code_0 rfl) rfl
theorem dX2_start_10 : decode cX2_start 10 = .ok (.return_, 1) := dq_177 (dst 10 rd_prog_4_method_2_code_0 rfl)
theorem dX2_hasMore_0 : decode cX2_hasMore 0 = .ok (.aload_n 0, 1) := dq_42 (dst 0 rd_prog_4_method_3_code_0 rfl)
theorem dX2_hasMore_1 : decode cX2_hasMore 1 = .ok (.getfield 19, 3) := dq_180 (dst 1 rd_prog_4_method_3_code_0 rfl) rfl
theorem dX2_hasMore_4 : decode cX2_hasMore 4 = .ok (.ifCond .ne 21, 3) := dq_154 (dst 4 rd_prog_4_method_3_code_0 rfl) (by decide +kernel)
theorem dX2_hasMore_7 : decode cX2_hasMore 7 = .ok (.aload_n 0, 1) := dq_42 (dst 7 rd_prog_4_method_3_code_0 rfl)
theorem dX2_hasMore_8 : decode cX2_hasMore 8 = .ok (.getfield 15, 3) := dq_180 (dst 8 rd_prog_4_method_3_code_0 rfl) rfl
theorem dX2_hasMore_11 : decode cX2_hasMore 11 = .ok (.aload_n 0, 1) := dq_42 (dst 11 rd_prog_4_method_3_code_0 rfl)
theorem dX2_hasMore_12 : decode cX2_hasMore 12 = .ok (.getfield 9, 3) := dq_180 (dst 12 rd_prog_4_method_3_code_0 rfl) rfl
theorem dX2_hasMore_15 : decode cX2_hasMore 15 = .ok (.getfield 23, 3) := dq_180 (dst 15 rd_prog_4_method_3_code_0 rfl) rfl
theorem dX2_hasMore_18 : decode cX2_hasMore 18 = .ok (.if_icmp .ge 7, 3) := dq_162 (dst 18 rd_prog_4_method_3_code_0 rfl) (by decide +kernel)
theorem dX2_hasMore_21 : decode cX2_hasMore 21 = .ok (.iconst 1, 1) := dq_4 (dst 21 rd_prog_4_method_3_code_0 rfl)
theorem dX2_hasMore_22 : decode cX2_hasMore 22 = .ok (.goto 4, 3) := dq_167 (dst 22 rd_prog_4_method_3_code_0 rfl) (by decide +kernel)
theorem dX2_hasMore_25 : decode cX2_hasMore 25 = .ok (.iconst 0, 1) := dq_3 (dst 25 rd_prog_4_method_3_code_0 rfl)
theorem dX2_hasMore_26 : decode cX2_hasMore 26 = .ok (.ireturn, 1) := dq_172 (dst 26 rd_prog_4_method_3_code_0 rfl)
theorem lf_X2_here_1 : ∀ w ∈ ([Cond.fieldLink RX2 9 "StillInAugust$Cursor" "text" "LStillInAugust$Text;", Cond.fieldLink RX2 15 "StillInAugust$Cursor" "place" "I", Cond.methodLink RX2 28 yX10_at, Cond.instanceMethod yX10_at, Cond.selects RX10 yX10_at yX10_at, Cond.initialized RX10, Cond.code yX10_at cX10_at 2 (some .int), Cond.fieldLink RX10 15 "StillInAugust$Text" "length" "I", Cond.fieldLink RX10 11 "StillInAugust$Text" "bytes" "[B"] : List Cond), w ∈ wsX2_here := fun _ h => (List.mem_cons_of_mem _ (List.mem_append_left _ (List.mem_append_left _ h)))
theorem lf_X2_here_2 : ∀ w ∈ wsX20, w ∈ wsX2_here := fun _ h => (List.mem_cons_of_mem _ (List.mem_append_left _ (List.mem_append_right _ h)))
theorem lf_X2_here_3 : ∀ w ∈ wsX100, w ∈ wsX2_here := fun _ h => (List.mem_cons_of_mem _ (List.mem_append_right _ h))
theorem ga_wsX100 : List.all wsX100 goodWord = true := by decide +kernel
set_option maxRecDepth 20000 in
theorem ggX2_here_X10_at : GoodIn wsX2_here wsX10_at := (gd_cons (lf_X2_here_1 _ (List.mem_of_getElem? (i := 6) rfl)) rfl (goodIn_app (gd_cons (lf_X2_here_1 _ (List.mem_of_getElem? (i := 7) rfl)) rfl (gd_cons (lf_X2_here_1 _ (List.mem_of_getElem? (i := 8) rfl)) rfl (gd_nil _))) (goodIn_sub lf_X2_here_3 ga_wsX100)))
set_option maxRecDepth 20000 in
theorem gX2_here_X10_at : GoodIn wsX2_here (wsV RX2 28 RX10 yX10_at wsX10_at) := goodIn_app (gd_cons (lf_X2_here_1 _ (List.mem_of_getElem? (i := 2) rfl)) rfl (gd_cons (lf_X2_here_1 _ (List.mem_of_getElem? (i := 3) rfl)) rfl (gd_cons (lf_X2_here_1 _ (List.mem_of_getElem? (i := 4) rfl)) rfl (gd_cons (lf_X2_here_1 _ (List.mem_of_getElem? (i := 5) rfl)) rfl (gd_nil _))))) ggX2_here_X10_at
theorem dX2_here_0 : decode cX2_here 0 = .ok (.aload_n 0, 1) := dq_42 (dst 0 rd_prog_4_method_4_code_0 rfl)
theorem dX2_here_1 : decode cX2_here 1 = .ok (.getfield 9, 3) := dq_180 (dst 1 rd_prog_4_method_4_code_0 rfl) rfl
theorem dX2_here_4 : decode cX2_here 4 = .ok (.aload_n 0, 1) := dq_42 (dst 4 rd_prog_4_method_4_code_0 rfl)
theorem dX2_here_5 : decode cX2_here 5 = .ok (.getfield 15, 3) := dq_180 (dst 5 rd_prog_4_method_4_code_0 rfl) rfl
theorem dX2_here_8 : decode cX2_here 8 = .ok (.invokevirtual 28, 3) := dq_182 (dst 8 rd_prog_4_method_4_code_0 rfl) rfl
theorem dX2_here_11 : decode cX2_here 11 = .ok (.ireturn, 1) := dq_172 (dst 11 rd_prog_4_method_4_code_0 rfl)
theorem dX2_step_0 : decode cX2_step 0 = .ok (.aload_n 0, 1) := dq_42 (dst 0 rd_prog_4_method_5_code_0 rfl)
theorem dX2_step_1 : decode cX2_step 1 = .ok (.dup, 1) := dq_89 (dst 1 rd_prog_4_method_5_code_0 rfl)
theorem dX2_step_2 : decode cX2_step 2 = .ok (.getfield 15, 3) := dq_180 (dst 2 rd_prog_4_method_5_code_0 rfl) rfl
theorem dX2_step_5 : decode cX2_step 5 = .ok (.iconst 1, 1) := dq_4 (dst 5 rd_prog_4_method_5_code_0 rfl)
theorem dX2_step_6 : decode cX2_step 6 = .ok (.iadd, 1) := dq_96 (dst 6 rd_prog_4_method_5_code_0 rfl)
theorem dX2_step_7 : decode cX2_step 7 = .ok (.putfield 15, 3) := dq_181 (dst 7 rd_prog_4_method_5_code_0 rfl) rfl
theorem dX2_step_10 : decode cX2_step 10 = .ok (.return_, 1) := dq_177 (dst 10 rd_prog_4_method_5_code_0 rfl)
theorem dX2_stop_0 : decode cX2_stop 0 = .ok (.aload_n 0, 1) := dq_42 (dst 0 rd_prog_4_method_6_code_0 rfl)
theorem dX2_stop_1 : decode cX2_stop 1 = .ok (.iconst 1, 1) := dq_4 (dst 1 rd_prog_4_method_6_code_0 rfl)
theorem dX2_stop_2 : decode cX2_stop 2 = .ok (.putfield 19, 3) := dq_181 (dst 2 rd_prog_4_method_6_code_0 rfl) rfl
theorem dX2_stop_5 : decode cX2_stop 5 = .ok (.return_, 1) := dq_177 (dst 5 rd_prog_4_method_6_code_0 rfl)
theorem lf_X2_figure_1 : ∀ w ∈ ([Cond.methodLink RX2 32 yX2_here, Cond.instanceMethod yX2_here, Cond.selects RX2 yX2_here yX2_here, Cond.initialized RX2, Cond.code yX2_here cX2_here 1 (some .int), Cond.fieldLink RX2 9 "StillInAugust$Cursor" "text" "LStillInAugust$Text;", Cond.fieldLink RX2 15 "StillInAugust$Cursor" "place" "I", Cond.methodLink RX2 28 yX10_at, Cond.instanceMethod yX10_at, Cond.selects RX10 yX10_at yX10_at, Cond.initialized RX10, Cond.code yX10_at cX10_at 2 (some .int), Cond.fieldLink RX10 15 "StillInAugust$Text" "length" "I", Cond.fieldLink RX10 11 "StillInAugust$Text" "bytes" "[B", Cond.methodLink RX2 36 yX2_stop, Cond.instanceMethod yX2_stop, Cond.selects RX2 yX2_stop yX2_stop, Cond.code yX2_stop cX2_stop 1 none, Cond.fieldLink RX2 19 "StillInAugust$Cursor" "stopped" "Z", Cond.methodLink RX2 39 yX2_step, Cond.instanceMethod yX2_step, Cond.selects RX2 yX2_step yX2_step, Cond.code yX2_step cX2_step 1 none] : List Cond), w ∈ wsX2_figure := fun _ h => (List.mem_cons_of_mem _ (List.mem_append_left _ (List.mem_append_left _ h)))
theorem lf_X2_figure_2 : ∀ w ∈ wsX20, w ∈ wsX2_figure := fun _ h => (List.mem_cons_of_mem _ (List.mem_append_left _ (List.mem_append_right _ h)))
theorem lf_X2_figure_3 : ∀ w ∈ wsX100, w ∈ wsX2_figure := fun _ h => (List.mem_cons_of_mem _ (List.mem_append_right _ h))
theorem ga_wsX20 : List.all wsX20 goodWord = true := by decide +kernel
set_option maxRecDepth 20000 in
theorem ggX2_figure_X2_here : GoodIn wsX2_figure wsX2_here := (gd_cons (lf_X2_figure_1 _ (List.mem_of_getElem? (i := 4) rfl)) rfl (goodIn_app (goodIn_app (gd_cons (lf_X2_figure_1 _ (List.mem_of_getElem? (i := 5) rfl)) rfl (gd_cons (lf_X2_figure_1 _ (List.mem_of_getElem? (i := 6) rfl)) rfl (gd_cons (lf_X2_figure_1 _ (List.mem_of_getElem? (i := 7) rfl)) rfl (gd_cons (lf_X2_figure_1 _ (List.mem_of_getElem? (i := 8) rfl)) rfl (gd_cons (lf_X2_figure_1 _ (List.mem_of_getElem? (i := 9) rfl)) rfl (gd_cons (lf_X2_figure_1 _ (List.mem_of_getElem? (i := 10) rfl)) rfl (gd_cons (lf_X2_figure_1 _ (List.mem_of_getElem? (i := 11) rfl)) rfl (gd_cons (lf_X2_figure_1 _ (List.mem_of_getElem? (i := 12) rfl)) rfl (gd_cons (lf_X2_figure_1 _ (List.mem_of_getElem? (i := 13) rfl)) rfl (gd_nil _)))))))))) (goodIn_sub lf_X2_figure_2 ga_wsX20)) (goodIn_sub lf_X2_figure_3 ga_wsX100)))
set_option maxRecDepth 20000 in
theorem gX2_figure_X2_here : GoodIn wsX2_figure (wsV RX2 32 RX2 yX2_here wsX2_here) := goodIn_app (gd_cons (lf_X2_figure_1 _ (List.mem_of_getElem? (i := 0) rfl)) rfl (gd_cons (lf_X2_figure_1 _ (List.mem_of_getElem? (i := 1) rfl)) rfl (gd_cons (lf_X2_figure_1 _ (List.mem_of_getElem? (i := 2) rfl)) rfl (gd_cons (lf_X2_figure_1 _ (List.mem_of_getElem? (i := 3) rfl)) rfl (gd_nil _))))) ggX2_figure_X2_here
set_option maxRecDepth 20000 in
theorem ggX2_figure_X2_stop : GoodIn wsX2_figure wsX2_stop := (gd_cons (lf_X2_figure_1 _ (List.mem_of_getElem? (i := 17) rfl)) rfl (goodIn_app (gd_cons (lf_X2_figure_1 _ (List.mem_of_getElem? (i := 18) rfl)) rfl (gd_nil _)) (goodIn_sub lf_X2_figure_2 ga_wsX20)))
set_option maxRecDepth 20000 in
theorem gX2_figure_X2_stop : GoodIn wsX2_figure (wsV RX2 36 RX2 yX2_stop wsX2_stop) := goodIn_app (gd_cons (lf_X2_figure_1 _ (List.mem_of_getElem? (i := 14) rfl)) rfl (gd_cons (lf_X2_figure_1 _ (List.mem_of_getElem? (i := 15) rfl)) rfl (gd_cons (lf_X2_figure_1 _ (List.mem_of_getElem? (i := 16) rfl)) rfl (gd_cons (lf_X2_figure_1 _ (List.mem_of_getElem? (i := 3) rfl)) rfl (gd_nil _))))) ggX2_figure_X2_stop
set_option maxRecDepth 20000 in
theorem ggX2_figure_X2_step : GoodIn wsX2_figure wsX2_step := (gd_cons (lf_X2_figure_1 _ (List.mem_of_getElem? (i := 22) rfl)) rfl (goodIn_app (gd_cons (lf_X2_figure_1 _ (List.mem_of_getElem? (i := 6) rfl)) rfl (gd_nil _)) (goodIn_sub lf_X2_figure_2 ga_wsX20)))
set_option maxRecDepth 20000 in
theorem gX2_figure_X2_step : GoodIn wsX2_figure (wsV RX2 39 RX2 yX2_step wsX2_step) := goodIn_app (gd_cons (lf_X2_figure_1 _ (List.mem_of_getElem? (i := 19) rfl)) rfl (gd_cons (lf_X2_figure_1 _ (List.mem_of_getElem? (i := 20) rfl)) rfl (gd_cons (lf_X2_figure_1 _ (List.mem_of_getElem? (i := 21) rfl)) rfl (gd_cons (lf_X2_figure_1 _ (List.mem_of_getElem? (i := 3) rfl)) rfl (gd_nil _))))) ggX2_figure_X2_step
theorem dX2_figure_0 : decode cX2_figure 0 = .ok (.aload_n 0, 1) := dq_42 (dst 0 rd_prog_4_method_7_code_0 rfl)
theorem dX2_figure_1 : decode cX2_figure 1 = .ok (.invokevirtual 32, 3) := dq_182 (dst 1 rd_prog_4_method_7_code_0 rfl) rfl
theorem dX2_figure_4 : decode cX2_figure 4 = .ok (.bipush 48, 2) := dq_16 (dst 4 rd_prog_4_method_7_code_0 rfl) (by decide +kernel)
theorem dX2_figure_6 : decode cX2_figure 6 = .ok (.isub, 1) := dq_100 (dst 6 rd_prog_4_method_7_code_0 rfl)
theorem dX2_figure_7 : decode cX2_figure 7 = .ok (.istore_n 2, 1) := dq_61 (dst 7 rd_prog_4_method_7_code_0 rfl)
theorem dX2_figure_8 : decode cX2_figure 8 = .ok (.iload_n 2, 1) := dq_28 (dst 8 rd_prog_4_method_7_code_0 rfl)
theorem dX2_figure_9 : decode cX2_figure 9 = .ok (.ifCond .lt 17, 3) := dq_155 (dst 9 rd_prog_4_method_7_code_0 rfl) (by decide +kernel)
theorem dX2_figure_12 : decode cX2_figure 12 = .ok (.iload_n 2, 1) := dq_28 (dst 12 rd_prog_4_method_7_code_0 rfl)
theorem dX2_figure_13 : decode cX2_figure 13 = .ok (.bipush 9, 2) := dq_16 (dst 13 rd_prog_4_method_7_code_0 rfl) (by decide +kernel)
theorem dX2_figure_15 : decode cX2_figure 15 = .ok (.if_icmp .gt 11, 3) := dq_163 (dst 15 rd_prog_4_method_7_code_0 rfl) (by decide +kernel)
theorem dX2_figure_18 : decode cX2_figure 18 = .ok (.iload_n 1, 1) := dq_27 (dst 18 rd_prog_4_method_7_code_0 rfl)
theorem dX2_figure_19 : decode cX2_figure 19 = .ok (.iload_n 2, 1) := dq_28 (dst 19 rd_prog_4_method_7_code_0 rfl)
theorem dX2_figure_20 : decode cX2_figure 20 = .ok (.ishr, 1) := dq_122 (dst 20 rd_prog_4_method_7_code_0 rfl)
theorem dX2_figure_21 : decode cX2_figure 21 = .ok (.iconst 1, 1) := dq_4 (dst 21 rd_prog_4_method_7_code_0 rfl)
theorem dX2_figure_22 : decode cX2_figure 22 = .ok (.iand, 1) := dq_126 (dst 22 rd_prog_4_method_7_code_0 rfl)
theorem dX2_figure_23 : decode cX2_figure 23 = .ok (.ifCond .ne 10, 3) := dq_154 (dst 23 rd_prog_4_method_7_code_0 rfl) (by decide +kernel)
theorem dX2_figure_26 : decode cX2_figure 26 = .ok (.aload_n 0, 1) := dq_42 (dst 26 rd_prog_4_method_7_code_0 rfl)
theorem dX2_figure_27 : decode cX2_figure 27 = .ok (.invokevirtual 36, 3) := dq_182 (dst 27 rd_prog_4_method_7_code_0 rfl) rfl
theorem dX2_figure_30 : decode cX2_figure 30 = .ok (.bipush (-9), 2) := dq_16 (dst 30 rd_prog_4_method_7_code_0 rfl) (by decide +kernel)
theorem dX2_figure_32 : decode cX2_figure 32 = .ok (.ireturn, 1) := dq_172 (dst 0 rd_prog_4_method_7_code_1 rfl)
theorem dX2_figure_33 : decode cX2_figure 33 = .ok (.aload_n 0, 1) := dq_42 (dst 1 rd_prog_4_method_7_code_1 rfl)
theorem dX2_figure_34 : decode cX2_figure 34 = .ok (.invokevirtual 39, 3) := dq_182 (dst 2 rd_prog_4_method_7_code_1 rfl) rfl
theorem dX2_figure_37 : decode cX2_figure 37 = .ok (.iload_n 2, 1) := dq_28 (dst 5 rd_prog_4_method_7_code_1 rfl)
theorem dX2_figure_38 : decode cX2_figure 38 = .ok (.ireturn, 1) := dq_172 (dst 6 rd_prog_4_method_7_code_1 rfl)
theorem dX2_stoppedAt_0 : decode cX2_stoppedAt 0 = .ok (.aload_n 0, 1) := dq_42 (dst 0 rd_prog_4_method_8_code_0 rfl)
theorem dX2_stoppedAt_1 : decode cX2_stoppedAt 1 = .ok (.getfield 19, 3) := dq_180 (dst 1 rd_prog_4_method_8_code_0 rfl) rfl
theorem dX2_stoppedAt_4 : decode cX2_stoppedAt 4 = .ok (.ifCond .eq 10, 3) := dq_153 (dst 4 rd_prog_4_method_8_code_0 rfl) (by decide +kernel)
theorem dX2_stoppedAt_7 : decode cX2_stoppedAt 7 = .ok (.aload_n 0, 1) := dq_42 (dst 7 rd_prog_4_method_8_code_0 rfl)
theorem dX2_stoppedAt_8 : decode cX2_stoppedAt 8 = .ok (.getfield 15, 3) := dq_180 (dst 8 rd_prog_4_method_8_code_0 rfl) rfl
theorem dX2_stoppedAt_11 : decode cX2_stoppedAt 11 = .ok (.goto 5, 3) := dq_167 (dst 11 rd_prog_4_method_8_code_0 rfl) (by decide +kernel)
theorem dX2_stoppedAt_14 : decode cX2_stoppedAt 14 = .ok (.bipush (-9), 2) := dq_16 (dst 14 rd_prog_4_method_8_code_0 rfl) (by decide +kernel)
theorem dX2_stoppedAt_16 : decode cX2_stoppedAt 16 = .ok (.ireturn, 1) := dq_172 (dst 16 rd_prog_4_method_8_code_0 rfl)
theorem dX2_figures_0 : decode cX2_figures 0 = .ok (.iconst 1, 1) := dq_4 (dst 0 rd_prog_4_method_9_code_0 rfl)
theorem dX2_figures_1 : decode cX2_figures 1 = .ok (.iload_n 1, 1) := dq_27 (dst 1 rd_prog_4_method_9_code_0 rfl)
theorem dX2_figures_2 : decode cX2_figures 2 = .ok (.iconst 1, 1) := dq_4 (dst 2 rd_prog_4_method_9_code_0 rfl)
theorem dX2_figures_3 : decode cX2_figures 3 = .ok (.iadd, 1) := dq_96 (dst 3 rd_prog_4_method_9_code_0 rfl)
theorem dX2_figures_4 : decode cX2_figures 4 = .ok (.ishl, 1) := dq_120 (dst 4 rd_prog_4_method_9_code_0 rfl)
theorem dX2_figures_5 : decode cX2_figures 5 = .ok (.iconst 1, 1) := dq_4 (dst 5 rd_prog_4_method_9_code_0 rfl)
theorem dX2_figures_6 : decode cX2_figures 6 = .ok (.iload_n 0, 1) := dq_26 (dst 6 rd_prog_4_method_9_code_0 rfl)
theorem dX2_figures_7 : decode cX2_figures 7 = .ok (.ishl, 1) := dq_120 (dst 7 rd_prog_4_method_9_code_0 rfl)
theorem dX2_figures_8 : decode cX2_figures 8 = .ok (.isub, 1) := dq_100 (dst 8 rd_prog_4_method_9_code_0 rfl)
theorem dX2_figures_9 : decode cX2_figures 9 = .ok (.ireturn, 1) := dq_172 (dst 9 rd_prog_4_method_9_code_0 rfl)
theorem dX3_ofAge_0 : decode cX3_ofAge 0 = .ok (.iload_n 1, 1) := dq_27 (dst 0 rd_prog_5_method_2_code_0 rfl)
theorem dX3_ofAge_1 : decode cX3_ofAge 1 = .ok (.ifCond .ne 10, 3) := dq_154 (dst 1 rd_prog_5_method_2_code_0 rfl) (by decide +kernel)
theorem dX3_ofAge_4 : decode cX3_ofAge 4 = .ok (.iload_n 0, 1) := dq_26 (dst 4 rd_prog_5_method_2_code_0 rfl)
theorem dX3_ofAge_5 : decode cX3_ofAge 5 = .ok (.bipush 100, 2) := dq_16 (dst 5 rd_prog_5_method_2_code_0 rfl) (by decide +kernel)
theorem dX3_ofAge_7 : decode cX3_ofAge 7 = .ok (.idiv, 1) := dq_108 (dst 7 rd_prog_5_method_2_code_0 rfl)
theorem dX3_ofAge_8 : decode cX3_ofAge 8 = .ok (.goto 22, 3) := dq_167 (dst 8 rd_prog_5_method_2_code_0 rfl) (by decide +kernel)
theorem dX3_ofAge_11 : decode cX3_ofAge 11 = .ok (.iload_n 1, 1) := dq_27 (dst 11 rd_prog_5_method_2_code_0 rfl)
theorem dX3_ofAge_12 : decode cX3_ofAge 12 = .ok (.iconst 1, 1) := dq_4 (dst 12 rd_prog_5_method_2_code_0 rfl)
theorem dX3_ofAge_13 : decode cX3_ofAge 13 = .ok (.if_icmp .ne 13, 3) := dq_160 (dst 13 rd_prog_5_method_2_code_0 rfl) (by decide +kernel)
theorem dX3_ofAge_16 : decode cX3_ofAge 16 = .ok (.iload_n 0, 1) := dq_26 (dst 16 rd_prog_5_method_2_code_0 rfl)
theorem dX3_ofAge_17 : decode cX3_ofAge 17 = .ok (.bipush 10, 2) := dq_16 (dst 17 rd_prog_5_method_2_code_0 rfl) (by decide +kernel)
theorem dX3_ofAge_19 : decode cX3_ofAge 19 = .ok (.idiv, 1) := dq_108 (dst 19 rd_prog_5_method_2_code_0 rfl)
theorem dX3_ofAge_20 : decode cX3_ofAge 20 = .ok (.bipush 10, 2) := dq_16 (dst 20 rd_prog_5_method_2_code_0 rfl) (by decide +kernel)
theorem dX3_ofAge_22 : decode cX3_ofAge 22 = .ok (.irem, 1) := dq_112 (dst 22 rd_prog_5_method_2_code_0 rfl)
theorem dX3_ofAge_23 : decode cX3_ofAge 23 = .ok (.goto 7, 3) := dq_167 (dst 23 rd_prog_5_method_2_code_0 rfl) (by decide +kernel)
theorem dX3_ofAge_26 : decode cX3_ofAge 26 = .ok (.iload_n 0, 1) := dq_26 (dst 26 rd_prog_5_method_2_code_0 rfl)
theorem dX3_ofAge_27 : decode cX3_ofAge 27 = .ok (.bipush 10, 2) := dq_16 (dst 27 rd_prog_5_method_2_code_0 rfl) (by decide +kernel)
theorem dX3_ofAge_29 : decode cX3_ofAge 29 = .ok (.irem, 1) := dq_112 (dst 29 rd_prog_5_method_2_code_0 rfl)
theorem dX3_ofAge_30 : decode cX3_ofAge 30 = .ok (.ireturn, 1) := dq_172 (dst 30 rd_prog_5_method_2_code_0 rfl)
theorem dX3_total_0 : decode cX3_total 0 = .ok (.iload_n 0, 1) := dq_26 (dst 0 rd_prog_5_method_3_code_0 rfl)
theorem dX3_total_1 : decode cX3_total 1 = .ok (.bipush 100, 2) := dq_16 (dst 1 rd_prog_5_method_3_code_0 rfl) (by decide +kernel)
theorem dX3_total_3 : decode cX3_total 3 = .ok (.idiv, 1) := dq_108 (dst 3 rd_prog_5_method_3_code_0 rfl)
theorem dX3_total_4 : decode cX3_total 4 = .ok (.iload_n 0, 1) := dq_26 (dst 4 rd_prog_5_method_3_code_0 rfl)
theorem dX3_total_5 : decode cX3_total 5 = .ok (.bipush 10, 2) := dq_16 (dst 5 rd_prog_5_method_3_code_0 rfl) (by decide +kernel)
theorem dX3_total_7 : decode cX3_total 7 = .ok (.idiv, 1) := dq_108 (dst 7 rd_prog_5_method_3_code_0 rfl)
theorem dX3_total_8 : decode cX3_total 8 = .ok (.bipush 10, 2) := dq_16 (dst 8 rd_prog_5_method_3_code_0 rfl) (by decide +kernel)
theorem dX3_total_10 : decode cX3_total 10 = .ok (.irem, 1) := dq_112 (dst 10 rd_prog_5_method_3_code_0 rfl)
theorem dX3_total_11 : decode cX3_total 11 = .ok (.iadd, 1) := dq_96 (dst 11 rd_prog_5_method_3_code_0 rfl)
theorem dX3_total_12 : decode cX3_total 12 = .ok (.iload_n 0, 1) := dq_26 (dst 12 rd_prog_5_method_3_code_0 rfl)
theorem dX3_total_13 : decode cX3_total 13 = .ok (.bipush 10, 2) := dq_16 (dst 13 rd_prog_5_method_3_code_0 rfl) (by decide +kernel)
theorem dX3_total_15 : decode cX3_total 15 = .ok (.irem, 1) := dq_112 (dst 15 rd_prog_5_method_3_code_0 rfl)
theorem dX3_total_16 : decode cX3_total 16 = .ok (.iadd, 1) := dq_96 (dst 16 rd_prog_5_method_3_code_0 rfl)
theorem dX3_total_17 : decode cX3_total 17 = .ok (.ireturn, 1) := dq_172 (dst 17 rd_prog_5_method_3_code_0 rfl)
theorem lf_X3_areAtMost_1 : ∀ w ∈ ([Cond.methodLink RX3 9 yX3_total, Cond.static yX3_total, Cond.initialized RX3, Cond.code yX3_total cX3_total 1 (some .int)] : List Cond), w ∈ wsX3_areAtMost := fun _ h => (List.mem_cons_of_mem _ h)
set_option maxRecDepth 20000 in
theorem ggX3_areAtMost_X3_total : GoodIn wsX3_areAtMost wsX3_total := (gd_cons (lf_X3_areAtMost_1 _ (List.mem_of_getElem? (i := 3) rfl)) rfl (gd_nil _))
set_option maxRecDepth 20000 in
theorem gX3_areAtMost_X3_total : GoodIn wsX3_areAtMost (va_wsS RX3 9 yX3_total wsX3_total) := goodIn_app (gd_cons (lf_X3_areAtMost_1 _ (List.mem_of_getElem? (i := 0) rfl)) rfl (gd_cons (lf_X3_areAtMost_1 _ (List.mem_of_getElem? (i := 1) rfl)) rfl (gd_cons (lf_X3_areAtMost_1 _ (List.mem_of_getElem? (i := 2) rfl)) rfl (gd_nil _)))) ggX3_areAtMost_X3_total
theorem dX3_areAtMost_0 : decode cX3_areAtMost 0 = .ok (.iload_n 0, 1) := dq_26 (dst 0 rd_prog_5_method_4_code_0 rfl)
theorem dX3_areAtMost_1 : decode cX3_areAtMost 1 = .ok (.ifCond .lt 22, 3) := dq_155 (dst 1 rd_prog_5_method_4_code_0 rfl) (by decide +kernel)
theorem dX3_areAtMost_4 : decode cX3_areAtMost 4 = .ok (.iload_n 0, 1) := dq_26 (dst 4 rd_prog_5_method_4_code_0 rfl)
theorem dX3_areAtMost_5 : decode cX3_areAtMost 5 = .ok (.sipush 999, 3) := dq_17 (dst 5 rd_prog_5_method_4_code_0 rfl) (by decide +kernel)
theorem dX3_areAtMost_8 : decode cX3_areAtMost 8 = .ok (.if_icmp .gt 15, 3) := dq_163 (dst 8 rd_prog_5_method_4_code_0 rfl) (by decide +kernel)
theorem dX3_areAtMost_11 : decode cX3_areAtMost 11 = .ok (.iload_n 0, 1) := dq_26 (dst 11 rd_prog_5_method_4_code_0 rfl)
theorem dX3_areAtMost_12 : decode cX3_areAtMost 12 = .ok (.invokestatic 9, 3) := dq_184 (dst 12 rd_prog_5_method_4_code_0 rfl) rfl
theorem dX3_areAtMost_15 : decode cX3_areAtMost 15 = .ok (.iload_n 1, 1) := dq_27 (dst 15 rd_prog_5_method_4_code_0 rfl)
theorem dX3_areAtMost_16 : decode cX3_areAtMost 16 = .ok (.if_icmp .gt 7, 3) := dq_163 (dst 16 rd_prog_5_method_4_code_0 rfl) (by decide +kernel)
theorem dX3_areAtMost_19 : decode cX3_areAtMost 19 = .ok (.iconst 1, 1) := dq_4 (dst 19 rd_prog_5_method_4_code_0 rfl)
theorem dX3_areAtMost_20 : decode cX3_areAtMost 20 = .ok (.goto 4, 3) := dq_167 (dst 20 rd_prog_5_method_4_code_0 rfl) (by decide +kernel)
theorem dX3_areAtMost_23 : decode cX3_areAtMost 23 = .ok (.iconst 0, 1) := dq_3 (dst 23 rd_prog_5_method_4_code_0 rfl)
theorem dX3_areAtMost_24 : decode cX3_areAtMost 24 = .ok (.ireturn, 1) := dq_172 (dst 24 rd_prog_5_method_4_code_0 rfl)
theorem dX3_areLeavers_0 : decode cX3_areLeavers 0 = .ok (.iload_n 0, 1) := dq_26 (dst 0 rd_prog_5_method_5_code_0 rfl)
theorem dX3_areLeavers_1 : decode cX3_areLeavers 1 = .ok (.ifCond .lt 33, 3) := dq_155 (dst 1 rd_prog_5_method_5_code_0 rfl) (by decide +kernel)
theorem dX3_areLeavers_4 : decode cX3_areLeavers 4 = .ok (.iload_n 0, 1) := dq_26 (dst 4 rd_prog_5_method_5_code_0 rfl)
theorem dX3_areLeavers_5 : decode cX3_areLeavers 5 = .ok (.sipush 444, 3) := dq_17 (dst 5 rd_prog_5_method_5_code_0 rfl) (by decide +kernel)
theorem dX3_areLeavers_8 : decode cX3_areLeavers 8 = .ok (.if_icmp .gt 26, 3) := dq_163 (dst 8 rd_prog_5_method_5_code_0 rfl) (by decide +kernel)
theorem dX3_areLeavers_11 : decode cX3_areLeavers 11 = .ok (.iload_n 0, 1) := dq_26 (dst 11 rd_prog_5_method_5_code_0 rfl)
theorem dX3_areLeavers_12 : decode cX3_areLeavers 12 = .ok (.bipush 10, 2) := dq_16 (dst 12 rd_prog_5_method_5_code_0 rfl) (by decide +kernel)
theorem dX3_areLeavers_14 : decode cX3_areLeavers 14 = .ok (.idiv, 1) := dq_108 (dst 14 rd_prog_5_method_5_code_0 rfl)
theorem dX3_areLeavers_15 : decode cX3_areLeavers 15 = .ok (.bipush 10, 2) := dq_16 (dst 15 rd_prog_5_method_5_code_0 rfl) (by decide +kernel)
theorem dX3_areLeavers_17 : decode cX3_areLeavers 17 = .ok (.irem, 1) := dq_112 (dst 17 rd_prog_5_method_5_code_0 rfl)
theorem dX3_areLeavers_18 : decode cX3_areLeavers 18 = .ok (.iconst 4, 1) := dq_7 (dst 18 rd_prog_5_method_5_code_0 rfl)
theorem dX3_areLeavers_19 : decode cX3_areLeavers 19 = .ok (.if_icmp .gt 15, 3) := dq_163 (dst 19 rd_prog_5_method_5_code_0 rfl) (by decide +kernel)
theorem dX3_areLeavers_22 : decode cX3_areLeavers 22 = .ok (.iload_n 0, 1) := dq_26 (dst 22 rd_prog_5_method_5_code_0 rfl)
theorem dX3_areLeavers_23 : decode cX3_areLeavers 23 = .ok (.bipush 10, 2) := dq_16 (dst 23 rd_prog_5_method_5_code_0 rfl) (by decide +kernel)
theorem dX3_areLeavers_25 : decode cX3_areLeavers 25 = .ok (.irem, 1) := dq_112 (dst 25 rd_prog_5_method_5_code_0 rfl)
theorem dX3_areLeavers_26 : decode cX3_areLeavers 26 = .ok (.iconst 4, 1) := dq_7 (dst 26 rd_prog_5_method_5_code_0 rfl)
theorem dX3_areLeavers_27 : decode cX3_areLeavers 27 = .ok (.if_icmp .gt 7, 3) := dq_163 (dst 27 rd_prog_5_method_5_code_0 rfl) (by decide +kernel)
theorem dX3_areLeavers_30 : decode cX3_areLeavers 30 = .ok (.iconst 1, 1) := dq_4 (dst 30 rd_prog_5_method_5_code_0 rfl)
theorem dX3_areLeavers_31 : decode cX3_areLeavers 31 = .ok (.goto 4, 3) := dq_167 (dst 31 rd_prog_5_method_5_code_0 rfl) (by decide +kernel)
theorem dX3_areLeavers_34 : decode cX3_areLeavers 34 = .ok (.iconst 0, 1) := dq_3 (dst 2 rd_prog_5_method_5_code_1 rfl)
theorem dX3_areLeavers_35 : decode cX3_areLeavers 35 = .ok (.ireturn, 1) := dq_172 (dst 3 rd_prog_5_method_5_code_1 rfl)
theorem dX3_kind_0 : decode cX3_kind 0 = .ok (.iload_n 0, 1) := dq_26 (dst 0 rd_prog_5_method_6_code_0 rfl)
theorem dX3_kind_1 : decode cX3_kind 1 = .ok (.bipush 100, 2) := dq_16 (dst 1 rd_prog_5_method_6_code_0 rfl) (by decide +kernel)
theorem dX3_kind_3 : decode cX3_kind 3 = .ok (.idiv, 1) := dq_108 (dst 3 rd_prog_5_method_6_code_0 rfl)
theorem dX3_kind_4 : decode cX3_kind 4 = .ok (.istore_n 1, 1) := dq_60 (dst 4 rd_prog_5_method_6_code_0 rfl)
theorem dX3_kind_5 : decode cX3_kind 5 = .ok (.iload_n 0, 1) := dq_26 (dst 5 rd_prog_5_method_6_code_0 rfl)
theorem dX3_kind_6 : decode cX3_kind 6 = .ok (.bipush 10, 2) := dq_16 (dst 6 rd_prog_5_method_6_code_0 rfl) (by decide +kernel)
theorem dX3_kind_8 : decode cX3_kind 8 = .ok (.idiv, 1) := dq_108 (dst 8 rd_prog_5_method_6_code_0 rfl)
theorem dX3_kind_9 : decode cX3_kind 9 = .ok (.bipush 10, 2) := dq_16 (dst 9 rd_prog_5_method_6_code_0 rfl) (by decide +kernel)
theorem dX3_kind_11 : decode cX3_kind 11 = .ok (.irem, 1) := dq_112 (dst 11 rd_prog_5_method_6_code_0 rfl)
theorem dX3_kind_12 : decode cX3_kind 12 = .ok (.istore_n 2, 1) := dq_61 (dst 12 rd_prog_5_method_6_code_0 rfl)
theorem dX3_kind_13 : decode cX3_kind 13 = .ok (.iload_n 2, 1) := dq_28 (dst 13 rd_prog_5_method_6_code_0 rfl)
theorem dX3_kind_14 : decode cX3_kind 14 = .ok (.iconst 5, 1) := dq_8 (dst 14 rd_prog_5_method_6_code_0 rfl)
theorem dX3_kind_15 : decode cX3_kind 15 = .ok (.iload_n 1, 1) := dq_27 (dst 15 rd_prog_5_method_6_code_0 rfl)
theorem dX3_kind_16 : decode cX3_kind 16 = .ok (.isub, 1) := dq_100 (dst 16 rd_prog_5_method_6_code_0 rfl)
theorem dX3_kind_17 : decode cX3_kind 17 = .ok (.imul, 1) := dq_104 (dst 17 rd_prog_5_method_6_code_0 rfl)
theorem dX3_kind_18 : decode cX3_kind 18 = .ok (.iload_n 2, 1) := dq_28 (dst 18 rd_prog_5_method_6_code_0 rfl)
theorem dX3_kind_19 : decode cX3_kind 19 = .ok (.iload_n 2, 1) := dq_28 (dst 19 rd_prog_5_method_6_code_0 rfl)
theorem dX3_kind_20 : decode cX3_kind 20 = .ok (.iconst 1, 1) := dq_4 (dst 20 rd_prog_5_method_6_code_0 rfl)
theorem dX3_kind_21 : decode cX3_kind 21 = .ok (.isub, 1) := dq_100 (dst 21 rd_prog_5_method_6_code_0 rfl)
theorem dX3_kind_22 : decode cX3_kind 22 = .ok (.imul, 1) := dq_104 (dst 22 rd_prog_5_method_6_code_0 rfl)
theorem dX3_kind_23 : decode cX3_kind 23 = .ok (.iconst 2, 1) := dq_5 (dst 23 rd_prog_5_method_6_code_0 rfl)
theorem dX3_kind_24 : decode cX3_kind 24 = .ok (.idiv, 1) := dq_108 (dst 24 rd_prog_5_method_6_code_0 rfl)
theorem dX3_kind_25 : decode cX3_kind 25 = .ok (.isub, 1) := dq_100 (dst 25 rd_prog_5_method_6_code_0 rfl)
theorem dX3_kind_26 : decode cX3_kind 26 = .ok (.istore_n 3, 1) := dq_62 (dst 26 rd_prog_5_method_6_code_0 rfl)
theorem dX3_kind_27 : decode cX3_kind 27 = .ok (.getstatic 15, 3) := dq_178 (dst 27 rd_prog_5_method_6_code_0 rfl) rfl
theorem dX3_kind_30 : decode cX3_kind 30 = .ok (.iload_n 1, 1) := dq_27 (dst 30 rd_prog_5_method_6_code_0 rfl)
theorem dX3_kind_31 : decode cX3_kind 31 = .ok (.iaload, 1) := dq_46 (dst 31 rd_prog_5_method_6_code_0 rfl)
theorem dX3_kind_32 : decode cX3_kind 32 = .ok (.iload_n 3, 1) := dq_29 (dst 0 rd_prog_5_method_6_code_1 rfl)
theorem dX3_kind_33 : decode cX3_kind 33 = .ok (.iadd, 1) := dq_96 (dst 1 rd_prog_5_method_6_code_1 rfl)
theorem dX3_kind_34 : decode cX3_kind 34 = .ok (.iload_n 0, 1) := dq_26 (dst 2 rd_prog_5_method_6_code_1 rfl)
theorem dX3_kind_35 : decode cX3_kind 35 = .ok (.bipush 10, 2) := dq_16 (dst 3 rd_prog_5_method_6_code_1 rfl) (by decide +kernel)
theorem dX3_kind_37 : decode cX3_kind 37 = .ok (.irem, 1) := dq_112 (dst 5 rd_prog_5_method_6_code_1 rfl)
theorem dX3_kind_38 : decode cX3_kind 38 = .ok (.iadd, 1) := dq_96 (dst 6 rd_prog_5_method_6_code_1 rfl)
theorem dX3_kind_39 : decode cX3_kind 39 = .ok (.ireturn, 1) := dq_172 (dst 7 rd_prog_5_method_6_code_1 rfl)
theorem dX3_has_0 : decode cX3_has 0 = .ok (.iload_n 1, 1) := dq_27 (dst 0 rd_prog_5_method_7_code_0 rfl)
theorem dX3_has_1 : decode cX3_has 1 = .ok (.bipush 100, 2) := dq_16 (dst 1 rd_prog_5_method_7_code_0 rfl) (by decide +kernel)
theorem dX3_has_3 : decode cX3_has 3 = .ok (.idiv, 1) := dq_108 (dst 3 rd_prog_5_method_7_code_0 rfl)
theorem dX3_has_4 : decode cX3_has 4 = .ok (.iload_n 0, 1) := dq_26 (dst 4 rd_prog_5_method_7_code_0 rfl)
theorem dX3_has_5 : decode cX3_has 5 = .ok (.bipush 100, 2) := dq_16 (dst 5 rd_prog_5_method_7_code_0 rfl) (by decide +kernel)
theorem dX3_has_7 : decode cX3_has 7 = .ok (.idiv, 1) := dq_108 (dst 7 rd_prog_5_method_7_code_0 rfl)
theorem dX3_has_8 : decode cX3_has 8 = .ok (.if_icmp .gt 35, 3) := dq_163 (dst 8 rd_prog_5_method_7_code_0 rfl) (by decide +kernel)
theorem dX3_has_11 : decode cX3_has 11 = .ok (.iload_n 1, 1) := dq_27 (dst 11 rd_prog_5_method_7_code_0 rfl)
theorem dX3_has_12 : decode cX3_has 12 = .ok (.bipush 10, 2) := dq_16 (dst 12 rd_prog_5_method_7_code_0 rfl) (by decide +kernel)
theorem dX3_has_14 : decode cX3_has 14 = .ok (.idiv, 1) := dq_108 (dst 14 rd_prog_5_method_7_code_0 rfl)
theorem dX3_has_15 : decode cX3_has 15 = .ok (.bipush 10, 2) := dq_16 (dst 15 rd_prog_5_method_7_code_0 rfl) (by decide +kernel)
theorem dX3_has_17 : decode cX3_has 17 = .ok (.irem, 1) := dq_112 (dst 17 rd_prog_5_method_7_code_0 rfl)
theorem dX3_has_18 : decode cX3_has 18 = .ok (.iload_n 0, 1) := dq_26 (dst 18 rd_prog_5_method_7_code_0 rfl)
theorem dX3_has_19 : decode cX3_has 19 = .ok (.bipush 10, 2) := dq_16 (dst 19 rd_prog_5_method_7_code_0 rfl) (by decide +kernel)
theorem dX3_has_21 : decode cX3_has 21 = .ok (.idiv, 1) := dq_108 (dst 21 rd_prog_5_method_7_code_0 rfl)
theorem dX3_has_22 : decode cX3_has 22 = .ok (.bipush 10, 2) := dq_16 (dst 22 rd_prog_5_method_7_code_0 rfl) (by decide +kernel)
theorem dX3_has_24 : decode cX3_has 24 = .ok (.irem, 1) := dq_112 (dst 24 rd_prog_5_method_7_code_0 rfl)
theorem dX3_has_25 : decode cX3_has 25 = .ok (.if_icmp .gt 18, 3) := dq_163 (dst 25 rd_prog_5_method_7_code_0 rfl) (by decide +kernel)
theorem dX3_has_28 : decode cX3_has 28 = .ok (.iload_n 1, 1) := dq_27 (dst 28 rd_prog_5_method_7_code_0 rfl)
theorem dX3_has_29 : decode cX3_has 29 = .ok (.bipush 10, 2) := dq_16 (dst 29 rd_prog_5_method_7_code_0 rfl) (by decide +kernel)
theorem dX3_has_31 : decode cX3_has 31 = .ok (.irem, 1) := dq_112 (dst 31 rd_prog_5_method_7_code_0 rfl)
theorem dX3_has_32 : decode cX3_has 32 = .ok (.iload_n 0, 1) := dq_26 (dst 0 rd_prog_5_method_7_code_1 rfl)
theorem dX3_has_33 : decode cX3_has 33 = .ok (.bipush 10, 2) := dq_16 (dst 1 rd_prog_5_method_7_code_1 rfl) (by decide +kernel)
theorem dX3_has_35 : decode cX3_has 35 = .ok (.irem, 1) := dq_112 (dst 3 rd_prog_5_method_7_code_1 rfl)
theorem dX3_has_36 : decode cX3_has 36 = .ok (.if_icmp .gt 7, 3) := dq_163 (dst 4 rd_prog_5_method_7_code_1 rfl) (by decide +kernel)
theorem dX3_has_39 : decode cX3_has 39 = .ok (.iconst 1, 1) := dq_4 (dst 7 rd_prog_5_method_7_code_1 rfl)
theorem dX3_has_40 : decode cX3_has 40 = .ok (.goto 4, 3) := dq_167 (dst 8 rd_prog_5_method_7_code_1 rfl) (by decide +kernel)
theorem dX3_has_43 : decode cX3_has 43 = .ok (.iconst 0, 1) := dq_3 (dst 11 rd_prog_5_method_7_code_1 rfl)
theorem dX3_has_44 : decode cX3_has 44 = .ok (.ireturn, 1) := dq_172 (dst 12 rd_prog_5_method_7_code_1 rfl)
theorem dX3_lessYoungestFirst_0 : decode cX3_lessYoungestFirst 0 = .ok (.iload_n 1, 1) := dq_27 (dst 0 rd_prog_5_method_8_code_0 rfl)
theorem dX3_lessYoungestFirst_1 : decode cX3_lessYoungestFirst 1 = .ok (.iload_n 0, 1) := dq_26 (dst 1 rd_prog_5_method_8_code_0 rfl)
theorem dX3_lessYoungestFirst_2 : decode cX3_lessYoungestFirst 2 = .ok (.bipush 100, 2) := dq_16 (dst 2 rd_prog_5_method_8_code_0 rfl) (by decide +kernel)
theorem dX3_lessYoungestFirst_4 : decode cX3_lessYoungestFirst 4 = .ok (.idiv, 1) := dq_108 (dst 4 rd_prog_5_method_8_code_0 rfl)
theorem dX3_lessYoungestFirst_5 : decode cX3_lessYoungestFirst 5 = .ok (.invokestatic 19, 3) := dq_184 (dst 5 rd_prog_5_method_8_code_0 rfl) rfl
theorem dX3_lessYoungestFirst_8 : decode cX3_lessYoungestFirst 8 = .ok (.istore_n 2, 1) := dq_61 (dst 8 rd_prog_5_method_8_code_0 rfl)
theorem dX3_lessYoungestFirst_9 : decode cX3_lessYoungestFirst 9 = .ok (.iload_n 1, 1) := dq_27 (dst 9 rd_prog_5_method_8_code_0 rfl)
theorem dX3_lessYoungestFirst_10 : decode cX3_lessYoungestFirst 10 = .ok (.iload_n 2, 1) := dq_28 (dst 10 rd_prog_5_method_8_code_0 rfl)
theorem dX3_lessYoungestFirst_11 : decode cX3_lessYoungestFirst 11 = .ok (.isub, 1) := dq_100 (dst 11 rd_prog_5_method_8_code_0 rfl)
theorem dX3_lessYoungestFirst_12 : decode cX3_lessYoungestFirst 12 = .ok (.iload_n 0, 1) := dq_26 (dst 12 rd_prog_5_method_8_code_0 rfl)
theorem dX3_lessYoungestFirst_13 : decode cX3_lessYoungestFirst 13 = .ok (.bipush 10, 2) := dq_16 (dst 13 rd_prog_5_method_8_code_0 rfl) (by decide +kernel)
theorem dX3_lessYoungestFirst_15 : decode cX3_lessYoungestFirst 15 = .ok (.idiv, 1) := dq_108 (dst 15 rd_prog_5_method_8_code_0 rfl)
theorem dX3_lessYoungestFirst_16 : decode cX3_lessYoungestFirst 16 = .ok (.bipush 10, 2) := dq_16 (dst 16 rd_prog_5_method_8_code_0 rfl) (by decide +kernel)
theorem dX3_lessYoungestFirst_18 : decode cX3_lessYoungestFirst 18 = .ok (.irem, 1) := dq_112 (dst 18 rd_prog_5_method_8_code_0 rfl)
theorem dX3_lessYoungestFirst_19 : decode cX3_lessYoungestFirst 19 = .ok (.invokestatic 19, 3) := dq_184 (dst 19 rd_prog_5_method_8_code_0 rfl) rfl
theorem dX3_lessYoungestFirst_22 : decode cX3_lessYoungestFirst 22 = .ok (.istore_n 3, 1) := dq_62 (dst 22 rd_prog_5_method_8_code_0 rfl)
theorem dX3_lessYoungestFirst_23 : decode cX3_lessYoungestFirst 23 = .ok (.iload_n 0, 1) := dq_26 (dst 23 rd_prog_5_method_8_code_0 rfl)
theorem dX3_lessYoungestFirst_24 : decode cX3_lessYoungestFirst 24 = .ok (.bipush 100, 2) := dq_16 (dst 24 rd_prog_5_method_8_code_0 rfl) (by decide +kernel)
theorem dX3_lessYoungestFirst_26 : decode cX3_lessYoungestFirst 26 = .ok (.iload_n 2, 1) := dq_28 (dst 26 rd_prog_5_method_8_code_0 rfl)
theorem dX3_lessYoungestFirst_27 : decode cX3_lessYoungestFirst 27 = .ok (.imul, 1) := dq_104 (dst 27 rd_prog_5_method_8_code_0 rfl)
theorem dX3_lessYoungestFirst_28 : decode cX3_lessYoungestFirst 28 = .ok (.isub, 1) := dq_100 (dst 28 rd_prog_5_method_8_code_0 rfl)
theorem dX3_lessYoungestFirst_29 : decode cX3_lessYoungestFirst 29 = .ok (.bipush 10, 2) := dq_16 (dst 29 rd_prog_5_method_8_code_0 rfl) (by decide +kernel)
theorem dX3_lessYoungestFirst_31 : decode cX3_lessYoungestFirst 31 = .ok (.iload_n 3, 1) := dq_29 (dst 31 rd_prog_5_method_8_code_0 rfl)
theorem dX3_lessYoungestFirst_32 : decode cX3_lessYoungestFirst 32 = .ok (.imul, 1) := dq_104 (dst 0 rd_prog_5_method_8_code_1 rfl)
theorem dX3_lessYoungestFirst_33 : decode cX3_lessYoungestFirst 33 = .ok (.isub, 1) := dq_100 (dst 1 rd_prog_5_method_8_code_1 rfl)
theorem dX3_lessYoungestFirst_34 : decode cX3_lessYoungestFirst 34 = .ok (.iload_n 1, 1) := dq_27 (dst 2 rd_prog_5_method_8_code_1 rfl)
theorem dX3_lessYoungestFirst_35 : decode cX3_lessYoungestFirst 35 = .ok (.iload_n 2, 1) := dq_28 (dst 3 rd_prog_5_method_8_code_1 rfl)
theorem dX3_lessYoungestFirst_36 : decode cX3_lessYoungestFirst 36 = .ok (.isub, 1) := dq_100 (dst 4 rd_prog_5_method_8_code_1 rfl)
theorem dX3_lessYoungestFirst_37 : decode cX3_lessYoungestFirst 37 = .ok (.iload_n 3, 1) := dq_29 (dst 5 rd_prog_5_method_8_code_1 rfl)
theorem dX3_lessYoungestFirst_38 : decode cX3_lessYoungestFirst 38 = .ok (.isub, 1) := dq_100 (dst 6 rd_prog_5_method_8_code_1 rfl)
theorem dX3_lessYoungestFirst_39 : decode cX3_lessYoungestFirst 39 = .ok (.isub, 1) := dq_100 (dst 7 rd_prog_5_method_8_code_1 rfl)
theorem dX3_lessYoungestFirst_40 : decode cX3_lessYoungestFirst 40 = .ok (.ireturn, 1) := dq_172 (dst 8 rd_prog_5_method_8_code_1 rfl)
theorem dX3_behindSunday_0 : decode cX3_behindSunday 0 = .ok (.iload_n 0, 1) := dq_26 (dst 0 rd_prog_5_method_9_code_0 rfl)
theorem dX3_behindSunday_1 : decode cX3_behindSunday 1 = .ok (.iload_n 1, 1) := dq_27 (dst 1 rd_prog_5_method_9_code_0 rfl)
theorem dX3_behindSunday_2 : decode cX3_behindSunday 2 = .ok (.isub, 1) := dq_100 (dst 2 rd_prog_5_method_9_code_0 rfl)
theorem dX3_behindSunday_3 : decode cX3_behindSunday 3 = .ok (.istore_n 2, 1) := dq_61 (dst 3 rd_prog_5_method_9_code_0 rfl)
theorem dX3_behindSunday_4 : decode cX3_behindSunday 4 = .ok (.bipush 10, 2) := dq_16 (dst 4 rd_prog_5_method_9_code_0 rfl) (by decide +kernel)
theorem dX3_behindSunday_6 : decode cX3_behindSunday 6 = .ok (.iload_n 2, 1) := dq_28 (dst 6 rd_prog_5_method_9_code_0 rfl)
theorem dX3_behindSunday_7 : decode cX3_behindSunday 7 = .ok (.bipush 100, 2) := dq_16 (dst 7 rd_prog_5_method_9_code_0 rfl) (by decide +kernel)
theorem dX3_behindSunday_9 : decode cX3_behindSunday 9 = .ok (.idiv, 1) := dq_108 (dst 9 rd_prog_5_method_9_code_0 rfl)
theorem dX3_behindSunday_10 : decode cX3_behindSunday 10 = .ok (.imul, 1) := dq_104 (dst 10 rd_prog_5_method_9_code_0 rfl)
theorem dX3_behindSunday_11 : decode cX3_behindSunday 11 = .ok (.iload_n 2, 1) := dq_28 (dst 11 rd_prog_5_method_9_code_0 rfl)
theorem dX3_behindSunday_12 : decode cX3_behindSunday 12 = .ok (.bipush 10, 2) := dq_16 (dst 12 rd_prog_5_method_9_code_0 rfl) (by decide +kernel)
theorem dX3_behindSunday_14 : decode cX3_behindSunday 14 = .ok (.idiv, 1) := dq_108 (dst 14 rd_prog_5_method_9_code_0 rfl)
theorem dX3_behindSunday_15 : decode cX3_behindSunday 15 = .ok (.bipush 10, 2) := dq_16 (dst 15 rd_prog_5_method_9_code_0 rfl) (by decide +kernel)
theorem dX3_behindSunday_17 : decode cX3_behindSunday 17 = .ok (.irem, 1) := dq_112 (dst 17 rd_prog_5_method_9_code_0 rfl)
theorem dX3_behindSunday_18 : decode cX3_behindSunday 18 = .ok (.iadd, 1) := dq_96 (dst 18 rd_prog_5_method_9_code_0 rfl)
theorem dX3_behindSunday_19 : decode cX3_behindSunday 19 = .ok (.iload_n 2, 1) := dq_28 (dst 19 rd_prog_5_method_9_code_0 rfl)
theorem dX3_behindSunday_20 : decode cX3_behindSunday 20 = .ok (.bipush 10, 2) := dq_16 (dst 20 rd_prog_5_method_9_code_0 rfl) (by decide +kernel)
theorem dX3_behindSunday_22 : decode cX3_behindSunday 22 = .ok (.irem, 1) := dq_112 (dst 22 rd_prog_5_method_9_code_0 rfl)
theorem dX3_behindSunday_23 : decode cX3_behindSunday 23 = .ok (.iadd, 1) := dq_96 (dst 23 rd_prog_5_method_9_code_0 rfl)
theorem dX3_behindSunday_24 : decode cX3_behindSunday 24 = .ok (.ireturn, 1) := dq_172 (dst 24 rd_prog_5_method_9_code_0 rfl)
theorem lf_X4_init_1 : ∀ w ∈ wsX4_init_r1, w ∈ wsX4_init := fun _ h => (List.mem_cons_of_mem _ (List.mem_append_left _ (List.mem_append_left _ h)))
theorem lf_X4_init_2 : ∀ w ∈ wsX4_init_r2, w ∈ wsX4_init := fun _ h => (List.mem_cons_of_mem _ (List.mem_append_left _ (List.mem_append_right _ h)))
theorem lf_X4_init_3 : ∀ w ∈ wsX40, w ∈ wsX4_init := fun _ h => (List.mem_cons_of_mem _ (List.mem_append_right _ h))
set_option maxRecDepth 20000 in
theorem ggX4_init_X4_clear : GoodIn wsX4_init wsX4_clear := (gd_cons (lf_X4_init_1 _ (List.mem_of_getElem? (i := 13) rfl)) rfl (goodIn_app (gd_cons (lf_X4_init_1 _ (List.mem_of_getElem? (i := 14) rfl)) rfl (gd_cons (lf_X4_init_1 _ (List.mem_of_getElem? (i := 15) rfl)) rfl (gd_cons (lf_X4_init_1 _ (List.mem_of_getElem? (i := 4) rfl)) rfl (gd_cons (lf_X4_init_1 _ (List.mem_of_getElem? (i := 5) rfl)) rfl (gd_cons (lf_X4_init_1 _ (List.mem_of_getElem? (i := 6) rfl)) rfl (gd_cons (lf_X4_init_1 _ (List.mem_of_getElem? (i := 7) rfl)) rfl (gd_cons (lf_X4_init_1 _ (List.mem_of_getElem? (i := 16) rfl)) rfl (gd_cons (lf_X4_init_1 _ (List.mem_of_getElem? (i := 17) rfl)) rfl (gd_cons (lf_X4_init_1 _ (List.mem_of_getElem? (i := 18) rfl)) rfl (gd_cons (lf_X4_init_1 _ (List.mem_of_getElem? (i := 19) rfl)) rfl (gd_cons (lf_X4_init_1 _ (List.mem_of_getElem? (i := 20) rfl)) rfl (gd_cons (lf_X4_init_1 _ (List.mem_of_getElem? (i := 21) rfl)) rfl (gd_cons (lf_X4_init_1 _ (List.mem_of_getElem? (i := 22) rfl)) rfl (gd_cons (lf_X4_init_1 _ (List.mem_of_getElem? (i := 23) rfl)) rfl (gd_cons (lf_X4_init_2 _ (List.mem_of_getElem? (i := 0) rfl)) rfl (gd_cons (lf_X4_init_2 _ (List.mem_of_getElem? (i := 1) rfl)) rfl (gd_cons (lf_X4_init_2 _ (List.mem_of_getElem? (i := 2) rfl)) rfl (gd_nil _)))))))))))))))))) (goodIn_sub lf_X4_init_3 ga_wsX40)))
set_option maxRecDepth 20000 in
theorem gX4_init_X4_clear : GoodIn wsX4_init (wsV RX4 29 RX4 yX4_clear wsX4_clear) := goodIn_app (gd_cons (lf_X4_init_1 _ (List.mem_of_getElem? (i := 9) rfl)) rfl (gd_cons (lf_X4_init_1 _ (List.mem_of_getElem? (i := 10) rfl)) rfl (gd_cons (lf_X4_init_1 _ (List.mem_of_getElem? (i := 11) rfl)) rfl (gd_cons (lf_X4_init_1 _ (List.mem_of_getElem? (i := 12) rfl)) rfl (gd_nil _))))) ggX4_init_X4_clear
theorem dX4_init_0 : decode cX4_init 0 = .ok (.aload_n 0, 1) := dq_42 (dst 0 rd_prog_6_method_1_code_0 rfl)
theorem dX4_init_1 : decode cX4_init 1 = .ok (.invokespecial 3, 3) := dq_183 (dst 1 rd_prog_6_method_1_code_0 rfl) rfl
theorem dX4_init_4 : decode cX4_init 4 = .ok (.aload_n 0, 1) := dq_42 (dst 4 rd_prog_6_method_1_code_0 rfl)
theorem dX4_init_5 : decode cX4_init 5 = .ok (.iconst 5, 1) := dq_8 (dst 5 rd_prog_6_method_1_code_0 rfl)
theorem dX4_init_6 : decode cX4_init 6 = .ok (.newarray .int, 2) := dq_188_10 (dst 6 rd_prog_6_method_1_code_0 rfl)
theorem dX4_init_8 : decode cX4_init 8 = .ok (.putfield 9, 3) := dq_181 (dst 8 rd_prog_6_method_1_code_0 rfl) rfl
theorem dX4_init_11 : decode cX4_init 11 = .ok (.aload_n 0, 1) := dq_42 (dst 11 rd_prog_6_method_1_code_0 rfl)
theorem dX4_init_12 : decode cX4_init 12 = .ok (.iconst 5, 1) := dq_8 (dst 12 rd_prog_6_method_1_code_0 rfl)
theorem dX4_init_13 : decode cX4_init 13 = .ok (.newarray .int, 2) := dq_188_10 (dst 13 rd_prog_6_method_1_code_0 rfl)
theorem dX4_init_15 : decode cX4_init 15 = .ok (.putfield 15, 3) := dq_181 (dst 15 rd_prog_6_method_1_code_0 rfl) rfl
theorem dX4_init_18 : decode cX4_init 18 = .ok (.aload_n 0, 1) := dq_42 (dst 18 rd_prog_6_method_1_code_0 rfl)
theorem dX4_init_19 : decode cX4_init 19 = .ok (.iconst 3, 1) := dq_6 (dst 19 rd_prog_6_method_1_code_0 rfl)
theorem dX4_init_20 : decode cX4_init 20 = .ok (.newarray .int, 2) := dq_188_10 (dst 20 rd_prog_6_method_1_code_0 rfl)
theorem dX4_init_22 : decode cX4_init 22 = .ok (.putfield 18, 3) := dq_181 (dst 22 rd_prog_6_method_1_code_0 rfl) rfl
theorem dX4_init_25 : decode cX4_init 25 = .ok (.aload_n 0, 1) := dq_42 (dst 25 rd_prog_6_method_1_code_0 rfl)
theorem dX4_init_26 : decode cX4_init 26 = .ok (.iconst 3, 1) := dq_6 (dst 26 rd_prog_6_method_1_code_0 rfl)
theorem dX4_init_27 : decode cX4_init 27 = .ok (.newarray .int, 2) := dq_188_10 (dst 27 rd_prog_6_method_1_code_0 rfl)
theorem dX4_init_29 : decode cX4_init 29 = .ok (.putfield 21, 3) := dq_181 (dst 29 rd_prog_6_method_1_code_0 rfl) rfl
theorem dX4_init_32 : decode cX4_init 32 = .ok (.aload_n 0, 1) := dq_42 (dst 0 rd_prog_6_method_1_code_1 rfl)
theorem dX4_init_33 : decode cX4_init 33 = .ok (.sipush 525, 3) := dq_17 (dst 1 rd_prog_6_method_1_code_1 rfl) (by decide +kernel)
theorem dX4_init_36 : decode cX4_init 36 = .ok (.newarray .int, 2) := dq_188_10 (dst 4 rd_prog_6_method_1_code_1 rfl)
theorem dX4_init_38 : decode cX4_init 38 = .ok (.putfield 26, 3) := dq_181 (dst 6 rd_prog_6_method_1_code_1 rfl) rfl
theorem dX4_init_41 : decode cX4_init 41 = .ok (.aload_n 0, 1) := dq_42 (dst 9 rd_prog_6_method_1_code_1 rfl)
theorem dX4_init_42 : decode cX4_init 42 = .ok (.invokevirtual 29, 3) := dq_182 (dst 10 rd_prog_6_method_1_code_1 rfl) rfl
theorem dX4_init_45 : decode cX4_init 45 = .ok (.return_, 1) := dq_177 (dst 13 rd_prog_6_method_1_code_1 rfl)
theorem lf_X4_clear_1 : ∀ w ∈ ([Cond.fieldLink RX4 32 "StillInAugust$House" "weeks" "I", Cond.fieldLink RX4 36 "StillInAugust$House" "hooks" "I", Cond.fieldLink RX4 9 "StillInAugust$House" "wants" "[I", Cond.fieldLink RX4 15 "StillInAugust$House" "offers" "[I", Cond.fieldLink RX4 18 "StillInAugust$House" "goes" "[I", Cond.fieldLink RX4 21 "StillInAugust$House" "does" "[I", Cond.fieldLink RX4 45 "StillInAugust$House" "pay" "I", Cond.fieldLink RX4 48 "StillInAugust$House" "shortPrice" "I", Cond.fieldLink RX4 51 "StillInAugust$House" "letGoPrice" "I", Cond.fieldLink RX4 54 "StillInAugust$House" "teachPrice" "I", Cond.fieldLink RX4 57 "StillInAugust$House" "agencyPrice" "I", Cond.fieldLink RX4 60 "StillInAugust$House" "bonus" "I", Cond.fieldLink RX4 63 "StillInAugust$House" "fifthsLess" "I", Cond.methodLink RX4 39 yJ7_fill_53178, Cond.static yJ7_fill_53178, Cond.initialized RJ7, Cond.code yJ7_fill_53178 cJ7_fill_53178 4 none] : List Cond), w ∈ wsX4_clear := fun _ h => (List.mem_cons_of_mem _ (List.mem_append_left _ h))
theorem lf_X4_clear_2 : ∀ w ∈ wsX40, w ∈ wsX4_clear := fun _ h => (List.mem_cons_of_mem _ (List.mem_append_right _ h))
set_option maxRecDepth 20000 in
theorem ggX4_clear_J7_fill_53178 : GoodIn wsX4_clear wsJ7_fill_53178 := (gd_cons (lf_X4_clear_1 _ (List.mem_of_getElem? (i := 16) rfl)) rfl (gd_nil _))
set_option maxRecDepth 20000 in
theorem gX4_clear_J7_fill_53178 : GoodIn wsX4_clear (va_wsS RX4 39 yJ7_fill_53178 wsJ7_fill_53178) := goodIn_app (gd_cons (lf_X4_clear_1 _ (List.mem_of_getElem? (i := 13) rfl)) rfl (gd_cons (lf_X4_clear_1 _ (List.mem_of_getElem? (i := 14) rfl)) rfl (gd_cons (lf_X4_clear_1 _ (List.mem_of_getElem? (i := 15) rfl)) rfl (gd_nil _)))) ggX4_clear_J7_fill_53178
theorem dX4_clear_0 : decode cX4_clear 0 = .ok (.aload_n 0, 1) := dq_42 (dst 0 rd_prog_6_method_2_code_0 rfl)
theorem dX4_clear_1 : decode cX4_clear 1 = .ok (.iconst 1, 1) := dq_4 (dst 1 rd_prog_6_method_2_code_0 rfl)
theorem dX4_clear_2 : decode cX4_clear 2 = .ok (.putfield 32, 3) := dq_181 (dst 2 rd_prog_6_method_2_code_0 rfl) rfl
theorem dX4_clear_5 : decode cX4_clear 5 = .ok (.aload_n 0, 1) := dq_42 (dst 5 rd_prog_6_method_2_code_0 rfl)
theorem dX4_clear_6 : decode cX4_clear 6 = .ok (.iconst 2, 1) := dq_5 (dst 6 rd_prog_6_method_2_code_0 rfl)
theorem dX4_clear_7 : decode cX4_clear 7 = .ok (.putfield 36, 3) := dq_181 (dst 7 rd_prog_6_method_2_code_0 rfl) rfl
theorem dX4_clear_10 : decode cX4_clear 10 = .ok (.aload_n 0, 1) := dq_42 (dst 10 rd_prog_6_method_2_code_0 rfl)
theorem dX4_clear_11 : decode cX4_clear 11 = .ok (.getfield 9, 3) := dq_180 (dst 11 rd_prog_6_method_2_code_0 rfl) rfl
theorem dX4_clear_14 : decode cX4_clear 14 = .ok (.iconst 0, 1) := dq_3 (dst 14 rd_prog_6_method_2_code_0 rfl)
theorem dX4_clear_15 : decode cX4_clear 15 = .ok (.invokestatic 39, 3) := dq_184 (dst 15 rd_prog_6_method_2_code_0 rfl) rfl
theorem dX4_clear_18 : decode cX4_clear 18 = .ok (.aload_n 0, 1) := dq_42 (dst 18 rd_prog_6_method_2_code_0 rfl)
theorem dX4_clear_19 : decode cX4_clear 19 = .ok (.getfield 15, 3) := dq_180 (dst 19 rd_prog_6_method_2_code_0 rfl) rfl
theorem dX4_clear_22 : decode cX4_clear 22 = .ok (.iconst 1, 1) := dq_4 (dst 22 rd_prog_6_method_2_code_0 rfl)
theorem dX4_clear_23 : decode cX4_clear 23 = .ok (.invokestatic 39, 3) := dq_184 (dst 23 rd_prog_6_method_2_code_0 rfl) rfl
theorem dX4_clear_26 : decode cX4_clear 26 = .ok (.aload_n 0, 1) := dq_42 (dst 26 rd_prog_6_method_2_code_0 rfl)
theorem dX4_clear_27 : decode cX4_clear 27 = .ok (.getfield 18, 3) := dq_180 (dst 27 rd_prog_6_method_2_code_0 rfl) rfl
theorem dX4_clear_30 : decode cX4_clear 30 = .ok (.iconst 1, 1) := dq_4 (dst 30 rd_prog_6_method_2_code_0 rfl)
theorem dX4_clear_31 : decode cX4_clear 31 = .ok (.invokestatic 39, 3) := dq_184 (dst 31 rd_prog_6_method_2_code_0 rfl) rfl
theorem dX4_clear_34 : decode cX4_clear 34 = .ok (.aload_n 0, 1) := dq_42 (dst 2 rd_prog_6_method_2_code_1 rfl)
theorem dX4_clear_35 : decode cX4_clear 35 = .ok (.getfield 21, 3) := dq_180 (dst 3 rd_prog_6_method_2_code_1 rfl) rfl
theorem dX4_clear_38 : decode cX4_clear 38 = .ok (.iconst 4, 1) := dq_7 (dst 6 rd_prog_6_method_2_code_1 rfl)
theorem dX4_clear_39 : decode cX4_clear 39 = .ok (.invokestatic 39, 3) := dq_184 (dst 7 rd_prog_6_method_2_code_1 rfl) rfl
theorem dX4_clear_42 : decode cX4_clear 42 = .ok (.aload_n 0, 1) := dq_42 (dst 10 rd_prog_6_method_2_code_1 rfl)
theorem dX4_clear_43 : decode cX4_clear 43 = .ok (.iconst 1, 1) := dq_4 (dst 11 rd_prog_6_method_2_code_1 rfl)
theorem dX4_clear_44 : decode cX4_clear 44 = .ok (.putfield 45, 3) := dq_181 (dst 12 rd_prog_6_method_2_code_1 rfl) rfl
theorem dX4_clear_47 : decode cX4_clear 47 = .ok (.aload_n 0, 1) := dq_42 (dst 15 rd_prog_6_method_2_code_1 rfl)
theorem dX4_clear_48 : decode cX4_clear 48 = .ok (.iconst 1, 1) := dq_4 (dst 16 rd_prog_6_method_2_code_1 rfl)
theorem dX4_clear_49 : decode cX4_clear 49 = .ok (.putfield 48, 3) := dq_181 (dst 17 rd_prog_6_method_2_code_1 rfl) rfl
theorem dX4_clear_52 : decode cX4_clear 52 = .ok (.aload_n 0, 1) := dq_42 (dst 20 rd_prog_6_method_2_code_1 rfl)
theorem dX4_clear_53 : decode cX4_clear 53 = .ok (.bipush (-9), 2) := dq_16 (dst 21 rd_prog_6_method_2_code_1 rfl) (by decide +kernel)
theorem dX4_clear_55 : decode cX4_clear 55 = .ok (.putfield 51, 3) := dq_181 (dst 23 rd_prog_6_method_2_code_1 rfl) rfl
theorem dX4_clear_58 : decode cX4_clear 58 = .ok (.aload_n 0, 1) := dq_42 (dst 26 rd_prog_6_method_2_code_1 rfl)
theorem dX4_clear_59 : decode cX4_clear 59 = .ok (.bipush (-9), 2) := dq_16 (dst 27 rd_prog_6_method_2_code_1 rfl) (by decide +kernel)
theorem dX4_clear_61 : decode cX4_clear 61 = .ok (.putfield 54, 3) := dq_181 (dst 29 rd_prog_6_method_2_code_1 rfl) rfl
theorem dX4_clear_64 : decode cX4_clear 64 = .ok (.aload_n 0, 1) := dq_42 (dst 0 rd_prog_6_method_2_code_2 rfl)
theorem dX4_clear_65 : decode cX4_clear 65 = .ok (.bipush (-9), 2) := dq_16 (dst 1 rd_prog_6_method_2_code_2 rfl) (by decide +kernel)
theorem dX4_clear_67 : decode cX4_clear 67 = .ok (.putfield 57, 3) := dq_181 (dst 3 rd_prog_6_method_2_code_2 rfl) rfl
theorem dX4_clear_70 : decode cX4_clear 70 = .ok (.aload_n 0, 1) := dq_42 (dst 6 rd_prog_6_method_2_code_2 rfl)
theorem dX4_clear_71 : decode cX4_clear 71 = .ok (.bipush (-9), 2) := dq_16 (dst 7 rd_prog_6_method_2_code_2 rfl) (by decide +kernel)
theorem dX4_clear_73 : decode cX4_clear 73 = .ok (.putfield 60, 3) := dq_181 (dst 9 rd_prog_6_method_2_code_2 rfl) rfl
theorem dX4_clear_76 : decode cX4_clear 76 = .ok (.aload_n 0, 1) := dq_42 (dst 12 rd_prog_6_method_2_code_2 rfl)
theorem dX4_clear_77 : decode cX4_clear 77 = .ok (.iconst 0, 1) := dq_3 (dst 13 rd_prog_6_method_2_code_2 rfl)
theorem dX4_clear_78 : decode cX4_clear 78 = .ok (.putfield 63, 3) := dq_181 (dst 14 rd_prog_6_method_2_code_2 rfl) rfl
theorem dX4_clear_81 : decode cX4_clear 81 = .ok (.return_, 1) := dq_177 (dst 17 rd_prog_6_method_2_code_2 rfl)
theorem lf_X4_put_1 : ∀ w ∈ ([Cond.fieldLink RX4 36 "StillInAugust$House" "hooks" "I", Cond.fieldLink RX4 9 "StillInAugust$House" "wants" "[I", Cond.fieldLink RX4 15 "StillInAugust$House" "offers" "[I", Cond.fieldLink RX4 18 "StillInAugust$House" "goes" "[I", Cond.fieldLink RX4 21 "StillInAugust$House" "does" "[I", Cond.fieldLink RX4 45 "StillInAugust$House" "pay" "I", Cond.fieldLink RX4 48 "StillInAugust$House" "shortPrice" "I", Cond.methodLink RX4 66 yX4_putMeans, Cond.instanceMethod yX4_putMeans, Cond.selects RX4 yX4_putMeans yX4_putMeans, Cond.initialized RX4, Cond.code yX4_putMeans cX4_putMeans 4 none, Cond.fieldLink RX4 51 "StillInAugust$House" "letGoPrice" "I", Cond.fieldLink RX4 54 "StillInAugust$House" "teachPrice" "I", Cond.fieldLink RX4 57 "StillInAugust$House" "agencyPrice" "I", Cond.fieldLink RX4 60 "StillInAugust$House" "bonus" "I", Cond.fieldLink RX4 63 "StillInAugust$House" "fifthsLess" "I"] : List Cond), w ∈ wsX4_put := fun _ h => (List.mem_cons_of_mem _ (List.mem_append_left _ h))
theorem lf_X4_put_2 : ∀ w ∈ wsX40, w ∈ wsX4_put := fun _ h => (List.mem_cons_of_mem _ (List.mem_append_right _ h))
set_option maxRecDepth 20000 in
theorem ggX4_put_X4_putMeans : GoodIn wsX4_put wsX4_putMeans := (gd_cons (lf_X4_put_1 _ (List.mem_of_getElem? (i := 11) rfl)) rfl (goodIn_app (gd_cons (lf_X4_put_1 _ (List.mem_of_getElem? (i := 12) rfl)) rfl (gd_cons (lf_X4_put_1 _ (List.mem_of_getElem? (i := 13) rfl)) rfl (gd_cons (lf_X4_put_1 _ (List.mem_of_getElem? (i := 14) rfl)) rfl (gd_cons (lf_X4_put_1 _ (List.mem_of_getElem? (i := 15) rfl)) rfl (gd_cons (lf_X4_put_1 _ (List.mem_of_getElem? (i := 16) rfl)) rfl (gd_nil _)))))) (goodIn_sub lf_X4_put_2 ga_wsX40)))
set_option maxRecDepth 20000 in
theorem gX4_put_X4_putMeans : GoodIn wsX4_put (wsV RX4 66 RX4 yX4_putMeans wsX4_putMeans) := goodIn_app (gd_cons (lf_X4_put_1 _ (List.mem_of_getElem? (i := 7) rfl)) rfl (gd_cons (lf_X4_put_1 _ (List.mem_of_getElem? (i := 8) rfl)) rfl (gd_cons (lf_X4_put_1 _ (List.mem_of_getElem? (i := 9) rfl)) rfl (gd_cons (lf_X4_put_1 _ (List.mem_of_getElem? (i := 10) rfl)) rfl (gd_nil _))))) ggX4_put_X4_putMeans
theorem dX4_put_0 : decode cX4_put 0 = .ok (.iload_n 1, 1) := dq_27 (dst 0 rd_prog_6_method_3_code_0 rfl)
theorem dX4_put_1 : decode cX4_put 1 = .ok (.tableswitch 165 68 87 #[139, 165, 165, 165, 95, 165, 165, 165, 165, 165, 165, 119, 149, 129, 165, 157, 165, 165, 165, 103], 95) := by decide +kernel
theorem dX4_put_96 : decode cX4_put 96 = .ok (.aload_n 0, 1) := dq_42 (dst 0 rd_prog_6_method_3_code_3 rfl)
theorem dX4_put_97 : decode cX4_put 97 = .ok (.iload_n 3, 1) := dq_29 (dst 1 rd_prog_6_method_3_code_3 rfl)
theorem dX4_put_98 : decode cX4_put 98 = .ok (.putfield 36, 3) := dq_181 (dst 2 rd_prog_6_method_3_code_3 rfl) rfl
theorem dX4_put_101 : decode cX4_put 101 = .ok (.goto 73, 3) := dq_167 (dst 5 rd_prog_6_method_3_code_3 rfl) (by decide +kernel)
theorem dX4_put_104 : decode cX4_put 104 = .ok (.aload_n 0, 1) := dq_42 (dst 8 rd_prog_6_method_3_code_3 rfl)
theorem dX4_put_105 : decode cX4_put 105 = .ok (.getfield 9, 3) := dq_180 (dst 9 rd_prog_6_method_3_code_3 rfl) rfl
theorem dX4_put_108 : decode cX4_put 108 = .ok (.iload_n 2, 1) := dq_28 (dst 12 rd_prog_6_method_3_code_3 rfl)
theorem dX4_put_109 : decode cX4_put 109 = .ok (.bipush 10, 2) := dq_16 (dst 13 rd_prog_6_method_3_code_3 rfl) (by decide +kernel)
theorem dX4_put_111 : decode cX4_put 111 = .ok (.iload_n 3, 1) := dq_29 (dst 15 rd_prog_6_method_3_code_3 rfl)
theorem dX4_put_112 : decode cX4_put 112 = .ok (.imul, 1) := dq_104 (dst 16 rd_prog_6_method_3_code_3 rfl)
theorem dX4_put_113 : decode cX4_put 113 = .ok (.iload 4, 2) := dq_21 (dst 17 rd_prog_6_method_3_code_3 rfl) rfl
theorem dX4_put_115 : decode cX4_put 115 = .ok (.iadd, 1) := dq_96 (dst 19 rd_prog_6_method_3_code_3 rfl)
theorem dX4_put_116 : decode cX4_put 116 = .ok (.iastore, 1) := dq_79 (dst 20 rd_prog_6_method_3_code_3 rfl)
theorem dX4_put_117 : decode cX4_put 117 = .ok (.goto 57, 3) := dq_167 (dst 21 rd_prog_6_method_3_code_3 rfl) (by decide +kernel)
theorem dX4_put_120 : decode cX4_put 120 = .ok (.aload_n 0, 1) := dq_42 (dst 24 rd_prog_6_method_3_code_3 rfl)
theorem dX4_put_121 : decode cX4_put 121 = .ok (.getfield 15, 3) := dq_180 (dst 25 rd_prog_6_method_3_code_3 rfl) rfl
theorem dX4_put_124 : decode cX4_put 124 = .ok (.iload_n 2, 1) := dq_28 (dst 28 rd_prog_6_method_3_code_3 rfl)
theorem dX4_put_125 : decode cX4_put 125 = .ok (.iload_n 3, 1) := dq_29 (dst 29 rd_prog_6_method_3_code_3 rfl)
theorem dX4_put_126 : decode cX4_put 126 = .ok (.iastore, 1) := dq_79 (dst 30 rd_prog_6_method_3_code_3 rfl)
theorem dX4_put_127 : decode cX4_put 127 = .ok (.goto 47, 3) := dq_167 (dst 31 rd_prog_6_method_3_code_3 rfl) (by decide +kernel)
theorem dX4_put_130 : decode cX4_put 130 = .ok (.aload_n 0, 1) := dq_42 (dst 2 rd_prog_6_method_3_code_4 rfl)
theorem dX4_put_131 : decode cX4_put 131 = .ok (.getfield 18, 3) := dq_180 (dst 3 rd_prog_6_method_3_code_4 rfl) rfl
theorem dX4_put_134 : decode cX4_put 134 = .ok (.iload_n 2, 1) := dq_28 (dst 6 rd_prog_6_method_3_code_4 rfl)
theorem dX4_put_135 : decode cX4_put 135 = .ok (.iload_n 3, 1) := dq_29 (dst 7 rd_prog_6_method_3_code_4 rfl)
theorem dX4_put_136 : decode cX4_put 136 = .ok (.iastore, 1) := dq_79 (dst 8 rd_prog_6_method_3_code_4 rfl)
theorem dX4_put_137 : decode cX4_put 137 = .ok (.goto 37, 3) := dq_167 (dst 9 rd_prog_6_method_3_code_4 rfl) (by decide +kernel)
theorem dX4_put_140 : decode cX4_put 140 = .ok (.aload_n 0, 1) := dq_42 (dst 12 rd_prog_6_method_3_code_4 rfl)
theorem dX4_put_141 : decode cX4_put 141 = .ok (.getfield 21, 3) := dq_180 (dst 13 rd_prog_6_method_3_code_4 rfl) rfl
theorem dX4_put_144 : decode cX4_put 144 = .ok (.iload_n 2, 1) := dq_28 (dst 16 rd_prog_6_method_3_code_4 rfl)
theorem dX4_put_145 : decode cX4_put 145 = .ok (.iload_n 3, 1) := dq_29 (dst 17 rd_prog_6_method_3_code_4 rfl)
theorem dX4_put_146 : decode cX4_put 146 = .ok (.iastore, 1) := dq_79 (dst 18 rd_prog_6_method_3_code_4 rfl)
theorem dX4_put_147 : decode cX4_put 147 = .ok (.goto 27, 3) := dq_167 (dst 19 rd_prog_6_method_3_code_4 rfl) (by decide +kernel)
theorem dX4_put_150 : decode cX4_put 150 = .ok (.aload_n 0, 1) := dq_42 (dst 22 rd_prog_6_method_3_code_4 rfl)
theorem dX4_put_151 : decode cX4_put 151 = .ok (.iload_n 3, 1) := dq_29 (dst 23 rd_prog_6_method_3_code_4 rfl)
theorem dX4_put_152 : decode cX4_put 152 = .ok (.putfield 45, 3) := dq_181 (dst 24 rd_prog_6_method_3_code_4 rfl) rfl
theorem dX4_put_155 : decode cX4_put 155 = .ok (.goto 19, 3) := dq_167 (dst 27 rd_prog_6_method_3_code_4 rfl) (by decide +kernel)
theorem dX4_put_158 : decode cX4_put 158 = .ok (.aload_n 0, 1) := dq_42 (dst 30 rd_prog_6_method_3_code_4 rfl)
theorem dX4_put_159 : decode cX4_put 159 = .ok (.iload_n 3, 1) := dq_29 (dst 31 rd_prog_6_method_3_code_4 rfl)
theorem dX4_put_160 : decode cX4_put 160 = .ok (.putfield 48, 3) := dq_181 (dst 0 rd_prog_6_method_3_code_5 rfl) rfl
theorem dX4_put_163 : decode cX4_put 163 = .ok (.goto 11, 3) := dq_167 (dst 3 rd_prog_6_method_3_code_5 rfl) (by decide +kernel)
theorem dX4_put_166 : decode cX4_put 166 = .ok (.aload_n 0, 1) := dq_42 (dst 6 rd_prog_6_method_3_code_5 rfl)
theorem dX4_put_167 : decode cX4_put 167 = .ok (.iload_n 1, 1) := dq_27 (dst 7 rd_prog_6_method_3_code_5 rfl)
theorem dX4_put_168 : decode cX4_put 168 = .ok (.iload_n 3, 1) := dq_29 (dst 8 rd_prog_6_method_3_code_5 rfl)
theorem dX4_put_169 : decode cX4_put 169 = .ok (.iload 4, 2) := dq_21 (dst 9 rd_prog_6_method_3_code_5 rfl) rfl
theorem dX4_put_171 : decode cX4_put 171 = .ok (.invokevirtual 66, 3) := dq_182 (dst 11 rd_prog_6_method_3_code_5 rfl) rfl
theorem dX4_put_174 : decode cX4_put 174 = .ok (.return_, 1) := dq_177 (dst 14 rd_prog_6_method_3_code_5 rfl)
theorem dX4_putMeans_0 : decode cX4_putMeans 0 = .ok (.iload_n 1, 1) := dq_27 (dst 0 rd_prog_6_method_4_code_0 rfl)
theorem dX4_putMeans_1 : decode cX4_putMeans 1 = .ok (.lookupswitch 80 #[(65, 59), (66, 67), (71, 43), (84, 51)], 43) := by decide +kernel
theorem dX4_putMeans_44 : decode cX4_putMeans 44 = .ok (.aload_n 0, 1) := dq_42 (dst 12 rd_prog_6_method_4_code_1 rfl)
theorem dX4_putMeans_45 : decode cX4_putMeans 45 = .ok (.iload_n 2, 1) := dq_28 (dst 13 rd_prog_6_method_4_code_1 rfl)
theorem dX4_putMeans_46 : decode cX4_putMeans 46 = .ok (.putfield 51, 3) := dq_181 (dst 14 rd_prog_6_method_4_code_1 rfl) rfl
theorem dX4_putMeans_49 : decode cX4_putMeans 49 = .ok (.goto 32, 3) := dq_167 (dst 17 rd_prog_6_method_4_code_1 rfl) (by decide +kernel)
theorem dX4_putMeans_52 : decode cX4_putMeans 52 = .ok (.aload_n 0, 1) := dq_42 (dst 20 rd_prog_6_method_4_code_1 rfl)
theorem dX4_putMeans_53 : decode cX4_putMeans 53 = .ok (.iload_n 2, 1) := dq_28 (dst 21 rd_prog_6_method_4_code_1 rfl)
theorem dX4_putMeans_54 : decode cX4_putMeans 54 = .ok (.putfield 54, 3) := dq_181 (dst 22 rd_prog_6_method_4_code_1 rfl) rfl
theorem dX4_putMeans_57 : decode cX4_putMeans 57 = .ok (.goto 24, 3) := dq_167 (dst 25 rd_prog_6_method_4_code_1 rfl) (by decide +kernel)
theorem dX4_putMeans_60 : decode cX4_putMeans 60 = .ok (.aload_n 0, 1) := dq_42 (dst 28 rd_prog_6_method_4_code_1 rfl)
theorem dX4_putMeans_61 : decode cX4_putMeans 61 = .ok (.iload_n 2, 1) := dq_28 (dst 29 rd_prog_6_method_4_code_1 rfl)
theorem dX4_putMeans_62 : decode cX4_putMeans 62 = .ok (.putfield 57, 3) := dq_181 (dst 30 rd_prog_6_method_4_code_1 rfl) rfl
theorem dX4_putMeans_65 : decode cX4_putMeans 65 = .ok (.goto 16, 3) := dq_167 (dst 1 rd_prog_6_method_4_code_2 rfl) (by decide +kernel)
theorem dX4_putMeans_68 : decode cX4_putMeans 68 = .ok (.aload_n 0, 1) := dq_42 (dst 4 rd_prog_6_method_4_code_2 rfl)
theorem dX4_putMeans_69 : decode cX4_putMeans 69 = .ok (.iload_n 2, 1) := dq_28 (dst 5 rd_prog_6_method_4_code_2 rfl)
theorem dX4_putMeans_70 : decode cX4_putMeans 70 = .ok (.putfield 60, 3) := dq_181 (dst 6 rd_prog_6_method_4_code_2 rfl) rfl
theorem dX4_putMeans_73 : decode cX4_putMeans 73 = .ok (.aload_n 0, 1) := dq_42 (dst 9 rd_prog_6_method_4_code_2 rfl)
theorem dX4_putMeans_74 : decode cX4_putMeans 74 = .ok (.iload_n 3, 1) := dq_29 (dst 10 rd_prog_6_method_4_code_2 rfl)
theorem dX4_putMeans_75 : decode cX4_putMeans 75 = .ok (.putfield 63, 3) := dq_181 (dst 11 rd_prog_6_method_4_code_2 rfl) rfl
theorem dX4_putMeans_78 : decode cX4_putMeans 78 = .ok (.goto 3, 3) := dq_167 (dst 14 rd_prog_6_method_4_code_2 rfl) (by decide +kernel)
theorem dX4_putMeans_81 : decode cX4_putMeans 81 = .ok (.return_, 1) := dq_177 (dst 17 rd_prog_6_method_4_code_2 rfl)
theorem lf_X4_copy_1 : ∀ w ∈ wsX4_copy_r1, w ∈ wsX4_copy := fun _ h => (List.mem_cons_of_mem _ (List.mem_append_left _ (List.mem_append_left _ h)))
theorem lf_X4_copy_2 : ∀ w ∈ wsX4_copy_r2, w ∈ wsX4_copy := fun _ h => (List.mem_cons_of_mem _ (List.mem_append_left _ (List.mem_append_right _ (List.mem_append_left _ h))))
theorem lf_X4_copy_3 : ∀ w ∈ wsX4_copy_r3, w ∈ wsX4_copy := fun _ h => (List.mem_cons_of_mem _ (List.mem_append_left _ (List.mem_append_right _ (List.mem_append_right _ h))))
theorem lf_X4_copy_4 : ∀ w ∈ wsX40, w ∈ wsX4_copy := fun _ h => (List.mem_cons_of_mem _ (List.mem_append_right _ h))
set_option maxRecDepth 20000 in
theorem ggX4_copy_X4_settle : GoodIn wsX4_copy wsX4_settle := (gd_cons (lf_X4_copy_1 _ (List.mem_of_getElem? (i := 21) rfl)) rfl (goodIn_app (goodIn_app (gd_cons (lf_X4_copy_1 _ (List.mem_of_getElem? (i := 22) rfl)) rfl (gd_cons (lf_X4_copy_1 _ (List.mem_of_getElem? (i := 23) rfl)) rfl (gd_cons (lf_X4_copy_2 _ (List.mem_of_getElem? (i := 0) rfl)) rfl (gd_cons (lf_X4_copy_2 _ (List.mem_of_getElem? (i := 1) rfl)) rfl (gd_cons (lf_X4_copy_2 _ (List.mem_of_getElem? (i := 2) rfl)) rfl (gd_cons (lf_X4_copy_2 _ (List.mem_of_getElem? (i := 3) rfl)) rfl (gd_cons (lf_X4_copy_2 _ (List.mem_of_getElem? (i := 4) rfl)) rfl (gd_cons (lf_X4_copy_2 _ (List.mem_of_getElem? (i := 5) rfl)) rfl (gd_cons (lf_X4_copy_2 _ (List.mem_of_getElem? (i := 6) rfl)) rfl (gd_cons (lf_X4_copy_2 _ (List.mem_of_getElem? (i := 7) rfl)) rfl (gd_cons (lf_X4_copy_2 _ (List.mem_of_getElem? (i := 8) rfl)) rfl (gd_cons (lf_X4_copy_2 _ (List.mem_of_getElem? (i := 9) rfl)) rfl (gd_cons (lf_X4_copy_2 _ (List.mem_of_getElem? (i := 10) rfl)) rfl (gd_cons (lf_X4_copy_2 _ (List.mem_of_getElem? (i := 11) rfl)) rfl (gd_cons (lf_X4_copy_2 _ (List.mem_of_getElem? (i := 12) rfl)) rfl (gd_cons (lf_X4_copy_2 _ (List.mem_of_getElem? (i := 13) rfl)) rfl (gd_cons (lf_X4_copy_2 _ (List.mem_of_getElem? (i := 14) rfl)) rfl (gd_cons (lf_X4_copy_2 _ (List.mem_of_getElem? (i := 15) rfl)) rfl (gd_cons (lf_X4_copy_2 _ (List.mem_of_getElem? (i := 16) rfl)) rfl (gd_cons (lf_X4_copy_2 _ (List.mem_of_getElem? (i := 17) rfl)) rfl (gd_cons (lf_X4_copy_1 _ (List.mem_of_getElem? (i := 20) rfl)) rfl (gd_cons (lf_X4_copy_2 _ (List.mem_of_getElem? (i := 18) rfl)) rfl (gd_cons (lf_X4_copy_2 _ (List.mem_of_getElem? (i := 19) rfl)) rfl (gd_cons (lf_X4_copy_2 _ (List.mem_of_getElem? (i := 20) rfl)) rfl (gd_nil _))))))))))))))))))))))))) (gd_cons (lf_X4_copy_2 _ (List.mem_of_getElem? (i := 21) rfl)) rfl (gd_cons (lf_X4_copy_2 _ (List.mem_of_getElem? (i := 22) rfl)) rfl (gd_cons (lf_X4_copy_2 _ (List.mem_of_getElem? (i := 23) rfl)) rfl (gd_cons (lf_X4_copy_3 _ (List.mem_of_getElem? (i := 0) rfl)) rfl (gd_cons (lf_X4_copy_3 _ (List.mem_of_getElem? (i := 1) rfl)) rfl (gd_cons (lf_X4_copy_3 _ (List.mem_of_getElem? (i := 2) rfl)) rfl (gd_cons (lf_X4_copy_3 _ (List.mem_of_getElem? (i := 3) rfl)) rfl (gd_cons (lf_X4_copy_3 _ (List.mem_of_getElem? (i := 4) rfl)) rfl (gd_cons (lf_X4_copy_3 _ (List.mem_of_getElem? (i := 5) rfl)) rfl (gd_cons (lf_X4_copy_3 _ (List.mem_of_getElem? (i := 6) rfl)) rfl (gd_cons (lf_X4_copy_1 _ (List.mem_of_getElem? (i := 8) rfl)) rfl (gd_cons (lf_X4_copy_1 _ (List.mem_of_getElem? (i := 16) rfl)) rfl (gd_cons (lf_X4_copy_3 _ (List.mem_of_getElem? (i := 7) rfl)) rfl (gd_cons (lf_X4_copy_3 _ (List.mem_of_getElem? (i := 8) rfl)) rfl (gd_cons (lf_X4_copy_3 _ (List.mem_of_getElem? (i := 9) rfl)) rfl (gd_cons (lf_X4_copy_3 _ (List.mem_of_getElem? (i := 10) rfl)) rfl (gd_nil _)))))))))))))))))) (goodIn_sub lf_X4_copy_4 ga_wsX40)))
set_option maxRecDepth 20000 in
theorem gX4_copy_X4_settle : GoodIn wsX4_copy (wsV RX4 76 RX4 yX4_settle wsX4_settle) := goodIn_app (gd_cons (lf_X4_copy_1 _ (List.mem_of_getElem? (i := 17) rfl)) rfl (gd_cons (lf_X4_copy_1 _ (List.mem_of_getElem? (i := 18) rfl)) rfl (gd_cons (lf_X4_copy_1 _ (List.mem_of_getElem? (i := 19) rfl)) rfl (gd_cons (lf_X4_copy_1 _ (List.mem_of_getElem? (i := 20) rfl)) rfl (gd_nil _))))) ggX4_copy_X4_settle
theorem dX4_copy_0 : decode cX4_copy 0 = .ok (.aload_n 0, 1) := dq_42 (dst 0 rd_prog_6_method_5_code_0 rfl)
theorem dX4_copy_1 : decode cX4_copy 1 = .ok (.aload_n 1, 1) := dq_43 (dst 1 rd_prog_6_method_5_code_0 rfl)
theorem dX4_copy_2 : decode cX4_copy 2 = .ok (.getfield 32, 3) := dq_180 (dst 2 rd_prog_6_method_5_code_0 rfl) rfl
theorem dX4_copy_5 : decode cX4_copy 5 = .ok (.putfield 32, 3) := dq_181 (dst 5 rd_prog_6_method_5_code_0 rfl) rfl
theorem dX4_copy_8 : decode cX4_copy 8 = .ok (.aload_n 0, 1) := dq_42 (dst 8 rd_prog_6_method_5_code_0 rfl)
theorem dX4_copy_9 : decode cX4_copy 9 = .ok (.aload_n 1, 1) := dq_43 (dst 9 rd_prog_6_method_5_code_0 rfl)
theorem dX4_copy_10 : decode cX4_copy 10 = .ok (.getfield 36, 3) := dq_180 (dst 10 rd_prog_6_method_5_code_0 rfl) rfl
theorem dX4_copy_13 : decode cX4_copy 13 = .ok (.putfield 36, 3) := dq_181 (dst 13 rd_prog_6_method_5_code_0 rfl) rfl
theorem dX4_copy_16 : decode cX4_copy 16 = .ok (.aload_n 1, 1) := dq_43 (dst 16 rd_prog_6_method_5_code_0 rfl)
theorem dX4_copy_17 : decode cX4_copy 17 = .ok (.getfield 9, 3) := dq_180 (dst 17 rd_prog_6_method_5_code_0 rfl) rfl
theorem dX4_copy_20 : decode cX4_copy 20 = .ok (.iconst 0, 1) := dq_3 (dst 20 rd_prog_6_method_5_code_0 rfl)
theorem dX4_copy_21 : decode cX4_copy 21 = .ok (.aload_n 0, 1) := dq_42 (dst 21 rd_prog_6_method_5_code_0 rfl)
theorem dX4_copy_22 : decode cX4_copy 22 = .ok (.getfield 9, 3) := dq_180 (dst 22 rd_prog_6_method_5_code_0 rfl) rfl
theorem dX4_copy_25 : decode cX4_copy 25 = .ok (.iconst 0, 1) := dq_3 (dst 25 rd_prog_6_method_5_code_0 rfl)
theorem dX4_copy_26 : decode cX4_copy 26 = .ok (.iconst 5, 1) := dq_8 (dst 26 rd_prog_6_method_5_code_0 rfl)
theorem dX4_copy_27 : decode cX4_copy 27 = .ok (.invokestatic 70, 3) := dq_184 (dst 27 rd_prog_6_method_5_code_0 rfl) rfl
theorem dX4_copy_30 : decode cX4_copy 30 = .ok (.aload_n 1, 1) := dq_43 (dst 30 rd_prog_6_method_5_code_0 rfl)
theorem dX4_copy_31 : decode cX4_copy 31 = .ok (.getfield 15, 3) := dq_180 (dst 31 rd_prog_6_method_5_code_0 rfl) rfl
theorem dX4_copy_34 : decode cX4_copy 34 = .ok (.iconst 0, 1) := dq_3 (dst 2 rd_prog_6_method_5_code_1 rfl)
theorem dX4_copy_35 : decode cX4_copy 35 = .ok (.aload_n 0, 1) := dq_42 (dst 3 rd_prog_6_method_5_code_1 rfl)
theorem dX4_copy_36 : decode cX4_copy 36 = .ok (.getfield 15, 3) := dq_180 (dst 4 rd_prog_6_method_5_code_1 rfl) rfl
theorem dX4_copy_39 : decode cX4_copy 39 = .ok (.iconst 0, 1) := dq_3 (dst 7 rd_prog_6_method_5_code_1 rfl)
theorem dX4_copy_40 : decode cX4_copy 40 = .ok (.iconst 5, 1) := dq_8 (dst 8 rd_prog_6_method_5_code_1 rfl)
theorem dX4_copy_41 : decode cX4_copy 41 = .ok (.invokestatic 70, 3) := dq_184 (dst 9 rd_prog_6_method_5_code_1 rfl) rfl
theorem dX4_copy_44 : decode cX4_copy 44 = .ok (.aload_n 1, 1) := dq_43 (dst 12 rd_prog_6_method_5_code_1 rfl)
theorem dX4_copy_45 : decode cX4_copy 45 = .ok (.getfield 18, 3) := dq_180 (dst 13 rd_prog_6_method_5_code_1 rfl) rfl
theorem dX4_copy_48 : decode cX4_copy 48 = .ok (.iconst 0, 1) := dq_3 (dst 16 rd_prog_6_method_5_code_1 rfl)
theorem dX4_copy_49 : decode cX4_copy 49 = .ok (.aload_n 0, 1) := dq_42 (dst 17 rd_prog_6_method_5_code_1 rfl)
theorem dX4_copy_50 : decode cX4_copy 50 = .ok (.getfield 18, 3) := dq_180 (dst 18 rd_prog_6_method_5_code_1 rfl) rfl
theorem dX4_copy_53 : decode cX4_copy 53 = .ok (.iconst 0, 1) := dq_3 (dst 21 rd_prog_6_method_5_code_1 rfl)
theorem dX4_copy_54 : decode cX4_copy 54 = .ok (.iconst 3, 1) := dq_6 (dst 22 rd_prog_6_method_5_code_1 rfl)
theorem dX4_copy_55 : decode cX4_copy 55 = .ok (.invokestatic 70, 3) := dq_184 (dst 23 rd_prog_6_method_5_code_1 rfl) rfl
theorem dX4_copy_58 : decode cX4_copy 58 = .ok (.aload_n 1, 1) := dq_43 (dst 26 rd_prog_6_method_5_code_1 rfl)
theorem dX4_copy_59 : decode cX4_copy 59 = .ok (.getfield 21, 3) := dq_180 (dst 27 rd_prog_6_method_5_code_1 rfl) rfl
theorem dX4_copy_62 : decode cX4_copy 62 = .ok (.iconst 0, 1) := dq_3 (dst 30 rd_prog_6_method_5_code_1 rfl)
theorem dX4_copy_63 : decode cX4_copy 63 = .ok (.aload_n 0, 1) := dq_42 (dst 31 rd_prog_6_method_5_code_1 rfl)
theorem dX4_copy_64 : decode cX4_copy 64 = .ok (.getfield 21, 3) := dq_180 (dst 0 rd_prog_6_method_5_code_2 rfl) rfl
theorem dX4_copy_67 : decode cX4_copy 67 = .ok (.iconst 0, 1) := dq_3 (dst 3 rd_prog_6_method_5_code_2 rfl)
theorem dX4_copy_68 : decode cX4_copy 68 = .ok (.iconst 3, 1) := dq_6 (dst 4 rd_prog_6_method_5_code_2 rfl)
theorem dX4_copy_69 : decode cX4_copy 69 = .ok (.invokestatic 70, 3) := dq_184 (dst 5 rd_prog_6_method_5_code_2 rfl) rfl
theorem dX4_copy_72 : decode cX4_copy 72 = .ok (.aload_n 0, 1) := dq_42 (dst 8 rd_prog_6_method_5_code_2 rfl)
theorem dX4_copy_73 : decode cX4_copy 73 = .ok (.aload_n 1, 1) := dq_43 (dst 9 rd_prog_6_method_5_code_2 rfl)
theorem dX4_copy_74 : decode cX4_copy 74 = .ok (.getfield 45, 3) := dq_180 (dst 10 rd_prog_6_method_5_code_2 rfl) rfl
theorem dX4_copy_77 : decode cX4_copy 77 = .ok (.putfield 45, 3) := dq_181 (dst 13 rd_prog_6_method_5_code_2 rfl) rfl
theorem dX4_copy_80 : decode cX4_copy 80 = .ok (.aload_n 0, 1) := dq_42 (dst 16 rd_prog_6_method_5_code_2 rfl)
theorem dX4_copy_81 : decode cX4_copy 81 = .ok (.aload_n 1, 1) := dq_43 (dst 17 rd_prog_6_method_5_code_2 rfl)
theorem dX4_copy_82 : decode cX4_copy 82 = .ok (.getfield 48, 3) := dq_180 (dst 18 rd_prog_6_method_5_code_2 rfl) rfl
theorem dX4_copy_85 : decode cX4_copy 85 = .ok (.putfield 48, 3) := dq_181 (dst 21 rd_prog_6_method_5_code_2 rfl) rfl
theorem dX4_copy_88 : decode cX4_copy 88 = .ok (.aload_n 0, 1) := dq_42 (dst 24 rd_prog_6_method_5_code_2 rfl)
theorem dX4_copy_89 : decode cX4_copy 89 = .ok (.iload_n 2, 1) := dq_28 (dst 25 rd_prog_6_method_5_code_2 rfl)
theorem dX4_copy_90 : decode cX4_copy 90 = .ok (.iconst 1, 1) := dq_4 (dst 26 rd_prog_6_method_5_code_2 rfl)
theorem dX4_copy_91 : decode cX4_copy 91 = .ok (.iand, 1) := dq_126 (dst 27 rd_prog_6_method_5_code_2 rfl)
theorem dX4_copy_92 : decode cX4_copy 92 = .ok (.ifCond .eq 8, 3) := dq_153 (dst 28 rd_prog_6_method_5_code_2 rfl) (by decide +kernel)
theorem dX4_copy_95 : decode cX4_copy 95 = .ok (.bipush (-9), 2) := dq_16 (dst 31 rd_prog_6_method_5_code_2 rfl) (by decide +kernel)
theorem dX4_copy_97 : decode cX4_copy 97 = .ok (.goto 7, 3) := dq_167 (dst 1 rd_prog_6_method_5_code_3 rfl) (by decide +kernel)
theorem dX4_copy_100 : decode cX4_copy 100 = .ok (.aload_n 1, 1) := dq_43 (dst 4 rd_prog_6_method_5_code_3 rfl)
theorem dX4_copy_101 : decode cX4_copy 101 = .ok (.getfield 51, 3) := dq_180 (dst 5 rd_prog_6_method_5_code_3 rfl) rfl
theorem dX4_copy_104 : decode cX4_copy 104 = .ok (.putfield 51, 3) := dq_181 (dst 8 rd_prog_6_method_5_code_3 rfl) rfl
theorem dX4_copy_107 : decode cX4_copy 107 = .ok (.aload_n 0, 1) := dq_42 (dst 11 rd_prog_6_method_5_code_3 rfl)
theorem dX4_copy_108 : decode cX4_copy 108 = .ok (.iload_n 2, 1) := dq_28 (dst 12 rd_prog_6_method_5_code_3 rfl)
theorem dX4_copy_109 : decode cX4_copy 109 = .ok (.iconst 2, 1) := dq_5 (dst 13 rd_prog_6_method_5_code_3 rfl)
theorem dX4_copy_110 : decode cX4_copy 110 = .ok (.iand, 1) := dq_126 (dst 14 rd_prog_6_method_5_code_3 rfl)
theorem dX4_copy_111 : decode cX4_copy 111 = .ok (.ifCond .eq 8, 3) := dq_153 (dst 15 rd_prog_6_method_5_code_3 rfl) (by decide +kernel)
theorem dX4_copy_114 : decode cX4_copy 114 = .ok (.bipush (-9), 2) := dq_16 (dst 18 rd_prog_6_method_5_code_3 rfl) (by decide +kernel)
theorem dX4_copy_116 : decode cX4_copy 116 = .ok (.goto 7, 3) := dq_167 (dst 20 rd_prog_6_method_5_code_3 rfl) (by decide +kernel)
theorem dX4_copy_119 : decode cX4_copy 119 = .ok (.aload_n 1, 1) := dq_43 (dst 23 rd_prog_6_method_5_code_3 rfl)
theorem dX4_copy_120 : decode cX4_copy 120 = .ok (.getfield 54, 3) := dq_180 (dst 24 rd_prog_6_method_5_code_3 rfl) rfl
theorem dX4_copy_123 : decode cX4_copy 123 = .ok (.putfield 54, 3) := dq_181 (dst 27 rd_prog_6_method_5_code_3 rfl) rfl
theorem dX4_copy_126 : decode cX4_copy 126 = .ok (.aload_n 0, 1) := dq_42 (dst 30 rd_prog_6_method_5_code_3 rfl)
theorem dX4_copy_127 : decode cX4_copy 127 = .ok (.iload_n 2, 1) := dq_28 (dst 31 rd_prog_6_method_5_code_3 rfl)
theorem dX4_copy_128 : decode cX4_copy 128 = .ok (.iconst 4, 1) := dq_7 (dst 0 rd_prog_6_method_5_code_4 rfl)
theorem dX4_copy_129 : decode cX4_copy 129 = .ok (.iand, 1) := dq_126 (dst 1 rd_prog_6_method_5_code_4 rfl)
theorem dX4_copy_130 : decode cX4_copy 130 = .ok (.ifCond .eq 8, 3) := dq_153 (dst 2 rd_prog_6_method_5_code_4 rfl) (by decide +kernel)
theorem dX4_copy_133 : decode cX4_copy 133 = .ok (.bipush (-9), 2) := dq_16 (dst 5 rd_prog_6_method_5_code_4 rfl) (by decide +kernel)
theorem dX4_copy_135 : decode cX4_copy 135 = .ok (.goto 7, 3) := dq_167 (dst 7 rd_prog_6_method_5_code_4 rfl) (by decide +kernel)
theorem dX4_copy_138 : decode cX4_copy 138 = .ok (.aload_n 1, 1) := dq_43 (dst 10 rd_prog_6_method_5_code_4 rfl)
theorem dX4_copy_139 : decode cX4_copy 139 = .ok (.getfield 57, 3) := dq_180 (dst 11 rd_prog_6_method_5_code_4 rfl) rfl
theorem dX4_copy_142 : decode cX4_copy 142 = .ok (.putfield 57, 3) := dq_181 (dst 14 rd_prog_6_method_5_code_4 rfl) rfl
theorem dX4_copy_145 : decode cX4_copy 145 = .ok (.aload_n 0, 1) := dq_42 (dst 17 rd_prog_6_method_5_code_4 rfl)
theorem dX4_copy_146 : decode cX4_copy 146 = .ok (.iload_n 2, 1) := dq_28 (dst 18 rd_prog_6_method_5_code_4 rfl)
theorem dX4_copy_147 : decode cX4_copy 147 = .ok (.bipush 8, 2) := dq_16 (dst 19 rd_prog_6_method_5_code_4 rfl) (by decide +kernel)
theorem dX4_copy_149 : decode cX4_copy 149 = .ok (.iand, 1) := dq_126 (dst 21 rd_prog_6_method_5_code_4 rfl)
theorem dX4_copy_150 : decode cX4_copy 150 = .ok (.ifCond .eq 8, 3) := dq_153 (dst 22 rd_prog_6_method_5_code_4 rfl) (by decide +kernel)
theorem dX4_copy_153 : decode cX4_copy 153 = .ok (.bipush (-9), 2) := dq_16 (dst 25 rd_prog_6_method_5_code_4 rfl) (by decide +kernel)
theorem dX4_copy_155 : decode cX4_copy 155 = .ok (.goto 7, 3) := dq_167 (dst 27 rd_prog_6_method_5_code_4 rfl) (by decide +kernel)
theorem dX4_copy_158 : decode cX4_copy 158 = .ok (.aload_n 1, 1) := dq_43 (dst 30 rd_prog_6_method_5_code_4 rfl)
theorem dX4_copy_159 : decode cX4_copy 159 = .ok (.getfield 60, 3) := dq_180 (dst 31 rd_prog_6_method_5_code_4 rfl) rfl
theorem dX4_copy_162 : decode cX4_copy 162 = .ok (.putfield 60, 3) := dq_181 (dst 2 rd_prog_6_method_5_code_5 rfl) rfl
theorem dX4_copy_165 : decode cX4_copy 165 = .ok (.aload_n 0, 1) := dq_42 (dst 5 rd_prog_6_method_5_code_5 rfl)
theorem dX4_copy_166 : decode cX4_copy 166 = .ok (.iload_n 2, 1) := dq_28 (dst 6 rd_prog_6_method_5_code_5 rfl)
theorem dX4_copy_167 : decode cX4_copy 167 = .ok (.bipush 8, 2) := dq_16 (dst 7 rd_prog_6_method_5_code_5 rfl) (by decide +kernel)
theorem dX4_copy_169 : decode cX4_copy 169 = .ok (.iand, 1) := dq_126 (dst 9 rd_prog_6_method_5_code_5 rfl)
theorem dX4_copy_170 : decode cX4_copy 170 = .ok (.ifCond .eq 7, 3) := dq_153 (dst 10 rd_prog_6_method_5_code_5 rfl) (by decide +kernel)
theorem dX4_copy_173 : decode cX4_copy 173 = .ok (.iconst 0, 1) := dq_3 (dst 13 rd_prog_6_method_5_code_5 rfl)
theorem dX4_copy_174 : decode cX4_copy 174 = .ok (.goto 7, 3) := dq_167 (dst 14 rd_prog_6_method_5_code_5 rfl) (by decide +kernel)
theorem dX4_copy_177 : decode cX4_copy 177 = .ok (.aload_n 1, 1) := dq_43 (dst 17 rd_prog_6_method_5_code_5 rfl)
theorem dX4_copy_178 : decode cX4_copy 178 = .ok (.getfield 63, 3) := dq_180 (dst 18 rd_prog_6_method_5_code_5 rfl) rfl
theorem dX4_copy_181 : decode cX4_copy 181 = .ok (.putfield 63, 3) := dq_181 (dst 21 rd_prog_6_method_5_code_5 rfl) rfl
theorem dX4_copy_184 : decode cX4_copy 184 = .ok (.aload_n 0, 1) := dq_42 (dst 24 rd_prog_6_method_5_code_5 rfl)
theorem dX4_copy_185 : decode cX4_copy 185 = .ok (.invokevirtual 76, 3) := dq_182 (dst 25 rd_prog_6_method_5_code_5 rfl) rfl
theorem dX4_copy_188 : decode cX4_copy 188 = .ok (.return_, 1) := dq_177 (dst 28 rd_prog_6_method_5_code_5 rfl)
theorem lf_X4_settle_1 : ∀ w ∈ wsX4_settle_r1, w ∈ wsX4_settle := fun _ h => (List.mem_cons_of_mem _ (List.mem_append_left _ (List.mem_append_left _ h)))
theorem lf_X4_settle_2 : ∀ w ∈ wsX4_settle_r2, w ∈ wsX4_settle := fun _ h => (List.mem_cons_of_mem _ (List.mem_append_left _ (List.mem_append_right _ h)))
theorem lf_X4_settle_3 : ∀ w ∈ wsX40, w ∈ wsX4_settle := fun _ h => (List.mem_cons_of_mem _ (List.mem_append_right _ h))
set_option maxRecDepth 20000 in
theorem ggX4_settle_J7_fill_53178 : GoodIn wsX4_settle wsJ7_fill_53178 := (gd_cons (lf_X4_settle_1 _ (List.mem_of_getElem? (i := 5) rfl)) rfl (gd_nil _))
set_option maxRecDepth 20000 in
theorem gX4_settle_J7_fill_53178 : GoodIn wsX4_settle (va_wsS RX4 39 yJ7_fill_53178 wsJ7_fill_53178) := goodIn_app (gd_cons (lf_X4_settle_1 _ (List.mem_of_getElem? (i := 2) rfl)) rfl (gd_cons (lf_X4_settle_1 _ (List.mem_of_getElem? (i := 3) rfl)) rfl (gd_cons (lf_X4_settle_1 _ (List.mem_of_getElem? (i := 4) rfl)) rfl (gd_nil _)))) ggX4_settle_J7_fill_53178
set_option maxRecDepth 20000 in
theorem ggX4_settle_X3_has : GoodIn wsX4_settle wsX3_has := (gd_cons (lf_X4_settle_1 _ (List.mem_of_getElem? (i := 9) rfl)) rfl (gd_nil _))
set_option maxRecDepth 20000 in
theorem gX4_settle_X3_has : GoodIn wsX4_settle (va_wsS RX4 82 yX3_has wsX3_has) := goodIn_app (gd_cons (lf_X4_settle_1 _ (List.mem_of_getElem? (i := 6) rfl)) rfl (gd_cons (lf_X4_settle_1 _ (List.mem_of_getElem? (i := 7) rfl)) rfl (gd_cons (lf_X4_settle_1 _ (List.mem_of_getElem? (i := 8) rfl)) rfl (gd_nil _)))) ggX4_settle_X3_has
set_option maxRecDepth 20000 in
theorem ggX4_settle_X3_behindSunday : GoodIn wsX4_settle wsX3_behindSunday := (gd_cons (lf_X4_settle_1 _ (List.mem_of_getElem? (i := 12) rfl)) rfl (gd_nil _))
set_option maxRecDepth 20000 in
theorem gX4_settle_X3_behindSunday : GoodIn wsX4_settle (va_wsS RX4 86 yX3_behindSunday wsX3_behindSunday) := goodIn_app (gd_cons (lf_X4_settle_1 _ (List.mem_of_getElem? (i := 10) rfl)) rfl (gd_cons (lf_X4_settle_1 _ (List.mem_of_getElem? (i := 11) rfl)) rfl (gd_cons (lf_X4_settle_1 _ (List.mem_of_getElem? (i := 8) rfl)) rfl (gd_nil _)))) ggX4_settle_X3_behindSunday
set_option maxRecDepth 20000 in
theorem ggX4_settle_X3_kind : GoodIn wsX4_settle wsX3_kind := (gd_cons (lf_X4_settle_1 _ (List.mem_of_getElem? (i := 15) rfl)) rfl (gd_cons (lf_X4_settle_1 _ (List.mem_of_getElem? (i := 16) rfl)) rfl (gd_nil _)))
set_option maxRecDepth 20000 in
theorem gX4_settle_X3_kind : GoodIn wsX4_settle (va_wsS RX4 90 yX3_kind wsX3_kind) := goodIn_app (gd_cons (lf_X4_settle_1 _ (List.mem_of_getElem? (i := 13) rfl)) rfl (gd_cons (lf_X4_settle_1 _ (List.mem_of_getElem? (i := 14) rfl)) rfl (gd_cons (lf_X4_settle_1 _ (List.mem_of_getElem? (i := 8) rfl)) rfl (gd_nil _)))) ggX4_settle_X3_kind
set_option maxRecDepth 20000 in
theorem ggX4_settle_X4_leaving : GoodIn wsX4_settle wsX4_leaving := (gd_cons (lf_X4_settle_1 _ (List.mem_of_getElem? (i := 21) rfl)) rfl (goodIn_app (gd_cons (lf_X4_settle_1 _ (List.mem_of_getElem? (i := 22) rfl)) rfl (gd_cons (lf_X4_settle_1 _ (List.mem_of_getElem? (i := 23) rfl)) rfl (gd_cons (lf_X4_settle_1 _ (List.mem_of_getElem? (i := 6) rfl)) rfl (gd_cons (lf_X4_settle_1 _ (List.mem_of_getElem? (i := 7) rfl)) rfl (gd_cons (lf_X4_settle_1 _ (List.mem_of_getElem? (i := 8) rfl)) rfl (gd_cons (lf_X4_settle_1 _ (List.mem_of_getElem? (i := 9) rfl)) rfl (gd_cons (lf_X4_settle_2 _ (List.mem_of_getElem? (i := 0) rfl)) rfl (gd_cons (lf_X4_settle_2 _ (List.mem_of_getElem? (i := 1) rfl)) rfl (gd_cons (lf_X4_settle_2 _ (List.mem_of_getElem? (i := 2) rfl)) rfl (gd_cons (lf_X4_settle_2 _ (List.mem_of_getElem? (i := 3) rfl)) rfl (gd_cons (lf_X4_settle_2 _ (List.mem_of_getElem? (i := 4) rfl)) rfl (gd_cons (lf_X4_settle_2 _ (List.mem_of_getElem? (i := 5) rfl)) rfl (gd_cons (lf_X4_settle_2 _ (List.mem_of_getElem? (i := 6) rfl)) rfl (gd_cons (lf_X4_settle_2 _ (List.mem_of_getElem? (i := 7) rfl)) rfl (gd_cons (lf_X4_settle_2 _ (List.mem_of_getElem? (i := 8) rfl)) rfl (gd_cons (lf_X4_settle_1 _ (List.mem_of_getElem? (i := 20) rfl)) rfl (gd_cons (lf_X4_settle_2 _ (List.mem_of_getElem? (i := 9) rfl)) rfl (gd_cons (lf_X4_settle_2 _ (List.mem_of_getElem? (i := 10) rfl)) rfl (gd_cons (lf_X4_settle_2 _ (List.mem_of_getElem? (i := 11) rfl)) rfl (gd_cons (lf_X4_settle_2 _ (List.mem_of_getElem? (i := 12) rfl)) rfl (gd_cons (lf_X4_settle_2 _ (List.mem_of_getElem? (i := 13) rfl)) rfl (gd_cons (lf_X4_settle_2 _ (List.mem_of_getElem? (i := 14) rfl)) rfl (gd_cons (lf_X4_settle_2 _ (List.mem_of_getElem? (i := 15) rfl)) rfl (gd_nil _)))))))))))))))))))))))) (goodIn_sub lf_X4_settle_3 ga_wsX40)))
set_option maxRecDepth 20000 in
theorem gX4_settle_X4_leaving : GoodIn wsX4_settle (wsV RX4 94 RX4 yX4_leaving wsX4_leaving) := goodIn_app (gd_cons (lf_X4_settle_1 _ (List.mem_of_getElem? (i := 17) rfl)) rfl (gd_cons (lf_X4_settle_1 _ (List.mem_of_getElem? (i := 18) rfl)) rfl (gd_cons (lf_X4_settle_1 _ (List.mem_of_getElem? (i := 19) rfl)) rfl (gd_cons (lf_X4_settle_1 _ (List.mem_of_getElem? (i := 20) rfl)) rfl (gd_nil _))))) ggX4_settle_X4_leaving
theorem dX4_settle_0 : decode cX4_settle 0 = .ok (.aload_n 0, 1) := dq_42 (dst 0 rd_prog_6_method_6_code_0 rfl)
theorem dX4_settle_1 : decode cX4_settle 1 = .ok (.getfield 26, 3) := dq_180 (dst 1 rd_prog_6_method_6_code_0 rfl) rfl
theorem dX4_settle_4 : decode cX4_settle 4 = .ok (.iconst 0, 1) := dq_3 (dst 4 rd_prog_6_method_6_code_0 rfl)
theorem dX4_settle_5 : decode cX4_settle 5 = .ok (.invokestatic 39, 3) := dq_184 (dst 5 rd_prog_6_method_6_code_0 rfl) rfl
theorem dX4_settle_8 : decode cX4_settle 8 = .ok (.iconst 0, 1) := dq_3 (dst 8 rd_prog_6_method_6_code_0 rfl)
theorem dX4_settle_9 : decode cX4_settle 9 = .ok (.istore_n 1, 1) := dq_60 (dst 9 rd_prog_6_method_6_code_0 rfl)
theorem dX4_settle_10 : decode cX4_settle 10 = .ok (.iload_n 1, 1) := dq_27 (dst 10 rd_prog_6_method_6_code_0 rfl)
theorem dX4_settle_11 : decode cX4_settle 11 = .ok (.bipush 35, 2) := dq_16 (dst 11 rd_prog_6_method_6_code_0 rfl) (by decide +kernel)
theorem dX4_settle_13 : decode cX4_settle 13 = .ok (.if_icmp .ge 87, 3) := dq_162 (dst 13 rd_prog_6_method_6_code_0 rfl) (by decide +kernel)
theorem dX4_settle_16 : decode cX4_settle 16 = .ok (.getstatic 79, 3) := dq_178 (dst 16 rd_prog_6_method_6_code_0 rfl) rfl
theorem dX4_settle_19 : decode cX4_settle 19 = .ok (.iload_n 1, 1) := dq_27 (dst 19 rd_prog_6_method_6_code_0 rfl)
theorem dX4_settle_20 : decode cX4_settle 20 = .ok (.iaload, 1) := dq_46 (dst 20 rd_prog_6_method_6_code_0 rfl)
theorem dX4_settle_21 : decode cX4_settle 21 = .ok (.istore_n 2, 1) := dq_61 (dst 21 rd_prog_6_method_6_code_0 rfl)
theorem dX4_settle_22 : decode cX4_settle 22 = .ok (.getstatic 79, 3) := dq_178 (dst 22 rd_prog_6_method_6_code_0 rfl) rfl
theorem dX4_settle_25 : decode cX4_settle 25 = .ok (.astore_n 3, 1) := dq_78 (dst 25 rd_prog_6_method_6_code_0 rfl)
theorem dX4_settle_26 : decode cX4_settle 26 = .ok (.aload_n 3, 1) := dq_45 (dst 26 rd_prog_6_method_6_code_0 rfl)
theorem dX4_settle_27 : decode cX4_settle 27 = .ok (.arraylength, 1) := dq_190 (dst 27 rd_prog_6_method_6_code_0 rfl)
theorem dX4_settle_28 : decode cX4_settle 28 = .ok (.istore 4, 2) := dq_54 (dst 28 rd_prog_6_method_6_code_0 rfl) rfl
theorem dX4_settle_30 : decode cX4_settle 30 = .ok (.iconst 0, 1) := dq_3 (dst 30 rd_prog_6_method_6_code_0 rfl)
theorem dX4_settle_31 : decode cX4_settle 31 = .ok (.istore 5, 2) := dq_54 (dst 31 rd_prog_6_method_6_code_0 rfl) rfl
theorem dX4_settle_33 : decode cX4_settle 33 = .ok (.iload 5, 2) := dq_21 (dst 1 rd_prog_6_method_6_code_1 rfl) rfl
theorem dX4_settle_35 : decode cX4_settle 35 = .ok (.iload 4, 2) := dq_21 (dst 3 rd_prog_6_method_6_code_1 rfl) rfl
theorem dX4_settle_37 : decode cX4_settle 37 = .ok (.if_icmp .ge 57, 3) := dq_162 (dst 5 rd_prog_6_method_6_code_1 rfl) (by decide +kernel)
theorem dX4_settle_40 : decode cX4_settle 40 = .ok (.aload_n 3, 1) := dq_45 (dst 8 rd_prog_6_method_6_code_1 rfl)
theorem dX4_settle_41 : decode cX4_settle 41 = .ok (.iload 5, 2) := dq_21 (dst 9 rd_prog_6_method_6_code_1 rfl) rfl
theorem dX4_settle_43 : decode cX4_settle 43 = .ok (.iaload, 1) := dq_46 (dst 11 rd_prog_6_method_6_code_1 rfl)
theorem dX4_settle_44 : decode cX4_settle 44 = .ok (.istore 6, 2) := dq_54 (dst 12 rd_prog_6_method_6_code_1 rfl) rfl
theorem dX4_settle_46 : decode cX4_settle 46 = .ok (.iload_n 2, 1) := dq_28 (dst 14 rd_prog_6_method_6_code_1 rfl)
theorem dX4_settle_47 : decode cX4_settle 47 = .ok (.iload 6, 2) := dq_21 (dst 15 rd_prog_6_method_6_code_1 rfl) rfl
theorem dX4_settle_49 : decode cX4_settle 49 = .ok (.invokestatic 82, 3) := dq_184 (dst 17 rd_prog_6_method_6_code_1 rfl) rfl
theorem dX4_settle_52 : decode cX4_settle 52 = .ok (.ifCond .eq 36, 3) := dq_153 (dst 20 rd_prog_6_method_6_code_1 rfl) (by decide +kernel)
theorem dX4_settle_55 : decode cX4_settle 55 = .ok (.iload_n 2, 1) := dq_28 (dst 23 rd_prog_6_method_6_code_1 rfl)
theorem dX4_settle_56 : decode cX4_settle 56 = .ok (.iload 6, 2) := dq_21 (dst 24 rd_prog_6_method_6_code_1 rfl) rfl
theorem dX4_settle_58 : decode cX4_settle 58 = .ok (.invokestatic 86, 3) := dq_184 (dst 26 rd_prog_6_method_6_code_1 rfl) rfl
theorem dX4_settle_61 : decode cX4_settle 61 = .ok (.invokestatic 90, 3) := dq_184 (dst 29 rd_prog_6_method_6_code_1 rfl) rfl
theorem dX4_settle_64 : decode cX4_settle 64 = .ok (.istore 7, 2) := dq_54 (dst 0 rd_prog_6_method_6_code_2 rfl) rfl
theorem dX4_settle_66 : decode cX4_settle 66 = .ok (.aload_n 0, 1) := dq_42 (dst 2 rd_prog_6_method_6_code_2 rfl)
theorem dX4_settle_67 : decode cX4_settle 67 = .ok (.getfield 26, 3) := dq_180 (dst 3 rd_prog_6_method_6_code_2 rfl) rfl
theorem dX4_settle_70 : decode cX4_settle 70 = .ok (.iload_n 1, 1) := dq_27 (dst 6 rd_prog_6_method_6_code_2 rfl)
theorem dX4_settle_71 : decode cX4_settle 71 = .ok (.bipush 15, 2) := dq_16 (dst 7 rd_prog_6_method_6_code_2 rfl) (by decide +kernel)
theorem dX4_settle_73 : decode cX4_settle 73 = .ok (.imul, 1) := dq_104 (dst 9 rd_prog_6_method_6_code_2 rfl)
theorem dX4_settle_74 : decode cX4_settle 74 = .ok (.iload 7, 2) := dq_21 (dst 10 rd_prog_6_method_6_code_2 rfl) rfl
theorem dX4_settle_76 : decode cX4_settle 76 = .ok (.iadd, 1) := dq_96 (dst 12 rd_prog_6_method_6_code_2 rfl)
theorem dX4_settle_77 : decode cX4_settle 77 = .ok (.dup2, 1) := dq_92 (dst 13 rd_prog_6_method_6_code_2 rfl)
theorem dX4_settle_78 : decode cX4_settle 78 = .ok (.iaload, 1) := dq_46 (dst 14 rd_prog_6_method_6_code_2 rfl)
theorem dX4_settle_79 : decode cX4_settle 79 = .ok (.aload_n 0, 1) := dq_42 (dst 15 rd_prog_6_method_6_code_2 rfl)
theorem dX4_settle_80 : decode cX4_settle 80 = .ok (.iload_n 2, 1) := dq_28 (dst 16 rd_prog_6_method_6_code_2 rfl)
theorem dX4_settle_81 : decode cX4_settle 81 = .ok (.iload 6, 2) := dq_21 (dst 17 rd_prog_6_method_6_code_2 rfl) rfl
theorem dX4_settle_83 : decode cX4_settle 83 = .ok (.invokevirtual 94, 3) := dq_182 (dst 19 rd_prog_6_method_6_code_2 rfl) rfl
theorem dX4_settle_86 : decode cX4_settle 86 = .ok (.iadd, 1) := dq_96 (dst 22 rd_prog_6_method_6_code_2 rfl)
theorem dX4_settle_87 : decode cX4_settle 87 = .ok (.iastore, 1) := dq_79 (dst 23 rd_prog_6_method_6_code_2 rfl)
theorem dX4_settle_88 : decode cX4_settle 88 = .ok (.iinc 5 1, 3) := dq_132 (dst 24 rd_prog_6_method_6_code_2 rfl) rfl (by decide +kernel)
theorem dX4_settle_91 : decode cX4_settle 91 = .ok (.goto (-58), 3) := dq_167 (dst 27 rd_prog_6_method_6_code_2 rfl) (by decide +kernel)
theorem dX4_settle_94 : decode cX4_settle 94 = .ok (.iinc 1 1, 3) := dq_132 (dst 30 rd_prog_6_method_6_code_2 rfl) rfl (by decide +kernel)
theorem dX4_settle_97 : decode cX4_settle 97 = .ok (.goto (-87), 3) := dq_167 (dst 1 rd_prog_6_method_6_code_3 rfl) (by decide +kernel)
theorem dX4_settle_100 : decode cX4_settle 100 = .ok (.return_, 1) := dq_177 (dst 4 rd_prog_6_method_6_code_3 rfl)
theorem dX4_fifths_0 : decode cX4_fifths 0 = .ok (.iconst 0, 1) := dq_3 (dst 0 rd_prog_6_method_7_code_0 rfl)
theorem dX4_fifths_1 : decode cX4_fifths 1 = .ok (.aload_n 0, 1) := dq_42 (dst 1 rd_prog_6_method_7_code_0 rfl)
theorem dX4_fifths_2 : decode cX4_fifths 2 = .ok (.getfield 18, 3) := dq_180 (dst 2 rd_prog_6_method_7_code_0 rfl) rfl
theorem dX4_fifths_5 : decode cX4_fifths 5 = .ok (.iload_n 1, 1) := dq_27 (dst 5 rd_prog_6_method_7_code_0 rfl)
theorem dX4_fifths_6 : decode cX4_fifths 6 = .ok (.iaload, 1) := dq_46 (dst 6 rd_prog_6_method_7_code_0 rfl)
theorem dX4_fifths_7 : decode cX4_fifths 7 = .ok (.aload_n 0, 1) := dq_42 (dst 7 rd_prog_6_method_7_code_0 rfl)
theorem dX4_fifths_8 : decode cX4_fifths 8 = .ok (.getfield 63, 3) := dq_180 (dst 8 rd_prog_6_method_7_code_0 rfl) rfl
theorem dX4_fifths_11 : decode cX4_fifths 11 = .ok (.isub, 1) := dq_100 (dst 11 rd_prog_6_method_7_code_0 rfl)
theorem dX4_fifths_12 : decode cX4_fifths 12 = .ok (.invokestatic 97, 3) := dq_184 (dst 12 rd_prog_6_method_7_code_0 rfl) rfl
theorem dX4_fifths_15 : decode cX4_fifths 15 = .ok (.ireturn, 1) := dq_172 (dst 15 rd_prog_6_method_7_code_0 rfl)
theorem lf_X4_leaving_1 : ∀ w ∈ ([Cond.fieldLink RX4 102 "StillInAugust$House" "POWERS" "[I", Cond.fieldLink RX4 114 "StillInAugust$House" "WAYS" "[I", Cond.methodLink RX4 82 yX3_has, Cond.static yX3_has, Cond.initialized RX3, Cond.code yX3_has cX3_has 2 (some .boolean), Cond.methodLink RX4 105 yX3_total, Cond.static yX3_total, Cond.code yX3_total cX3_total 1 (some .int), Cond.methodLink RX4 108 yX3_ofAge, Cond.static yX3_ofAge, Cond.code yX3_ofAge cX3_ofAge 2 (some .int), Cond.methodLink RX4 111 yX4_fifths, Cond.instanceMethod yX4_fifths, Cond.selects RX4 yX4_fifths yX4_fifths, Cond.initialized RX4, Cond.code yX4_fifths cX4_fifths 2 (some .int), Cond.fieldLink RX4 18 "StillInAugust$House" "goes" "[I", Cond.fieldLink RX4 63 "StillInAugust$House" "fifthsLess" "I", Cond.methodLink RX4 97 Lib.Math.max.name, Cond.static Lib.Math.max.name, Cond.initialized "java/lang/Math", Cond.code Lib.Math.max.name Lib.Math.max.code 2 (some .int)] : List Cond), w ∈ wsX4_leaving := fun _ h => (List.mem_cons_of_mem _ (List.mem_append_left _ h))
theorem lf_X4_leaving_2 : ∀ w ∈ wsX40, w ∈ wsX4_leaving := fun _ h => (List.mem_cons_of_mem _ (List.mem_append_right _ h))
set_option maxRecDepth 20000 in
theorem ggX4_leaving_X3_has : GoodIn wsX4_leaving wsX3_has := (gd_cons (lf_X4_leaving_1 _ (List.mem_of_getElem? (i := 5) rfl)) rfl (gd_nil _))
set_option maxRecDepth 20000 in
theorem gX4_leaving_X3_has : GoodIn wsX4_leaving (va_wsS RX4 82 yX3_has wsX3_has) := goodIn_app (gd_cons (lf_X4_leaving_1 _ (List.mem_of_getElem? (i := 2) rfl)) rfl (gd_cons (lf_X4_leaving_1 _ (List.mem_of_getElem? (i := 3) rfl)) rfl (gd_cons (lf_X4_leaving_1 _ (List.mem_of_getElem? (i := 4) rfl)) rfl (gd_nil _)))) ggX4_leaving_X3_has
set_option maxRecDepth 20000 in
theorem ggX4_leaving_X3_total : GoodIn wsX4_leaving wsX3_total := (gd_cons (lf_X4_leaving_1 _ (List.mem_of_getElem? (i := 8) rfl)) rfl (gd_nil _))
set_option maxRecDepth 20000 in
theorem gX4_leaving_X3_total : GoodIn wsX4_leaving (va_wsS RX4 105 yX3_total wsX3_total) := goodIn_app (gd_cons (lf_X4_leaving_1 _ (List.mem_of_getElem? (i := 6) rfl)) rfl (gd_cons (lf_X4_leaving_1 _ (List.mem_of_getElem? (i := 7) rfl)) rfl (gd_cons (lf_X4_leaving_1 _ (List.mem_of_getElem? (i := 4) rfl)) rfl (gd_nil _)))) ggX4_leaving_X3_total
set_option maxRecDepth 20000 in
theorem ggX4_leaving_X3_ofAge : GoodIn wsX4_leaving wsX3_ofAge := (gd_cons (lf_X4_leaving_1 _ (List.mem_of_getElem? (i := 11) rfl)) rfl (gd_nil _))
set_option maxRecDepth 20000 in
theorem gX4_leaving_X3_ofAge : GoodIn wsX4_leaving (va_wsS RX4 108 yX3_ofAge wsX3_ofAge) := goodIn_app (gd_cons (lf_X4_leaving_1 _ (List.mem_of_getElem? (i := 9) rfl)) rfl (gd_cons (lf_X4_leaving_1 _ (List.mem_of_getElem? (i := 10) rfl)) rfl (gd_cons (lf_X4_leaving_1 _ (List.mem_of_getElem? (i := 4) rfl)) rfl (gd_nil _)))) ggX4_leaving_X3_ofAge
set_option maxRecDepth 20000 in
theorem ggX4_leaving_X4_fifths : GoodIn wsX4_leaving wsX4_fifths := (gd_cons (lf_X4_leaving_1 _ (List.mem_of_getElem? (i := 16) rfl)) rfl (goodIn_app (gd_cons (lf_X4_leaving_1 _ (List.mem_of_getElem? (i := 17) rfl)) rfl (gd_cons (lf_X4_leaving_1 _ (List.mem_of_getElem? (i := 18) rfl)) rfl (gd_cons (lf_X4_leaving_1 _ (List.mem_of_getElem? (i := 19) rfl)) rfl (gd_cons (lf_X4_leaving_1 _ (List.mem_of_getElem? (i := 20) rfl)) rfl (gd_cons (lf_X4_leaving_1 _ (List.mem_of_getElem? (i := 21) rfl)) rfl (gd_cons (lf_X4_leaving_1 _ (List.mem_of_getElem? (i := 22) rfl)) rfl (gd_nil _))))))) (goodIn_sub lf_X4_leaving_2 ga_wsX40)))
set_option maxRecDepth 20000 in
theorem gX4_leaving_X4_fifths : GoodIn wsX4_leaving (wsV RX4 111 RX4 yX4_fifths wsX4_fifths) := goodIn_app (gd_cons (lf_X4_leaving_1 _ (List.mem_of_getElem? (i := 12) rfl)) rfl (gd_cons (lf_X4_leaving_1 _ (List.mem_of_getElem? (i := 13) rfl)) rfl (gd_cons (lf_X4_leaving_1 _ (List.mem_of_getElem? (i := 14) rfl)) rfl (gd_cons (lf_X4_leaving_1 _ (List.mem_of_getElem? (i := 15) rfl)) rfl (gd_nil _))))) ggX4_leaving_X4_fifths
theorem dX4_leaving_0 : decode cX4_leaving 0 = .ok (.iload_n 1, 1) := dq_27 (dst 0 rd_prog_6_method_8_code_0 rfl)
theorem dX4_leaving_1 : decode cX4_leaving 1 = .ok (.iload_n 2, 1) := dq_28 (dst 1 rd_prog_6_method_8_code_0 rfl)
theorem dX4_leaving_2 : decode cX4_leaving 2 = .ok (.invokestatic 82, 3) := dq_184 (dst 2 rd_prog_6_method_8_code_0 rfl) rfl
theorem dX4_leaving_5 : decode cX4_leaving 5 = .ok (.ifCond .ne 5, 3) := dq_154 (dst 5 rd_prog_6_method_8_code_0 rfl) (by decide +kernel)
theorem dX4_leaving_8 : decode cX4_leaving 8 = .ok (.iconst 0, 1) := dq_3 (dst 8 rd_prog_6_method_8_code_0 rfl)
theorem dX4_leaving_9 : decode cX4_leaving 9 = .ok (.ireturn, 1) := dq_172 (dst 9 rd_prog_6_method_8_code_0 rfl)
theorem dX4_leaving_10 : decode cX4_leaving 10 = .ok (.getstatic 102, 3) := dq_178 (dst 10 rd_prog_6_method_8_code_0 rfl) rfl
theorem dX4_leaving_13 : decode cX4_leaving 13 = .ok (.bipush 29, 2) := dq_16 (dst 13 rd_prog_6_method_8_code_0 rfl) (by decide +kernel)
theorem dX4_leaving_15 : decode cX4_leaving 15 = .ok (.iload_n 1, 1) := dq_27 (dst 15 rd_prog_6_method_8_code_0 rfl)
theorem dX4_leaving_16 : decode cX4_leaving 16 = .ok (.invokestatic 105, 3) := dq_184 (dst 16 rd_prog_6_method_8_code_0 rfl) rfl
theorem dX4_leaving_19 : decode cX4_leaving 19 = .ok (.isub, 1) := dq_100 (dst 19 rd_prog_6_method_8_code_0 rfl)
theorem dX4_leaving_20 : decode cX4_leaving 20 = .ok (.iaload, 1) := dq_46 (dst 20 rd_prog_6_method_8_code_0 rfl)
theorem dX4_leaving_21 : decode cX4_leaving 21 = .ok (.istore_n 3, 1) := dq_62 (dst 21 rd_prog_6_method_8_code_0 rfl)
theorem dX4_leaving_22 : decode cX4_leaving 22 = .ok (.iconst 0, 1) := dq_3 (dst 22 rd_prog_6_method_8_code_0 rfl)
theorem dX4_leaving_23 : decode cX4_leaving 23 = .ok (.istore 4, 2) := dq_54 (dst 23 rd_prog_6_method_8_code_0 rfl) rfl
theorem dX4_leaving_25 : decode cX4_leaving 25 = .ok (.iload 4, 2) := dq_21 (dst 25 rd_prog_6_method_8_code_0 rfl) rfl
theorem dX4_leaving_27 : decode cX4_leaving 27 = .ok (.iconst 3, 1) := dq_6 (dst 27 rd_prog_6_method_8_code_0 rfl)
theorem dX4_leaving_28 : decode cX4_leaving 28 = .ok (.if_icmp .ge 76, 3) := dq_162 (dst 28 rd_prog_6_method_8_code_0 rfl) (by decide +kernel)
theorem dX4_leaving_31 : decode cX4_leaving 31 = .ok (.iload_n 1, 1) := dq_27 (dst 31 rd_prog_6_method_8_code_0 rfl)
theorem dX4_leaving_32 : decode cX4_leaving 32 = .ok (.iload 4, 2) := dq_21 (dst 0 rd_prog_6_method_8_code_1 rfl) rfl
theorem dX4_leaving_34 : decode cX4_leaving 34 = .ok (.invokestatic 108, 3) := dq_184 (dst 2 rd_prog_6_method_8_code_1 rfl) rfl
theorem dX4_leaving_37 : decode cX4_leaving 37 = .ok (.istore 5, 2) := dq_54 (dst 5 rd_prog_6_method_8_code_1 rfl) rfl
theorem dX4_leaving_39 : decode cX4_leaving 39 = .ok (.iload_n 2, 1) := dq_28 (dst 7 rd_prog_6_method_8_code_1 rfl)
theorem dX4_leaving_40 : decode cX4_leaving 40 = .ok (.iload 4, 2) := dq_21 (dst 8 rd_prog_6_method_8_code_1 rfl) rfl
theorem dX4_leaving_42 : decode cX4_leaving 42 = .ok (.invokestatic 108, 3) := dq_184 (dst 10 rd_prog_6_method_8_code_1 rfl) rfl
theorem dX4_leaving_45 : decode cX4_leaving 45 = .ok (.istore 6, 2) := dq_54 (dst 13 rd_prog_6_method_8_code_1 rfl) rfl
theorem dX4_leaving_47 : decode cX4_leaving 47 = .ok (.aload_n 0, 1) := dq_42 (dst 15 rd_prog_6_method_8_code_1 rfl)
theorem dX4_leaving_48 : decode cX4_leaving 48 = .ok (.iload 4, 2) := dq_21 (dst 16 rd_prog_6_method_8_code_1 rfl) rfl
theorem dX4_leaving_50 : decode cX4_leaving 50 = .ok (.invokevirtual 111, 3) := dq_182 (dst 18 rd_prog_6_method_8_code_1 rfl) rfl
theorem dX4_leaving_53 : decode cX4_leaving 53 = .ok (.istore 7, 2) := dq_54 (dst 21 rd_prog_6_method_8_code_1 rfl) rfl
theorem dX4_leaving_55 : decode cX4_leaving 55 = .ok (.iload_n 3, 1) := dq_29 (dst 23 rd_prog_6_method_8_code_1 rfl)
theorem dX4_leaving_56 : decode cX4_leaving 56 = .ok (.getstatic 114, 3) := dq_178 (dst 24 rd_prog_6_method_8_code_1 rfl) rfl
theorem dX4_leaving_59 : decode cX4_leaving 59 = .ok (.iconst 5, 1) := dq_8 (dst 27 rd_prog_6_method_8_code_1 rfl)
theorem dX4_leaving_60 : decode cX4_leaving 60 = .ok (.iload 5, 2) := dq_21 (dst 28 rd_prog_6_method_8_code_1 rfl) rfl
theorem dX4_leaving_62 : decode cX4_leaving 62 = .ok (.imul, 1) := dq_104 (dst 30 rd_prog_6_method_8_code_1 rfl)
theorem dX4_leaving_63 : decode cX4_leaving 63 = .ok (.iload 6, 2) := dq_21 (dst 31 rd_prog_6_method_8_code_1 rfl) rfl
theorem dX4_leaving_65 : decode cX4_leaving 65 = .ok (.iadd, 1) := dq_96 (dst 1 rd_prog_6_method_8_code_2 rfl)
theorem dX4_leaving_66 : decode cX4_leaving 66 = .ok (.iaload, 1) := dq_46 (dst 2 rd_prog_6_method_8_code_2 rfl)
theorem dX4_leaving_67 : decode cX4_leaving 67 = .ok (.getstatic 102, 3) := dq_178 (dst 3 rd_prog_6_method_8_code_2 rfl) rfl
theorem dX4_leaving_70 : decode cX4_leaving 70 = .ok (.iconst 5, 1) := dq_8 (dst 6 rd_prog_6_method_8_code_2 rfl)
theorem dX4_leaving_71 : decode cX4_leaving 71 = .ok (.iload 7, 2) := dq_21 (dst 7 rd_prog_6_method_8_code_2 rfl) rfl
theorem dX4_leaving_73 : decode cX4_leaving 73 = .ok (.imul, 1) := dq_104 (dst 9 rd_prog_6_method_8_code_2 rfl)
theorem dX4_leaving_74 : decode cX4_leaving 74 = .ok (.iload 6, 2) := dq_21 (dst 10 rd_prog_6_method_8_code_2 rfl) rfl
theorem dX4_leaving_76 : decode cX4_leaving 76 = .ok (.iadd, 1) := dq_96 (dst 12 rd_prog_6_method_8_code_2 rfl)
theorem dX4_leaving_77 : decode cX4_leaving 77 = .ok (.iaload, 1) := dq_46 (dst 13 rd_prog_6_method_8_code_2 rfl)
theorem dX4_leaving_78 : decode cX4_leaving 78 = .ok (.imul, 1) := dq_104 (dst 14 rd_prog_6_method_8_code_2 rfl)
theorem dX4_leaving_79 : decode cX4_leaving 79 = .ok (.getstatic 102, 3) := dq_178 (dst 15 rd_prog_6_method_8_code_2 rfl) rfl
theorem dX4_leaving_82 : decode cX4_leaving 82 = .ok (.iconst 5, 1) := dq_8 (dst 18 rd_prog_6_method_8_code_2 rfl)
theorem dX4_leaving_83 : decode cX4_leaving 83 = .ok (.iconst 5, 1) := dq_8 (dst 19 rd_prog_6_method_8_code_2 rfl)
theorem dX4_leaving_84 : decode cX4_leaving 84 = .ok (.iload 7, 2) := dq_21 (dst 20 rd_prog_6_method_8_code_2 rfl) rfl
theorem dX4_leaving_86 : decode cX4_leaving 86 = .ok (.isub, 1) := dq_100 (dst 22 rd_prog_6_method_8_code_2 rfl)
theorem dX4_leaving_87 : decode cX4_leaving 87 = .ok (.imul, 1) := dq_104 (dst 23 rd_prog_6_method_8_code_2 rfl)
theorem dX4_leaving_88 : decode cX4_leaving 88 = .ok (.iload 5, 2) := dq_21 (dst 24 rd_prog_6_method_8_code_2 rfl) rfl
theorem dX4_leaving_90 : decode cX4_leaving 90 = .ok (.iadd, 1) := dq_96 (dst 26 rd_prog_6_method_8_code_2 rfl)
theorem dX4_leaving_91 : decode cX4_leaving 91 = .ok (.iload 6, 2) := dq_21 (dst 27 rd_prog_6_method_8_code_2 rfl) rfl
theorem dX4_leaving_93 : decode cX4_leaving 93 = .ok (.isub, 1) := dq_100 (dst 29 rd_prog_6_method_8_code_2 rfl)
theorem dX4_leaving_94 : decode cX4_leaving 94 = .ok (.iaload, 1) := dq_46 (dst 30 rd_prog_6_method_8_code_2 rfl)
theorem dX4_leaving_95 : decode cX4_leaving 95 = .ok (.imul, 1) := dq_104 (dst 31 rd_prog_6_method_8_code_2 rfl)
theorem dX4_leaving_96 : decode cX4_leaving 96 = .ok (.imul, 1) := dq_104 (dst 0 rd_prog_6_method_8_code_3 rfl)
theorem dX4_leaving_97 : decode cX4_leaving 97 = .ok (.istore_n 3, 1) := dq_62 (dst 1 rd_prog_6_method_8_code_3 rfl)
theorem dX4_leaving_98 : decode cX4_leaving 98 = .ok (.iinc 4 1, 3) := dq_132 (dst 2 rd_prog_6_method_8_code_3 rfl) rfl (by decide +kernel)
theorem dX4_leaving_101 : decode cX4_leaving 101 = .ok (.goto (-76), 3) := dq_167 (dst 5 rd_prog_6_method_8_code_3 rfl) (by decide +kernel)
theorem dX4_leaving_104 : decode cX4_leaving 104 = .ok (.iload_n 3, 1) := dq_29 (dst 8 rd_prog_6_method_8_code_3 rfl)
theorem dX4_leaving_105 : decode cX4_leaving 105 = .ok (.ireturn, 1) := dq_172 (dst 9 rd_prog_6_method_8_code_3 rfl)
theorem lf_X4_becomes_1 : ∀ w ∈ ([Cond.methodLink RX4 117 yX3_areAtMost, Cond.static yX3_areAtMost, Cond.initialized RX3, Cond.code yX3_areAtMost cX3_areAtMost 2 (some .boolean), Cond.methodLink RX3 9 yX3_total, Cond.static yX3_total, Cond.code yX3_total cX3_total 1 (some .int), Cond.methodLink RX4 90 yX3_kind, Cond.static yX3_kind, Cond.code yX3_kind cX3_kind 4 (some .int), Cond.fieldLink RX3 15 "StillInAugust$Hands" "BEGINNINGS" "[I", Cond.methodLink RX4 120 yX4_partsTo, Cond.instanceMethod yX4_partsTo, Cond.selects RX4 yX4_partsTo yX4_partsTo, Cond.initialized RX4, Cond.code yX4_partsTo cX4_partsTo 3 (some .int), Cond.fieldLink RX4 26 "StillInAugust$House" "sundays" "[I"] : List Cond), w ∈ wsX4_becomes := fun _ h => (List.mem_cons_of_mem _ (List.mem_append_left _ h))
theorem lf_X4_becomes_2 : ∀ w ∈ wsX40, w ∈ wsX4_becomes := fun _ h => (List.mem_cons_of_mem _ (List.mem_append_right _ h))
set_option maxRecDepth 20000 in
theorem ggX4_becomes_X3_areAtMost : GoodIn wsX4_becomes wsX3_areAtMost := (gd_cons (lf_X4_becomes_1 _ (List.mem_of_getElem? (i := 3) rfl)) rfl (gd_cons (lf_X4_becomes_1 _ (List.mem_of_getElem? (i := 4) rfl)) rfl (gd_cons (lf_X4_becomes_1 _ (List.mem_of_getElem? (i := 5) rfl)) rfl (gd_cons (lf_X4_becomes_1 _ (List.mem_of_getElem? (i := 2) rfl)) rfl (gd_cons (lf_X4_becomes_1 _ (List.mem_of_getElem? (i := 6) rfl)) rfl (gd_nil _))))))
set_option maxRecDepth 20000 in
theorem gX4_becomes_X3_areAtMost : GoodIn wsX4_becomes (va_wsS RX4 117 yX3_areAtMost wsX3_areAtMost) := goodIn_app (gd_cons (lf_X4_becomes_1 _ (List.mem_of_getElem? (i := 0) rfl)) rfl (gd_cons (lf_X4_becomes_1 _ (List.mem_of_getElem? (i := 1) rfl)) rfl (gd_cons (lf_X4_becomes_1 _ (List.mem_of_getElem? (i := 2) rfl)) rfl (gd_nil _)))) ggX4_becomes_X3_areAtMost
set_option maxRecDepth 20000 in
theorem ggX4_becomes_X3_kind : GoodIn wsX4_becomes wsX3_kind := (gd_cons (lf_X4_becomes_1 _ (List.mem_of_getElem? (i := 9) rfl)) rfl (gd_cons (lf_X4_becomes_1 _ (List.mem_of_getElem? (i := 10) rfl)) rfl (gd_nil _)))
set_option maxRecDepth 20000 in
theorem gX4_becomes_X3_kind : GoodIn wsX4_becomes (va_wsS RX4 90 yX3_kind wsX3_kind) := goodIn_app (gd_cons (lf_X4_becomes_1 _ (List.mem_of_getElem? (i := 7) rfl)) rfl (gd_cons (lf_X4_becomes_1 _ (List.mem_of_getElem? (i := 8) rfl)) rfl (gd_cons (lf_X4_becomes_1 _ (List.mem_of_getElem? (i := 2) rfl)) rfl (gd_nil _)))) ggX4_becomes_X3_kind
set_option maxRecDepth 20000 in
theorem ggX4_becomes_X4_partsTo : GoodIn wsX4_becomes wsX4_partsTo := (gd_cons (lf_X4_becomes_1 _ (List.mem_of_getElem? (i := 15) rfl)) rfl (goodIn_app (gd_cons (lf_X4_becomes_1 _ (List.mem_of_getElem? (i := 16) rfl)) rfl (gd_nil _)) (goodIn_sub lf_X4_becomes_2 ga_wsX40)))
set_option maxRecDepth 20000 in
theorem gX4_becomes_X4_partsTo : GoodIn wsX4_becomes (wsV RX4 120 RX4 yX4_partsTo wsX4_partsTo) := goodIn_app (gd_cons (lf_X4_becomes_1 _ (List.mem_of_getElem? (i := 11) rfl)) rfl (gd_cons (lf_X4_becomes_1 _ (List.mem_of_getElem? (i := 12) rfl)) rfl (gd_cons (lf_X4_becomes_1 _ (List.mem_of_getElem? (i := 13) rfl)) rfl (gd_cons (lf_X4_becomes_1 _ (List.mem_of_getElem? (i := 14) rfl)) rfl (gd_nil _))))) ggX4_becomes_X4_partsTo
theorem dX4_becomes_0 : decode cX4_becomes 0 = .ok (.iload_n 2, 1) := dq_28 (dst 0 rd_prog_6_method_9_code_0 rfl)
theorem dX4_becomes_1 : decode cX4_becomes 1 = .ok (.iconst 4, 1) := dq_7 (dst 1 rd_prog_6_method_9_code_0 rfl)
theorem dX4_becomes_2 : decode cX4_becomes 2 = .ok (.invokestatic 117, 3) := dq_184 (dst 2 rd_prog_6_method_9_code_0 rfl) rfl
theorem dX4_becomes_5 : decode cX4_becomes 5 = .ok (.ifCond .eq 9, 3) := dq_153 (dst 5 rd_prog_6_method_9_code_0 rfl) (by decide +kernel)
theorem dX4_becomes_8 : decode cX4_becomes 8 = .ok (.iload_n 2, 1) := dq_28 (dst 8 rd_prog_6_method_9_code_0 rfl)
theorem dX4_becomes_9 : decode cX4_becomes 9 = .ok (.bipush 100, 2) := dq_16 (dst 9 rd_prog_6_method_9_code_0 rfl) (by decide +kernel)
theorem dX4_becomes_11 : decode cX4_becomes 11 = .ok (.if_icmp .lt 5, 3) := dq_161 (dst 11 rd_prog_6_method_9_code_0 rfl) (by decide +kernel)
theorem dX4_becomes_14 : decode cX4_becomes 14 = .ok (.iconst 0, 1) := dq_3 (dst 14 rd_prog_6_method_9_code_0 rfl)
theorem dX4_becomes_15 : decode cX4_becomes 15 = .ok (.ireturn, 1) := dq_172 (dst 15 rd_prog_6_method_9_code_0 rfl)
theorem dX4_becomes_16 : decode cX4_becomes 16 = .ok (.aload_n 0, 1) := dq_42 (dst 16 rd_prog_6_method_9_code_0 rfl)
theorem dX4_becomes_17 : decode cX4_becomes 17 = .ok (.iload_n 1, 1) := dq_27 (dst 17 rd_prog_6_method_9_code_0 rfl)
theorem dX4_becomes_18 : decode cX4_becomes 18 = .ok (.invokestatic 90, 3) := dq_184 (dst 18 rd_prog_6_method_9_code_0 rfl) rfl
theorem dX4_becomes_21 : decode cX4_becomes 21 = .ok (.iload_n 2, 1) := dq_28 (dst 21 rd_prog_6_method_9_code_0 rfl)
theorem dX4_becomes_22 : decode cX4_becomes 22 = .ok (.invokestatic 90, 3) := dq_184 (dst 22 rd_prog_6_method_9_code_0 rfl) rfl
theorem dX4_becomes_25 : decode cX4_becomes 25 = .ok (.invokevirtual 120, 3) := dq_182 (dst 25 rd_prog_6_method_9_code_0 rfl) rfl
theorem dX4_becomes_28 : decode cX4_becomes 28 = .ok (.ireturn, 1) := dq_172 (dst 28 rd_prog_6_method_9_code_0 rfl)
theorem dX4_partsTo_0 : decode cX4_partsTo 0 = .ok (.aload_n 0, 1) := dq_42 (dst 0 rd_prog_6_method_10_code_0 rfl)
theorem dX4_partsTo_1 : decode cX4_partsTo 1 = .ok (.getfield 26, 3) := dq_180 (dst 1 rd_prog_6_method_10_code_0 rfl) rfl
theorem dX4_partsTo_4 : decode cX4_partsTo 4 = .ok (.iload_n 1, 1) := dq_27 (dst 4 rd_prog_6_method_10_code_0 rfl)
theorem dX4_partsTo_5 : decode cX4_partsTo 5 = .ok (.bipush 15, 2) := dq_16 (dst 5 rd_prog_6_method_10_code_0 rfl) (by decide +kernel)
theorem dX4_partsTo_7 : decode cX4_partsTo 7 = .ok (.imul, 1) := dq_104 (dst 7 rd_prog_6_method_10_code_0 rfl)
theorem dX4_partsTo_8 : decode cX4_partsTo 8 = .ok (.iload_n 2, 1) := dq_28 (dst 8 rd_prog_6_method_10_code_0 rfl)
theorem dX4_partsTo_9 : decode cX4_partsTo 9 = .ok (.iadd, 1) := dq_96 (dst 9 rd_prog_6_method_10_code_0 rfl)
theorem dX4_partsTo_10 : decode cX4_partsTo 10 = .ok (.iaload, 1) := dq_46 (dst 10 rd_prog_6_method_10_code_0 rfl)
theorem dX4_partsTo_11 : decode cX4_partsTo 11 = .ok (.ireturn, 1) := dq_172 (dst 11 rd_prog_6_method_10_code_0 rfl)
theorem dX4_mostComing_0 : decode cX4_mostComing 0 = .ok (.aload_n 0, 1) := dq_42 (dst 0 rd_prog_6_method_11_code_0 rfl)
theorem dX4_mostComing_1 : decode cX4_mostComing 1 = .ok (.getfield 57, 3) := dq_180 (dst 1 rd_prog_6_method_11_code_0 rfl) rfl
theorem dX4_mostComing_4 : decode cX4_mostComing 4 = .ok (.bipush (-9), 2) := dq_16 (dst 4 rd_prog_6_method_11_code_0 rfl) (by decide +kernel)
theorem dX4_mostComing_6 : decode cX4_mostComing 6 = .ok (.if_icmp .ne 7, 3) := dq_160 (dst 6 rd_prog_6_method_11_code_0 rfl) (by decide +kernel)
theorem dX4_mostComing_9 : decode cX4_mostComing 9 = .ok (.iconst 0, 1) := dq_3 (dst 9 rd_prog_6_method_11_code_0 rfl)
theorem dX4_mostComing_10 : decode cX4_mostComing 10 = .ok (.goto 4, 3) := dq_167 (dst 10 rd_prog_6_method_11_code_0 rfl) (by decide +kernel)
theorem dX4_mostComing_13 : decode cX4_mostComing 13 = .ok (.iconst 2, 1) := dq_5 (dst 13 rd_prog_6_method_11_code_0 rfl)
theorem dX4_mostComing_14 : decode cX4_mostComing 14 = .ok (.ireturn, 1) := dq_172 (dst 14 rd_prog_6_method_11_code_0 rfl)
theorem lf_X4_mostOrdered_1 : ∀ w ∈ ([Cond.fieldLink RX4 32 "StillInAugust$House" "weeks" "I", Cond.methodLink RX4 123 yX4_mostComing, Cond.instanceMethod yX4_mostComing, Cond.selects RX4 yX4_mostComing yX4_mostComing, Cond.initialized RX4, Cond.code yX4_mostComing cX4_mostComing 1 (some .int), Cond.fieldLink RX4 57 "StillInAugust$House" "agencyPrice" "I"] : List Cond), w ∈ wsX4_mostOrdered := fun _ h => (List.mem_cons_of_mem _ (List.mem_append_left _ h))
theorem lf_X4_mostOrdered_2 : ∀ w ∈ wsX40, w ∈ wsX4_mostOrdered := fun _ h => (List.mem_cons_of_mem _ (List.mem_append_right _ h))
set_option maxRecDepth 20000 in
theorem ggX4_mostOrdered_X4_mostComing : GoodIn wsX4_mostOrdered wsX4_mostComing := (gd_cons (lf_X4_mostOrdered_1 _ (List.mem_of_getElem? (i := 5) rfl)) rfl (goodIn_app (gd_cons (lf_X4_mostOrdered_1 _ (List.mem_of_getElem? (i := 6) rfl)) rfl (gd_nil _)) (goodIn_sub lf_X4_mostOrdered_2 ga_wsX40)))
set_option maxRecDepth 20000 in
theorem gX4_mostOrdered_X4_mostComing : GoodIn wsX4_mostOrdered (wsV RX4 123 RX4 yX4_mostComing wsX4_mostComing) := goodIn_app (gd_cons (lf_X4_mostOrdered_1 _ (List.mem_of_getElem? (i := 1) rfl)) rfl (gd_cons (lf_X4_mostOrdered_1 _ (List.mem_of_getElem? (i := 2) rfl)) rfl (gd_cons (lf_X4_mostOrdered_1 _ (List.mem_of_getElem? (i := 3) rfl)) rfl (gd_cons (lf_X4_mostOrdered_1 _ (List.mem_of_getElem? (i := 4) rfl)) rfl (gd_nil _))))) ggX4_mostOrdered_X4_mostComing
theorem dX4_mostOrdered_0 : decode cX4_mostOrdered 0 = .ok (.iload_n 1, 1) := dq_27 (dst 0 rd_prog_6_method_12_code_0 rfl)
theorem dX4_mostOrdered_1 : decode cX4_mostOrdered 1 = .ok (.aload_n 0, 1) := dq_42 (dst 1 rd_prog_6_method_12_code_0 rfl)
theorem dX4_mostOrdered_2 : decode cX4_mostOrdered 2 = .ok (.getfield 32, 3) := dq_180 (dst 2 rd_prog_6_method_12_code_0 rfl) rfl
theorem dX4_mostOrdered_5 : decode cX4_mostOrdered 5 = .ok (.iconst 1, 1) := dq_4 (dst 5 rd_prog_6_method_12_code_0 rfl)
theorem dX4_mostOrdered_6 : decode cX4_mostOrdered 6 = .ok (.isub, 1) := dq_100 (dst 6 rd_prog_6_method_12_code_0 rfl)
theorem dX4_mostOrdered_7 : decode cX4_mostOrdered 7 = .ok (.if_icmp .ne 7, 3) := dq_160 (dst 7 rd_prog_6_method_12_code_0 rfl) (by decide +kernel)
theorem dX4_mostOrdered_10 : decode cX4_mostOrdered 10 = .ok (.iconst 0, 1) := dq_3 (dst 10 rd_prog_6_method_12_code_0 rfl)
theorem dX4_mostOrdered_11 : decode cX4_mostOrdered 11 = .ok (.goto 7, 3) := dq_167 (dst 11 rd_prog_6_method_12_code_0 rfl) (by decide +kernel)
theorem dX4_mostOrdered_14 : decode cX4_mostOrdered 14 = .ok (.aload_n 0, 1) := dq_42 (dst 14 rd_prog_6_method_12_code_0 rfl)
theorem dX4_mostOrdered_15 : decode cX4_mostOrdered 15 = .ok (.invokevirtual 123, 3) := dq_182 (dst 15 rd_prog_6_method_12_code_0 rfl) rfl
theorem dX4_mostOrdered_18 : decode cX4_mostOrdered 18 = .ok (.ireturn, 1) := dq_172 (dst 18 rd_prog_6_method_12_code_0 rfl)
theorem lf_X4_mostLetGo_1 : ∀ w ∈ ([Cond.fieldLink RX4 51 "StillInAugust$House" "letGoPrice" "I", Cond.methodLink RX4 105 yX3_total, Cond.static yX3_total, Cond.initialized RX3, Cond.code yX3_total cX3_total 1 (some .int)] : List Cond), w ∈ wsX4_mostLetGo := fun _ h => (List.mem_cons_of_mem _ (List.mem_append_left _ h))
theorem lf_X4_mostLetGo_2 : ∀ w ∈ wsX40, w ∈ wsX4_mostLetGo := fun _ h => (List.mem_cons_of_mem _ (List.mem_append_right _ h))
set_option maxRecDepth 20000 in
theorem ggX4_mostLetGo_X3_total : GoodIn wsX4_mostLetGo wsX3_total := (gd_cons (lf_X4_mostLetGo_1 _ (List.mem_of_getElem? (i := 4) rfl)) rfl (gd_nil _))
set_option maxRecDepth 20000 in
theorem gX4_mostLetGo_X3_total : GoodIn wsX4_mostLetGo (va_wsS RX4 105 yX3_total wsX3_total) := goodIn_app (gd_cons (lf_X4_mostLetGo_1 _ (List.mem_of_getElem? (i := 1) rfl)) rfl (gd_cons (lf_X4_mostLetGo_1 _ (List.mem_of_getElem? (i := 2) rfl)) rfl (gd_cons (lf_X4_mostLetGo_1 _ (List.mem_of_getElem? (i := 3) rfl)) rfl (gd_nil _)))) ggX4_mostLetGo_X3_total
theorem dX4_mostLetGo_0 : decode cX4_mostLetGo 0 = .ok (.aload_n 0, 1) := dq_42 (dst 0 rd_prog_6_method_13_code_0 rfl)
theorem dX4_mostLetGo_1 : decode cX4_mostLetGo 1 = .ok (.getfield 51, 3) := dq_180 (dst 1 rd_prog_6_method_13_code_0 rfl) rfl
theorem dX4_mostLetGo_4 : decode cX4_mostLetGo 4 = .ok (.bipush (-9), 2) := dq_16 (dst 4 rd_prog_6_method_13_code_0 rfl) (by decide +kernel)
theorem dX4_mostLetGo_6 : decode cX4_mostLetGo 6 = .ok (.if_icmp .ne 7, 3) := dq_160 (dst 6 rd_prog_6_method_13_code_0 rfl) (by decide +kernel)
theorem dX4_mostLetGo_9 : decode cX4_mostLetGo 9 = .ok (.iconst 0, 1) := dq_3 (dst 9 rd_prog_6_method_13_code_0 rfl)
theorem dX4_mostLetGo_10 : decode cX4_mostLetGo 10 = .ok (.goto 7, 3) := dq_167 (dst 10 rd_prog_6_method_13_code_0 rfl) (by decide +kernel)
theorem dX4_mostLetGo_13 : decode cX4_mostLetGo 13 = .ok (.iload_n 1, 1) := dq_27 (dst 13 rd_prog_6_method_13_code_0 rfl)
theorem dX4_mostLetGo_14 : decode cX4_mostLetGo 14 = .ok (.invokestatic 105, 3) := dq_184 (dst 14 rd_prog_6_method_13_code_0 rfl) rfl
theorem dX4_mostLetGo_17 : decode cX4_mostLetGo 17 = .ok (.ireturn, 1) := dq_172 (dst 17 rd_prog_6_method_13_code_0 rfl)
theorem lf_X4_mostTaken_1 : ∀ w ∈ ([Cond.fieldLink RX4 15 "StillInAugust$House" "offers" "[I", Cond.fieldLink RX4 36 "StillInAugust$House" "hooks" "I", Cond.methodLink RX4 127 Lib.Math.min.name, Cond.static Lib.Math.min.name, Cond.initialized "java/lang/Math", Cond.code Lib.Math.min.name Lib.Math.min.code 2 (some .int), Cond.methodLink RX4 105 yX3_total, Cond.static yX3_total, Cond.initialized RX3, Cond.code yX3_total cX3_total 1 (some .int)] : List Cond), w ∈ wsX4_mostTaken := fun _ h => (List.mem_cons_of_mem _ (List.mem_append_left _ h))
theorem lf_X4_mostTaken_2 : ∀ w ∈ wsX40, w ∈ wsX4_mostTaken := fun _ h => (List.mem_cons_of_mem _ (List.mem_append_right _ h))
set_option maxRecDepth 20000 in
theorem ggX4_mostTaken_X3_total : GoodIn wsX4_mostTaken wsX3_total := (gd_cons (lf_X4_mostTaken_1 _ (List.mem_of_getElem? (i := 9) rfl)) rfl (gd_nil _))
set_option maxRecDepth 20000 in
theorem gX4_mostTaken_X3_total : GoodIn wsX4_mostTaken (va_wsS RX4 105 yX3_total wsX3_total) := goodIn_app (gd_cons (lf_X4_mostTaken_1 _ (List.mem_of_getElem? (i := 6) rfl)) rfl (gd_cons (lf_X4_mostTaken_1 _ (List.mem_of_getElem? (i := 7) rfl)) rfl (gd_cons (lf_X4_mostTaken_1 _ (List.mem_of_getElem? (i := 8) rfl)) rfl (gd_nil _)))) ggX4_mostTaken_X3_total
theorem dX4_mostTaken_0 : decode cX4_mostTaken 0 = .ok (.aload_n 0, 1) := dq_42 (dst 0 rd_prog_6_method_14_code_0 rfl)
theorem dX4_mostTaken_1 : decode cX4_mostTaken 1 = .ok (.getfield 15, 3) := dq_180 (dst 1 rd_prog_6_method_14_code_0 rfl) rfl
theorem dX4_mostTaken_4 : decode cX4_mostTaken 4 = .ok (.iload_n 1, 1) := dq_27 (dst 4 rd_prog_6_method_14_code_0 rfl)
theorem dX4_mostTaken_5 : decode cX4_mostTaken 5 = .ok (.iaload, 1) := dq_46 (dst 5 rd_prog_6_method_14_code_0 rfl)
theorem dX4_mostTaken_6 : decode cX4_mostTaken 6 = .ok (.aload_n 0, 1) := dq_42 (dst 6 rd_prog_6_method_14_code_0 rfl)
theorem dX4_mostTaken_7 : decode cX4_mostTaken 7 = .ok (.getfield 36, 3) := dq_180 (dst 7 rd_prog_6_method_14_code_0 rfl) rfl
theorem dX4_mostTaken_10 : decode cX4_mostTaken 10 = .ok (.iload_n 2, 1) := dq_28 (dst 10 rd_prog_6_method_14_code_0 rfl)
theorem dX4_mostTaken_11 : decode cX4_mostTaken 11 = .ok (.invokestatic 105, 3) := dq_184 (dst 11 rd_prog_6_method_14_code_0 rfl) rfl
theorem dX4_mostTaken_14 : decode cX4_mostTaken 14 = .ok (.isub, 1) := dq_100 (dst 14 rd_prog_6_method_14_code_0 rfl)
theorem dX4_mostTaken_15 : decode cX4_mostTaken 15 = .ok (.invokestatic 127, 3) := dq_184 (dst 15 rd_prog_6_method_14_code_0 rfl) rfl
theorem dX4_mostTaken_18 : decode cX4_mostTaken 18 = .ok (.ireturn, 1) := dq_172 (dst 18 rd_prog_6_method_14_code_0 rfl)
theorem lf_X4_mostTaught_1 : ∀ w ∈ ([Cond.fieldLink RX4 54 "StillInAugust$House" "teachPrice" "I", Cond.methodLink RX4 108 yX3_ofAge, Cond.static yX3_ofAge, Cond.initialized RX3, Cond.code yX3_ofAge cX3_ofAge 2 (some .int)] : List Cond), w ∈ wsX4_mostTaught := fun _ h => (List.mem_cons_of_mem _ (List.mem_append_left _ h))
theorem lf_X4_mostTaught_2 : ∀ w ∈ wsX40, w ∈ wsX4_mostTaught := fun _ h => (List.mem_cons_of_mem _ (List.mem_append_right _ h))
set_option maxRecDepth 20000 in
theorem ggX4_mostTaught_X3_ofAge : GoodIn wsX4_mostTaught wsX3_ofAge := (gd_cons (lf_X4_mostTaught_1 _ (List.mem_of_getElem? (i := 4) rfl)) rfl (gd_nil _))
set_option maxRecDepth 20000 in
theorem gX4_mostTaught_X3_ofAge : GoodIn wsX4_mostTaught (va_wsS RX4 108 yX3_ofAge wsX3_ofAge) := goodIn_app (gd_cons (lf_X4_mostTaught_1 _ (List.mem_of_getElem? (i := 1) rfl)) rfl (gd_cons (lf_X4_mostTaught_1 _ (List.mem_of_getElem? (i := 2) rfl)) rfl (gd_cons (lf_X4_mostTaught_1 _ (List.mem_of_getElem? (i := 3) rfl)) rfl (gd_nil _)))) ggX4_mostTaught_X3_ofAge
theorem dX4_mostTaught_0 : decode cX4_mostTaught 0 = .ok (.aload_n 0, 1) := dq_42 (dst 0 rd_prog_6_method_15_code_0 rfl)
theorem dX4_mostTaught_1 : decode cX4_mostTaught 1 = .ok (.getfield 54, 3) := dq_180 (dst 1 rd_prog_6_method_15_code_0 rfl) rfl
theorem dX4_mostTaught_4 : decode cX4_mostTaught 4 = .ok (.bipush (-9), 2) := dq_16 (dst 4 rd_prog_6_method_15_code_0 rfl) (by decide +kernel)
theorem dX4_mostTaught_6 : decode cX4_mostTaught 6 = .ok (.if_icmp .eq 23, 3) := dq_159 (dst 6 rd_prog_6_method_15_code_0 rfl) (by decide +kernel)
theorem dX4_mostTaught_9 : decode cX4_mostTaught 9 = .ok (.iload_n 1, 1) := dq_27 (dst 9 rd_prog_6_method_15_code_0 rfl)
theorem dX4_mostTaught_10 : decode cX4_mostTaught 10 = .ok (.iconst 0, 1) := dq_3 (dst 10 rd_prog_6_method_15_code_0 rfl)
theorem dX4_mostTaught_11 : decode cX4_mostTaught 11 = .ok (.invokestatic 108, 3) := dq_184 (dst 11 rd_prog_6_method_15_code_0 rfl) rfl
theorem dX4_mostTaught_14 : decode cX4_mostTaught 14 = .ok (.ifCond .le 15, 3) := dq_158 (dst 14 rd_prog_6_method_15_code_0 rfl) (by decide +kernel)
theorem dX4_mostTaught_17 : decode cX4_mostTaught 17 = .ok (.iload_n 1, 1) := dq_27 (dst 17 rd_prog_6_method_15_code_0 rfl)
theorem dX4_mostTaught_18 : decode cX4_mostTaught 18 = .ok (.iconst 2, 1) := dq_5 (dst 18 rd_prog_6_method_15_code_0 rfl)
theorem dX4_mostTaught_19 : decode cX4_mostTaught 19 = .ok (.invokestatic 108, 3) := dq_184 (dst 19 rd_prog_6_method_15_code_0 rfl) rfl
theorem dX4_mostTaught_22 : decode cX4_mostTaught 22 = .ok (.ifCond .le 7, 3) := dq_158 (dst 22 rd_prog_6_method_15_code_0 rfl) (by decide +kernel)
theorem dX4_mostTaught_25 : decode cX4_mostTaught 25 = .ok (.iconst 1, 1) := dq_4 (dst 25 rd_prog_6_method_15_code_0 rfl)
theorem dX4_mostTaught_26 : decode cX4_mostTaught 26 = .ok (.goto 4, 3) := dq_167 (dst 26 rd_prog_6_method_15_code_0 rfl) (by decide +kernel)
theorem dX4_mostTaught_29 : decode cX4_mostTaught 29 = .ok (.iconst 0, 1) := dq_3 (dst 29 rd_prog_6_method_15_code_0 rfl)
theorem dX4_mostTaught_30 : decode cX4_mostTaught 30 = .ok (.ireturn, 1) := dq_172 (dst 30 rd_prog_6_method_15_code_0 rfl)
theorem lf_X4_allows_1 : ∀ w ∈ wsX4_allows_r1, w ∈ wsX4_allows := fun _ h => (List.mem_cons_of_mem _ (List.mem_append_left _ (List.mem_append_left _ h)))
theorem lf_X4_allows_2 : ∀ w ∈ wsX4_allows_r2, w ∈ wsX4_allows := fun _ h => (List.mem_cons_of_mem _ (List.mem_append_left _ (List.mem_append_right _ (List.mem_append_left _ h))))
theorem lf_X4_allows_3 : ∀ w ∈ wsX4_allows_r3, w ∈ wsX4_allows := fun _ h => (List.mem_cons_of_mem _ (List.mem_append_left _ (List.mem_append_right _ (List.mem_append_right _ h))))
theorem lf_X4_allows_4 : ∀ w ∈ wsX40, w ∈ wsX4_allows := fun _ h => (List.mem_cons_of_mem _ (List.mem_append_right _ h))
set_option maxRecDepth 20000 in
theorem ggX4_allows_X0_letGo : GoodIn wsX4_allows wsX0_letGo := (gd_cons (lf_X4_allows_1 _ (List.mem_of_getElem? (i := 3) rfl)) rfl (gd_nil _))
set_option maxRecDepth 20000 in
theorem gX4_allows_X0_letGo : GoodIn wsX4_allows (va_wsS RX4 130 yX0_letGo wsX0_letGo) := goodIn_app (gd_cons (lf_X4_allows_1 _ (List.mem_of_getElem? (i := 0) rfl)) rfl (gd_cons (lf_X4_allows_1 _ (List.mem_of_getElem? (i := 1) rfl)) rfl (gd_cons (lf_X4_allows_1 _ (List.mem_of_getElem? (i := 2) rfl)) rfl (gd_nil _)))) ggX4_allows_X0_letGo
set_option maxRecDepth 20000 in
theorem ggX4_allows_X4_mostLetGo : GoodIn wsX4_allows wsX4_mostLetGo := (gd_cons (lf_X4_allows_1 _ (List.mem_of_getElem? (i := 8) rfl)) rfl (goodIn_app (gd_cons (lf_X4_allows_1 _ (List.mem_of_getElem? (i := 9) rfl)) rfl (gd_cons (lf_X4_allows_1 _ (List.mem_of_getElem? (i := 10) rfl)) rfl (gd_cons (lf_X4_allows_1 _ (List.mem_of_getElem? (i := 11) rfl)) rfl (gd_cons (lf_X4_allows_1 _ (List.mem_of_getElem? (i := 12) rfl)) rfl (gd_cons (lf_X4_allows_1 _ (List.mem_of_getElem? (i := 13) rfl)) rfl (gd_nil _)))))) (goodIn_sub lf_X4_allows_4 ga_wsX40)))
set_option maxRecDepth 20000 in
theorem gX4_allows_X4_mostLetGo : GoodIn wsX4_allows (wsV RX4 135 RX4 yX4_mostLetGo wsX4_mostLetGo) := goodIn_app (gd_cons (lf_X4_allows_1 _ (List.mem_of_getElem? (i := 4) rfl)) rfl (gd_cons (lf_X4_allows_1 _ (List.mem_of_getElem? (i := 5) rfl)) rfl (gd_cons (lf_X4_allows_1 _ (List.mem_of_getElem? (i := 6) rfl)) rfl (gd_cons (lf_X4_allows_1 _ (List.mem_of_getElem? (i := 7) rfl)) rfl (gd_nil _))))) ggX4_allows_X4_mostLetGo
set_option maxRecDepth 20000 in
theorem ggX4_allows_X3_lessYoungestFirst : GoodIn wsX4_allows wsX3_lessYoungestFirst := (gd_cons (lf_X4_allows_1 _ (List.mem_of_getElem? (i := 16) rfl)) rfl (gd_cons (lf_X4_allows_1 _ (List.mem_of_getElem? (i := 17) rfl)) rfl (gd_cons (lf_X4_allows_1 _ (List.mem_of_getElem? (i := 18) rfl)) rfl (gd_cons (lf_X4_allows_1 _ (List.mem_of_getElem? (i := 19) rfl)) rfl (gd_cons (lf_X4_allows_1 _ (List.mem_of_getElem? (i := 20) rfl)) rfl (gd_nil _))))))
set_option maxRecDepth 20000 in
theorem gX4_allows_X3_lessYoungestFirst : GoodIn wsX4_allows (va_wsS RX4 138 yX3_lessYoungestFirst wsX3_lessYoungestFirst) := goodIn_app (gd_cons (lf_X4_allows_1 _ (List.mem_of_getElem? (i := 14) rfl)) rfl (gd_cons (lf_X4_allows_1 _ (List.mem_of_getElem? (i := 15) rfl)) rfl (gd_cons (lf_X4_allows_1 _ (List.mem_of_getElem? (i := 12) rfl)) rfl (gd_nil _)))) ggX4_allows_X3_lessYoungestFirst
set_option maxRecDepth 20000 in
theorem ggX4_allows_X0_taken : GoodIn wsX4_allows wsX0_taken := (gd_cons (lf_X4_allows_1 _ (List.mem_of_getElem? (i := 23) rfl)) rfl (gd_nil _))
set_option maxRecDepth 20000 in
theorem gX4_allows_X0_taken : GoodIn wsX4_allows (va_wsS RX4 141 yX0_taken wsX0_taken) := goodIn_app (gd_cons (lf_X4_allows_1 _ (List.mem_of_getElem? (i := 21) rfl)) rfl (gd_cons (lf_X4_allows_1 _ (List.mem_of_getElem? (i := 22) rfl)) rfl (gd_cons (lf_X4_allows_1 _ (List.mem_of_getElem? (i := 2) rfl)) rfl (gd_nil _)))) ggX4_allows_X0_taken
set_option maxRecDepth 20000 in
theorem ggX4_allows_X4_mostTaken : GoodIn wsX4_allows wsX4_mostTaken := (gd_cons (lf_X4_allows_2 _ (List.mem_of_getElem? (i := 3) rfl)) rfl (goodIn_app (gd_cons (lf_X4_allows_2 _ (List.mem_of_getElem? (i := 4) rfl)) rfl (gd_cons (lf_X4_allows_2 _ (List.mem_of_getElem? (i := 5) rfl)) rfl (gd_cons (lf_X4_allows_2 _ (List.mem_of_getElem? (i := 6) rfl)) rfl (gd_cons (lf_X4_allows_1 _ (List.mem_of_getElem? (i := 18) rfl)) rfl (gd_cons (lf_X4_allows_1 _ (List.mem_of_getElem? (i := 19) rfl)) rfl (gd_cons (lf_X4_allows_1 _ (List.mem_of_getElem? (i := 20) rfl)) rfl (gd_cons (lf_X4_allows_1 _ (List.mem_of_getElem? (i := 10) rfl)) rfl (gd_cons (lf_X4_allows_1 _ (List.mem_of_getElem? (i := 11) rfl)) rfl (gd_cons (lf_X4_allows_1 _ (List.mem_of_getElem? (i := 12) rfl)) rfl (gd_cons (lf_X4_allows_1 _ (List.mem_of_getElem? (i := 13) rfl)) rfl (gd_nil _))))))))))) (goodIn_sub lf_X4_allows_4 ga_wsX40)))
set_option maxRecDepth 20000 in
theorem gX4_allows_X4_mostTaken : GoodIn wsX4_allows (wsV RX4 144 RX4 yX4_mostTaken wsX4_mostTaken) := goodIn_app (gd_cons (lf_X4_allows_2 _ (List.mem_of_getElem? (i := 0) rfl)) rfl (gd_cons (lf_X4_allows_2 _ (List.mem_of_getElem? (i := 1) rfl)) rfl (gd_cons (lf_X4_allows_2 _ (List.mem_of_getElem? (i := 2) rfl)) rfl (gd_cons (lf_X4_allows_1 _ (List.mem_of_getElem? (i := 7) rfl)) rfl (gd_nil _))))) ggX4_allows_X4_mostTaken
set_option maxRecDepth 20000 in
theorem ggX4_allows_X0_taught : GoodIn wsX4_allows wsX0_taught := (gd_cons (lf_X4_allows_2 _ (List.mem_of_getElem? (i := 9) rfl)) rfl (gd_nil _))
set_option maxRecDepth 20000 in
theorem gX4_allows_X0_taught : GoodIn wsX4_allows (va_wsS RX4 147 yX0_taught wsX0_taught) := goodIn_app (gd_cons (lf_X4_allows_2 _ (List.mem_of_getElem? (i := 7) rfl)) rfl (gd_cons (lf_X4_allows_2 _ (List.mem_of_getElem? (i := 8) rfl)) rfl (gd_cons (lf_X4_allows_1 _ (List.mem_of_getElem? (i := 2) rfl)) rfl (gd_nil _)))) ggX4_allows_X0_taught
set_option maxRecDepth 20000 in
theorem ggX4_allows_X4_mostTaught : GoodIn wsX4_allows wsX4_mostTaught := (gd_cons (lf_X4_allows_2 _ (List.mem_of_getElem? (i := 13) rfl)) rfl (goodIn_app (gd_cons (lf_X4_allows_2 _ (List.mem_of_getElem? (i := 14) rfl)) rfl (gd_cons (lf_X4_allows_2 _ (List.mem_of_getElem? (i := 15) rfl)) rfl (gd_cons (lf_X4_allows_2 _ (List.mem_of_getElem? (i := 16) rfl)) rfl (gd_cons (lf_X4_allows_1 _ (List.mem_of_getElem? (i := 12) rfl)) rfl (gd_cons (lf_X4_allows_2 _ (List.mem_of_getElem? (i := 17) rfl)) rfl (gd_nil _)))))) (goodIn_sub lf_X4_allows_4 ga_wsX40)))
set_option maxRecDepth 20000 in
theorem gX4_allows_X4_mostTaught : GoodIn wsX4_allows (wsV RX4 150 RX4 yX4_mostTaught wsX4_mostTaught) := goodIn_app (gd_cons (lf_X4_allows_2 _ (List.mem_of_getElem? (i := 10) rfl)) rfl (gd_cons (lf_X4_allows_2 _ (List.mem_of_getElem? (i := 11) rfl)) rfl (gd_cons (lf_X4_allows_2 _ (List.mem_of_getElem? (i := 12) rfl)) rfl (gd_cons (lf_X4_allows_1 _ (List.mem_of_getElem? (i := 7) rfl)) rfl (gd_nil _))))) ggX4_allows_X4_mostTaught
set_option maxRecDepth 20000 in
theorem ggX4_allows_X0_ordered : GoodIn wsX4_allows wsX0_ordered := (gd_cons (lf_X4_allows_2 _ (List.mem_of_getElem? (i := 20) rfl)) rfl (gd_nil _))
set_option maxRecDepth 20000 in
theorem gX4_allows_X0_ordered : GoodIn wsX4_allows (va_wsS RX4 153 yX0_ordered wsX0_ordered) := goodIn_app (gd_cons (lf_X4_allows_2 _ (List.mem_of_getElem? (i := 18) rfl)) rfl (gd_cons (lf_X4_allows_2 _ (List.mem_of_getElem? (i := 19) rfl)) rfl (gd_cons (lf_X4_allows_1 _ (List.mem_of_getElem? (i := 2) rfl)) rfl (gd_nil _)))) ggX4_allows_X0_ordered
set_option maxRecDepth 20000 in
theorem ggX4_allows_X4_mostOrdered : GoodIn wsX4_allows wsX4_mostOrdered := (gd_cons (lf_X4_allows_3 _ (List.mem_of_getElem? (i := 0) rfl)) rfl (goodIn_app (gd_cons (lf_X4_allows_3 _ (List.mem_of_getElem? (i := 1) rfl)) rfl (gd_cons (lf_X4_allows_3 _ (List.mem_of_getElem? (i := 2) rfl)) rfl (gd_cons (lf_X4_allows_3 _ (List.mem_of_getElem? (i := 3) rfl)) rfl (gd_cons (lf_X4_allows_3 _ (List.mem_of_getElem? (i := 4) rfl)) rfl (gd_cons (lf_X4_allows_1 _ (List.mem_of_getElem? (i := 7) rfl)) rfl (gd_cons (lf_X4_allows_3 _ (List.mem_of_getElem? (i := 5) rfl)) rfl (gd_cons (lf_X4_allows_3 _ (List.mem_of_getElem? (i := 6) rfl)) rfl (gd_nil _)))))))) (goodIn_sub lf_X4_allows_4 ga_wsX40)))
set_option maxRecDepth 20000 in
theorem gX4_allows_X4_mostOrdered : GoodIn wsX4_allows (wsV RX4 156 RX4 yX4_mostOrdered wsX4_mostOrdered) := goodIn_app (gd_cons (lf_X4_allows_2 _ (List.mem_of_getElem? (i := 21) rfl)) rfl (gd_cons (lf_X4_allows_2 _ (List.mem_of_getElem? (i := 22) rfl)) rfl (gd_cons (lf_X4_allows_2 _ (List.mem_of_getElem? (i := 23) rfl)) rfl (gd_cons (lf_X4_allows_1 _ (List.mem_of_getElem? (i := 7) rfl)) rfl (gd_nil _))))) ggX4_allows_X4_mostOrdered
theorem dX4_allows_0 : decode cX4_allows 0 = .ok (.iload_n 3, 1) := dq_29 (dst 0 rd_prog_6_method_16_code_0 rfl)
theorem dX4_allows_1 : decode cX4_allows 1 = .ok (.invokestatic 130, 3) := dq_184 (dst 1 rd_prog_6_method_16_code_0 rfl) rfl
theorem dX4_allows_4 : decode cX4_allows 4 = .ok (.aload_n 0, 1) := dq_42 (dst 4 rd_prog_6_method_16_code_0 rfl)
theorem dX4_allows_5 : decode cX4_allows 5 = .ok (.iload_n 2, 1) := dq_28 (dst 5 rd_prog_6_method_16_code_0 rfl)
theorem dX4_allows_6 : decode cX4_allows 6 = .ok (.invokevirtual 135, 3) := dq_182 (dst 6 rd_prog_6_method_16_code_0 rfl) rfl
theorem dX4_allows_9 : decode cX4_allows 9 = .ok (.if_icmp .le 5, 3) := dq_164 (dst 9 rd_prog_6_method_16_code_0 rfl) (by decide +kernel)
theorem dX4_allows_12 : decode cX4_allows 12 = .ok (.iconst 0, 1) := dq_3 (dst 12 rd_prog_6_method_16_code_0 rfl)
theorem dX4_allows_13 : decode cX4_allows 13 = .ok (.ireturn, 1) := dq_172 (dst 13 rd_prog_6_method_16_code_0 rfl)
theorem dX4_allows_14 : decode cX4_allows 14 = .ok (.iload_n 2, 1) := dq_28 (dst 14 rd_prog_6_method_16_code_0 rfl)
theorem dX4_allows_15 : decode cX4_allows 15 = .ok (.iload_n 3, 1) := dq_29 (dst 15 rd_prog_6_method_16_code_0 rfl)
theorem dX4_allows_16 : decode cX4_allows 16 = .ok (.invokestatic 130, 3) := dq_184 (dst 16 rd_prog_6_method_16_code_0 rfl) rfl
theorem dX4_allows_19 : decode cX4_allows 19 = .ok (.invokestatic 138, 3) := dq_184 (dst 19 rd_prog_6_method_16_code_0 rfl) rfl
theorem dX4_allows_22 : decode cX4_allows 22 = .ok (.istore 4, 2) := dq_54 (dst 22 rd_prog_6_method_16_code_0 rfl) rfl
theorem dX4_allows_24 : decode cX4_allows 24 = .ok (.iload_n 3, 1) := dq_29 (dst 24 rd_prog_6_method_16_code_0 rfl)
theorem dX4_allows_25 : decode cX4_allows 25 = .ok (.invokestatic 141, 3) := dq_184 (dst 25 rd_prog_6_method_16_code_0 rfl) rfl
theorem dX4_allows_28 : decode cX4_allows 28 = .ok (.aload_n 0, 1) := dq_42 (dst 28 rd_prog_6_method_16_code_0 rfl)
theorem dX4_allows_29 : decode cX4_allows 29 = .ok (.iload_n 1, 1) := dq_27 (dst 29 rd_prog_6_method_16_code_0 rfl)
theorem dX4_allows_30 : decode cX4_allows 30 = .ok (.iload 4, 2) := dq_21 (dst 30 rd_prog_6_method_16_code_0 rfl) rfl
theorem dX4_allows_32 : decode cX4_allows 32 = .ok (.invokevirtual 144, 3) := dq_182 (dst 0 rd_prog_6_method_16_code_1 rfl) rfl
theorem dX4_allows_35 : decode cX4_allows 35 = .ok (.if_icmp .le 5, 3) := dq_164 (dst 3 rd_prog_6_method_16_code_1 rfl) (by decide +kernel)
theorem dX4_allows_38 : decode cX4_allows 38 = .ok (.iconst 0, 1) := dq_3 (dst 6 rd_prog_6_method_16_code_1 rfl)
theorem dX4_allows_39 : decode cX4_allows 39 = .ok (.ireturn, 1) := dq_172 (dst 7 rd_prog_6_method_16_code_1 rfl)
theorem dX4_allows_40 : decode cX4_allows 40 = .ok (.iload_n 3, 1) := dq_29 (dst 8 rd_prog_6_method_16_code_1 rfl)
theorem dX4_allows_41 : decode cX4_allows 41 = .ok (.invokestatic 147, 3) := dq_184 (dst 9 rd_prog_6_method_16_code_1 rfl) rfl
theorem dX4_allows_44 : decode cX4_allows 44 = .ok (.aload_n 0, 1) := dq_42 (dst 12 rd_prog_6_method_16_code_1 rfl)
theorem dX4_allows_45 : decode cX4_allows 45 = .ok (.iload 4, 2) := dq_21 (dst 13 rd_prog_6_method_16_code_1 rfl) rfl
theorem dX4_allows_47 : decode cX4_allows 47 = .ok (.bipush 100, 2) := dq_16 (dst 15 rd_prog_6_method_16_code_1 rfl) (by decide +kernel)
theorem dX4_allows_49 : decode cX4_allows 49 = .ok (.iload_n 3, 1) := dq_29 (dst 17 rd_prog_6_method_16_code_1 rfl)
theorem dX4_allows_50 : decode cX4_allows 50 = .ok (.invokestatic 141, 3) := dq_184 (dst 18 rd_prog_6_method_16_code_1 rfl) rfl
theorem dX4_allows_53 : decode cX4_allows 53 = .ok (.imul, 1) := dq_104 (dst 21 rd_prog_6_method_16_code_1 rfl)
theorem dX4_allows_54 : decode cX4_allows 54 = .ok (.iadd, 1) := dq_96 (dst 22 rd_prog_6_method_16_code_1 rfl)
theorem dX4_allows_55 : decode cX4_allows 55 = .ok (.invokevirtual 150, 3) := dq_182 (dst 23 rd_prog_6_method_16_code_1 rfl) rfl
theorem dX4_allows_58 : decode cX4_allows 58 = .ok (.if_icmp .gt 19, 3) := dq_163 (dst 26 rd_prog_6_method_16_code_1 rfl) (by decide +kernel)
theorem dX4_allows_61 : decode cX4_allows 61 = .ok (.iload_n 3, 1) := dq_29 (dst 29 rd_prog_6_method_16_code_1 rfl)
theorem dX4_allows_62 : decode cX4_allows 62 = .ok (.invokestatic 153, 3) := dq_184 (dst 30 rd_prog_6_method_16_code_1 rfl) rfl
theorem dX4_allows_65 : decode cX4_allows 65 = .ok (.aload_n 0, 1) := dq_42 (dst 1 rd_prog_6_method_16_code_2 rfl)
theorem dX4_allows_66 : decode cX4_allows 66 = .ok (.iload_n 1, 1) := dq_27 (dst 2 rd_prog_6_method_16_code_2 rfl)
theorem dX4_allows_67 : decode cX4_allows 67 = .ok (.invokevirtual 156, 3) := dq_182 (dst 3 rd_prog_6_method_16_code_2 rfl) rfl
theorem dX4_allows_70 : decode cX4_allows 70 = .ok (.if_icmp .gt 7, 3) := dq_163 (dst 6 rd_prog_6_method_16_code_2 rfl) (by decide +kernel)
theorem dX4_allows_73 : decode cX4_allows 73 = .ok (.iconst 1, 1) := dq_4 (dst 9 rd_prog_6_method_16_code_2 rfl)
theorem dX4_allows_74 : decode cX4_allows 74 = .ok (.goto 4, 3) := dq_167 (dst 10 rd_prog_6_method_16_code_2 rfl) (by decide +kernel)
theorem dX4_allows_77 : decode cX4_allows 77 = .ok (.iconst 0, 1) := dq_3 (dst 13 rd_prog_6_method_16_code_2 rfl)
theorem dX4_allows_78 : decode cX4_allows 78 = .ok (.ireturn, 1) := dq_172 (dst 14 rd_prog_6_method_16_code_2 rfl)
theorem lf_X4_takenByLevel_1 : ∀ w ∈ ([Cond.methodLink RX4 97 Lib.Math.max.name, Cond.static Lib.Math.max.name, Cond.initialized "java/lang/Math", Cond.code Lib.Math.max.name Lib.Math.max.code 2 (some .int), Cond.methodLink RX4 127 Lib.Math.min.name, Cond.static Lib.Math.min.name, Cond.code Lib.Math.min.name Lib.Math.min.code 2 (some .int), Cond.methodLink RX4 144 yX4_mostTaken, Cond.instanceMethod yX4_mostTaken, Cond.selects RX4 yX4_mostTaken yX4_mostTaken, Cond.initialized RX4, Cond.code yX4_mostTaken cX4_mostTaken 3 (some .int), Cond.fieldLink RX4 15 "StillInAugust$House" "offers" "[I", Cond.fieldLink RX4 36 "StillInAugust$House" "hooks" "I", Cond.methodLink RX4 105 yX3_total, Cond.static yX3_total, Cond.initialized RX3, Cond.code yX3_total cX3_total 1 (some .int)] : List Cond), w ∈ wsX4_takenByLevel := fun _ h => (List.mem_cons_of_mem _ (List.mem_append_left _ h))
theorem lf_X4_takenByLevel_2 : ∀ w ∈ wsX40, w ∈ wsX4_takenByLevel := fun _ h => (List.mem_cons_of_mem _ (List.mem_append_right _ h))
set_option maxRecDepth 20000 in
theorem ggX4_takenByLevel_X4_mostTaken : GoodIn wsX4_takenByLevel wsX4_mostTaken := (gd_cons (lf_X4_takenByLevel_1 _ (List.mem_of_getElem? (i := 11) rfl)) rfl (goodIn_app (gd_cons (lf_X4_takenByLevel_1 _ (List.mem_of_getElem? (i := 12) rfl)) rfl (gd_cons (lf_X4_takenByLevel_1 _ (List.mem_of_getElem? (i := 13) rfl)) rfl (gd_cons (lf_X4_takenByLevel_1 _ (List.mem_of_getElem? (i := 4) rfl)) rfl (gd_cons (lf_X4_takenByLevel_1 _ (List.mem_of_getElem? (i := 5) rfl)) rfl (gd_cons (lf_X4_takenByLevel_1 _ (List.mem_of_getElem? (i := 2) rfl)) rfl (gd_cons (lf_X4_takenByLevel_1 _ (List.mem_of_getElem? (i := 6) rfl)) rfl (gd_cons (lf_X4_takenByLevel_1 _ (List.mem_of_getElem? (i := 14) rfl)) rfl (gd_cons (lf_X4_takenByLevel_1 _ (List.mem_of_getElem? (i := 15) rfl)) rfl (gd_cons (lf_X4_takenByLevel_1 _ (List.mem_of_getElem? (i := 16) rfl)) rfl (gd_cons (lf_X4_takenByLevel_1 _ (List.mem_of_getElem? (i := 17) rfl)) rfl (gd_nil _))))))))))) (goodIn_sub lf_X4_takenByLevel_2 ga_wsX40)))
set_option maxRecDepth 20000 in
theorem gX4_takenByLevel_X4_mostTaken : GoodIn wsX4_takenByLevel (wsV RX4 144 RX4 yX4_mostTaken wsX4_mostTaken) := goodIn_app (gd_cons (lf_X4_takenByLevel_1 _ (List.mem_of_getElem? (i := 7) rfl)) rfl (gd_cons (lf_X4_takenByLevel_1 _ (List.mem_of_getElem? (i := 8) rfl)) rfl (gd_cons (lf_X4_takenByLevel_1 _ (List.mem_of_getElem? (i := 9) rfl)) rfl (gd_cons (lf_X4_takenByLevel_1 _ (List.mem_of_getElem? (i := 10) rfl)) rfl (gd_nil _))))) ggX4_takenByLevel_X4_mostTaken
set_option maxRecDepth 20000 in
theorem ggX4_takenByLevel_X3_total : GoodIn wsX4_takenByLevel wsX3_total := (gd_cons (lf_X4_takenByLevel_1 _ (List.mem_of_getElem? (i := 17) rfl)) rfl (gd_nil _))
set_option maxRecDepth 20000 in
theorem gX4_takenByLevel_X3_total : GoodIn wsX4_takenByLevel (va_wsS RX4 105 yX3_total wsX3_total) := goodIn_app (gd_cons (lf_X4_takenByLevel_1 _ (List.mem_of_getElem? (i := 14) rfl)) rfl (gd_cons (lf_X4_takenByLevel_1 _ (List.mem_of_getElem? (i := 15) rfl)) rfl (gd_cons (lf_X4_takenByLevel_1 _ (List.mem_of_getElem? (i := 16) rfl)) rfl (gd_nil _)))) ggX4_takenByLevel_X3_total
theorem dX4_takenByLevel_0 : decode cX4_takenByLevel 0 = .ok (.aload_n 0, 1) := dq_42 (dst 0 rd_prog_6_method_17_code_0 rfl)
theorem dX4_takenByLevel_1 : decode cX4_takenByLevel 1 = .ok (.iload_n 1, 1) := dq_27 (dst 1 rd_prog_6_method_17_code_0 rfl)
theorem dX4_takenByLevel_2 : decode cX4_takenByLevel 2 = .ok (.iload_n 2, 1) := dq_28 (dst 2 rd_prog_6_method_17_code_0 rfl)
theorem dX4_takenByLevel_3 : decode cX4_takenByLevel 3 = .ok (.invokevirtual 144, 3) := dq_182 (dst 3 rd_prog_6_method_17_code_0 rfl) rfl
theorem dX4_takenByLevel_6 : decode cX4_takenByLevel 6 = .ok (.iconst 0, 1) := dq_3 (dst 6 rd_prog_6_method_17_code_0 rfl)
theorem dX4_takenByLevel_7 : decode cX4_takenByLevel 7 = .ok (.iload_n 3, 1) := dq_29 (dst 7 rd_prog_6_method_17_code_0 rfl)
theorem dX4_takenByLevel_8 : decode cX4_takenByLevel 8 = .ok (.iload_n 2, 1) := dq_28 (dst 8 rd_prog_6_method_17_code_0 rfl)
theorem dX4_takenByLevel_9 : decode cX4_takenByLevel 9 = .ok (.invokestatic 105, 3) := dq_184 (dst 9 rd_prog_6_method_17_code_0 rfl) rfl
theorem dX4_takenByLevel_12 : decode cX4_takenByLevel 12 = .ok (.isub, 1) := dq_100 (dst 12 rd_prog_6_method_17_code_0 rfl)
theorem dX4_takenByLevel_13 : decode cX4_takenByLevel 13 = .ok (.invokestatic 97, 3) := dq_184 (dst 13 rd_prog_6_method_17_code_0 rfl) rfl
theorem dX4_takenByLevel_16 : decode cX4_takenByLevel 16 = .ok (.invokestatic 127, 3) := dq_184 (dst 16 rd_prog_6_method_17_code_0 rfl) rfl
theorem dX4_takenByLevel_19 : decode cX4_takenByLevel 19 = .ok (.ireturn, 1) := dq_172 (dst 19 rd_prog_6_method_17_code_0 rfl)
theorem dX4_lack_0 : decode cX4_lack 0 = .ok (.iload_n 2, 1) := dq_28 (dst 0 rd_prog_6_method_18_code_0 rfl)
theorem dX4_lack_1 : decode cX4_lack 1 = .ok (.bipush 10, 2) := dq_16 (dst 1 rd_prog_6_method_18_code_0 rfl) (by decide +kernel)
theorem dX4_lack_3 : decode cX4_lack 3 = .ok (.irem, 1) := dq_112 (dst 3 rd_prog_6_method_18_code_0 rfl)
theorem dX4_lack_4 : decode cX4_lack 4 = .ok (.iload_n 3, 1) := dq_29 (dst 4 rd_prog_6_method_18_code_0 rfl)
theorem dX4_lack_5 : decode cX4_lack 5 = .ok (.iadd, 1) := dq_96 (dst 5 rd_prog_6_method_18_code_0 rfl)
theorem dX4_lack_6 : decode cX4_lack 6 = .ok (.iload 4, 2) := dq_21 (dst 6 rd_prog_6_method_18_code_0 rfl) rfl
theorem dX4_lack_8 : decode cX4_lack 8 = .ok (.isub, 1) := dq_100 (dst 8 rd_prog_6_method_18_code_0 rfl)
theorem dX4_lack_9 : decode cX4_lack 9 = .ok (.istore 5, 2) := dq_54 (dst 9 rd_prog_6_method_18_code_0 rfl) rfl
theorem dX4_lack_11 : decode cX4_lack 11 = .ok (.aload_n 0, 1) := dq_42 (dst 11 rd_prog_6_method_18_code_0 rfl)
theorem dX4_lack_12 : decode cX4_lack 12 = .ok (.getfield 9, 3) := dq_180 (dst 12 rd_prog_6_method_18_code_0 rfl) rfl
theorem dX4_lack_15 : decode cX4_lack 15 = .ok (.iload_n 1, 1) := dq_27 (dst 15 rd_prog_6_method_18_code_0 rfl)
theorem dX4_lack_16 : decode cX4_lack 16 = .ok (.iaload, 1) := dq_46 (dst 16 rd_prog_6_method_18_code_0 rfl)
theorem dX4_lack_17 : decode cX4_lack 17 = .ok (.aload_n 0, 1) := dq_42 (dst 17 rd_prog_6_method_18_code_0 rfl)
theorem dX4_lack_18 : decode cX4_lack 18 = .ok (.getfield 21, 3) := dq_180 (dst 18 rd_prog_6_method_18_code_0 rfl) rfl
theorem dX4_lack_21 : decode cX4_lack 21 = .ok (.iconst 0, 1) := dq_3 (dst 21 rd_prog_6_method_18_code_0 rfl)
theorem dX4_lack_22 : decode cX4_lack 22 = .ok (.iaload, 1) := dq_46 (dst 22 rd_prog_6_method_18_code_0 rfl)
theorem dX4_lack_23 : decode cX4_lack 23 = .ok (.iload_n 2, 1) := dq_28 (dst 23 rd_prog_6_method_18_code_0 rfl)
theorem dX4_lack_24 : decode cX4_lack 24 = .ok (.bipush 100, 2) := dq_16 (dst 24 rd_prog_6_method_18_code_0 rfl) (by decide +kernel)
theorem dX4_lack_26 : decode cX4_lack 26 = .ok (.idiv, 1) := dq_108 (dst 26 rd_prog_6_method_18_code_0 rfl)
theorem dX4_lack_27 : decode cX4_lack 27 = .ok (.imul, 1) := dq_104 (dst 27 rd_prog_6_method_18_code_0 rfl)
theorem dX4_lack_28 : decode cX4_lack 28 = .ok (.isub, 1) := dq_100 (dst 28 rd_prog_6_method_18_code_0 rfl)
theorem dX4_lack_29 : decode cX4_lack 29 = .ok (.aload_n 0, 1) := dq_42 (dst 29 rd_prog_6_method_18_code_0 rfl)
theorem dX4_lack_30 : decode cX4_lack 30 = .ok (.getfield 21, 3) := dq_180 (dst 30 rd_prog_6_method_18_code_0 rfl) rfl
theorem dX4_lack_33 : decode cX4_lack 33 = .ok (.iconst 1, 1) := dq_4 (dst 1 rd_prog_6_method_18_code_1 rfl)
theorem dX4_lack_34 : decode cX4_lack 34 = .ok (.iaload, 1) := dq_46 (dst 2 rd_prog_6_method_18_code_1 rfl)
theorem dX4_lack_35 : decode cX4_lack 35 = .ok (.iload_n 2, 1) := dq_28 (dst 3 rd_prog_6_method_18_code_1 rfl)
theorem dX4_lack_36 : decode cX4_lack 36 = .ok (.bipush 10, 2) := dq_16 (dst 4 rd_prog_6_method_18_code_1 rfl) (by decide +kernel)
theorem dX4_lack_38 : decode cX4_lack 38 = .ok (.idiv, 1) := dq_108 (dst 6 rd_prog_6_method_18_code_1 rfl)
theorem dX4_lack_39 : decode cX4_lack 39 = .ok (.bipush 10, 2) := dq_16 (dst 7 rd_prog_6_method_18_code_1 rfl) (by decide +kernel)
theorem dX4_lack_41 : decode cX4_lack 41 = .ok (.irem, 1) := dq_112 (dst 9 rd_prog_6_method_18_code_1 rfl)
theorem dX4_lack_42 : decode cX4_lack 42 = .ok (.imul, 1) := dq_104 (dst 10 rd_prog_6_method_18_code_1 rfl)
theorem dX4_lack_43 : decode cX4_lack 43 = .ok (.isub, 1) := dq_100 (dst 11 rd_prog_6_method_18_code_1 rfl)
theorem dX4_lack_44 : decode cX4_lack 44 = .ok (.aload_n 0, 1) := dq_42 (dst 12 rd_prog_6_method_18_code_1 rfl)
theorem dX4_lack_45 : decode cX4_lack 45 = .ok (.getfield 21, 3) := dq_180 (dst 13 rd_prog_6_method_18_code_1 rfl) rfl
theorem dX4_lack_48 : decode cX4_lack 48 = .ok (.iconst 2, 1) := dq_5 (dst 16 rd_prog_6_method_18_code_1 rfl)
theorem dX4_lack_49 : decode cX4_lack 49 = .ok (.iaload, 1) := dq_46 (dst 17 rd_prog_6_method_18_code_1 rfl)
theorem dX4_lack_50 : decode cX4_lack 50 = .ok (.iload 5, 2) := dq_21 (dst 18 rd_prog_6_method_18_code_1 rfl) rfl
theorem dX4_lack_52 : decode cX4_lack 52 = .ok (.imul, 1) := dq_104 (dst 20 rd_prog_6_method_18_code_1 rfl)
theorem dX4_lack_53 : decode cX4_lack 53 = .ok (.isub, 1) := dq_100 (dst 21 rd_prog_6_method_18_code_1 rfl)
theorem dX4_lack_54 : decode cX4_lack 54 = .ok (.ireturn, 1) := dq_172 (dst 22 rd_prog_6_method_18_code_1 rfl)
theorem lf_X4_weekCost_1 : ∀ w ∈ wsX4_weekCost_r1, w ∈ wsX4_weekCost := fun _ h => (List.mem_cons_of_mem _ (List.mem_append_left _ (List.mem_append_left _ h)))
theorem lf_X4_weekCost_2 : ∀ w ∈ wsX4_weekCost_r2, w ∈ wsX4_weekCost := fun _ h => (List.mem_cons_of_mem _ (List.mem_append_left _ (List.mem_append_right _ h)))
theorem lf_X4_weekCost_3 : ∀ w ∈ wsX40, w ∈ wsX4_weekCost := fun _ h => (List.mem_cons_of_mem _ (List.mem_append_right _ h))
set_option maxRecDepth 20000 in
theorem ggX4_weekCost_X0_taught : GoodIn wsX4_weekCost wsX0_taught := (gd_cons (lf_X4_weekCost_1 _ (List.mem_of_getElem? (i := 12) rfl)) rfl (gd_nil _))
set_option maxRecDepth 20000 in
theorem gX4_weekCost_X0_taught : GoodIn wsX4_weekCost (va_wsS RX4 147 yX0_taught wsX0_taught) := goodIn_app (gd_cons (lf_X4_weekCost_1 _ (List.mem_of_getElem? (i := 9) rfl)) rfl (gd_cons (lf_X4_weekCost_1 _ (List.mem_of_getElem? (i := 10) rfl)) rfl (gd_cons (lf_X4_weekCost_1 _ (List.mem_of_getElem? (i := 11) rfl)) rfl (gd_nil _)))) ggX4_weekCost_X0_taught
set_option maxRecDepth 20000 in
theorem ggX4_weekCost_X3_total : GoodIn wsX4_weekCost wsX3_total := (gd_cons (lf_X4_weekCost_1 _ (List.mem_of_getElem? (i := 16) rfl)) rfl (gd_nil _))
set_option maxRecDepth 20000 in
theorem gX4_weekCost_X3_total : GoodIn wsX4_weekCost (va_wsS RX4 105 yX3_total wsX3_total) := goodIn_app (gd_cons (lf_X4_weekCost_1 _ (List.mem_of_getElem? (i := 13) rfl)) rfl (gd_cons (lf_X4_weekCost_1 _ (List.mem_of_getElem? (i := 14) rfl)) rfl (gd_cons (lf_X4_weekCost_1 _ (List.mem_of_getElem? (i := 15) rfl)) rfl (gd_nil _)))) ggX4_weekCost_X3_total
set_option maxRecDepth 20000 in
theorem ggX4_weekCost_X4_lack : GoodIn wsX4_weekCost wsX4_lack := (gd_cons (lf_X4_weekCost_1 _ (List.mem_of_getElem? (i := 21) rfl)) rfl (goodIn_app (gd_cons (lf_X4_weekCost_1 _ (List.mem_of_getElem? (i := 22) rfl)) rfl (gd_cons (lf_X4_weekCost_1 _ (List.mem_of_getElem? (i := 23) rfl)) rfl (gd_nil _))) (goodIn_sub lf_X4_weekCost_3 ga_wsX40)))
set_option maxRecDepth 20000 in
theorem gX4_weekCost_X4_lack : GoodIn wsX4_weekCost (wsV RX4 159 RX4 yX4_lack wsX4_lack) := goodIn_app (gd_cons (lf_X4_weekCost_1 _ (List.mem_of_getElem? (i := 17) rfl)) rfl (gd_cons (lf_X4_weekCost_1 _ (List.mem_of_getElem? (i := 18) rfl)) rfl (gd_cons (lf_X4_weekCost_1 _ (List.mem_of_getElem? (i := 19) rfl)) rfl (gd_cons (lf_X4_weekCost_1 _ (List.mem_of_getElem? (i := 20) rfl)) rfl (gd_nil _))))) ggX4_weekCost_X4_lack
set_option maxRecDepth 20000 in
theorem ggX4_weekCost_X0_letGo : GoodIn wsX4_weekCost wsX0_letGo := (gd_cons (lf_X4_weekCost_2 _ (List.mem_of_getElem? (i := 2) rfl)) rfl (gd_nil _))
set_option maxRecDepth 20000 in
theorem gX4_weekCost_X0_letGo : GoodIn wsX4_weekCost (va_wsS RX4 130 yX0_letGo wsX0_letGo) := goodIn_app (gd_cons (lf_X4_weekCost_2 _ (List.mem_of_getElem? (i := 0) rfl)) rfl (gd_cons (lf_X4_weekCost_2 _ (List.mem_of_getElem? (i := 1) rfl)) rfl (gd_cons (lf_X4_weekCost_1 _ (List.mem_of_getElem? (i := 11) rfl)) rfl (gd_nil _)))) ggX4_weekCost_X0_letGo
theorem dX4_weekCost_0 : decode cX4_weekCost 0 = .ok (.iload 4, 2) := dq_21 (dst 0 rd_prog_6_method_19_code_0 rfl) rfl
theorem dX4_weekCost_2 : decode cX4_weekCost 2 = .ok (.invokestatic 147, 3) := dq_184 (dst 2 rd_prog_6_method_19_code_0 rfl) rfl
theorem dX4_weekCost_5 : decode cX4_weekCost 5 = .ok (.istore 5, 2) := dq_54 (dst 5 rd_prog_6_method_19_code_0 rfl) rfl
theorem dX4_weekCost_7 : decode cX4_weekCost 7 = .ok (.aload_n 0, 1) := dq_42 (dst 7 rd_prog_6_method_19_code_0 rfl)
theorem dX4_weekCost_8 : decode cX4_weekCost 8 = .ok (.getfield 45, 3) := dq_180 (dst 8 rd_prog_6_method_19_code_0 rfl) rfl
theorem dX4_weekCost_11 : decode cX4_weekCost 11 = .ok (.iload_n 2, 1) := dq_28 (dst 11 rd_prog_6_method_19_code_0 rfl)
theorem dX4_weekCost_12 : decode cX4_weekCost 12 = .ok (.invokestatic 105, 3) := dq_184 (dst 12 rd_prog_6_method_19_code_0 rfl) rfl
theorem dX4_weekCost_15 : decode cX4_weekCost 15 = .ok (.imul, 1) := dq_104 (dst 15 rd_prog_6_method_19_code_0 rfl)
theorem dX4_weekCost_16 : decode cX4_weekCost 16 = .ok (.aload_n 0, 1) := dq_42 (dst 16 rd_prog_6_method_19_code_0 rfl)
theorem dX4_weekCost_17 : decode cX4_weekCost 17 = .ok (.getfield 48, 3) := dq_180 (dst 17 rd_prog_6_method_19_code_0 rfl) rfl
theorem dX4_weekCost_20 : decode cX4_weekCost 20 = .ok (.iconst 0, 1) := dq_3 (dst 20 rd_prog_6_method_19_code_0 rfl)
theorem dX4_weekCost_21 : decode cX4_weekCost 21 = .ok (.aload_n 0, 1) := dq_42 (dst 21 rd_prog_6_method_19_code_0 rfl)
theorem dX4_weekCost_22 : decode cX4_weekCost 22 = .ok (.iload_n 1, 1) := dq_27 (dst 22 rd_prog_6_method_19_code_0 rfl)
theorem dX4_weekCost_23 : decode cX4_weekCost 23 = .ok (.iload_n 2, 1) := dq_28 (dst 23 rd_prog_6_method_19_code_0 rfl)
theorem dX4_weekCost_24 : decode cX4_weekCost 24 = .ok (.iload_n 3, 1) := dq_29 (dst 24 rd_prog_6_method_19_code_0 rfl)
theorem dX4_weekCost_25 : decode cX4_weekCost 25 = .ok (.iload 5, 2) := dq_21 (dst 25 rd_prog_6_method_19_code_0 rfl) rfl
theorem dX4_weekCost_27 : decode cX4_weekCost 27 = .ok (.invokevirtual 159, 3) := dq_182 (dst 27 rd_prog_6_method_19_code_0 rfl) rfl
theorem dX4_weekCost_30 : decode cX4_weekCost 30 = .ok (.invokestatic 97, 3) := dq_184 (dst 30 rd_prog_6_method_19_code_0 rfl) rfl
theorem dX4_weekCost_33 : decode cX4_weekCost 33 = .ok (.imul, 1) := dq_104 (dst 1 rd_prog_6_method_19_code_1 rfl)
theorem dX4_weekCost_34 : decode cX4_weekCost 34 = .ok (.iadd, 1) := dq_96 (dst 2 rd_prog_6_method_19_code_1 rfl)
theorem dX4_weekCost_35 : decode cX4_weekCost 35 = .ok (.istore 6, 2) := dq_54 (dst 3 rd_prog_6_method_19_code_1 rfl) rfl
theorem dX4_weekCost_37 : decode cX4_weekCost 37 = .ok (.aload_n 0, 1) := dq_42 (dst 5 rd_prog_6_method_19_code_1 rfl)
theorem dX4_weekCost_38 : decode cX4_weekCost 38 = .ok (.getfield 51, 3) := dq_180 (dst 6 rd_prog_6_method_19_code_1 rfl) rfl
theorem dX4_weekCost_41 : decode cX4_weekCost 41 = .ok (.bipush (-9), 2) := dq_16 (dst 9 rd_prog_6_method_19_code_1 rfl) (by decide +kernel)
theorem dX4_weekCost_43 : decode cX4_weekCost 43 = .ok (.if_icmp .eq 18, 3) := dq_159 (dst 11 rd_prog_6_method_19_code_1 rfl) (by decide +kernel)
theorem dX4_weekCost_46 : decode cX4_weekCost 46 = .ok (.iload 6, 2) := dq_21 (dst 14 rd_prog_6_method_19_code_1 rfl) rfl
theorem dX4_weekCost_48 : decode cX4_weekCost 48 = .ok (.aload_n 0, 1) := dq_42 (dst 16 rd_prog_6_method_19_code_1 rfl)
theorem dX4_weekCost_49 : decode cX4_weekCost 49 = .ok (.getfield 51, 3) := dq_180 (dst 17 rd_prog_6_method_19_code_1 rfl) rfl
theorem dX4_weekCost_52 : decode cX4_weekCost 52 = .ok (.iload 4, 2) := dq_21 (dst 20 rd_prog_6_method_19_code_1 rfl) rfl
theorem dX4_weekCost_54 : decode cX4_weekCost 54 = .ok (.invokestatic 130, 3) := dq_184 (dst 22 rd_prog_6_method_19_code_1 rfl) rfl
theorem dX4_weekCost_57 : decode cX4_weekCost 57 = .ok (.imul, 1) := dq_104 (dst 25 rd_prog_6_method_19_code_1 rfl)
theorem dX4_weekCost_58 : decode cX4_weekCost 58 = .ok (.iadd, 1) := dq_96 (dst 26 rd_prog_6_method_19_code_1 rfl)
theorem dX4_weekCost_59 : decode cX4_weekCost 59 = .ok (.istore 6, 2) := dq_54 (dst 27 rd_prog_6_method_19_code_1 rfl) rfl
theorem dX4_weekCost_61 : decode cX4_weekCost 61 = .ok (.aload_n 0, 1) := dq_42 (dst 29 rd_prog_6_method_19_code_1 rfl)
theorem dX4_weekCost_62 : decode cX4_weekCost 62 = .ok (.getfield 54, 3) := dq_180 (dst 30 rd_prog_6_method_19_code_1 rfl) rfl
theorem dX4_weekCost_65 : decode cX4_weekCost 65 = .ok (.bipush (-9), 2) := dq_16 (dst 1 rd_prog_6_method_19_code_2 rfl) (by decide +kernel)
theorem dX4_weekCost_67 : decode cX4_weekCost 67 = .ok (.if_icmp .eq 15, 3) := dq_159 (dst 3 rd_prog_6_method_19_code_2 rfl) (by decide +kernel)
theorem dX4_weekCost_70 : decode cX4_weekCost 70 = .ok (.iload 6, 2) := dq_21 (dst 6 rd_prog_6_method_19_code_2 rfl) rfl
theorem dX4_weekCost_72 : decode cX4_weekCost 72 = .ok (.aload_n 0, 1) := dq_42 (dst 8 rd_prog_6_method_19_code_2 rfl)
theorem dX4_weekCost_73 : decode cX4_weekCost 73 = .ok (.getfield 54, 3) := dq_180 (dst 9 rd_prog_6_method_19_code_2 rfl) rfl
theorem dX4_weekCost_76 : decode cX4_weekCost 76 = .ok (.iload 5, 2) := dq_21 (dst 12 rd_prog_6_method_19_code_2 rfl) rfl
theorem dX4_weekCost_78 : decode cX4_weekCost 78 = .ok (.imul, 1) := dq_104 (dst 14 rd_prog_6_method_19_code_2 rfl)
theorem dX4_weekCost_79 : decode cX4_weekCost 79 = .ok (.iadd, 1) := dq_96 (dst 15 rd_prog_6_method_19_code_2 rfl)
theorem dX4_weekCost_80 : decode cX4_weekCost 80 = .ok (.istore 6, 2) := dq_54 (dst 16 rd_prog_6_method_19_code_2 rfl) rfl
theorem dX4_weekCost_82 : decode cX4_weekCost 82 = .ok (.aload_n 0, 1) := dq_42 (dst 18 rd_prog_6_method_19_code_2 rfl)
theorem dX4_weekCost_83 : decode cX4_weekCost 83 = .ok (.getfield 57, 3) := dq_180 (dst 19 rd_prog_6_method_19_code_2 rfl) rfl
theorem dX4_weekCost_86 : decode cX4_weekCost 86 = .ok (.bipush (-9), 2) := dq_16 (dst 22 rd_prog_6_method_19_code_2 rfl) (by decide +kernel)
theorem dX4_weekCost_88 : decode cX4_weekCost 88 = .ok (.if_icmp .eq 14, 3) := dq_159 (dst 24 rd_prog_6_method_19_code_2 rfl) (by decide +kernel)
theorem dX4_weekCost_91 : decode cX4_weekCost 91 = .ok (.iload 6, 2) := dq_21 (dst 27 rd_prog_6_method_19_code_2 rfl) rfl
theorem dX4_weekCost_93 : decode cX4_weekCost 93 = .ok (.aload_n 0, 1) := dq_42 (dst 29 rd_prog_6_method_19_code_2 rfl)
theorem dX4_weekCost_94 : decode cX4_weekCost 94 = .ok (.getfield 57, 3) := dq_180 (dst 30 rd_prog_6_method_19_code_2 rfl) rfl
theorem dX4_weekCost_97 : decode cX4_weekCost 97 = .ok (.iload_n 3, 1) := dq_29 (dst 1 rd_prog_6_method_19_code_3 rfl)
theorem dX4_weekCost_98 : decode cX4_weekCost 98 = .ok (.imul, 1) := dq_104 (dst 2 rd_prog_6_method_19_code_3 rfl)
theorem dX4_weekCost_99 : decode cX4_weekCost 99 = .ok (.iadd, 1) := dq_96 (dst 3 rd_prog_6_method_19_code_3 rfl)
theorem dX4_weekCost_100 : decode cX4_weekCost 100 = .ok (.istore 6, 2) := dq_54 (dst 4 rd_prog_6_method_19_code_3 rfl) rfl
theorem dX4_weekCost_102 : decode cX4_weekCost 102 = .ok (.iload 6, 2) := dq_21 (dst 6 rd_prog_6_method_19_code_3 rfl) rfl
theorem dX4_weekCost_104 : decode cX4_weekCost 104 = .ok (.ireturn, 1) := dq_172 (dst 8 rd_prog_6_method_19_code_3 rfl)
theorem lf_X4_bonusFor_1 : ∀ w ∈ ([Cond.fieldLink RX4 60 "StillInAugust$House" "bonus" "I", Cond.methodLink RX4 105 yX3_total, Cond.static yX3_total, Cond.initialized RX3, Cond.code yX3_total cX3_total 1 (some .int)] : List Cond), w ∈ wsX4_bonusFor := fun _ h => (List.mem_cons_of_mem _ (List.mem_append_left _ h))
theorem lf_X4_bonusFor_2 : ∀ w ∈ wsX40, w ∈ wsX4_bonusFor := fun _ h => (List.mem_cons_of_mem _ (List.mem_append_right _ h))
set_option maxRecDepth 20000 in
theorem ggX4_bonusFor_X3_total : GoodIn wsX4_bonusFor wsX3_total := (gd_cons (lf_X4_bonusFor_1 _ (List.mem_of_getElem? (i := 4) rfl)) rfl (gd_nil _))
set_option maxRecDepth 20000 in
theorem gX4_bonusFor_X3_total : GoodIn wsX4_bonusFor (va_wsS RX4 105 yX3_total wsX3_total) := goodIn_app (gd_cons (lf_X4_bonusFor_1 _ (List.mem_of_getElem? (i := 1) rfl)) rfl (gd_cons (lf_X4_bonusFor_1 _ (List.mem_of_getElem? (i := 2) rfl)) rfl (gd_cons (lf_X4_bonusFor_1 _ (List.mem_of_getElem? (i := 3) rfl)) rfl (gd_nil _)))) ggX4_bonusFor_X3_total
theorem dX4_bonusFor_0 : decode cX4_bonusFor 0 = .ok (.aload_n 0, 1) := dq_42 (dst 0 rd_prog_6_method_20_code_0 rfl)
theorem dX4_bonusFor_1 : decode cX4_bonusFor 1 = .ok (.getfield 60, 3) := dq_180 (dst 1 rd_prog_6_method_20_code_0 rfl) rfl
theorem dX4_bonusFor_4 : decode cX4_bonusFor 4 = .ok (.bipush (-9), 2) := dq_16 (dst 4 rd_prog_6_method_20_code_0 rfl) (by decide +kernel)
theorem dX4_bonusFor_6 : decode cX4_bonusFor 6 = .ok (.if_icmp .ne 7, 3) := dq_160 (dst 6 rd_prog_6_method_20_code_0 rfl) (by decide +kernel)
theorem dX4_bonusFor_9 : decode cX4_bonusFor 9 = .ok (.iconst 0, 1) := dq_3 (dst 9 rd_prog_6_method_20_code_0 rfl)
theorem dX4_bonusFor_10 : decode cX4_bonusFor 10 = .ok (.goto 12, 3) := dq_167 (dst 10 rd_prog_6_method_20_code_0 rfl) (by decide +kernel)
theorem dX4_bonusFor_13 : decode cX4_bonusFor 13 = .ok (.aload_n 0, 1) := dq_42 (dst 13 rd_prog_6_method_20_code_0 rfl)
theorem dX4_bonusFor_14 : decode cX4_bonusFor 14 = .ok (.getfield 60, 3) := dq_180 (dst 14 rd_prog_6_method_20_code_0 rfl) rfl
theorem dX4_bonusFor_17 : decode cX4_bonusFor 17 = .ok (.iload_n 1, 1) := dq_27 (dst 17 rd_prog_6_method_20_code_0 rfl)
theorem dX4_bonusFor_18 : decode cX4_bonusFor 18 = .ok (.invokestatic 105, 3) := dq_184 (dst 18 rd_prog_6_method_20_code_0 rfl) rfl
theorem dX4_bonusFor_21 : decode cX4_bonusFor 21 = .ok (.imul, 1) := dq_104 (dst 21 rd_prog_6_method_20_code_0 rfl)
theorem dX4_bonusFor_22 : decode cX4_bonusFor 22 = .ok (.ireturn, 1) := dq_172 (dst 22 rd_prog_6_method_20_code_0 rfl)
theorem dX4_sumOf_0 : decode cX4_sumOf 0 = .ok (.iconst 0, 1) := dq_3 (dst 0 rd_prog_6_method_21_code_0 rfl)
theorem dX4_sumOf_1 : decode cX4_sumOf 1 = .ok (.istore_n 2, 1) := dq_61 (dst 1 rd_prog_6_method_21_code_0 rfl)
theorem dX4_sumOf_2 : decode cX4_sumOf 2 = .ok (.iconst 0, 1) := dq_3 (dst 2 rd_prog_6_method_21_code_0 rfl)
theorem dX4_sumOf_3 : decode cX4_sumOf 3 = .ok (.istore_n 3, 1) := dq_62 (dst 3 rd_prog_6_method_21_code_0 rfl)
theorem dX4_sumOf_4 : decode cX4_sumOf 4 = .ok (.iload_n 3, 1) := dq_29 (dst 4 rd_prog_6_method_21_code_0 rfl)
theorem dX4_sumOf_5 : decode cX4_sumOf 5 = .ok (.aload_n 0, 1) := dq_42 (dst 5 rd_prog_6_method_21_code_0 rfl)
theorem dX4_sumOf_6 : decode cX4_sumOf 6 = .ok (.getfield 32, 3) := dq_180 (dst 6 rd_prog_6_method_21_code_0 rfl) rfl
theorem dX4_sumOf_9 : decode cX4_sumOf 9 = .ok (.if_icmp .ge 21, 3) := dq_162 (dst 9 rd_prog_6_method_21_code_0 rfl) (by decide +kernel)
theorem dX4_sumOf_12 : decode cX4_sumOf 12 = .ok (.iload_n 3, 1) := dq_29 (dst 12 rd_prog_6_method_21_code_0 rfl)
theorem dX4_sumOf_13 : decode cX4_sumOf 13 = .ok (.aload_n 1, 1) := dq_43 (dst 13 rd_prog_6_method_21_code_0 rfl)
theorem dX4_sumOf_14 : decode cX4_sumOf 14 = .ok (.arraylength, 1) := dq_190 (dst 14 rd_prog_6_method_21_code_0 rfl)
theorem dX4_sumOf_15 : decode cX4_sumOf 15 = .ok (.if_icmp .ge 15, 3) := dq_162 (dst 15 rd_prog_6_method_21_code_0 rfl) (by decide +kernel)
theorem dX4_sumOf_18 : decode cX4_sumOf 18 = .ok (.iload_n 2, 1) := dq_28 (dst 18 rd_prog_6_method_21_code_0 rfl)
theorem dX4_sumOf_19 : decode cX4_sumOf 19 = .ok (.aload_n 1, 1) := dq_43 (dst 19 rd_prog_6_method_21_code_0 rfl)
theorem dX4_sumOf_20 : decode cX4_sumOf 20 = .ok (.iload_n 3, 1) := dq_29 (dst 20 rd_prog_6_method_21_code_0 rfl)
theorem dX4_sumOf_21 : decode cX4_sumOf 21 = .ok (.iaload, 1) := dq_46 (dst 21 rd_prog_6_method_21_code_0 rfl)
theorem dX4_sumOf_22 : decode cX4_sumOf 22 = .ok (.iadd, 1) := dq_96 (dst 22 rd_prog_6_method_21_code_0 rfl)
theorem dX4_sumOf_23 : decode cX4_sumOf 23 = .ok (.istore_n 2, 1) := dq_61 (dst 23 rd_prog_6_method_21_code_0 rfl)
theorem dX4_sumOf_24 : decode cX4_sumOf 24 = .ok (.iinc 3 1, 3) := dq_132 (dst 24 rd_prog_6_method_21_code_0 rfl) rfl (by decide +kernel)
theorem dX4_sumOf_27 : decode cX4_sumOf 27 = .ok (.goto (-23), 3) := dq_167 (dst 27 rd_prog_6_method_21_code_0 rfl) (by decide +kernel)
theorem dX4_sumOf_30 : decode cX4_sumOf 30 = .ok (.iload_n 2, 1) := dq_28 (dst 30 rd_prog_6_method_21_code_0 rfl)
theorem dX4_sumOf_31 : decode cX4_sumOf 31 = .ok (.ireturn, 1) := dq_172 (dst 31 rd_prog_6_method_21_code_0 rfl)
theorem lf_X5_init_1 : ∀ w ∈ ([Cond.methodLink RX5 3 objectInit, Cond.instanceMethod objectInit, Cond.code objectInit ⟨#[0xb1]⟩ 1 none, Cond.arrayClass .int, Cond.fieldLink RX5 9 "StillInAugust$HouseReader" "untold" "[I", Cond.classLink RX5 15 RX2, Cond.instantiable RX2 3, Cond.initialized RX2, Cond.fieldLink RX5 20 "StillInAugust$HouseReader" "cursor" "LStillInAugust$Cursor;", Cond.methodLink RX5 17 yX2_init, Cond.instanceMethod yX2_init, Cond.code yX2_init cX2_init 2 none, Cond.methodLink RX2 3 objectInit, Cond.fieldLink RX2 9 "StillInAugust$Cursor" "text" "LStillInAugust$Text;"] : List Cond), w ∈ wsX5_init := fun _ h => (List.mem_cons_of_mem _ (List.mem_append_left _ (List.mem_append_left _ h)))
theorem lf_X5_init_2 : ∀ w ∈ wsX50, w ∈ wsX5_init := fun _ h => (List.mem_cons_of_mem _ (List.mem_append_left _ (List.mem_append_right _ h)))
theorem lf_X5_init_3 : ∀ w ∈ wsX20, w ∈ wsX5_init := fun _ h => (List.mem_cons_of_mem _ (List.mem_append_right _ h))
set_option maxRecDepth 20000 in
theorem ggX5_init_X2_init : GoodIn wsX5_init wsX2_init := (gd_cons (lf_X5_init_1 _ (List.mem_of_getElem? (i := 11) rfl)) rfl (goodIn_app (gd_cons (lf_X5_init_1 _ (List.mem_of_getElem? (i := 12) rfl)) rfl (gd_cons (lf_X5_init_1 _ (List.mem_of_getElem? (i := 1) rfl)) rfl (gd_cons (lf_X5_init_1 _ (List.mem_of_getElem? (i := 2) rfl)) rfl (gd_cons (lf_X5_init_1 _ (List.mem_of_getElem? (i := 13) rfl)) rfl (gd_nil _))))) (goodIn_sub lf_X5_init_3 ga_wsX20)))
set_option maxRecDepth 20000 in
theorem gX5_init_X2_init : GoodIn wsX5_init (wsX2_init) := ggX5_init_X2_init
theorem dX5_init_0 : decode cX5_init 0 = .ok (.aload_n 0, 1) := dq_42 (dst 0 rd_prog_7_method_1_code_0 rfl)
theorem dX5_init_1 : decode cX5_init 1 = .ok (.invokespecial 3, 3) := dq_183 (dst 1 rd_prog_7_method_1_code_0 rfl) rfl
theorem dX5_init_4 : decode cX5_init 4 = .ok (.aload_n 0, 1) := dq_42 (dst 4 rd_prog_7_method_1_code_0 rfl)
theorem dX5_init_5 : decode cX5_init 5 = .ok (.bipush 26, 2) := dq_16 (dst 5 rd_prog_7_method_1_code_0 rfl) (by decide +kernel)
theorem dX5_init_7 : decode cX5_init 7 = .ok (.newarray .int, 2) := dq_188_10 (dst 7 rd_prog_7_method_1_code_0 rfl)
theorem dX5_init_9 : decode cX5_init 9 = .ok (.putfield 9, 3) := dq_181 (dst 9 rd_prog_7_method_1_code_0 rfl) rfl
theorem dX5_init_12 : decode cX5_init 12 = .ok (.aload_n 0, 1) := dq_42 (dst 12 rd_prog_7_method_1_code_0 rfl)
theorem dX5_init_13 : decode cX5_init 13 = .ok (.new 15, 3) := dq_187 (dst 13 rd_prog_7_method_1_code_0 rfl) rfl
theorem dX5_init_16 : decode cX5_init 16 = .ok (.dup, 1) := dq_89 (dst 16 rd_prog_7_method_1_code_0 rfl)
theorem dX5_init_17 : decode cX5_init 17 = .ok (.aload_n 1, 1) := dq_43 (dst 17 rd_prog_7_method_1_code_0 rfl)
theorem dX5_init_18 : decode cX5_init 18 = .ok (.invokespecial 17, 3) := dq_183 (dst 18 rd_prog_7_method_1_code_0 rfl) rfl
theorem dX5_init_21 : decode cX5_init 21 = .ok (.putfield 20, 3) := dq_181 (dst 21 rd_prog_7_method_1_code_0 rfl) rfl
theorem dX5_init_24 : decode cX5_init 24 = .ok (.return_, 1) := dq_177 (dst 24 rd_prog_7_method_1_code_0 rfl)
theorem lf_X5_read_1 : ∀ w ∈ wsX5_read_r1, w ∈ wsX5_read := fun _ h => (List.mem_cons_of_mem _ (List.mem_append_left _ (List.mem_append_left _ (List.mem_append_left _ (List.mem_append_left _ (List.mem_append_left _ h))))))
theorem lf_X5_read_2 : ∀ w ∈ wsX5_read_r2, w ∈ wsX5_read := fun _ h => (List.mem_cons_of_mem _ (List.mem_append_left _ (List.mem_append_left _ (List.mem_append_left _ (List.mem_append_left _ (List.mem_append_right _ (List.mem_append_left _ h)))))))
theorem lf_X5_read_3 : ∀ w ∈ wsX5_read_r3, w ∈ wsX5_read := fun _ h => (List.mem_cons_of_mem _ (List.mem_append_left _ (List.mem_append_left _ (List.mem_append_left _ (List.mem_append_left _ (List.mem_append_right _ (List.mem_append_right _ (List.mem_append_left _ h))))))))
theorem lf_X5_read_4 : ∀ w ∈ wsX5_read_r4, w ∈ wsX5_read := fun _ h => (List.mem_cons_of_mem _ (List.mem_append_left _ (List.mem_append_left _ (List.mem_append_left _ (List.mem_append_left _ (List.mem_append_right _ (List.mem_append_right _ (List.mem_append_right _ (List.mem_append_left _ h)))))))))
theorem lf_X5_read_5 : ∀ w ∈ wsX5_read_r5, w ∈ wsX5_read := fun _ h => (List.mem_cons_of_mem _ (List.mem_append_left _ (List.mem_append_left _ (List.mem_append_left _ (List.mem_append_left _ (List.mem_append_right _ (List.mem_append_right _ (List.mem_append_right _ (List.mem_append_right _ (List.mem_append_left _ h))))))))))
theorem lf_X5_read_6 : ∀ w ∈ wsX5_read_r6, w ∈ wsX5_read := fun _ h => (List.mem_cons_of_mem _ (List.mem_append_left _ (List.mem_append_left _ (List.mem_append_left _ (List.mem_append_left _ (List.mem_append_right _ (List.mem_append_right _ (List.mem_append_right _ (List.mem_append_right _ (List.mem_append_right _ (List.mem_append_left _ h)))))))))))
theorem lf_X5_read_7 : ∀ w ∈ wsX5_read_r7, w ∈ wsX5_read := fun _ h => (List.mem_cons_of_mem _ (List.mem_append_left _ (List.mem_append_left _ (List.mem_append_left _ (List.mem_append_left _ (List.mem_append_right _ (List.mem_append_right _ (List.mem_append_right _ (List.mem_append_right _ (List.mem_append_right _ (List.mem_append_right _ h)))))))))))
theorem lf_X5_read_8 : ∀ w ∈ wsX50, w ∈ wsX5_read := fun _ h => (List.mem_cons_of_mem _ (List.mem_append_left _ (List.mem_append_left _ (List.mem_append_left _ (List.mem_append_right _ h)))))
theorem lf_X5_read_9 : ∀ w ∈ wsX20, w ∈ wsX5_read := fun _ h => (List.mem_cons_of_mem _ (List.mem_append_left _ (List.mem_append_left _ (List.mem_append_right _ h))))
theorem lf_X5_read_10 : ∀ w ∈ wsX40, w ∈ wsX5_read := fun _ h => (List.mem_cons_of_mem _ (List.mem_append_left _ (List.mem_append_right _ h)))
theorem lf_X5_read_11 : ∀ w ∈ wsX100, w ∈ wsX5_read := fun _ h => (List.mem_cons_of_mem _ (List.mem_append_right _ h))
set_option maxRecDepth 20000 in
theorem ggX5_read_X2_start : GoodIn wsX5_read wsX2_start := (gd_cons (lf_X5_read_1 _ (List.mem_of_getElem? (i := 5) rfl)) rfl (goodIn_app (gd_cons (lf_X5_read_1 _ (List.mem_of_getElem? (i := 6) rfl)) rfl (gd_cons (lf_X5_read_1 _ (List.mem_of_getElem? (i := 7) rfl)) rfl (gd_nil _))) (goodIn_sub lf_X5_read_9 ga_wsX20)))
set_option maxRecDepth 20000 in
theorem gX5_read_X2_start : GoodIn wsX5_read (wsV RX5 24 RX2 yX2_start wsX2_start) := goodIn_app (gd_cons (lf_X5_read_1 _ (List.mem_of_getElem? (i := 1) rfl)) rfl (gd_cons (lf_X5_read_1 _ (List.mem_of_getElem? (i := 2) rfl)) rfl (gd_cons (lf_X5_read_1 _ (List.mem_of_getElem? (i := 3) rfl)) rfl (gd_cons (lf_X5_read_1 _ (List.mem_of_getElem? (i := 4) rfl)) rfl (gd_nil _))))) ggX5_read_X2_start
set_option maxRecDepth 20000 in
theorem ggX5_read_X4_clear : GoodIn wsX5_read wsX4_clear := (gd_cons (lf_X5_read_1 _ (List.mem_of_getElem? (i := 12) rfl)) rfl (goodIn_app (gd_cons (lf_X5_read_1 _ (List.mem_of_getElem? (i := 13) rfl)) rfl (gd_cons (lf_X5_read_1 _ (List.mem_of_getElem? (i := 14) rfl)) rfl (gd_cons (lf_X5_read_1 _ (List.mem_of_getElem? (i := 15) rfl)) rfl (gd_cons (lf_X5_read_1 _ (List.mem_of_getElem? (i := 16) rfl)) rfl (gd_cons (lf_X5_read_1 _ (List.mem_of_getElem? (i := 17) rfl)) rfl (gd_cons (lf_X5_read_1 _ (List.mem_of_getElem? (i := 18) rfl)) rfl (gd_cons (lf_X5_read_1 _ (List.mem_of_getElem? (i := 19) rfl)) rfl (gd_cons (lf_X5_read_1 _ (List.mem_of_getElem? (i := 20) rfl)) rfl (gd_cons (lf_X5_read_1 _ (List.mem_of_getElem? (i := 21) rfl)) rfl (gd_cons (lf_X5_read_1 _ (List.mem_of_getElem? (i := 22) rfl)) rfl (gd_cons (lf_X5_read_1 _ (List.mem_of_getElem? (i := 23) rfl)) rfl (gd_cons (lf_X5_read_2 _ (List.mem_of_getElem? (i := 0) rfl)) rfl (gd_cons (lf_X5_read_2 _ (List.mem_of_getElem? (i := 1) rfl)) rfl (gd_cons (lf_X5_read_2 _ (List.mem_of_getElem? (i := 2) rfl)) rfl (gd_cons (lf_X5_read_2 _ (List.mem_of_getElem? (i := 3) rfl)) rfl (gd_cons (lf_X5_read_2 _ (List.mem_of_getElem? (i := 4) rfl)) rfl (gd_cons (lf_X5_read_2 _ (List.mem_of_getElem? (i := 5) rfl)) rfl (gd_nil _)))))))))))))))))) (goodIn_sub lf_X5_read_10 ga_wsX40)))
set_option maxRecDepth 20000 in
theorem gX5_read_X4_clear : GoodIn wsX5_read (wsV RX5 27 RX4 yX4_clear wsX4_clear) := goodIn_app (gd_cons (lf_X5_read_1 _ (List.mem_of_getElem? (i := 8) rfl)) rfl (gd_cons (lf_X5_read_1 _ (List.mem_of_getElem? (i := 9) rfl)) rfl (gd_cons (lf_X5_read_1 _ (List.mem_of_getElem? (i := 10) rfl)) rfl (gd_cons (lf_X5_read_1 _ (List.mem_of_getElem? (i := 11) rfl)) rfl (gd_nil _))))) ggX5_read_X4_clear
theorem ga_wsX50 : List.all wsX50 goodWord = true := by decide +kernel
set_option maxRecDepth 20000 in
theorem ggX5_read_X5_readWeeks : GoodIn wsX5_read wsX5_readWeeks := (gd_cons (lf_X5_read_2 _ (List.mem_of_getElem? (i := 10) rfl)) rfl (goodIn_app (goodIn_app (goodIn_app (goodIn_app (goodIn_app (gd_cons (lf_X5_read_1 _ (List.mem_of_getElem? (i := 0) rfl)) rfl (gd_cons (lf_X5_read_2 _ (List.mem_of_getElem? (i := 11) rfl)) rfl (gd_cons (lf_X5_read_2 _ (List.mem_of_getElem? (i := 12) rfl)) rfl (gd_cons (lf_X5_read_2 _ (List.mem_of_getElem? (i := 13) rfl)) rfl (gd_cons (lf_X5_read_2 _ (List.mem_of_getElem? (i := 14) rfl)) rfl (gd_cons (lf_X5_read_1 _ (List.mem_of_getElem? (i := 4) rfl)) rfl (gd_cons (lf_X5_read_2 _ (List.mem_of_getElem? (i := 15) rfl)) rfl (gd_cons (lf_X5_read_2 _ (List.mem_of_getElem? (i := 16) rfl)) rfl (gd_cons (lf_X5_read_1 _ (List.mem_of_getElem? (i := 6) rfl)) rfl (gd_cons (lf_X5_read_2 _ (List.mem_of_getElem? (i := 17) rfl)) rfl (gd_cons (lf_X5_read_2 _ (List.mem_of_getElem? (i := 18) rfl)) rfl (gd_cons (lf_X5_read_2 _ (List.mem_of_getElem? (i := 19) rfl)) rfl (gd_cons (lf_X5_read_2 _ (List.mem_of_getElem? (i := 20) rfl)) rfl (gd_cons (lf_X5_read_2 _ (List.mem_of_getElem? (i := 21) rfl)) rfl (gd_cons (lf_X5_read_2 _ (List.mem_of_getElem? (i := 22) rfl)) rfl (gd_cons (lf_X5_read_2 _ (List.mem_of_getElem? (i := 23) rfl)) rfl (gd_cons (lf_X5_read_3 _ (List.mem_of_getElem? (i := 0) rfl)) rfl (gd_cons (lf_X5_read_3 _ (List.mem_of_getElem? (i := 1) rfl)) rfl (gd_cons (lf_X5_read_3 _ (List.mem_of_getElem? (i := 2) rfl)) rfl (gd_cons (lf_X5_read_3 _ (List.mem_of_getElem? (i := 3) rfl)) rfl (gd_cons (lf_X5_read_1 _ (List.mem_of_getElem? (i := 7) rfl)) rfl (gd_cons (lf_X5_read_3 _ (List.mem_of_getElem? (i := 4) rfl)) rfl (gd_cons (lf_X5_read_3 _ (List.mem_of_getElem? (i := 5) rfl)) rfl (gd_cons (lf_X5_read_3 _ (List.mem_of_getElem? (i := 6) rfl)) rfl (gd_nil _))))))))))))))))))))))))) (goodIn_app (gd_cons (lf_X5_read_3 _ (List.mem_of_getElem? (i := 7) rfl)) rfl (gd_cons (lf_X5_read_3 _ (List.mem_of_getElem? (i := 8) rfl)) rfl (gd_cons (lf_X5_read_3 _ (List.mem_of_getElem? (i := 9) rfl)) rfl (gd_cons (lf_X5_read_3 _ (List.mem_of_getElem? (i := 10) rfl)) rfl (gd_cons (lf_X5_read_3 _ (List.mem_of_getElem? (i := 11) rfl)) rfl (gd_cons (lf_X5_read_3 _ (List.mem_of_getElem? (i := 12) rfl)) rfl (gd_cons (lf_X5_read_3 _ (List.mem_of_getElem? (i := 13) rfl)) rfl (gd_cons (lf_X5_read_3 _ (List.mem_of_getElem? (i := 14) rfl)) rfl (gd_cons (lf_X5_read_3 _ (List.mem_of_getElem? (i := 15) rfl)) rfl (gd_cons (lf_X5_read_3 _ (List.mem_of_getElem? (i := 16) rfl)) rfl (gd_cons (lf_X5_read_3 _ (List.mem_of_getElem? (i := 17) rfl)) rfl (gd_cons (lf_X5_read_3 _ (List.mem_of_getElem? (i := 18) rfl)) rfl (gd_cons (lf_X5_read_3 _ (List.mem_of_getElem? (i := 19) rfl)) rfl (gd_cons (lf_X5_read_3 _ (List.mem_of_getElem? (i := 20) rfl)) rfl (gd_cons (lf_X5_read_2 _ (List.mem_of_getElem? (i := 9) rfl)) rfl (gd_cons (lf_X5_read_3 _ (List.mem_of_getElem? (i := 21) rfl)) rfl (gd_cons (lf_X5_read_3 _ (List.mem_of_getElem? (i := 22) rfl)) rfl (gd_cons (lf_X5_read_3 _ (List.mem_of_getElem? (i := 23) rfl)) rfl (gd_cons (lf_X5_read_4 _ (List.mem_of_getElem? (i := 0) rfl)) rfl (gd_cons (lf_X5_read_4 _ (List.mem_of_getElem? (i := 1) rfl)) rfl (gd_cons (lf_X5_read_4 _ (List.mem_of_getElem? (i := 2) rfl)) rfl (gd_cons (lf_X5_read_4 _ (List.mem_of_getElem? (i := 3) rfl)) rfl (gd_cons (lf_X5_read_4 _ (List.mem_of_getElem? (i := 4) rfl)) rfl (gd_cons (lf_X5_read_4 _ (List.mem_of_getElem? (i := 5) rfl)) rfl (gd_nil _))))))))))))))))))))))))) (goodIn_app (gd_cons (lf_X5_read_4 _ (List.mem_of_getElem? (i := 6) rfl)) rfl (gd_cons (lf_X5_read_4 _ (List.mem_of_getElem? (i := 7) rfl)) rfl (gd_cons (lf_X5_read_4 _ (List.mem_of_getElem? (i := 8) rfl)) rfl (gd_cons (lf_X5_read_4 _ (List.mem_of_getElem? (i := 9) rfl)) rfl (gd_cons (lf_X5_read_4 _ (List.mem_of_getElem? (i := 10) rfl)) rfl (gd_cons (lf_X5_read_4 _ (List.mem_of_getElem? (i := 11) rfl)) rfl (gd_cons (lf_X5_read_4 _ (List.mem_of_getElem? (i := 12) rfl)) rfl (gd_cons (lf_X5_read_4 _ (List.mem_of_getElem? (i := 13) rfl)) rfl (gd_cons (lf_X5_read_4 _ (List.mem_of_getElem? (i := 14) rfl)) rfl (gd_cons (lf_X5_read_4 _ (List.mem_of_getElem? (i := 15) rfl)) rfl (gd_cons (lf_X5_read_4 _ (List.mem_of_getElem? (i := 16) rfl)) rfl (gd_cons (lf_X5_read_4 _ (List.mem_of_getElem? (i := 17) rfl)) rfl (gd_cons (lf_X5_read_4 _ (List.mem_of_getElem? (i := 18) rfl)) rfl (gd_cons (lf_X5_read_4 _ (List.mem_of_getElem? (i := 19) rfl)) rfl (gd_cons (lf_X5_read_4 _ (List.mem_of_getElem? (i := 20) rfl)) rfl (gd_cons (lf_X5_read_4 _ (List.mem_of_getElem? (i := 21) rfl)) rfl (gd_cons (lf_X5_read_4 _ (List.mem_of_getElem? (i := 22) rfl)) rfl (gd_cons (lf_X5_read_4 _ (List.mem_of_getElem? (i := 23) rfl)) rfl (gd_cons (lf_X5_read_5 _ (List.mem_of_getElem? (i := 0) rfl)) rfl (gd_cons (lf_X5_read_5 _ (List.mem_of_getElem? (i := 1) rfl)) rfl (gd_cons (lf_X5_read_5 _ (List.mem_of_getElem? (i := 2) rfl)) rfl (gd_cons (lf_X5_read_5 _ (List.mem_of_getElem? (i := 3) rfl)) rfl (gd_cons (lf_X5_read_5 _ (List.mem_of_getElem? (i := 4) rfl)) rfl (gd_cons (lf_X5_read_5 _ (List.mem_of_getElem? (i := 5) rfl)) rfl (gd_nil _))))))))))))))))))))))))) (gd_cons (lf_X5_read_5 _ (List.mem_of_getElem? (i := 6) rfl)) rfl (gd_cons (lf_X5_read_5 _ (List.mem_of_getElem? (i := 7) rfl)) rfl (gd_cons (lf_X5_read_5 _ (List.mem_of_getElem? (i := 8) rfl)) rfl (gd_cons (lf_X5_read_5 _ (List.mem_of_getElem? (i := 9) rfl)) rfl (gd_cons (lf_X5_read_5 _ (List.mem_of_getElem? (i := 10) rfl)) rfl (gd_cons (lf_X5_read_5 _ (List.mem_of_getElem? (i := 11) rfl)) rfl (gd_cons (lf_X5_read_5 _ (List.mem_of_getElem? (i := 12) rfl)) rfl (gd_cons (lf_X5_read_5 _ (List.mem_of_getElem? (i := 13) rfl)) rfl (gd_cons (lf_X5_read_5 _ (List.mem_of_getElem? (i := 14) rfl)) rfl (gd_cons (lf_X5_read_5 _ (List.mem_of_getElem? (i := 15) rfl)) rfl (gd_cons (lf_X5_read_5 _ (List.mem_of_getElem? (i := 16) rfl)) rfl (gd_cons (lf_X5_read_5 _ (List.mem_of_getElem? (i := 17) rfl)) rfl (gd_cons (lf_X5_read_5 _ (List.mem_of_getElem? (i := 18) rfl)) rfl (gd_cons (lf_X5_read_5 _ (List.mem_of_getElem? (i := 19) rfl)) rfl (gd_cons (lf_X5_read_5 _ (List.mem_of_getElem? (i := 20) rfl)) rfl (gd_cons (lf_X5_read_5 _ (List.mem_of_getElem? (i := 21) rfl)) rfl (gd_cons (lf_X5_read_5 _ (List.mem_of_getElem? (i := 22) rfl)) rfl (gd_cons (lf_X5_read_5 _ (List.mem_of_getElem? (i := 23) rfl)) rfl (gd_cons (lf_X5_read_6 _ (List.mem_of_getElem? (i := 0) rfl)) rfl (gd_cons (lf_X5_read_6 _ (List.mem_of_getElem? (i := 1) rfl)) rfl (gd_cons (lf_X5_read_6 _ (List.mem_of_getElem? (i := 2) rfl)) rfl (gd_cons (lf_X5_read_6 _ (List.mem_of_getElem? (i := 3) rfl)) rfl (gd_nil _)))))))))))))))))))))))))) (goodIn_sub lf_X5_read_8 ga_wsX50)) (goodIn_sub lf_X5_read_10 ga_wsX40)) (goodIn_sub lf_X5_read_9 ga_wsX20)) (goodIn_sub lf_X5_read_11 ga_wsX100)))
set_option maxRecDepth 20000 in
theorem gX5_read_X5_readWeeks : GoodIn wsX5_read (wsV RX5 32 RX5 yX5_readWeeks wsX5_readWeeks) := goodIn_app (gd_cons (lf_X5_read_2 _ (List.mem_of_getElem? (i := 6) rfl)) rfl (gd_cons (lf_X5_read_2 _ (List.mem_of_getElem? (i := 7) rfl)) rfl (gd_cons (lf_X5_read_2 _ (List.mem_of_getElem? (i := 8) rfl)) rfl (gd_cons (lf_X5_read_2 _ (List.mem_of_getElem? (i := 9) rfl)) rfl (gd_nil _))))) ggX5_read_X5_readWeeks
set_option maxRecDepth 20000 in
theorem ggX5_read_X2_hasMore : GoodIn wsX5_read wsX2_hasMore := (gd_cons (lf_X5_read_6 _ (List.mem_of_getElem? (i := 7) rfl)) rfl (goodIn_app (goodIn_app (gd_cons (lf_X5_read_1 _ (List.mem_of_getElem? (i := 7) rfl)) rfl (gd_cons (lf_X5_read_1 _ (List.mem_of_getElem? (i := 6) rfl)) rfl (gd_cons (lf_X5_read_2 _ (List.mem_of_getElem? (i := 16) rfl)) rfl (gd_cons (lf_X5_read_6 _ (List.mem_of_getElem? (i := 8) rfl)) rfl (gd_nil _))))) (goodIn_sub lf_X5_read_9 ga_wsX20)) (goodIn_sub lf_X5_read_11 ga_wsX100)))
set_option maxRecDepth 20000 in
theorem gX5_read_X2_hasMore : GoodIn wsX5_read (wsV RX5 38 RX2 yX2_hasMore wsX2_hasMore) := goodIn_app (gd_cons (lf_X5_read_6 _ (List.mem_of_getElem? (i := 4) rfl)) rfl (gd_cons (lf_X5_read_6 _ (List.mem_of_getElem? (i := 5) rfl)) rfl (gd_cons (lf_X5_read_6 _ (List.mem_of_getElem? (i := 6) rfl)) rfl (gd_cons (lf_X5_read_1 _ (List.mem_of_getElem? (i := 4) rfl)) rfl (gd_nil _))))) ggX5_read_X2_hasMore
set_option maxRecDepth 20000 in
theorem ggX5_read_X5_readPart : GoodIn wsX5_read wsX5_readPart := (gd_cons (lf_X5_read_6 _ (List.mem_of_getElem? (i := 12) rfl)) rfl (goodIn_app (goodIn_app (goodIn_app (goodIn_app (goodIn_app (gd_cons (lf_X5_read_1 _ (List.mem_of_getElem? (i := 0) rfl)) rfl (gd_cons (lf_X5_read_4 _ (List.mem_of_getElem? (i := 2) rfl)) rfl (gd_cons (lf_X5_read_2 _ (List.mem_of_getElem? (i := 12) rfl)) rfl (gd_cons (lf_X5_read_2 _ (List.mem_of_getElem? (i := 13) rfl)) rfl (gd_cons (lf_X5_read_2 _ (List.mem_of_getElem? (i := 14) rfl)) rfl (gd_cons (lf_X5_read_1 _ (List.mem_of_getElem? (i := 4) rfl)) rfl (gd_cons (lf_X5_read_2 _ (List.mem_of_getElem? (i := 15) rfl)) rfl (gd_cons (lf_X5_read_2 _ (List.mem_of_getElem? (i := 16) rfl)) rfl (gd_cons (lf_X5_read_1 _ (List.mem_of_getElem? (i := 6) rfl)) rfl (gd_cons (lf_X5_read_2 _ (List.mem_of_getElem? (i := 17) rfl)) rfl (gd_cons (lf_X5_read_2 _ (List.mem_of_getElem? (i := 18) rfl)) rfl (gd_cons (lf_X5_read_2 _ (List.mem_of_getElem? (i := 19) rfl)) rfl (gd_cons (lf_X5_read_2 _ (List.mem_of_getElem? (i := 20) rfl)) rfl (gd_cons (lf_X5_read_2 _ (List.mem_of_getElem? (i := 21) rfl)) rfl (gd_cons (lf_X5_read_2 _ (List.mem_of_getElem? (i := 22) rfl)) rfl (gd_cons (lf_X5_read_2 _ (List.mem_of_getElem? (i := 23) rfl)) rfl (gd_cons (lf_X5_read_3 _ (List.mem_of_getElem? (i := 0) rfl)) rfl (gd_cons (lf_X5_read_3 _ (List.mem_of_getElem? (i := 1) rfl)) rfl (gd_cons (lf_X5_read_3 _ (List.mem_of_getElem? (i := 2) rfl)) rfl (gd_cons (lf_X5_read_3 _ (List.mem_of_getElem? (i := 3) rfl)) rfl (gd_cons (lf_X5_read_1 _ (List.mem_of_getElem? (i := 7) rfl)) rfl (gd_cons (lf_X5_read_3 _ (List.mem_of_getElem? (i := 4) rfl)) rfl (gd_cons (lf_X5_read_3 _ (List.mem_of_getElem? (i := 5) rfl)) rfl (gd_cons (lf_X5_read_3 _ (List.mem_of_getElem? (i := 6) rfl)) rfl (gd_nil _))))))))))))))))))))))))) (goodIn_app (gd_cons (lf_X5_read_3 _ (List.mem_of_getElem? (i := 7) rfl)) rfl (gd_cons (lf_X5_read_6 _ (List.mem_of_getElem? (i := 13) rfl)) rfl (gd_cons (lf_X5_read_6 _ (List.mem_of_getElem? (i := 14) rfl)) rfl (gd_cons (lf_X5_read_2 _ (List.mem_of_getElem? (i := 9) rfl)) rfl (gd_cons (lf_X5_read_6 _ (List.mem_of_getElem? (i := 15) rfl)) rfl (gd_cons (lf_X5_read_3 _ (List.mem_of_getElem? (i := 11) rfl)) rfl (gd_cons (lf_X5_read_3 _ (List.mem_of_getElem? (i := 12) rfl)) rfl (gd_cons (lf_X5_read_3 _ (List.mem_of_getElem? (i := 13) rfl)) rfl (gd_cons (lf_X5_read_3 _ (List.mem_of_getElem? (i := 14) rfl)) rfl (gd_cons (lf_X5_read_3 _ (List.mem_of_getElem? (i := 15) rfl)) rfl (gd_cons (lf_X5_read_3 _ (List.mem_of_getElem? (i := 16) rfl)) rfl (gd_cons (lf_X5_read_3 _ (List.mem_of_getElem? (i := 17) rfl)) rfl (gd_cons (lf_X5_read_6 _ (List.mem_of_getElem? (i := 16) rfl)) rfl (gd_cons (lf_X5_read_6 _ (List.mem_of_getElem? (i := 17) rfl)) rfl (gd_cons (lf_X5_read_6 _ (List.mem_of_getElem? (i := 18) rfl)) rfl (gd_cons (lf_X5_read_3 _ (List.mem_of_getElem? (i := 8) rfl)) rfl (gd_cons (lf_X5_read_3 _ (List.mem_of_getElem? (i := 9) rfl)) rfl (gd_cons (lf_X5_read_3 _ (List.mem_of_getElem? (i := 10) rfl)) rfl (gd_cons (lf_X5_read_6 _ (List.mem_of_getElem? (i := 19) rfl)) rfl (gd_cons (lf_X5_read_6 _ (List.mem_of_getElem? (i := 20) rfl)) rfl (gd_cons (lf_X5_read_6 _ (List.mem_of_getElem? (i := 21) rfl)) rfl (gd_cons (lf_X5_read_6 _ (List.mem_of_getElem? (i := 22) rfl)) rfl (gd_cons (lf_X5_read_6 _ (List.mem_of_getElem? (i := 23) rfl)) rfl (gd_cons (lf_X5_read_7 _ (List.mem_of_getElem? (i := 0) rfl)) rfl (gd_nil _))))))))))))))))))))))))) (gd_cons (lf_X5_read_7 _ (List.mem_of_getElem? (i := 1) rfl)) rfl (gd_cons (lf_X5_read_7 _ (List.mem_of_getElem? (i := 2) rfl)) rfl (gd_cons (lf_X5_read_7 _ (List.mem_of_getElem? (i := 3) rfl)) rfl (gd_cons (lf_X5_read_1 _ (List.mem_of_getElem? (i := 11) rfl)) rfl (gd_cons (lf_X5_read_7 _ (List.mem_of_getElem? (i := 4) rfl)) rfl (gd_cons (lf_X5_read_1 _ (List.mem_of_getElem? (i := 14) rfl)) rfl (gd_cons (lf_X5_read_1 _ (List.mem_of_getElem? (i := 15) rfl)) rfl (gd_cons (lf_X5_read_1 _ (List.mem_of_getElem? (i := 16) rfl)) rfl (gd_cons (lf_X5_read_1 _ (List.mem_of_getElem? (i := 17) rfl)) rfl (gd_cons (lf_X5_read_1 _ (List.mem_of_getElem? (i := 18) rfl)) rfl (gd_cons (lf_X5_read_1 _ (List.mem_of_getElem? (i := 19) rfl)) rfl (gd_cons (lf_X5_read_1 _ (List.mem_of_getElem? (i := 20) rfl)) rfl (gd_cons (lf_X5_read_7 _ (List.mem_of_getElem? (i := 5) rfl)) rfl (gd_cons (lf_X5_read_7 _ (List.mem_of_getElem? (i := 6) rfl)) rfl (gd_cons (lf_X5_read_7 _ (List.mem_of_getElem? (i := 7) rfl)) rfl (gd_cons (lf_X5_read_7 _ (List.mem_of_getElem? (i := 8) rfl)) rfl (gd_cons (lf_X5_read_1 _ (List.mem_of_getElem? (i := 21) rfl)) rfl (gd_cons (lf_X5_read_1 _ (List.mem_of_getElem? (i := 22) rfl)) rfl (gd_cons (lf_X5_read_1 _ (List.mem_of_getElem? (i := 23) rfl)) rfl (gd_cons (lf_X5_read_2 _ (List.mem_of_getElem? (i := 0) rfl)) rfl (gd_cons (lf_X5_read_2 _ (List.mem_of_getElem? (i := 1) rfl)) rfl (gd_nil _)))))))))))))))))))))))) (goodIn_sub lf_X5_read_8 ga_wsX50)) (goodIn_sub lf_X5_read_9 ga_wsX20)) (goodIn_sub lf_X5_read_11 ga_wsX100)) (goodIn_sub lf_X5_read_10 ga_wsX40)))
set_option maxRecDepth 20000 in
theorem gX5_read_X5_readPart : GoodIn wsX5_read (wsV RX5 42 RX5 yX5_readPart wsX5_readPart) := goodIn_app (gd_cons (lf_X5_read_6 _ (List.mem_of_getElem? (i := 9) rfl)) rfl (gd_cons (lf_X5_read_6 _ (List.mem_of_getElem? (i := 10) rfl)) rfl (gd_cons (lf_X5_read_6 _ (List.mem_of_getElem? (i := 11) rfl)) rfl (gd_cons (lf_X5_read_2 _ (List.mem_of_getElem? (i := 9) rfl)) rfl (gd_nil _))))) ggX5_read_X5_readPart
set_option maxRecDepth 20000 in
theorem ggX5_read_X2_stoppedAt : GoodIn wsX5_read wsX2_stoppedAt := (gd_cons (lf_X5_read_7 _ (List.mem_of_getElem? (i := 12) rfl)) rfl (goodIn_app (gd_cons (lf_X5_read_1 _ (List.mem_of_getElem? (i := 7) rfl)) rfl (gd_cons (lf_X5_read_1 _ (List.mem_of_getElem? (i := 6) rfl)) rfl (gd_nil _))) (goodIn_sub lf_X5_read_9 ga_wsX20)))
set_option maxRecDepth 20000 in
theorem gX5_read_X2_stoppedAt : GoodIn wsX5_read (wsV RX5 45 RX2 yX2_stoppedAt wsX2_stoppedAt) := goodIn_app (gd_cons (lf_X5_read_7 _ (List.mem_of_getElem? (i := 9) rfl)) rfl (gd_cons (lf_X5_read_7 _ (List.mem_of_getElem? (i := 10) rfl)) rfl (gd_cons (lf_X5_read_7 _ (List.mem_of_getElem? (i := 11) rfl)) rfl (gd_cons (lf_X5_read_1 _ (List.mem_of_getElem? (i := 4) rfl)) rfl (gd_nil _))))) ggX5_read_X2_stoppedAt
theorem dX5_read_0 : decode cX5_read 0 = .ok (.aload_n 0, 1) := dq_42 (dst 0 rd_prog_7_method_2_code_0 rfl)
theorem dX5_read_1 : decode cX5_read 1 = .ok (.getfield 20, 3) := dq_180 (dst 1 rd_prog_7_method_2_code_0 rfl) rfl
theorem dX5_read_4 : decode cX5_read 4 = .ok (.invokevirtual 24, 3) := dq_182 (dst 4 rd_prog_7_method_2_code_0 rfl) rfl
theorem dX5_read_7 : decode cX5_read 7 = .ok (.aload_n 1, 1) := dq_43 (dst 7 rd_prog_7_method_2_code_0 rfl)
theorem dX5_read_8 : decode cX5_read 8 = .ok (.invokevirtual 27, 3) := dq_182 (dst 8 rd_prog_7_method_2_code_0 rfl) rfl
theorem dX5_read_11 : decode cX5_read 11 = .ok (.aload_n 0, 1) := dq_42 (dst 11 rd_prog_7_method_2_code_0 rfl)
theorem dX5_read_12 : decode cX5_read 12 = .ok (.aload_n 1, 1) := dq_43 (dst 12 rd_prog_7_method_2_code_0 rfl)
theorem dX5_read_13 : decode cX5_read 13 = .ok (.invokevirtual 32, 3) := dq_182 (dst 13 rd_prog_7_method_2_code_0 rfl) rfl
theorem dX5_read_16 : decode cX5_read 16 = .ok (.iconst 0, 1) := dq_3 (dst 16 rd_prog_7_method_2_code_0 rfl)
theorem dX5_read_17 : decode cX5_read 17 = .ok (.istore_n 2, 1) := dq_61 (dst 17 rd_prog_7_method_2_code_0 rfl)
theorem dX5_read_18 : decode cX5_read 18 = .ok (.iload_n 2, 1) := dq_28 (dst 18 rd_prog_7_method_2_code_0 rfl)
theorem dX5_read_19 : decode cX5_read 19 = .ok (.bipush 64, 2) := dq_16 (dst 19 rd_prog_7_method_2_code_0 rfl) (by decide +kernel)
theorem dX5_read_21 : decode cX5_read 21 = .ok (.if_icmp .ge 24, 3) := dq_162 (dst 21 rd_prog_7_method_2_code_0 rfl) (by decide +kernel)
theorem dX5_read_24 : decode cX5_read 24 = .ok (.aload_n 0, 1) := dq_42 (dst 24 rd_prog_7_method_2_code_0 rfl)
theorem dX5_read_25 : decode cX5_read 25 = .ok (.getfield 20, 3) := dq_180 (dst 25 rd_prog_7_method_2_code_0 rfl) rfl
theorem dX5_read_28 : decode cX5_read 28 = .ok (.invokevirtual 38, 3) := dq_182 (dst 28 rd_prog_7_method_2_code_0 rfl) rfl
theorem dX5_read_31 : decode cX5_read 31 = .ok (.ifCond .eq 14, 3) := dq_153 (dst 31 rd_prog_7_method_2_code_0 rfl) (by decide +kernel)
theorem dX5_read_34 : decode cX5_read 34 = .ok (.aload_n 0, 1) := dq_42 (dst 2 rd_prog_7_method_2_code_1 rfl)
theorem dX5_read_35 : decode cX5_read 35 = .ok (.aload_n 1, 1) := dq_43 (dst 3 rd_prog_7_method_2_code_1 rfl)
theorem dX5_read_36 : decode cX5_read 36 = .ok (.invokevirtual 42, 3) := dq_182 (dst 4 rd_prog_7_method_2_code_1 rfl) rfl
theorem dX5_read_39 : decode cX5_read 39 = .ok (.iinc 2 1, 3) := dq_132 (dst 7 rd_prog_7_method_2_code_1 rfl) rfl (by decide +kernel)
theorem dX5_read_42 : decode cX5_read 42 = .ok (.goto (-24), 3) := dq_167 (dst 10 rd_prog_7_method_2_code_1 rfl) (by decide +kernel)
theorem dX5_read_45 : decode cX5_read 45 = .ok (.aload_n 0, 1) := dq_42 (dst 13 rd_prog_7_method_2_code_1 rfl)
theorem dX5_read_46 : decode cX5_read 46 = .ok (.getfield 20, 3) := dq_180 (dst 14 rd_prog_7_method_2_code_1 rfl) rfl
theorem dX5_read_49 : decode cX5_read 49 = .ok (.invokevirtual 45, 3) := dq_182 (dst 17 rd_prog_7_method_2_code_1 rfl) rfl
theorem dX5_read_52 : decode cX5_read 52 = .ok (.ireturn, 1) := dq_172 (dst 20 rd_prog_7_method_2_code_1 rfl)
theorem lf_X5_readWeeks_1 : ∀ w ∈ wsX5_readWeeks_r1, w ∈ wsX5_readWeeks := fun _ h => (List.mem_cons_of_mem _ (List.mem_append_left _ (List.mem_append_left _ (List.mem_append_left _ (List.mem_append_left _ (List.mem_append_left _ h))))))
theorem lf_X5_readWeeks_2 : ∀ w ∈ wsX5_readWeeks_r2, w ∈ wsX5_readWeeks := fun _ h => (List.mem_cons_of_mem _ (List.mem_append_left _ (List.mem_append_left _ (List.mem_append_left _ (List.mem_append_left _ (List.mem_append_right _ (List.mem_append_left _ h)))))))
theorem lf_X5_readWeeks_3 : ∀ w ∈ wsX5_readWeeks_r3, w ∈ wsX5_readWeeks := fun _ h => (List.mem_cons_of_mem _ (List.mem_append_left _ (List.mem_append_left _ (List.mem_append_left _ (List.mem_append_left _ (List.mem_append_right _ (List.mem_append_right _ (List.mem_append_left _ h))))))))
theorem lf_X5_readWeeks_4 : ∀ w ∈ wsX5_readWeeks_r4, w ∈ wsX5_readWeeks := fun _ h => (List.mem_cons_of_mem _ (List.mem_append_left _ (List.mem_append_left _ (List.mem_append_left _ (List.mem_append_left _ (List.mem_append_right _ (List.mem_append_right _ (List.mem_append_right _ h))))))))
theorem lf_X5_readWeeks_5 : ∀ w ∈ wsX50, w ∈ wsX5_readWeeks := fun _ h => (List.mem_cons_of_mem _ (List.mem_append_left _ (List.mem_append_left _ (List.mem_append_left _ (List.mem_append_right _ h)))))
theorem lf_X5_readWeeks_6 : ∀ w ∈ wsX40, w ∈ wsX5_readWeeks := fun _ h => (List.mem_cons_of_mem _ (List.mem_append_left _ (List.mem_append_left _ (List.mem_append_right _ h))))
theorem lf_X5_readWeeks_7 : ∀ w ∈ wsX20, w ∈ wsX5_readWeeks := fun _ h => (List.mem_cons_of_mem _ (List.mem_append_left _ (List.mem_append_right _ h)))
theorem lf_X5_readWeeks_8 : ∀ w ∈ wsX100, w ∈ wsX5_readWeeks := fun _ h => (List.mem_cons_of_mem _ (List.mem_append_right _ h))
set_option maxRecDepth 20000 in
theorem ggX5_readWeeks_X2_here : GoodIn wsX5_readWeeks wsX2_here := (gd_cons (lf_X5_readWeeks_1 _ (List.mem_of_getElem? (i := 6) rfl)) rfl (goodIn_app (goodIn_app (gd_cons (lf_X5_readWeeks_1 _ (List.mem_of_getElem? (i := 7) rfl)) rfl (gd_cons (lf_X5_readWeeks_1 _ (List.mem_of_getElem? (i := 8) rfl)) rfl (gd_cons (lf_X5_readWeeks_1 _ (List.mem_of_getElem? (i := 9) rfl)) rfl (gd_cons (lf_X5_readWeeks_1 _ (List.mem_of_getElem? (i := 10) rfl)) rfl (gd_cons (lf_X5_readWeeks_1 _ (List.mem_of_getElem? (i := 11) rfl)) rfl (gd_cons (lf_X5_readWeeks_1 _ (List.mem_of_getElem? (i := 12) rfl)) rfl (gd_cons (lf_X5_readWeeks_1 _ (List.mem_of_getElem? (i := 13) rfl)) rfl (gd_cons (lf_X5_readWeeks_1 _ (List.mem_of_getElem? (i := 14) rfl)) rfl (gd_cons (lf_X5_readWeeks_1 _ (List.mem_of_getElem? (i := 15) rfl)) rfl (gd_nil _)))))))))) (goodIn_sub lf_X5_readWeeks_7 ga_wsX20)) (goodIn_sub lf_X5_readWeeks_8 ga_wsX100)))
set_option maxRecDepth 20000 in
theorem gX5_readWeeks_X2_here : GoodIn wsX5_readWeeks (wsV RX5 49 RX2 yX2_here wsX2_here) := goodIn_app (gd_cons (lf_X5_readWeeks_1 _ (List.mem_of_getElem? (i := 2) rfl)) rfl (gd_cons (lf_X5_readWeeks_1 _ (List.mem_of_getElem? (i := 3) rfl)) rfl (gd_cons (lf_X5_readWeeks_1 _ (List.mem_of_getElem? (i := 4) rfl)) rfl (gd_cons (lf_X5_readWeeks_1 _ (List.mem_of_getElem? (i := 5) rfl)) rfl (gd_nil _))))) ggX5_readWeeks_X2_here
set_option maxRecDepth 20000 in
theorem ggX5_readWeeks_X2_stop : GoodIn wsX5_readWeeks wsX2_stop := (gd_cons (lf_X5_readWeeks_1 _ (List.mem_of_getElem? (i := 19) rfl)) rfl (goodIn_app (gd_cons (lf_X5_readWeeks_1 _ (List.mem_of_getElem? (i := 20) rfl)) rfl (gd_nil _)) (goodIn_sub lf_X5_readWeeks_7 ga_wsX20)))
set_option maxRecDepth 20000 in
theorem gX5_readWeeks_X2_stop : GoodIn wsX5_readWeeks (wsV RX5 52 RX2 yX2_stop wsX2_stop) := goodIn_app (gd_cons (lf_X5_readWeeks_1 _ (List.mem_of_getElem? (i := 16) rfl)) rfl (gd_cons (lf_X5_readWeeks_1 _ (List.mem_of_getElem? (i := 17) rfl)) rfl (gd_cons (lf_X5_readWeeks_1 _ (List.mem_of_getElem? (i := 18) rfl)) rfl (gd_cons (lf_X5_readWeeks_1 _ (List.mem_of_getElem? (i := 5) rfl)) rfl (gd_nil _))))) ggX5_readWeeks_X2_stop
set_option maxRecDepth 20000 in
theorem ggX5_readWeeks_X2_step : GoodIn wsX5_readWeeks wsX2_step := (gd_cons (lf_X5_readWeeks_2 _ (List.mem_of_getElem? (i := 0) rfl)) rfl (goodIn_app (gd_cons (lf_X5_readWeeks_1 _ (List.mem_of_getElem? (i := 8) rfl)) rfl (gd_nil _)) (goodIn_sub lf_X5_readWeeks_7 ga_wsX20)))
set_option maxRecDepth 20000 in
theorem gX5_readWeeks_X2_step : GoodIn wsX5_readWeeks (wsV RX5 55 RX2 yX2_step wsX2_step) := goodIn_app (gd_cons (lf_X5_readWeeks_1 _ (List.mem_of_getElem? (i := 21) rfl)) rfl (gd_cons (lf_X5_readWeeks_1 _ (List.mem_of_getElem? (i := 22) rfl)) rfl (gd_cons (lf_X5_readWeeks_1 _ (List.mem_of_getElem? (i := 23) rfl)) rfl (gd_cons (lf_X5_readWeeks_1 _ (List.mem_of_getElem? (i := 5) rfl)) rfl (gd_nil _))))) ggX5_readWeeks_X2_step
set_option maxRecDepth 20000 in
theorem ggX5_readWeeks_X2_figures : GoodIn wsX5_readWeeks wsX2_figures := (gd_cons (lf_X5_readWeeks_2 _ (List.mem_of_getElem? (i := 3) rfl)) rfl (gd_nil _))
set_option maxRecDepth 20000 in
theorem gX5_readWeeks_X2_figures : GoodIn wsX5_readWeeks (va_wsS RX5 58 yX2_figures wsX2_figures) := goodIn_app (gd_cons (lf_X5_readWeeks_2 _ (List.mem_of_getElem? (i := 1) rfl)) rfl (gd_cons (lf_X5_readWeeks_2 _ (List.mem_of_getElem? (i := 2) rfl)) rfl (gd_cons (lf_X5_readWeeks_1 _ (List.mem_of_getElem? (i := 5) rfl)) rfl (gd_nil _)))) ggX5_readWeeks_X2_figures
set_option maxRecDepth 20000 in
theorem ggX5_readWeeks_X2_figure : GoodIn wsX5_readWeeks wsX2_figure := (gd_cons (lf_X5_readWeeks_2 _ (List.mem_of_getElem? (i := 7) rfl)) rfl (goodIn_app (goodIn_app (gd_cons (lf_X5_readWeeks_2 _ (List.mem_of_getElem? (i := 8) rfl)) rfl (gd_cons (lf_X5_readWeeks_1 _ (List.mem_of_getElem? (i := 3) rfl)) rfl (gd_cons (lf_X5_readWeeks_1 _ (List.mem_of_getElem? (i := 4) rfl)) rfl (gd_cons (lf_X5_readWeeks_1 _ (List.mem_of_getElem? (i := 5) rfl)) rfl (gd_cons (lf_X5_readWeeks_1 _ (List.mem_of_getElem? (i := 6) rfl)) rfl (gd_cons (lf_X5_readWeeks_1 _ (List.mem_of_getElem? (i := 7) rfl)) rfl (gd_cons (lf_X5_readWeeks_1 _ (List.mem_of_getElem? (i := 8) rfl)) rfl (gd_cons (lf_X5_readWeeks_1 _ (List.mem_of_getElem? (i := 9) rfl)) rfl (gd_cons (lf_X5_readWeeks_1 _ (List.mem_of_getElem? (i := 10) rfl)) rfl (gd_cons (lf_X5_readWeeks_1 _ (List.mem_of_getElem? (i := 11) rfl)) rfl (gd_cons (lf_X5_readWeeks_1 _ (List.mem_of_getElem? (i := 12) rfl)) rfl (gd_cons (lf_X5_readWeeks_1 _ (List.mem_of_getElem? (i := 13) rfl)) rfl (gd_cons (lf_X5_readWeeks_1 _ (List.mem_of_getElem? (i := 14) rfl)) rfl (gd_cons (lf_X5_readWeeks_1 _ (List.mem_of_getElem? (i := 15) rfl)) rfl (gd_cons (lf_X5_readWeeks_2 _ (List.mem_of_getElem? (i := 9) rfl)) rfl (gd_cons (lf_X5_readWeeks_1 _ (List.mem_of_getElem? (i := 17) rfl)) rfl (gd_cons (lf_X5_readWeeks_1 _ (List.mem_of_getElem? (i := 18) rfl)) rfl (gd_cons (lf_X5_readWeeks_1 _ (List.mem_of_getElem? (i := 19) rfl)) rfl (gd_cons (lf_X5_readWeeks_1 _ (List.mem_of_getElem? (i := 20) rfl)) rfl (gd_cons (lf_X5_readWeeks_2 _ (List.mem_of_getElem? (i := 10) rfl)) rfl (gd_cons (lf_X5_readWeeks_1 _ (List.mem_of_getElem? (i := 22) rfl)) rfl (gd_cons (lf_X5_readWeeks_1 _ (List.mem_of_getElem? (i := 23) rfl)) rfl (gd_cons (lf_X5_readWeeks_2 _ (List.mem_of_getElem? (i := 0) rfl)) rfl (gd_nil _)))))))))))))))))))))))) (goodIn_sub lf_X5_readWeeks_7 ga_wsX20)) (goodIn_sub lf_X5_readWeeks_8 ga_wsX100)))
set_option maxRecDepth 20000 in
theorem gX5_readWeeks_X2_figure : GoodIn wsX5_readWeeks (wsV RX5 62 RX2 yX2_figure wsX2_figure) := goodIn_app (gd_cons (lf_X5_readWeeks_2 _ (List.mem_of_getElem? (i := 4) rfl)) rfl (gd_cons (lf_X5_readWeeks_2 _ (List.mem_of_getElem? (i := 5) rfl)) rfl (gd_cons (lf_X5_readWeeks_2 _ (List.mem_of_getElem? (i := 6) rfl)) rfl (gd_cons (lf_X5_readWeeks_1 _ (List.mem_of_getElem? (i := 5) rfl)) rfl (gd_nil _))))) ggX5_readWeeks_X2_figure
set_option maxRecDepth 20000 in
theorem ggX5_readWeeks_X5_expectParts : GoodIn wsX5_readWeeks wsX5_expectParts := (gd_cons (lf_X5_readWeeks_2 _ (List.mem_of_getElem? (i := 15) rfl)) rfl (goodIn_app (goodIn_app (gd_cons (lf_X5_readWeeks_2 _ (List.mem_of_getElem? (i := 16) rfl)) rfl (gd_cons (lf_X5_readWeeks_2 _ (List.mem_of_getElem? (i := 17) rfl)) rfl (gd_cons (lf_X5_readWeeks_2 _ (List.mem_of_getElem? (i := 18) rfl)) rfl (gd_cons (lf_X5_readWeeks_2 _ (List.mem_of_getElem? (i := 14) rfl)) rfl (gd_cons (lf_X5_readWeeks_2 _ (List.mem_of_getElem? (i := 19) rfl)) rfl (gd_cons (lf_X5_readWeeks_2 _ (List.mem_of_getElem? (i := 20) rfl)) rfl (gd_cons (lf_X5_readWeeks_2 _ (List.mem_of_getElem? (i := 21) rfl)) rfl (gd_cons (lf_X5_readWeeks_2 _ (List.mem_of_getElem? (i := 22) rfl)) rfl (gd_cons (lf_X5_readWeeks_2 _ (List.mem_of_getElem? (i := 23) rfl)) rfl (gd_cons (lf_X5_readWeeks_3 _ (List.mem_of_getElem? (i := 0) rfl)) rfl (gd_cons (lf_X5_readWeeks_3 _ (List.mem_of_getElem? (i := 1) rfl)) rfl (gd_cons (lf_X5_readWeeks_3 _ (List.mem_of_getElem? (i := 2) rfl)) rfl (gd_cons (lf_X5_readWeeks_3 _ (List.mem_of_getElem? (i := 3) rfl)) rfl (gd_cons (lf_X5_readWeeks_3 _ (List.mem_of_getElem? (i := 4) rfl)) rfl (gd_cons (lf_X5_readWeeks_3 _ (List.mem_of_getElem? (i := 5) rfl)) rfl (gd_cons (lf_X5_readWeeks_3 _ (List.mem_of_getElem? (i := 6) rfl)) rfl (gd_cons (lf_X5_readWeeks_3 _ (List.mem_of_getElem? (i := 7) rfl)) rfl (gd_cons (lf_X5_readWeeks_3 _ (List.mem_of_getElem? (i := 8) rfl)) rfl (gd_cons (lf_X5_readWeeks_3 _ (List.mem_of_getElem? (i := 9) rfl)) rfl (gd_cons (lf_X5_readWeeks_3 _ (List.mem_of_getElem? (i := 10) rfl)) rfl (gd_cons (lf_X5_readWeeks_3 _ (List.mem_of_getElem? (i := 11) rfl)) rfl (gd_cons (lf_X5_readWeeks_3 _ (List.mem_of_getElem? (i := 12) rfl)) rfl (gd_cons (lf_X5_readWeeks_3 _ (List.mem_of_getElem? (i := 13) rfl)) rfl (gd_cons (lf_X5_readWeeks_3 _ (List.mem_of_getElem? (i := 14) rfl)) rfl (gd_nil _))))))))))))))))))))))))) (goodIn_app (gd_cons (lf_X5_readWeeks_3 _ (List.mem_of_getElem? (i := 15) rfl)) rfl (gd_cons (lf_X5_readWeeks_3 _ (List.mem_of_getElem? (i := 16) rfl)) rfl (gd_cons (lf_X5_readWeeks_3 _ (List.mem_of_getElem? (i := 17) rfl)) rfl (gd_cons (lf_X5_readWeeks_3 _ (List.mem_of_getElem? (i := 18) rfl)) rfl (gd_cons (lf_X5_readWeeks_3 _ (List.mem_of_getElem? (i := 19) rfl)) rfl (gd_cons (lf_X5_readWeeks_3 _ (List.mem_of_getElem? (i := 20) rfl)) rfl (gd_cons (lf_X5_readWeeks_3 _ (List.mem_of_getElem? (i := 21) rfl)) rfl (gd_cons (lf_X5_readWeeks_3 _ (List.mem_of_getElem? (i := 22) rfl)) rfl (gd_cons (lf_X5_readWeeks_3 _ (List.mem_of_getElem? (i := 23) rfl)) rfl (gd_cons (lf_X5_readWeeks_4 _ (List.mem_of_getElem? (i := 0) rfl)) rfl (gd_cons (lf_X5_readWeeks_4 _ (List.mem_of_getElem? (i := 1) rfl)) rfl (gd_cons (lf_X5_readWeeks_4 _ (List.mem_of_getElem? (i := 2) rfl)) rfl (gd_cons (lf_X5_readWeeks_4 _ (List.mem_of_getElem? (i := 3) rfl)) rfl (gd_cons (lf_X5_readWeeks_4 _ (List.mem_of_getElem? (i := 4) rfl)) rfl (gd_cons (lf_X5_readWeeks_4 _ (List.mem_of_getElem? (i := 5) rfl)) rfl (gd_cons (lf_X5_readWeeks_4 _ (List.mem_of_getElem? (i := 6) rfl)) rfl (gd_cons (lf_X5_readWeeks_4 _ (List.mem_of_getElem? (i := 7) rfl)) rfl (gd_cons (lf_X5_readWeeks_4 _ (List.mem_of_getElem? (i := 8) rfl)) rfl (gd_cons (lf_X5_readWeeks_4 _ (List.mem_of_getElem? (i := 9) rfl)) rfl (gd_cons (lf_X5_readWeeks_4 _ (List.mem_of_getElem? (i := 10) rfl)) rfl (gd_cons (lf_X5_readWeeks_4 _ (List.mem_of_getElem? (i := 11) rfl)) rfl (gd_cons (lf_X5_readWeeks_4 _ (List.mem_of_getElem? (i := 12) rfl)) rfl (gd_cons (lf_X5_readWeeks_4 _ (List.mem_of_getElem? (i := 13) rfl)) rfl (gd_cons (lf_X5_readWeeks_4 _ (List.mem_of_getElem? (i := 14) rfl)) rfl (gd_nil _))))))))))))))))))))))))) (gd_cons (lf_X5_readWeeks_4 _ (List.mem_of_getElem? (i := 15) rfl)) rfl (gd_cons (lf_X5_readWeeks_4 _ (List.mem_of_getElem? (i := 16) rfl)) rfl (gd_cons (lf_X5_readWeeks_4 _ (List.mem_of_getElem? (i := 17) rfl)) rfl (gd_cons (lf_X5_readWeeks_4 _ (List.mem_of_getElem? (i := 18) rfl)) rfl (gd_cons (lf_X5_readWeeks_4 _ (List.mem_of_getElem? (i := 19) rfl)) rfl (gd_cons (lf_X5_readWeeks_4 _ (List.mem_of_getElem? (i := 20) rfl)) rfl (gd_cons (lf_X5_readWeeks_4 _ (List.mem_of_getElem? (i := 21) rfl)) rfl (gd_cons (lf_X5_readWeeks_2 _ (List.mem_of_getElem? (i := 1) rfl)) rfl (gd_cons (lf_X5_readWeeks_2 _ (List.mem_of_getElem? (i := 2) rfl)) rfl (gd_cons (lf_X5_readWeeks_1 _ (List.mem_of_getElem? (i := 5) rfl)) rfl (gd_cons (lf_X5_readWeeks_2 _ (List.mem_of_getElem? (i := 3) rfl)) rfl (gd_nil _)))))))))))))) (goodIn_sub lf_X5_readWeeks_5 ga_wsX50)))
set_option maxRecDepth 20000 in
theorem gX5_readWeeks_X5_expectParts : GoodIn wsX5_readWeeks (wsV RX5 70 RX5 yX5_expectParts wsX5_expectParts) := goodIn_app (gd_cons (lf_X5_readWeeks_2 _ (List.mem_of_getElem? (i := 11) rfl)) rfl (gd_cons (lf_X5_readWeeks_2 _ (List.mem_of_getElem? (i := 12) rfl)) rfl (gd_cons (lf_X5_readWeeks_2 _ (List.mem_of_getElem? (i := 13) rfl)) rfl (gd_cons (lf_X5_readWeeks_2 _ (List.mem_of_getElem? (i := 14) rfl)) rfl (gd_nil _))))) ggX5_readWeeks_X5_expectParts
theorem dX5_readWeeks_0 : decode cX5_readWeeks 0 = .ok (.aload_n 0, 1) := dq_42 (dst 0 rd_prog_7_method_3_code_0 rfl)
theorem dX5_readWeeks_1 : decode cX5_readWeeks 1 = .ok (.getfield 20, 3) := dq_180 (dst 1 rd_prog_7_method_3_code_0 rfl) rfl
theorem dX5_readWeeks_4 : decode cX5_readWeeks 4 = .ok (.invokevirtual 49, 3) := dq_182 (dst 4 rd_prog_7_method_3_code_0 rfl) rfl
theorem dX5_readWeeks_7 : decode cX5_readWeeks 7 = .ok (.bipush 78, 2) := dq_16 (dst 7 rd_prog_7_method_3_code_0 rfl) (by decide +kernel)
theorem dX5_readWeeks_9 : decode cX5_readWeeks 9 = .ok (.if_icmp .eq 11, 3) := dq_159 (dst 9 rd_prog_7_method_3_code_0 rfl) (by decide +kernel)
theorem dX5_readWeeks_12 : decode cX5_readWeeks 12 = .ok (.aload_n 0, 1) := dq_42 (dst 12 rd_prog_7_method_3_code_0 rfl)
theorem dX5_readWeeks_13 : decode cX5_readWeeks 13 = .ok (.getfield 20, 3) := dq_180 (dst 13 rd_prog_7_method_3_code_0 rfl) rfl
theorem dX5_readWeeks_16 : decode cX5_readWeeks 16 = .ok (.invokevirtual 52, 3) := dq_182 (dst 16 rd_prog_7_method_3_code_0 rfl) rfl
theorem dX5_readWeeks_19 : decode cX5_readWeeks 19 = .ok (.return_, 1) := dq_177 (dst 19 rd_prog_7_method_3_code_0 rfl)
theorem dX5_readWeeks_20 : decode cX5_readWeeks 20 = .ok (.aload_n 0, 1) := dq_42 (dst 20 rd_prog_7_method_3_code_0 rfl)
theorem dX5_readWeeks_21 : decode cX5_readWeeks 21 = .ok (.getfield 20, 3) := dq_180 (dst 21 rd_prog_7_method_3_code_0 rfl) rfl
theorem dX5_readWeeks_24 : decode cX5_readWeeks 24 = .ok (.invokevirtual 55, 3) := dq_182 (dst 24 rd_prog_7_method_3_code_0 rfl) rfl
theorem dX5_readWeeks_27 : decode cX5_readWeeks 27 = .ok (.aload_n 0, 1) := dq_42 (dst 27 rd_prog_7_method_3_code_0 rfl)
theorem dX5_readWeeks_28 : decode cX5_readWeeks 28 = .ok (.getfield 20, 3) := dq_180 (dst 28 rd_prog_7_method_3_code_0 rfl) rfl
theorem dX5_readWeeks_31 : decode cX5_readWeeks 31 = .ok (.iconst 1, 1) := dq_4 (dst 31 rd_prog_7_method_3_code_0 rfl)
theorem dX5_readWeeks_32 : decode cX5_readWeeks 32 = .ok (.iconst 5, 1) := dq_8 (dst 0 rd_prog_7_method_3_code_1 rfl)
theorem dX5_readWeeks_33 : decode cX5_readWeeks 33 = .ok (.invokestatic 58, 3) := dq_184 (dst 1 rd_prog_7_method_3_code_1 rfl) rfl
theorem dX5_readWeeks_36 : decode cX5_readWeeks 36 = .ok (.invokevirtual 62, 3) := dq_182 (dst 4 rd_prog_7_method_3_code_1 rfl) rfl
theorem dX5_readWeeks_39 : decode cX5_readWeeks 39 = .ok (.istore_n 2, 1) := dq_61 (dst 7 rd_prog_7_method_3_code_1 rfl)
theorem dX5_readWeeks_40 : decode cX5_readWeeks 40 = .ok (.iload_n 2, 1) := dq_28 (dst 8 rd_prog_7_method_3_code_1 rfl)
theorem dX5_readWeeks_41 : decode cX5_readWeeks 41 = .ok (.bipush (-9), 2) := dq_16 (dst 9 rd_prog_7_method_3_code_1 rfl) (by decide +kernel)
theorem dX5_readWeeks_43 : decode cX5_readWeeks 43 = .ok (.if_icmp .ne 4, 3) := dq_160 (dst 11 rd_prog_7_method_3_code_1 rfl) (by decide +kernel)
theorem dX5_readWeeks_46 : decode cX5_readWeeks 46 = .ok (.return_, 1) := dq_177 (dst 14 rd_prog_7_method_3_code_1 rfl)
theorem dX5_readWeeks_47 : decode cX5_readWeeks 47 = .ok (.aload_n 1, 1) := dq_43 (dst 15 rd_prog_7_method_3_code_1 rfl)
theorem dX5_readWeeks_48 : decode cX5_readWeeks 48 = .ok (.iload_n 2, 1) := dq_28 (dst 16 rd_prog_7_method_3_code_1 rfl)
theorem dX5_readWeeks_49 : decode cX5_readWeeks 49 = .ok (.putfield 66, 3) := dq_181 (dst 17 rd_prog_7_method_3_code_1 rfl) rfl
theorem dX5_readWeeks_52 : decode cX5_readWeeks 52 = .ok (.aload_n 0, 1) := dq_42 (dst 20 rd_prog_7_method_3_code_1 rfl)
theorem dX5_readWeeks_53 : decode cX5_readWeeks 53 = .ok (.iload_n 2, 1) := dq_28 (dst 21 rd_prog_7_method_3_code_1 rfl)
theorem dX5_readWeeks_54 : decode cX5_readWeeks 54 = .ok (.invokevirtual 70, 3) := dq_182 (dst 22 rd_prog_7_method_3_code_1 rfl) rfl
theorem dX5_readWeeks_57 : decode cX5_readWeeks 57 = .ok (.return_, 1) := dq_177 (dst 25 rd_prog_7_method_3_code_1 rfl)
theorem lf_X5_expectParts_1 : ∀ w ∈ wsX5_expectParts_r1, w ∈ wsX5_expectParts := fun _ h => (List.mem_cons_of_mem _ (List.mem_append_left _ (List.mem_append_left _ h)))
theorem lf_X5_expectParts_2 : ∀ w ∈ wsX5_expectParts_r2, w ∈ wsX5_expectParts := fun _ h => (List.mem_cons_of_mem _ (List.mem_append_left _ (List.mem_append_right _ (List.mem_append_left _ h))))
theorem lf_X5_expectParts_3 : ∀ w ∈ wsX5_expectParts_r3, w ∈ wsX5_expectParts := fun _ h => (List.mem_cons_of_mem _ (List.mem_append_left _ (List.mem_append_right _ (List.mem_append_right _ h))))
theorem lf_X5_expectParts_4 : ∀ w ∈ wsX50, w ∈ wsX5_expectParts := fun _ h => (List.mem_cons_of_mem _ (List.mem_append_right _ h))
set_option maxRecDepth 20000 in
theorem ggX5_expectParts_X5_expectOnce : GoodIn wsX5_expectParts wsX5_expectOnce := (gd_cons (lf_X5_expectParts_1 _ (List.mem_of_getElem? (i := 4) rfl)) rfl (goodIn_app (goodIn_app (gd_cons (lf_X5_expectParts_1 _ (List.mem_of_getElem? (i := 5) rfl)) rfl (gd_cons (lf_X5_expectParts_1 _ (List.mem_of_getElem? (i := 6) rfl)) rfl (gd_cons (lf_X5_expectParts_1 _ (List.mem_of_getElem? (i := 7) rfl)) rfl (gd_cons (lf_X5_expectParts_1 _ (List.mem_of_getElem? (i := 8) rfl)) rfl (gd_cons (lf_X5_expectParts_1 _ (List.mem_of_getElem? (i := 9) rfl)) rfl (gd_cons (lf_X5_expectParts_1 _ (List.mem_of_getElem? (i := 10) rfl)) rfl (gd_cons (lf_X5_expectParts_1 _ (List.mem_of_getElem? (i := 11) rfl)) rfl (gd_cons (lf_X5_expectParts_1 _ (List.mem_of_getElem? (i := 12) rfl)) rfl (gd_cons (lf_X5_expectParts_1 _ (List.mem_of_getElem? (i := 13) rfl)) rfl (gd_cons (lf_X5_expectParts_1 _ (List.mem_of_getElem? (i := 14) rfl)) rfl (gd_cons (lf_X5_expectParts_1 _ (List.mem_of_getElem? (i := 15) rfl)) rfl (gd_cons (lf_X5_expectParts_1 _ (List.mem_of_getElem? (i := 16) rfl)) rfl (gd_cons (lf_X5_expectParts_1 _ (List.mem_of_getElem? (i := 17) rfl)) rfl (gd_cons (lf_X5_expectParts_1 _ (List.mem_of_getElem? (i := 18) rfl)) rfl (gd_cons (lf_X5_expectParts_1 _ (List.mem_of_getElem? (i := 19) rfl)) rfl (gd_cons (lf_X5_expectParts_1 _ (List.mem_of_getElem? (i := 20) rfl)) rfl (gd_cons (lf_X5_expectParts_1 _ (List.mem_of_getElem? (i := 21) rfl)) rfl (gd_cons (lf_X5_expectParts_1 _ (List.mem_of_getElem? (i := 22) rfl)) rfl (gd_cons (lf_X5_expectParts_1 _ (List.mem_of_getElem? (i := 23) rfl)) rfl (gd_cons (lf_X5_expectParts_2 _ (List.mem_of_getElem? (i := 0) rfl)) rfl (gd_cons (lf_X5_expectParts_2 _ (List.mem_of_getElem? (i := 1) rfl)) rfl (gd_cons (lf_X5_expectParts_2 _ (List.mem_of_getElem? (i := 2) rfl)) rfl (gd_cons (lf_X5_expectParts_2 _ (List.mem_of_getElem? (i := 3) rfl)) rfl (gd_cons (lf_X5_expectParts_2 _ (List.mem_of_getElem? (i := 4) rfl)) rfl (gd_nil _))))))))))))))))))))))))) (goodIn_app (gd_cons (lf_X5_expectParts_2 _ (List.mem_of_getElem? (i := 5) rfl)) rfl (gd_cons (lf_X5_expectParts_2 _ (List.mem_of_getElem? (i := 6) rfl)) rfl (gd_cons (lf_X5_expectParts_2 _ (List.mem_of_getElem? (i := 7) rfl)) rfl (gd_cons (lf_X5_expectParts_2 _ (List.mem_of_getElem? (i := 8) rfl)) rfl (gd_cons (lf_X5_expectParts_2 _ (List.mem_of_getElem? (i := 9) rfl)) rfl (gd_cons (lf_X5_expectParts_2 _ (List.mem_of_getElem? (i := 10) rfl)) rfl (gd_cons (lf_X5_expectParts_2 _ (List.mem_of_getElem? (i := 11) rfl)) rfl (gd_cons (lf_X5_expectParts_2 _ (List.mem_of_getElem? (i := 12) rfl)) rfl (gd_cons (lf_X5_expectParts_2 _ (List.mem_of_getElem? (i := 13) rfl)) rfl (gd_cons (lf_X5_expectParts_2 _ (List.mem_of_getElem? (i := 14) rfl)) rfl (gd_cons (lf_X5_expectParts_2 _ (List.mem_of_getElem? (i := 15) rfl)) rfl (gd_cons (lf_X5_expectParts_2 _ (List.mem_of_getElem? (i := 16) rfl)) rfl (gd_cons (lf_X5_expectParts_2 _ (List.mem_of_getElem? (i := 17) rfl)) rfl (gd_cons (lf_X5_expectParts_2 _ (List.mem_of_getElem? (i := 18) rfl)) rfl (gd_cons (lf_X5_expectParts_2 _ (List.mem_of_getElem? (i := 19) rfl)) rfl (gd_cons (lf_X5_expectParts_2 _ (List.mem_of_getElem? (i := 20) rfl)) rfl (gd_cons (lf_X5_expectParts_2 _ (List.mem_of_getElem? (i := 21) rfl)) rfl (gd_cons (lf_X5_expectParts_2 _ (List.mem_of_getElem? (i := 22) rfl)) rfl (gd_cons (lf_X5_expectParts_2 _ (List.mem_of_getElem? (i := 23) rfl)) rfl (gd_cons (lf_X5_expectParts_3 _ (List.mem_of_getElem? (i := 0) rfl)) rfl (gd_cons (lf_X5_expectParts_3 _ (List.mem_of_getElem? (i := 1) rfl)) rfl (gd_cons (lf_X5_expectParts_3 _ (List.mem_of_getElem? (i := 2) rfl)) rfl (gd_cons (lf_X5_expectParts_3 _ (List.mem_of_getElem? (i := 3) rfl)) rfl (gd_cons (lf_X5_expectParts_3 _ (List.mem_of_getElem? (i := 4) rfl)) rfl (gd_nil _))))))))))))))))))))))))) (gd_cons (lf_X5_expectParts_3 _ (List.mem_of_getElem? (i := 5) rfl)) rfl (gd_cons (lf_X5_expectParts_3 _ (List.mem_of_getElem? (i := 6) rfl)) rfl (gd_cons (lf_X5_expectParts_3 _ (List.mem_of_getElem? (i := 7) rfl)) rfl (gd_cons (lf_X5_expectParts_3 _ (List.mem_of_getElem? (i := 8) rfl)) rfl (gd_cons (lf_X5_expectParts_3 _ (List.mem_of_getElem? (i := 9) rfl)) rfl (gd_cons (lf_X5_expectParts_3 _ (List.mem_of_getElem? (i := 10) rfl)) rfl (gd_nil _))))))))) (goodIn_sub lf_X5_expectParts_4 ga_wsX50)))
set_option maxRecDepth 20000 in
theorem gX5_expectParts_X5_expectOnce : GoodIn wsX5_expectParts (wsV RX5 76 RX5 yX5_expectOnce wsX5_expectOnce) := goodIn_app (gd_cons (lf_X5_expectParts_1 _ (List.mem_of_getElem? (i := 0) rfl)) rfl (gd_cons (lf_X5_expectParts_1 _ (List.mem_of_getElem? (i := 1) rfl)) rfl (gd_cons (lf_X5_expectParts_1 _ (List.mem_of_getElem? (i := 2) rfl)) rfl (gd_cons (lf_X5_expectParts_1 _ (List.mem_of_getElem? (i := 3) rfl)) rfl (gd_nil _))))) ggX5_expectParts_X5_expectOnce
theorem dX5_expectParts_0 : decode cX5_expectParts 0 = .ok (.aload_n 0, 1) := dq_42 (dst 0 rd_prog_7_method_4_code_0 rfl)
theorem dX5_expectParts_1 : decode cX5_expectParts 1 = .ok (.ldc 74, 2) := dq_18 (dst 1 rd_prog_7_method_4_code_0 rfl) rfl
theorem dX5_expectParts_3 : decode cX5_expectParts 3 = .ok (.iconst 0, 1) := dq_3 (dst 3 rd_prog_7_method_4_code_0 rfl)
theorem dX5_expectParts_4 : decode cX5_expectParts 4 = .ok (.invokevirtual 76, 3) := dq_182 (dst 4 rd_prog_7_method_4_code_0 rfl) rfl
theorem dX5_expectParts_7 : decode cX5_expectParts 7 = .ok (.aload_n 0, 1) := dq_42 (dst 7 rd_prog_7_method_4_code_0 rfl)
theorem dX5_expectParts_8 : decode cX5_expectParts 8 = .ok (.ldc 80, 2) := dq_18 (dst 8 rd_prog_7_method_4_code_0 rfl) rfl
theorem dX5_expectParts_10 : decode cX5_expectParts 10 = .ok (.iload_n 1, 1) := dq_27 (dst 10 rd_prog_7_method_4_code_0 rfl)
theorem dX5_expectParts_11 : decode cX5_expectParts 11 = .ok (.iconst 1, 1) := dq_4 (dst 11 rd_prog_7_method_4_code_0 rfl)
theorem dX5_expectParts_12 : decode cX5_expectParts 12 = .ok (.isub, 1) := dq_100 (dst 12 rd_prog_7_method_4_code_0 rfl)
theorem dX5_expectParts_13 : decode cX5_expectParts 13 = .ok (.invokevirtual 76, 3) := dq_182 (dst 13 rd_prog_7_method_4_code_0 rfl) rfl
theorem dX5_expectParts_16 : decode cX5_expectParts 16 = .ok (.aload_n 0, 1) := dq_42 (dst 16 rd_prog_7_method_4_code_0 rfl)
theorem dX5_expectParts_17 : decode cX5_expectParts 17 = .ok (.ldc 82, 2) := dq_18 (dst 17 rd_prog_7_method_4_code_0 rfl) rfl
theorem dX5_expectParts_19 : decode cX5_expectParts 19 = .ok (.iconst 2, 1) := dq_5 (dst 19 rd_prog_7_method_4_code_0 rfl)
theorem dX5_expectParts_20 : decode cX5_expectParts 20 = .ok (.invokevirtual 76, 3) := dq_182 (dst 20 rd_prog_7_method_4_code_0 rfl) rfl
theorem dX5_expectParts_23 : decode cX5_expectParts 23 = .ok (.return_, 1) := dq_177 (dst 23 rd_prog_7_method_4_code_0 rfl)
theorem lf_X5_expectOnce_1 : ∀ w ∈ wsX5_expectOnce_r1, w ∈ wsX5_expectOnce := fun _ h => (List.mem_cons_of_mem _ (List.mem_append_left _ (List.mem_append_left _ h)))
theorem lf_X5_expectOnce_2 : ∀ w ∈ wsX5_expectOnce_r2, w ∈ wsX5_expectOnce := fun _ h => (List.mem_cons_of_mem _ (List.mem_append_left _ (List.mem_append_right _ (List.mem_append_left _ h))))
theorem lf_X5_expectOnce_3 : ∀ w ∈ wsX5_expectOnce_r3, w ∈ wsX5_expectOnce := fun _ h => (List.mem_cons_of_mem _ (List.mem_append_left _ (List.mem_append_right _ (List.mem_append_right _ h))))
theorem lf_X5_expectOnce_4 : ∀ w ∈ wsX50, w ∈ wsX5_expectOnce := fun _ h => (List.mem_cons_of_mem _ (List.mem_append_right _ h))
set_option maxRecDepth 20000 in
theorem ggX5_expectOnce_J0_length_8abf5 : GoodIn wsX5_expectOnce wsJ0_length_8abf5 := (gd_cons (lf_X5_expectOnce_1 _ (List.mem_of_getElem? (i := 5) rfl)) rfl (gd_cons (lf_X5_expectOnce_1 _ (List.mem_of_getElem? (i := 6) rfl)) rfl (gd_cons (lf_X5_expectOnce_1 _ (List.mem_of_getElem? (i := 7) rfl)) rfl (gd_cons (lf_X5_expectOnce_1 _ (List.mem_of_getElem? (i := 8) rfl)) rfl (gd_cons (lf_X5_expectOnce_1 _ (List.mem_of_getElem? (i := 9) rfl)) rfl (gd_cons (lf_X5_expectOnce_1 _ (List.mem_of_getElem? (i := 4) rfl)) rfl (gd_cons (lf_X5_expectOnce_1 _ (List.mem_of_getElem? (i := 10) rfl)) rfl (gd_cons (lf_X5_expectOnce_1 _ (List.mem_of_getElem? (i := 11) rfl)) rfl (gd_cons (lf_X5_expectOnce_1 _ (List.mem_of_getElem? (i := 12) rfl)) rfl (gd_nil _))))))))))
set_option maxRecDepth 20000 in
theorem gX5_expectOnce_J0_length_8abf5 : GoodIn wsX5_expectOnce (wsV RX5 84 RJ0 yJ0_length_8abf5 wsJ0_length_8abf5) := goodIn_app (gd_cons (lf_X5_expectOnce_1 _ (List.mem_of_getElem? (i := 1) rfl)) rfl (gd_cons (lf_X5_expectOnce_1 _ (List.mem_of_getElem? (i := 2) rfl)) rfl (gd_cons (lf_X5_expectOnce_1 _ (List.mem_of_getElem? (i := 3) rfl)) rfl (gd_cons (lf_X5_expectOnce_1 _ (List.mem_of_getElem? (i := 4) rfl)) rfl (gd_nil _))))) ggX5_expectOnce_J0_length_8abf5
set_option maxRecDepth 20000 in
theorem ggX5_expectOnce_J0_charAt_5068e : GoodIn wsX5_expectOnce wsJ0_charAt_5068e := (gd_cons (lf_X5_expectOnce_1 _ (List.mem_of_getElem? (i := 16) rfl)) rfl (goodIn_app (gd_cons (lf_X5_expectOnce_1 _ (List.mem_of_getElem? (i := 6) rfl)) rfl (gd_cons (lf_X5_expectOnce_1 _ (List.mem_of_getElem? (i := 17) rfl)) rfl (gd_cons (lf_X5_expectOnce_1 _ (List.mem_of_getElem? (i := 18) rfl)) rfl (gd_cons (lf_X5_expectOnce_1 _ (List.mem_of_getElem? (i := 19) rfl)) rfl (gd_cons (lf_X5_expectOnce_1 _ (List.mem_of_getElem? (i := 4) rfl)) rfl (gd_cons (lf_X5_expectOnce_1 _ (List.mem_of_getElem? (i := 20) rfl)) rfl (gd_cons (lf_X5_expectOnce_1 _ (List.mem_of_getElem? (i := 11) rfl)) rfl (gd_cons (lf_X5_expectOnce_1 _ (List.mem_of_getElem? (i := 12) rfl)) rfl (gd_cons (lf_X5_expectOnce_1 _ (List.mem_of_getElem? (i := 21) rfl)) rfl (gd_cons (lf_X5_expectOnce_1 _ (List.mem_of_getElem? (i := 22) rfl)) rfl (gd_cons (lf_X5_expectOnce_1 _ (List.mem_of_getElem? (i := 23) rfl)) rfl (gd_cons (lf_X5_expectOnce_2 _ (List.mem_of_getElem? (i := 0) rfl)) rfl (gd_cons (lf_X5_expectOnce_2 _ (List.mem_of_getElem? (i := 1) rfl)) rfl (gd_cons (lf_X5_expectOnce_2 _ (List.mem_of_getElem? (i := 2) rfl)) rfl (gd_cons (lf_X5_expectOnce_2 _ (List.mem_of_getElem? (i := 3) rfl)) rfl (gd_cons (lf_X5_expectOnce_2 _ (List.mem_of_getElem? (i := 4) rfl)) rfl (gd_cons (lf_X5_expectOnce_2 _ (List.mem_of_getElem? (i := 5) rfl)) rfl (gd_cons (lf_X5_expectOnce_2 _ (List.mem_of_getElem? (i := 6) rfl)) rfl (gd_cons (lf_X5_expectOnce_2 _ (List.mem_of_getElem? (i := 7) rfl)) rfl (gd_cons (lf_X5_expectOnce_2 _ (List.mem_of_getElem? (i := 8) rfl)) rfl (gd_cons (lf_X5_expectOnce_2 _ (List.mem_of_getElem? (i := 9) rfl)) rfl (gd_cons (lf_X5_expectOnce_2 _ (List.mem_of_getElem? (i := 10) rfl)) rfl (gd_cons (lf_X5_expectOnce_2 _ (List.mem_of_getElem? (i := 11) rfl)) rfl (gd_cons (lf_X5_expectOnce_2 _ (List.mem_of_getElem? (i := 12) rfl)) rfl (gd_nil _))))))))))))))))))))))))) (gd_cons (lf_X5_expectOnce_2 _ (List.mem_of_getElem? (i := 13) rfl)) rfl (gd_cons (lf_X5_expectOnce_2 _ (List.mem_of_getElem? (i := 14) rfl)) rfl (gd_cons (lf_X5_expectOnce_2 _ (List.mem_of_getElem? (i := 15) rfl)) rfl (gd_cons (lf_X5_expectOnce_2 _ (List.mem_of_getElem? (i := 16) rfl)) rfl (gd_cons (lf_X5_expectOnce_2 _ (List.mem_of_getElem? (i := 17) rfl)) rfl (gd_cons (lf_X5_expectOnce_2 _ (List.mem_of_getElem? (i := 18) rfl)) rfl (gd_cons (lf_X5_expectOnce_2 _ (List.mem_of_getElem? (i := 19) rfl)) rfl (gd_cons (lf_X5_expectOnce_2 _ (List.mem_of_getElem? (i := 20) rfl)) rfl (gd_cons (lf_X5_expectOnce_2 _ (List.mem_of_getElem? (i := 21) rfl)) rfl (gd_cons (lf_X5_expectOnce_2 _ (List.mem_of_getElem? (i := 22) rfl)) rfl (gd_cons (lf_X5_expectOnce_2 _ (List.mem_of_getElem? (i := 23) rfl)) rfl (gd_cons (lf_X5_expectOnce_3 _ (List.mem_of_getElem? (i := 0) rfl)) rfl (gd_cons (lf_X5_expectOnce_3 _ (List.mem_of_getElem? (i := 1) rfl)) rfl (gd_nil _))))))))))))))))
set_option maxRecDepth 20000 in
theorem gX5_expectOnce_J0_charAt_5068e : GoodIn wsX5_expectOnce (wsV RX5 89 RJ0 yJ0_charAt_5068e wsJ0_charAt_5068e) := goodIn_app (gd_cons (lf_X5_expectOnce_1 _ (List.mem_of_getElem? (i := 13) rfl)) rfl (gd_cons (lf_X5_expectOnce_1 _ (List.mem_of_getElem? (i := 14) rfl)) rfl (gd_cons (lf_X5_expectOnce_1 _ (List.mem_of_getElem? (i := 15) rfl)) rfl (gd_cons (lf_X5_expectOnce_1 _ (List.mem_of_getElem? (i := 4) rfl)) rfl (gd_nil _))))) ggX5_expectOnce_J0_charAt_5068e
set_option maxRecDepth 20000 in
theorem ggX5_expectOnce_X2_figures : GoodIn wsX5_expectOnce wsX2_figures := (gd_cons (lf_X5_expectOnce_3 _ (List.mem_of_getElem? (i := 5) rfl)) rfl (gd_nil _))
set_option maxRecDepth 20000 in
theorem gX5_expectOnce_X2_figures : GoodIn wsX5_expectOnce (va_wsS RX5 58 yX2_figures wsX2_figures) := goodIn_app (gd_cons (lf_X5_expectOnce_3 _ (List.mem_of_getElem? (i := 2) rfl)) rfl (gd_cons (lf_X5_expectOnce_3 _ (List.mem_of_getElem? (i := 3) rfl)) rfl (gd_cons (lf_X5_expectOnce_3 _ (List.mem_of_getElem? (i := 4) rfl)) rfl (gd_nil _)))) ggX5_expectOnce_X2_figures
theorem dX5_expectOnce_0 : decode cX5_expectOnce 0 = .ok (.iconst 0, 1) := dq_3 (dst 0 rd_prog_7_method_5_code_0 rfl)
theorem dX5_expectOnce_1 : decode cX5_expectOnce 1 = .ok (.istore_n 3, 1) := dq_62 (dst 1 rd_prog_7_method_5_code_0 rfl)
theorem dX5_expectOnce_2 : decode cX5_expectOnce 2 = .ok (.iload_n 3, 1) := dq_29 (dst 2 rd_prog_7_method_5_code_0 rfl)
theorem dX5_expectOnce_3 : decode cX5_expectOnce 3 = .ok (.aload_n 1, 1) := dq_43 (dst 3 rd_prog_7_method_5_code_0 rfl)
theorem dX5_expectOnce_4 : decode cX5_expectOnce 4 = .ok (.invokevirtual 84, 3) := dq_182 (dst 4 rd_prog_7_method_5_code_0 rfl) rfl
theorem dX5_expectOnce_7 : decode cX5_expectOnce 7 = .ok (.if_icmp .ge 27, 3) := dq_162 (dst 7 rd_prog_7_method_5_code_0 rfl) (by decide +kernel)
theorem dX5_expectOnce_10 : decode cX5_expectOnce 10 = .ok (.aload_n 0, 1) := dq_42 (dst 10 rd_prog_7_method_5_code_0 rfl)
theorem dX5_expectOnce_11 : decode cX5_expectOnce 11 = .ok (.getfield 9, 3) := dq_180 (dst 11 rd_prog_7_method_5_code_0 rfl) rfl
theorem dX5_expectOnce_14 : decode cX5_expectOnce 14 = .ok (.aload_n 1, 1) := dq_43 (dst 14 rd_prog_7_method_5_code_0 rfl)
theorem dX5_expectOnce_15 : decode cX5_expectOnce 15 = .ok (.iload_n 3, 1) := dq_29 (dst 15 rd_prog_7_method_5_code_0 rfl)
theorem dX5_expectOnce_16 : decode cX5_expectOnce 16 = .ok (.invokevirtual 89, 3) := dq_182 (dst 16 rd_prog_7_method_5_code_0 rfl) rfl
theorem dX5_expectOnce_19 : decode cX5_expectOnce 19 = .ok (.bipush 65, 2) := dq_16 (dst 19 rd_prog_7_method_5_code_0 rfl) (by decide +kernel)
theorem dX5_expectOnce_21 : decode cX5_expectOnce 21 = .ok (.isub, 1) := dq_100 (dst 21 rd_prog_7_method_5_code_0 rfl)
theorem dX5_expectOnce_22 : decode cX5_expectOnce 22 = .ok (.iconst 0, 1) := dq_3 (dst 22 rd_prog_7_method_5_code_0 rfl)
theorem dX5_expectOnce_23 : decode cX5_expectOnce 23 = .ok (.iload_n 2, 1) := dq_28 (dst 23 rd_prog_7_method_5_code_0 rfl)
theorem dX5_expectOnce_24 : decode cX5_expectOnce 24 = .ok (.invokestatic 58, 3) := dq_184 (dst 24 rd_prog_7_method_5_code_0 rfl) rfl
theorem dX5_expectOnce_27 : decode cX5_expectOnce 27 = .ok (.iastore, 1) := dq_79 (dst 27 rd_prog_7_method_5_code_0 rfl)
theorem dX5_expectOnce_28 : decode cX5_expectOnce 28 = .ok (.iinc 3 1, 3) := dq_132 (dst 28 rd_prog_7_method_5_code_0 rfl) rfl (by decide +kernel)
theorem dX5_expectOnce_31 : decode cX5_expectOnce 31 = .ok (.goto (-29), 3) := dq_167 (dst 31 rd_prog_7_method_5_code_0 rfl) (by decide +kernel)
theorem dX5_expectOnce_34 : decode cX5_expectOnce 34 = .ok (.return_, 1) := dq_177 (dst 2 rd_prog_7_method_5_code_1 rfl)
theorem lf_X5_readPart_1 : ∀ w ∈ wsX5_readPart_r1, w ∈ wsX5_readPart := fun _ h => (List.mem_cons_of_mem _ (List.mem_append_left _ (List.mem_append_left _ (List.mem_append_left _ (List.mem_append_left _ (List.mem_append_left _ h))))))
theorem lf_X5_readPart_2 : ∀ w ∈ wsX5_readPart_r2, w ∈ wsX5_readPart := fun _ h => (List.mem_cons_of_mem _ (List.mem_append_left _ (List.mem_append_left _ (List.mem_append_left _ (List.mem_append_left _ (List.mem_append_right _ (List.mem_append_left _ h)))))))
theorem lf_X5_readPart_3 : ∀ w ∈ wsX5_readPart_r3, w ∈ wsX5_readPart := fun _ h => (List.mem_cons_of_mem _ (List.mem_append_left _ (List.mem_append_left _ (List.mem_append_left _ (List.mem_append_left _ (List.mem_append_right _ (List.mem_append_right _ h)))))))
theorem lf_X5_readPart_4 : ∀ w ∈ wsX50, w ∈ wsX5_readPart := fun _ h => (List.mem_cons_of_mem _ (List.mem_append_left _ (List.mem_append_left _ (List.mem_append_left _ (List.mem_append_right _ h)))))
theorem lf_X5_readPart_5 : ∀ w ∈ wsX20, w ∈ wsX5_readPart := fun _ h => (List.mem_cons_of_mem _ (List.mem_append_left _ (List.mem_append_left _ (List.mem_append_right _ h))))
theorem lf_X5_readPart_6 : ∀ w ∈ wsX100, w ∈ wsX5_readPart := fun _ h => (List.mem_cons_of_mem _ (List.mem_append_left _ (List.mem_append_right _ h)))
theorem lf_X5_readPart_7 : ∀ w ∈ wsX40, w ∈ wsX5_readPart := fun _ h => (List.mem_cons_of_mem _ (List.mem_append_right _ h))
set_option maxRecDepth 20000 in
theorem ggX5_readPart_X2_here : GoodIn wsX5_readPart wsX2_here := (gd_cons (lf_X5_readPart_1 _ (List.mem_of_getElem? (i := 6) rfl)) rfl (goodIn_app (goodIn_app (gd_cons (lf_X5_readPart_1 _ (List.mem_of_getElem? (i := 7) rfl)) rfl (gd_cons (lf_X5_readPart_1 _ (List.mem_of_getElem? (i := 8) rfl)) rfl (gd_cons (lf_X5_readPart_1 _ (List.mem_of_getElem? (i := 9) rfl)) rfl (gd_cons (lf_X5_readPart_1 _ (List.mem_of_getElem? (i := 10) rfl)) rfl (gd_cons (lf_X5_readPart_1 _ (List.mem_of_getElem? (i := 11) rfl)) rfl (gd_cons (lf_X5_readPart_1 _ (List.mem_of_getElem? (i := 12) rfl)) rfl (gd_cons (lf_X5_readPart_1 _ (List.mem_of_getElem? (i := 13) rfl)) rfl (gd_cons (lf_X5_readPart_1 _ (List.mem_of_getElem? (i := 14) rfl)) rfl (gd_cons (lf_X5_readPart_1 _ (List.mem_of_getElem? (i := 15) rfl)) rfl (gd_nil _)))))))))) (goodIn_sub lf_X5_readPart_5 ga_wsX20)) (goodIn_sub lf_X5_readPart_6 ga_wsX100)))
set_option maxRecDepth 20000 in
theorem gX5_readPart_X2_here : GoodIn wsX5_readPart (wsV RX5 49 RX2 yX2_here wsX2_here) := goodIn_app (gd_cons (lf_X5_readPart_1 _ (List.mem_of_getElem? (i := 2) rfl)) rfl (gd_cons (lf_X5_readPart_1 _ (List.mem_of_getElem? (i := 3) rfl)) rfl (gd_cons (lf_X5_readPart_1 _ (List.mem_of_getElem? (i := 4) rfl)) rfl (gd_cons (lf_X5_readPart_1 _ (List.mem_of_getElem? (i := 5) rfl)) rfl (gd_nil _))))) ggX5_readPart_X2_here
set_option maxRecDepth 20000 in
theorem ggX5_readPart_X2_stop : GoodIn wsX5_readPart wsX2_stop := (gd_cons (lf_X5_readPart_1 _ (List.mem_of_getElem? (i := 19) rfl)) rfl (goodIn_app (gd_cons (lf_X5_readPart_1 _ (List.mem_of_getElem? (i := 20) rfl)) rfl (gd_nil _)) (goodIn_sub lf_X5_readPart_5 ga_wsX20)))
set_option maxRecDepth 20000 in
theorem gX5_readPart_X2_stop : GoodIn wsX5_readPart (wsV RX5 52 RX2 yX2_stop wsX2_stop) := goodIn_app (gd_cons (lf_X5_readPart_1 _ (List.mem_of_getElem? (i := 16) rfl)) rfl (gd_cons (lf_X5_readPart_1 _ (List.mem_of_getElem? (i := 17) rfl)) rfl (gd_cons (lf_X5_readPart_1 _ (List.mem_of_getElem? (i := 18) rfl)) rfl (gd_cons (lf_X5_readPart_1 _ (List.mem_of_getElem? (i := 5) rfl)) rfl (gd_nil _))))) ggX5_readPart_X2_stop
set_option maxRecDepth 20000 in
theorem ggX5_readPart_X2_step : GoodIn wsX5_readPart wsX2_step := (gd_cons (lf_X5_readPart_2 _ (List.mem_of_getElem? (i := 0) rfl)) rfl (goodIn_app (gd_cons (lf_X5_readPart_1 _ (List.mem_of_getElem? (i := 8) rfl)) rfl (gd_nil _)) (goodIn_sub lf_X5_readPart_5 ga_wsX20)))
set_option maxRecDepth 20000 in
theorem gX5_readPart_X2_step : GoodIn wsX5_readPart (wsV RX5 55 RX2 yX2_step wsX2_step) := goodIn_app (gd_cons (lf_X5_readPart_1 _ (List.mem_of_getElem? (i := 21) rfl)) rfl (gd_cons (lf_X5_readPart_1 _ (List.mem_of_getElem? (i := 22) rfl)) rfl (gd_cons (lf_X5_readPart_1 _ (List.mem_of_getElem? (i := 23) rfl)) rfl (gd_cons (lf_X5_readPart_1 _ (List.mem_of_getElem? (i := 5) rfl)) rfl (gd_nil _))))) ggX5_readPart_X2_step
set_option maxRecDepth 20000 in
theorem ggX5_readPart_X5_tellsWhich : GoodIn wsX5_readPart wsX5_tellsWhich := (gd_cons (lf_X5_readPart_2 _ (List.mem_of_getElem? (i := 4) rfl)) rfl (gd_nil _))
set_option maxRecDepth 20000 in
theorem gX5_readPart_X5_tellsWhich : GoodIn wsX5_readPart (va_wsS RX5 93 yX5_tellsWhich wsX5_tellsWhich) := goodIn_app (gd_cons (lf_X5_readPart_2 _ (List.mem_of_getElem? (i := 1) rfl)) rfl (gd_cons (lf_X5_readPart_2 _ (List.mem_of_getElem? (i := 2) rfl)) rfl (gd_cons (lf_X5_readPart_2 _ (List.mem_of_getElem? (i := 3) rfl)) rfl (gd_nil _)))) ggX5_readPart_X5_tellsWhich
set_option maxRecDepth 20000 in
theorem ggX5_readPart_X2_figure : GoodIn wsX5_readPart wsX2_figure := (gd_cons (lf_X5_readPart_2 _ (List.mem_of_getElem? (i := 8) rfl)) rfl (goodIn_app (goodIn_app (gd_cons (lf_X5_readPart_2 _ (List.mem_of_getElem? (i := 9) rfl)) rfl (gd_cons (lf_X5_readPart_1 _ (List.mem_of_getElem? (i := 3) rfl)) rfl (gd_cons (lf_X5_readPart_1 _ (List.mem_of_getElem? (i := 4) rfl)) rfl (gd_cons (lf_X5_readPart_1 _ (List.mem_of_getElem? (i := 5) rfl)) rfl (gd_cons (lf_X5_readPart_1 _ (List.mem_of_getElem? (i := 6) rfl)) rfl (gd_cons (lf_X5_readPart_1 _ (List.mem_of_getElem? (i := 7) rfl)) rfl (gd_cons (lf_X5_readPart_1 _ (List.mem_of_getElem? (i := 8) rfl)) rfl (gd_cons (lf_X5_readPart_1 _ (List.mem_of_getElem? (i := 9) rfl)) rfl (gd_cons (lf_X5_readPart_1 _ (List.mem_of_getElem? (i := 10) rfl)) rfl (gd_cons (lf_X5_readPart_1 _ (List.mem_of_getElem? (i := 11) rfl)) rfl (gd_cons (lf_X5_readPart_1 _ (List.mem_of_getElem? (i := 12) rfl)) rfl (gd_cons (lf_X5_readPart_1 _ (List.mem_of_getElem? (i := 13) rfl)) rfl (gd_cons (lf_X5_readPart_1 _ (List.mem_of_getElem? (i := 14) rfl)) rfl (gd_cons (lf_X5_readPart_1 _ (List.mem_of_getElem? (i := 15) rfl)) rfl (gd_cons (lf_X5_readPart_2 _ (List.mem_of_getElem? (i := 10) rfl)) rfl (gd_cons (lf_X5_readPart_1 _ (List.mem_of_getElem? (i := 17) rfl)) rfl (gd_cons (lf_X5_readPart_1 _ (List.mem_of_getElem? (i := 18) rfl)) rfl (gd_cons (lf_X5_readPart_1 _ (List.mem_of_getElem? (i := 19) rfl)) rfl (gd_cons (lf_X5_readPart_1 _ (List.mem_of_getElem? (i := 20) rfl)) rfl (gd_cons (lf_X5_readPart_2 _ (List.mem_of_getElem? (i := 11) rfl)) rfl (gd_cons (lf_X5_readPart_1 _ (List.mem_of_getElem? (i := 22) rfl)) rfl (gd_cons (lf_X5_readPart_1 _ (List.mem_of_getElem? (i := 23) rfl)) rfl (gd_cons (lf_X5_readPart_2 _ (List.mem_of_getElem? (i := 0) rfl)) rfl (gd_nil _)))))))))))))))))))))))) (goodIn_sub lf_X5_readPart_5 ga_wsX20)) (goodIn_sub lf_X5_readPart_6 ga_wsX100)))
set_option maxRecDepth 20000 in
theorem gX5_readPart_X2_figure : GoodIn wsX5_readPart (wsV RX5 62 RX2 yX2_figure wsX2_figure) := goodIn_app (gd_cons (lf_X5_readPart_2 _ (List.mem_of_getElem? (i := 5) rfl)) rfl (gd_cons (lf_X5_readPart_2 _ (List.mem_of_getElem? (i := 6) rfl)) rfl (gd_cons (lf_X5_readPart_2 _ (List.mem_of_getElem? (i := 7) rfl)) rfl (gd_cons (lf_X5_readPart_1 _ (List.mem_of_getElem? (i := 5) rfl)) rfl (gd_nil _))))) ggX5_readPart_X2_figure
set_option maxRecDepth 20000 in
theorem ggX5_readPart_X5_firstFigures : GoodIn wsX5_readPart wsX5_firstFigures := (gd_cons (lf_X5_readPart_2 _ (List.mem_of_getElem? (i := 14) rfl)) rfl (gd_cons (lf_X5_readPart_2 _ (List.mem_of_getElem? (i := 15) rfl)) rfl (gd_cons (lf_X5_readPart_2 _ (List.mem_of_getElem? (i := 16) rfl)) rfl (gd_cons (lf_X5_readPart_1 _ (List.mem_of_getElem? (i := 5) rfl)) rfl (gd_cons (lf_X5_readPart_2 _ (List.mem_of_getElem? (i := 17) rfl)) rfl (gd_nil _))))))
set_option maxRecDepth 20000 in
theorem gX5_readPart_X5_firstFigures : GoodIn wsX5_readPart (va_wsS RX5 97 yX5_firstFigures wsX5_firstFigures) := goodIn_app (gd_cons (lf_X5_readPart_2 _ (List.mem_of_getElem? (i := 12) rfl)) rfl (gd_cons (lf_X5_readPart_2 _ (List.mem_of_getElem? (i := 13) rfl)) rfl (gd_cons (lf_X5_readPart_2 _ (List.mem_of_getElem? (i := 3) rfl)) rfl (gd_nil _)))) ggX5_readPart_X5_firstFigures
set_option maxRecDepth 20000 in
theorem ggX5_readPart_X5_hasSecond : GoodIn wsX5_readPart wsX5_hasSecond := (gd_cons (lf_X5_readPart_2 _ (List.mem_of_getElem? (i := 20) rfl)) rfl (gd_nil _))
set_option maxRecDepth 20000 in
theorem gX5_readPart_X5_hasSecond : GoodIn wsX5_readPart (va_wsS RX5 100 yX5_hasSecond wsX5_hasSecond) := goodIn_app (gd_cons (lf_X5_readPart_2 _ (List.mem_of_getElem? (i := 18) rfl)) rfl (gd_cons (lf_X5_readPart_2 _ (List.mem_of_getElem? (i := 19) rfl)) rfl (gd_cons (lf_X5_readPart_2 _ (List.mem_of_getElem? (i := 3) rfl)) rfl (gd_nil _)))) ggX5_readPart_X5_hasSecond
set_option maxRecDepth 20000 in
theorem ggX5_readPart_X5_secondFigures : GoodIn wsX5_readPart wsX5_secondFigures := (gd_cons (lf_X5_readPart_2 _ (List.mem_of_getElem? (i := 23) rfl)) rfl (gd_cons (lf_X5_readPart_2 _ (List.mem_of_getElem? (i := 15) rfl)) rfl (gd_cons (lf_X5_readPart_2 _ (List.mem_of_getElem? (i := 16) rfl)) rfl (gd_cons (lf_X5_readPart_1 _ (List.mem_of_getElem? (i := 5) rfl)) rfl (gd_cons (lf_X5_readPart_2 _ (List.mem_of_getElem? (i := 17) rfl)) rfl (gd_nil _))))))
set_option maxRecDepth 20000 in
theorem gX5_readPart_X5_secondFigures : GoodIn wsX5_readPart (va_wsS RX5 103 yX5_secondFigures wsX5_secondFigures) := goodIn_app (gd_cons (lf_X5_readPart_2 _ (List.mem_of_getElem? (i := 21) rfl)) rfl (gd_cons (lf_X5_readPart_2 _ (List.mem_of_getElem? (i := 22) rfl)) rfl (gd_cons (lf_X5_readPart_2 _ (List.mem_of_getElem? (i := 3) rfl)) rfl (gd_nil _)))) ggX5_readPart_X5_secondFigures
set_option maxRecDepth 20000 in
theorem ggX5_readPart_X4_put : GoodIn wsX5_readPart wsX4_put := (gd_cons (lf_X5_readPart_3 _ (List.mem_of_getElem? (i := 4) rfl)) rfl (goodIn_app (gd_cons (lf_X5_readPart_3 _ (List.mem_of_getElem? (i := 5) rfl)) rfl (gd_cons (lf_X5_readPart_3 _ (List.mem_of_getElem? (i := 6) rfl)) rfl (gd_cons (lf_X5_readPart_3 _ (List.mem_of_getElem? (i := 7) rfl)) rfl (gd_cons (lf_X5_readPart_3 _ (List.mem_of_getElem? (i := 8) rfl)) rfl (gd_cons (lf_X5_readPart_3 _ (List.mem_of_getElem? (i := 9) rfl)) rfl (gd_cons (lf_X5_readPart_3 _ (List.mem_of_getElem? (i := 10) rfl)) rfl (gd_cons (lf_X5_readPart_3 _ (List.mem_of_getElem? (i := 11) rfl)) rfl (gd_cons (lf_X5_readPart_3 _ (List.mem_of_getElem? (i := 12) rfl)) rfl (gd_cons (lf_X5_readPart_3 _ (List.mem_of_getElem? (i := 13) rfl)) rfl (gd_cons (lf_X5_readPart_3 _ (List.mem_of_getElem? (i := 14) rfl)) rfl (gd_cons (lf_X5_readPart_3 _ (List.mem_of_getElem? (i := 3) rfl)) rfl (gd_cons (lf_X5_readPart_3 _ (List.mem_of_getElem? (i := 15) rfl)) rfl (gd_cons (lf_X5_readPart_3 _ (List.mem_of_getElem? (i := 16) rfl)) rfl (gd_cons (lf_X5_readPart_3 _ (List.mem_of_getElem? (i := 17) rfl)) rfl (gd_cons (lf_X5_readPart_3 _ (List.mem_of_getElem? (i := 18) rfl)) rfl (gd_cons (lf_X5_readPart_3 _ (List.mem_of_getElem? (i := 19) rfl)) rfl (gd_cons (lf_X5_readPart_3 _ (List.mem_of_getElem? (i := 20) rfl)) rfl (gd_nil _)))))))))))))))))) (goodIn_sub lf_X5_readPart_7 ga_wsX40)))
set_option maxRecDepth 20000 in
theorem gX5_readPart_X4_put : GoodIn wsX5_readPart (wsV RX5 106 RX4 yX4_put wsX4_put) := goodIn_app (gd_cons (lf_X5_readPart_3 _ (List.mem_of_getElem? (i := 0) rfl)) rfl (gd_cons (lf_X5_readPart_3 _ (List.mem_of_getElem? (i := 1) rfl)) rfl (gd_cons (lf_X5_readPart_3 _ (List.mem_of_getElem? (i := 2) rfl)) rfl (gd_cons (lf_X5_readPart_3 _ (List.mem_of_getElem? (i := 3) rfl)) rfl (gd_nil _))))) ggX5_readPart_X4_put
theorem dX5_readPart_0 : decode cX5_readPart 0 = .ok (.aload_n 0, 1) := dq_42 (dst 0 rd_prog_7_method_6_code_0 rfl)
theorem dX5_readPart_1 : decode cX5_readPart 1 = .ok (.getfield 20, 3) := dq_180 (dst 1 rd_prog_7_method_6_code_0 rfl) rfl
theorem dX5_readPart_4 : decode cX5_readPart 4 = .ok (.invokevirtual 49, 3) := dq_182 (dst 4 rd_prog_7_method_6_code_0 rfl) rfl
theorem dX5_readPart_7 : decode cX5_readPart 7 = .ok (.istore_n 2, 1) := dq_61 (dst 7 rd_prog_7_method_6_code_0 rfl)
theorem dX5_readPart_8 : decode cX5_readPart 8 = .ok (.iload_n 2, 1) := dq_28 (dst 8 rd_prog_7_method_6_code_0 rfl)
theorem dX5_readPart_9 : decode cX5_readPart 9 = .ok (.bipush 65, 2) := dq_16 (dst 9 rd_prog_7_method_6_code_0 rfl) (by decide +kernel)
theorem dX5_readPart_11 : decode cX5_readPart 11 = .ok (.if_icmp .lt 21, 3) := dq_161 (dst 11 rd_prog_7_method_6_code_0 rfl) (by decide +kernel)
theorem dX5_readPart_14 : decode cX5_readPart 14 = .ok (.iload_n 2, 1) := dq_28 (dst 14 rd_prog_7_method_6_code_0 rfl)
theorem dX5_readPart_15 : decode cX5_readPart 15 = .ok (.bipush 90, 2) := dq_16 (dst 15 rd_prog_7_method_6_code_0 rfl) (by decide +kernel)
theorem dX5_readPart_17 : decode cX5_readPart 17 = .ok (.if_icmp .gt 15, 3) := dq_163 (dst 17 rd_prog_7_method_6_code_0 rfl) (by decide +kernel)
theorem dX5_readPart_20 : decode cX5_readPart 20 = .ok (.aload_n 0, 1) := dq_42 (dst 20 rd_prog_7_method_6_code_0 rfl)
theorem dX5_readPart_21 : decode cX5_readPart 21 = .ok (.getfield 9, 3) := dq_180 (dst 21 rd_prog_7_method_6_code_0 rfl) rfl
theorem dX5_readPart_24 : decode cX5_readPart 24 = .ok (.iload_n 2, 1) := dq_28 (dst 24 rd_prog_7_method_6_code_0 rfl)
theorem dX5_readPart_25 : decode cX5_readPart 25 = .ok (.bipush 65, 2) := dq_16 (dst 25 rd_prog_7_method_6_code_0 rfl) (by decide +kernel)
theorem dX5_readPart_27 : decode cX5_readPart 27 = .ok (.isub, 1) := dq_100 (dst 27 rd_prog_7_method_6_code_0 rfl)
theorem dX5_readPart_28 : decode cX5_readPart 28 = .ok (.iaload, 1) := dq_46 (dst 28 rd_prog_7_method_6_code_0 rfl)
theorem dX5_readPart_29 : decode cX5_readPart 29 = .ok (.ifCond .ne 11, 3) := dq_154 (dst 29 rd_prog_7_method_6_code_0 rfl) (by decide +kernel)
theorem dX5_readPart_32 : decode cX5_readPart 32 = .ok (.aload_n 0, 1) := dq_42 (dst 0 rd_prog_7_method_6_code_1 rfl)
theorem dX5_readPart_33 : decode cX5_readPart 33 = .ok (.getfield 20, 3) := dq_180 (dst 1 rd_prog_7_method_6_code_1 rfl) rfl
theorem dX5_readPart_36 : decode cX5_readPart 36 = .ok (.invokevirtual 52, 3) := dq_182 (dst 4 rd_prog_7_method_6_code_1 rfl) rfl
theorem dX5_readPart_39 : decode cX5_readPart 39 = .ok (.return_, 1) := dq_177 (dst 7 rd_prog_7_method_6_code_1 rfl)
theorem dX5_readPart_40 : decode cX5_readPart 40 = .ok (.aload_n 0, 1) := dq_42 (dst 8 rd_prog_7_method_6_code_1 rfl)
theorem dX5_readPart_41 : decode cX5_readPart 41 = .ok (.getfield 20, 3) := dq_180 (dst 9 rd_prog_7_method_6_code_1 rfl) rfl
theorem dX5_readPart_44 : decode cX5_readPart 44 = .ok (.invokevirtual 55, 3) := dq_182 (dst 12 rd_prog_7_method_6_code_1 rfl) rfl
theorem dX5_readPart_47 : decode cX5_readPart 47 = .ok (.iload_n 2, 1) := dq_28 (dst 15 rd_prog_7_method_6_code_1 rfl)
theorem dX5_readPart_48 : decode cX5_readPart 48 = .ok (.invokestatic 93, 3) := dq_184 (dst 16 rd_prog_7_method_6_code_1 rfl) rfl
theorem dX5_readPart_51 : decode cX5_readPart 51 = .ok (.ifCond .eq 22, 3) := dq_153 (dst 19 rd_prog_7_method_6_code_1 rfl) (by decide +kernel)
theorem dX5_readPart_54 : decode cX5_readPart 54 = .ok (.aload_n 0, 1) := dq_42 (dst 22 rd_prog_7_method_6_code_1 rfl)
theorem dX5_readPart_55 : decode cX5_readPart 55 = .ok (.getfield 20, 3) := dq_180 (dst 23 rd_prog_7_method_6_code_1 rfl) rfl
theorem dX5_readPart_58 : decode cX5_readPart 58 = .ok (.aload_n 0, 1) := dq_42 (dst 26 rd_prog_7_method_6_code_1 rfl)
theorem dX5_readPart_59 : decode cX5_readPart 59 = .ok (.getfield 9, 3) := dq_180 (dst 27 rd_prog_7_method_6_code_1 rfl) rfl
theorem dX5_readPart_62 : decode cX5_readPart 62 = .ok (.iload_n 2, 1) := dq_28 (dst 30 rd_prog_7_method_6_code_1 rfl)
theorem dX5_readPart_63 : decode cX5_readPart 63 = .ok (.bipush 65, 2) := dq_16 (dst 31 rd_prog_7_method_6_code_1 rfl) (by decide +kernel)
theorem dX5_readPart_65 : decode cX5_readPart 65 = .ok (.isub, 1) := dq_100 (dst 1 rd_prog_7_method_6_code_2 rfl)
theorem dX5_readPart_66 : decode cX5_readPart 66 = .ok (.iaload, 1) := dq_46 (dst 2 rd_prog_7_method_6_code_2 rfl)
theorem dX5_readPart_67 : decode cX5_readPart 67 = .ok (.invokevirtual 62, 3) := dq_182 (dst 3 rd_prog_7_method_6_code_2 rfl) rfl
theorem dX5_readPart_70 : decode cX5_readPart 70 = .ok (.goto 4, 3) := dq_167 (dst 6 rd_prog_7_method_6_code_2 rfl) (by decide +kernel)
theorem dX5_readPart_73 : decode cX5_readPart 73 = .ok (.iconst 0, 1) := dq_3 (dst 9 rd_prog_7_method_6_code_2 rfl)
theorem dX5_readPart_74 : decode cX5_readPart 74 = .ok (.istore_n 3, 1) := dq_62 (dst 10 rd_prog_7_method_6_code_2 rfl)
theorem dX5_readPart_75 : decode cX5_readPart 75 = .ok (.iload_n 3, 1) := dq_29 (dst 11 rd_prog_7_method_6_code_2 rfl)
theorem dX5_readPart_76 : decode cX5_readPart 76 = .ok (.bipush (-9), 2) := dq_16 (dst 12 rd_prog_7_method_6_code_2 rfl) (by decide +kernel)
theorem dX5_readPart_78 : decode cX5_readPart 78 = .ok (.if_icmp .ne 4, 3) := dq_160 (dst 14 rd_prog_7_method_6_code_2 rfl) (by decide +kernel)
theorem dX5_readPart_81 : decode cX5_readPart 81 = .ok (.return_, 1) := dq_177 (dst 17 rd_prog_7_method_6_code_2 rfl)
theorem dX5_readPart_82 : decode cX5_readPart 82 = .ok (.aload_n 0, 1) := dq_42 (dst 18 rd_prog_7_method_6_code_2 rfl)
theorem dX5_readPart_83 : decode cX5_readPart 83 = .ok (.getfield 9, 3) := dq_180 (dst 19 rd_prog_7_method_6_code_2 rfl) rfl
theorem dX5_readPart_86 : decode cX5_readPart 86 = .ok (.iload_n 2, 1) := dq_28 (dst 22 rd_prog_7_method_6_code_2 rfl)
theorem dX5_readPart_87 : decode cX5_readPart 87 = .ok (.bipush 65, 2) := dq_16 (dst 23 rd_prog_7_method_6_code_2 rfl) (by decide +kernel)
theorem dX5_readPart_89 : decode cX5_readPart 89 = .ok (.isub, 1) := dq_100 (dst 25 rd_prog_7_method_6_code_2 rfl)
theorem dX5_readPart_90 : decode cX5_readPart 90 = .ok (.dup2, 1) := dq_92 (dst 26 rd_prog_7_method_6_code_2 rfl)
theorem dX5_readPart_91 : decode cX5_readPart 91 = .ok (.iaload, 1) := dq_46 (dst 27 rd_prog_7_method_6_code_2 rfl)
theorem dX5_readPart_92 : decode cX5_readPart 92 = .ok (.iconst 1, 1) := dq_4 (dst 28 rd_prog_7_method_6_code_2 rfl)
theorem dX5_readPart_93 : decode cX5_readPart 93 = .ok (.iload_n 3, 1) := dq_29 (dst 29 rd_prog_7_method_6_code_2 rfl)
theorem dX5_readPart_94 : decode cX5_readPart 94 = .ok (.ishl, 1) := dq_120 (dst 30 rd_prog_7_method_6_code_2 rfl)
theorem dX5_readPart_95 : decode cX5_readPart 95 = .ok (.iconst (-1), 1) := dq_2 (dst 31 rd_prog_7_method_6_code_2 rfl)
theorem dX5_readPart_96 : decode cX5_readPart 96 = .ok (.ixor, 1) := dq_130 (dst 0 rd_prog_7_method_6_code_3 rfl)
theorem dX5_readPart_97 : decode cX5_readPart 97 = .ok (.iand, 1) := dq_126 (dst 1 rd_prog_7_method_6_code_3 rfl)
theorem dX5_readPart_98 : decode cX5_readPart 98 = .ok (.iastore, 1) := dq_79 (dst 2 rd_prog_7_method_6_code_3 rfl)
theorem dX5_readPart_99 : decode cX5_readPart 99 = .ok (.aload_n 0, 1) := dq_42 (dst 3 rd_prog_7_method_6_code_3 rfl)
theorem dX5_readPart_100 : decode cX5_readPart 100 = .ok (.getfield 20, 3) := dq_180 (dst 4 rd_prog_7_method_6_code_3 rfl) rfl
theorem dX5_readPart_103 : decode cX5_readPart 103 = .ok (.iload_n 2, 1) := dq_28 (dst 7 rd_prog_7_method_6_code_3 rfl)
theorem dX5_readPart_104 : decode cX5_readPart 104 = .ok (.invokestatic 97, 3) := dq_184 (dst 8 rd_prog_7_method_6_code_3 rfl) rfl
theorem dX5_readPart_107 : decode cX5_readPart 107 = .ok (.invokevirtual 62, 3) := dq_182 (dst 11 rd_prog_7_method_6_code_3 rfl) rfl
theorem dX5_readPart_110 : decode cX5_readPart 110 = .ok (.istore 4, 2) := dq_54 (dst 14 rd_prog_7_method_6_code_3 rfl) rfl
theorem dX5_readPart_112 : decode cX5_readPart 112 = .ok (.iload 4, 2) := dq_21 (dst 16 rd_prog_7_method_6_code_3 rfl) rfl
theorem dX5_readPart_114 : decode cX5_readPart 114 = .ok (.bipush (-9), 2) := dq_16 (dst 18 rd_prog_7_method_6_code_3 rfl) (by decide +kernel)
theorem dX5_readPart_116 : decode cX5_readPart 116 = .ok (.if_icmp .ne 4, 3) := dq_160 (dst 20 rd_prog_7_method_6_code_3 rfl) (by decide +kernel)
theorem dX5_readPart_119 : decode cX5_readPart 119 = .ok (.return_, 1) := dq_177 (dst 23 rd_prog_7_method_6_code_3 rfl)
theorem dX5_readPart_120 : decode cX5_readPart 120 = .ok (.iload_n 2, 1) := dq_28 (dst 24 rd_prog_7_method_6_code_3 rfl)
theorem dX5_readPart_121 : decode cX5_readPart 121 = .ok (.invokestatic 100, 3) := dq_184 (dst 25 rd_prog_7_method_6_code_3 rfl) rfl
theorem dX5_readPart_124 : decode cX5_readPart 124 = .ok (.ifCond .eq 17, 3) := dq_153 (dst 28 rd_prog_7_method_6_code_3 rfl) (by decide +kernel)
theorem dX5_readPart_127 : decode cX5_readPart 127 = .ok (.aload_n 0, 1) := dq_42 (dst 31 rd_prog_7_method_6_code_3 rfl)
theorem dX5_readPart_128 : decode cX5_readPart 128 = .ok (.getfield 20, 3) := dq_180 (dst 0 rd_prog_7_method_6_code_4 rfl) rfl
theorem dX5_readPart_131 : decode cX5_readPart 131 = .ok (.iload_n 2, 1) := dq_28 (dst 3 rd_prog_7_method_6_code_4 rfl)
theorem dX5_readPart_132 : decode cX5_readPart 132 = .ok (.invokestatic 103, 3) := dq_184 (dst 4 rd_prog_7_method_6_code_4 rfl) rfl
theorem dX5_readPart_135 : decode cX5_readPart 135 = .ok (.invokevirtual 62, 3) := dq_182 (dst 7 rd_prog_7_method_6_code_4 rfl) rfl
theorem dX5_readPart_138 : decode cX5_readPart 138 = .ok (.goto 4, 3) := dq_167 (dst 10 rd_prog_7_method_6_code_4 rfl) (by decide +kernel)
theorem dX5_readPart_141 : decode cX5_readPart 141 = .ok (.iconst 0, 1) := dq_3 (dst 13 rd_prog_7_method_6_code_4 rfl)
theorem dX5_readPart_142 : decode cX5_readPart 142 = .ok (.istore 5, 2) := dq_54 (dst 14 rd_prog_7_method_6_code_4 rfl) rfl
theorem dX5_readPart_144 : decode cX5_readPart 144 = .ok (.iload 5, 2) := dq_21 (dst 16 rd_prog_7_method_6_code_4 rfl) rfl
theorem dX5_readPart_146 : decode cX5_readPart 146 = .ok (.bipush (-9), 2) := dq_16 (dst 18 rd_prog_7_method_6_code_4 rfl) (by decide +kernel)
theorem dX5_readPart_148 : decode cX5_readPart 148 = .ok (.if_icmp .ne 4, 3) := dq_160 (dst 20 rd_prog_7_method_6_code_4 rfl) (by decide +kernel)
theorem dX5_readPart_151 : decode cX5_readPart 151 = .ok (.return_, 1) := dq_177 (dst 23 rd_prog_7_method_6_code_4 rfl)
theorem dX5_readPart_152 : decode cX5_readPart 152 = .ok (.aload_n 1, 1) := dq_43 (dst 24 rd_prog_7_method_6_code_4 rfl)
theorem dX5_readPart_153 : decode cX5_readPart 153 = .ok (.iload_n 2, 1) := dq_28 (dst 25 rd_prog_7_method_6_code_4 rfl)
theorem dX5_readPart_154 : decode cX5_readPart 154 = .ok (.iload_n 3, 1) := dq_29 (dst 26 rd_prog_7_method_6_code_4 rfl)
theorem dX5_readPart_155 : decode cX5_readPart 155 = .ok (.iload 4, 2) := dq_21 (dst 27 rd_prog_7_method_6_code_4 rfl) rfl
theorem dX5_readPart_157 : decode cX5_readPart 157 = .ok (.iload 5, 2) := dq_21 (dst 29 rd_prog_7_method_6_code_4 rfl) rfl
theorem dX5_readPart_159 : decode cX5_readPart 159 = .ok (.invokevirtual 106, 3) := dq_182 (dst 31 rd_prog_7_method_6_code_4 rfl) rfl
theorem dX5_readPart_162 : decode cX5_readPart 162 = .ok (.return_, 1) := dq_177 (dst 2 rd_prog_7_method_6_code_5 rfl)
theorem dX5_tellsWhich_0 : decode cX5_tellsWhich 0 = .ok (.iload_n 0, 1) := dq_26 (dst 0 rd_prog_7_method_7_code_0 rfl)
theorem dX5_tellsWhich_1 : decode cX5_tellsWhich 1 = .ok (.bipush 87, 2) := dq_16 (dst 1 rd_prog_7_method_7_code_0 rfl) (by decide +kernel)
theorem dX5_tellsWhich_3 : decode cX5_tellsWhich 3 = .ok (.if_icmp .eq 21, 3) := dq_159 (dst 3 rd_prog_7_method_7_code_0 rfl) (by decide +kernel)
theorem dX5_tellsWhich_6 : decode cX5_tellsWhich 6 = .ok (.iload_n 0, 1) := dq_26 (dst 6 rd_prog_7_method_7_code_0 rfl)
theorem dX5_tellsWhich_7 : decode cX5_tellsWhich 7 = .ok (.bipush 79, 2) := dq_16 (dst 7 rd_prog_7_method_7_code_0 rfl) (by decide +kernel)
theorem dX5_tellsWhich_9 : decode cX5_tellsWhich 9 = .ok (.if_icmp .eq 15, 3) := dq_159 (dst 9 rd_prog_7_method_7_code_0 rfl) (by decide +kernel)
theorem dX5_tellsWhich_12 : decode cX5_tellsWhich 12 = .ok (.iload_n 0, 1) := dq_26 (dst 12 rd_prog_7_method_7_code_0 rfl)
theorem dX5_tellsWhich_13 : decode cX5_tellsWhich 13 = .ok (.bipush 81, 2) := dq_16 (dst 13 rd_prog_7_method_7_code_0 rfl) (by decide +kernel)
theorem dX5_tellsWhich_15 : decode cX5_tellsWhich 15 = .ok (.if_icmp .eq 9, 3) := dq_159 (dst 15 rd_prog_7_method_7_code_0 rfl) (by decide +kernel)
theorem dX5_tellsWhich_18 : decode cX5_tellsWhich 18 = .ok (.iload_n 0, 1) := dq_26 (dst 18 rd_prog_7_method_7_code_0 rfl)
theorem dX5_tellsWhich_19 : decode cX5_tellsWhich 19 = .ok (.bipush 68, 2) := dq_16 (dst 19 rd_prog_7_method_7_code_0 rfl) (by decide +kernel)
theorem dX5_tellsWhich_21 : decode cX5_tellsWhich 21 = .ok (.if_icmp .ne 7, 3) := dq_160 (dst 21 rd_prog_7_method_7_code_0 rfl) (by decide +kernel)
theorem dX5_tellsWhich_24 : decode cX5_tellsWhich 24 = .ok (.iconst 1, 1) := dq_4 (dst 24 rd_prog_7_method_7_code_0 rfl)
theorem dX5_tellsWhich_25 : decode cX5_tellsWhich 25 = .ok (.goto 4, 3) := dq_167 (dst 25 rd_prog_7_method_7_code_0 rfl) (by decide +kernel)
theorem dX5_tellsWhich_28 : decode cX5_tellsWhich 28 = .ok (.iconst 0, 1) := dq_3 (dst 28 rd_prog_7_method_7_code_0 rfl)
theorem dX5_tellsWhich_29 : decode cX5_tellsWhich 29 = .ok (.ireturn, 1) := dq_172 (dst 29 rd_prog_7_method_7_code_0 rfl)
theorem lf_X5_firstFigures_1 : ∀ w ∈ ([Cond.methodLink RX5 58 yX2_figures, Cond.static yX2_figures, Cond.initialized RX2, Cond.code yX2_figures cX2_figures 2 (some .int)] : List Cond), w ∈ wsX5_firstFigures := fun _ h => (List.mem_cons_of_mem _ h)
set_option maxRecDepth 20000 in
theorem ggX5_firstFigures_X2_figures : GoodIn wsX5_firstFigures wsX2_figures := (gd_cons (lf_X5_firstFigures_1 _ (List.mem_of_getElem? (i := 3) rfl)) rfl (gd_nil _))
set_option maxRecDepth 20000 in
theorem gX5_firstFigures_X2_figures : GoodIn wsX5_firstFigures (va_wsS RX5 58 yX2_figures wsX2_figures) := goodIn_app (gd_cons (lf_X5_firstFigures_1 _ (List.mem_of_getElem? (i := 0) rfl)) rfl (gd_cons (lf_X5_firstFigures_1 _ (List.mem_of_getElem? (i := 1) rfl)) rfl (gd_cons (lf_X5_firstFigures_1 _ (List.mem_of_getElem? (i := 2) rfl)) rfl (gd_nil _)))) ggX5_firstFigures_X2_figures
theorem dX5_firstFigures_0 : decode cX5_firstFigures 0 = .ok (.iload_n 0, 1) := dq_26 (dst 0 rd_prog_7_method_8_code_0 rfl)
theorem dX5_firstFigures_1 : decode cX5_firstFigures 1 = .ok (.lookupswitch 53 #[(72, 35), (79, 41), (81, 47)], 35) := by decide +kernel
theorem dX5_firstFigures_36 : decode cX5_firstFigures 36 = .ok (.iconst 1, 1) := dq_4 (dst 4 rd_prog_7_method_8_code_1 rfl)
theorem dX5_firstFigures_37 : decode cX5_firstFigures 37 = .ok (.iconst 4, 1) := dq_7 (dst 5 rd_prog_7_method_8_code_1 rfl)
theorem dX5_firstFigures_38 : decode cX5_firstFigures 38 = .ok (.invokestatic 58, 3) := dq_184 (dst 6 rd_prog_7_method_8_code_1 rfl) rfl
theorem dX5_firstFigures_41 : decode cX5_firstFigures 41 = .ok (.ireturn, 1) := dq_172 (dst 9 rd_prog_7_method_8_code_1 rfl)
theorem dX5_firstFigures_42 : decode cX5_firstFigures 42 = .ok (.iconst 0, 1) := dq_3 (dst 10 rd_prog_7_method_8_code_1 rfl)
theorem dX5_firstFigures_43 : decode cX5_firstFigures 43 = .ok (.iconst 4, 1) := dq_7 (dst 11 rd_prog_7_method_8_code_1 rfl)
theorem dX5_firstFigures_44 : decode cX5_firstFigures 44 = .ok (.invokestatic 58, 3) := dq_184 (dst 12 rd_prog_7_method_8_code_1 rfl) rfl
theorem dX5_firstFigures_47 : decode cX5_firstFigures 47 = .ok (.ireturn, 1) := dq_172 (dst 15 rd_prog_7_method_8_code_1 rfl)
theorem dX5_firstFigures_48 : decode cX5_firstFigures 48 = .ok (.iconst 0, 1) := dq_3 (dst 16 rd_prog_7_method_8_code_1 rfl)
theorem dX5_firstFigures_49 : decode cX5_firstFigures 49 = .ok (.iconst 5, 1) := dq_8 (dst 17 rd_prog_7_method_8_code_1 rfl)
theorem dX5_firstFigures_50 : decode cX5_firstFigures 50 = .ok (.invokestatic 58, 3) := dq_184 (dst 18 rd_prog_7_method_8_code_1 rfl) rfl
theorem dX5_firstFigures_53 : decode cX5_firstFigures 53 = .ok (.ireturn, 1) := dq_172 (dst 21 rd_prog_7_method_8_code_1 rfl)
theorem dX5_firstFigures_54 : decode cX5_firstFigures 54 = .ok (.iconst 0, 1) := dq_3 (dst 22 rd_prog_7_method_8_code_1 rfl)
theorem dX5_firstFigures_55 : decode cX5_firstFigures 55 = .ok (.bipush 9, 2) := dq_16 (dst 23 rd_prog_7_method_8_code_1 rfl) (by decide +kernel)
theorem dX5_firstFigures_57 : decode cX5_firstFigures 57 = .ok (.invokestatic 58, 3) := dq_184 (dst 25 rd_prog_7_method_8_code_1 rfl) rfl
theorem dX5_firstFigures_60 : decode cX5_firstFigures 60 = .ok (.ireturn, 1) := dq_172 (dst 28 rd_prog_7_method_8_code_1 rfl)
theorem dX5_hasSecond_0 : decode cX5_hasSecond 0 = .ok (.iload_n 0, 1) := dq_26 (dst 0 rd_prog_7_method_9_code_0 rfl)
theorem dX5_hasSecond_1 : decode cX5_hasSecond 1 = .ok (.bipush 87, 2) := dq_16 (dst 1 rd_prog_7_method_9_code_0 rfl) (by decide +kernel)
theorem dX5_hasSecond_3 : decode cX5_hasSecond 3 = .ok (.if_icmp .eq 9, 3) := dq_159 (dst 3 rd_prog_7_method_9_code_0 rfl) (by decide +kernel)
theorem dX5_hasSecond_6 : decode cX5_hasSecond 6 = .ok (.iload_n 0, 1) := dq_26 (dst 6 rd_prog_7_method_9_code_0 rfl)
theorem dX5_hasSecond_7 : decode cX5_hasSecond 7 = .ok (.bipush 66, 2) := dq_16 (dst 7 rd_prog_7_method_9_code_0 rfl) (by decide +kernel)
theorem dX5_hasSecond_9 : decode cX5_hasSecond 9 = .ok (.if_icmp .ne 7, 3) := dq_160 (dst 9 rd_prog_7_method_9_code_0 rfl) (by decide +kernel)
theorem dX5_hasSecond_12 : decode cX5_hasSecond 12 = .ok (.iconst 1, 1) := dq_4 (dst 12 rd_prog_7_method_9_code_0 rfl)
theorem dX5_hasSecond_13 : decode cX5_hasSecond 13 = .ok (.goto 4, 3) := dq_167 (dst 13 rd_prog_7_method_9_code_0 rfl) (by decide +kernel)
theorem dX5_hasSecond_16 : decode cX5_hasSecond 16 = .ok (.iconst 0, 1) := dq_3 (dst 16 rd_prog_7_method_9_code_0 rfl)
theorem dX5_hasSecond_17 : decode cX5_hasSecond 17 = .ok (.ireturn, 1) := dq_172 (dst 17 rd_prog_7_method_9_code_0 rfl)
theorem lf_X5_secondFigures_1 : ∀ w ∈ ([Cond.methodLink RX5 58 yX2_figures, Cond.static yX2_figures, Cond.initialized RX2, Cond.code yX2_figures cX2_figures 2 (some .int)] : List Cond), w ∈ wsX5_secondFigures := fun _ h => (List.mem_cons_of_mem _ h)
set_option maxRecDepth 20000 in
theorem ggX5_secondFigures_X2_figures : GoodIn wsX5_secondFigures wsX2_figures := (gd_cons (lf_X5_secondFigures_1 _ (List.mem_of_getElem? (i := 3) rfl)) rfl (gd_nil _))
set_option maxRecDepth 20000 in
theorem gX5_secondFigures_X2_figures : GoodIn wsX5_secondFigures (va_wsS RX5 58 yX2_figures wsX2_figures) := goodIn_app (gd_cons (lf_X5_secondFigures_1 _ (List.mem_of_getElem? (i := 0) rfl)) rfl (gd_cons (lf_X5_secondFigures_1 _ (List.mem_of_getElem? (i := 1) rfl)) rfl (gd_cons (lf_X5_secondFigures_1 _ (List.mem_of_getElem? (i := 2) rfl)) rfl (gd_nil _)))) ggX5_secondFigures_X2_figures
theorem dX5_secondFigures_0 : decode cX5_secondFigures 0 = .ok (.iconst 0, 1) := dq_3 (dst 0 rd_prog_7_method_10_code_0 rfl)
theorem dX5_secondFigures_1 : decode cX5_secondFigures 1 = .ok (.iload_n 0, 1) := dq_26 (dst 1 rd_prog_7_method_10_code_0 rfl)
theorem dX5_secondFigures_2 : decode cX5_secondFigures 2 = .ok (.bipush 66, 2) := dq_16 (dst 2 rd_prog_7_method_10_code_0 rfl) (by decide +kernel)
theorem dX5_secondFigures_4 : decode cX5_secondFigures 4 = .ok (.if_icmp .ne 7, 3) := dq_160 (dst 4 rd_prog_7_method_10_code_0 rfl) (by decide +kernel)
theorem dX5_secondFigures_7 : decode cX5_secondFigures 7 = .ok (.iconst 5, 1) := dq_8 (dst 7 rd_prog_7_method_10_code_0 rfl)
theorem dX5_secondFigures_8 : decode cX5_secondFigures 8 = .ok (.goto 5, 3) := dq_167 (dst 8 rd_prog_7_method_10_code_0 rfl) (by decide +kernel)
theorem dX5_secondFigures_11 : decode cX5_secondFigures 11 = .ok (.bipush 9, 2) := dq_16 (dst 11 rd_prog_7_method_10_code_0 rfl) (by decide +kernel)
theorem dX5_secondFigures_13 : decode cX5_secondFigures 13 = .ok (.invokestatic 58, 3) := dq_184 (dst 13 rd_prog_7_method_10_code_0 rfl) rfl
theorem dX5_secondFigures_16 : decode cX5_secondFigures 16 = .ok (.ireturn, 1) := dq_172 (dst 16 rd_prog_7_method_10_code_0 rfl)
theorem dX6_init_0 : decode cX6_init 0 = .ok (.aload_n 0, 1) := dq_42 (dst 0 rd_prog_8_method_1_code_0 rfl)
theorem dX6_init_1 : decode cX6_init 1 = .ok (.invokespecial 3, 3) := dq_183 (dst 1 rd_prog_8_method_1_code_0 rfl) rfl
theorem dX6_init_4 : decode cX6_init 4 = .ok (.aload_n 0, 1) := dq_42 (dst 4 rd_prog_8_method_1_code_0 rfl)
theorem dX6_init_5 : decode cX6_init 5 = .ok (.sipush 630, 3) := dq_17 (dst 5 rd_prog_8_method_1_code_0 rfl) (by decide +kernel)
theorem dX6_init_8 : decode cX6_init 8 = .ok (.newarray .long, 2) := dq_188_11 (dst 8 rd_prog_8_method_1_code_0 rfl)
theorem dX6_init_10 : decode cX6_init 10 = .ok (.putfield 13, 3) := dq_181 (dst 10 rd_prog_8_method_1_code_0 rfl) rfl
theorem dX6_init_13 : decode cX6_init 13 = .ok (.aload_n 0, 1) := dq_42 (dst 13 rd_prog_8_method_1_code_0 rfl)
theorem dX6_init_14 : decode cX6_init 14 = .ok (.sipush 525, 3) := dq_17 (dst 14 rd_prog_8_method_1_code_0 rfl) (by decide +kernel)
theorem dX6_init_17 : decode cX6_init 17 = .ok (.newarray .int, 2) := dq_188_10 (dst 17 rd_prog_8_method_1_code_0 rfl)
theorem dX6_init_19 : decode cX6_init 19 = .ok (.putfield 17, 3) := dq_181 (dst 19 rd_prog_8_method_1_code_0 rfl) rfl
theorem dX6_init_22 : decode cX6_init 22 = .ok (.aload_n 0, 1) := dq_42 (dst 22 rd_prog_8_method_1_code_0 rfl)
theorem dX6_init_23 : decode cX6_init 23 = .ok (.bipush 35, 2) := dq_16 (dst 23 rd_prog_8_method_1_code_0 rfl) (by decide +kernel)
theorem dX6_init_25 : decode cX6_init 25 = .ok (.newarray .long, 2) := dq_188_11 (dst 25 rd_prog_8_method_1_code_0 rfl)
theorem dX6_init_27 : decode cX6_init 27 = .ok (.putfield 21, 3) := dq_181 (dst 27 rd_prog_8_method_1_code_0 rfl) rfl
theorem dX6_init_30 : decode cX6_init 30 = .ok (.aload_n 0, 1) := dq_42 (dst 30 rd_prog_8_method_1_code_0 rfl)
theorem dX6_init_31 : decode cX6_init 31 = .ok (.bipush 35, 2) := dq_16 (dst 31 rd_prog_8_method_1_code_0 rfl) (by decide +kernel)
theorem dX6_init_33 : decode cX6_init 33 = .ok (.newarray .int, 2) := dq_188_10 (dst 1 rd_prog_8_method_1_code_1 rfl)
theorem dX6_init_35 : decode cX6_init 35 = .ok (.putfield 24, 3) := dq_181 (dst 3 rd_prog_8_method_1_code_1 rfl) rfl
theorem dX6_init_38 : decode cX6_init 38 = .ok (.return_, 1) := dq_177 (dst 6 rd_prog_8_method_1_code_1 rfl)
theorem dX6_place_0 : decode cX6_place 0 = .ok (.iload_n 0, 1) := dq_26 (dst 0 rd_prog_8_method_2_code_0 rfl)
theorem dX6_place_1 : decode cX6_place 1 = .ok (.iconst 3, 1) := dq_6 (dst 1 rd_prog_8_method_2_code_0 rfl)
theorem dX6_place_2 : decode cX6_place 2 = .ok (.imul, 1) := dq_104 (dst 2 rd_prog_8_method_2_code_0 rfl)
theorem dX6_place_3 : decode cX6_place 3 = .ok (.iload_n 2, 1) := dq_28 (dst 3 rd_prog_8_method_2_code_0 rfl)
theorem dX6_place_4 : decode cX6_place 4 = .ok (.iadd, 1) := dq_96 (dst 4 rd_prog_8_method_2_code_0 rfl)
theorem dX6_place_5 : decode cX6_place 5 = .ok (.bipush 35, 2) := dq_16 (dst 5 rd_prog_8_method_2_code_0 rfl) (by decide +kernel)
theorem dX6_place_7 : decode cX6_place 7 = .ok (.imul, 1) := dq_104 (dst 7 rd_prog_8_method_2_code_0 rfl)
theorem dX6_place_8 : decode cX6_place 8 = .ok (.iload_n 1, 1) := dq_27 (dst 8 rd_prog_8_method_2_code_0 rfl)
theorem dX6_place_9 : decode cX6_place 9 = .ok (.iadd, 1) := dq_96 (dst 9 rd_prog_8_method_2_code_0 rfl)
theorem dX6_place_10 : decode cX6_place 10 = .ok (.ireturn, 1) := dq_172 (dst 10 rd_prog_8_method_2_code_0 rfl)
theorem lf_X6_leastFrom_1 : ∀ w ∈ ([Cond.fieldLink RX6 13 "StillInAugust$Plan" "cost" "[J", Cond.methodLink RX6 27 yX3_kind, Cond.static yX3_kind, Cond.initialized RX3, Cond.code yX3_kind cX3_kind 4 (some .int), Cond.fieldLink RX3 15 "StillInAugust$Hands" "BEGINNINGS" "[I", Cond.methodLink RX6 31 yX6_place, Cond.static yX6_place, Cond.initialized RX6, Cond.code yX6_place cX6_place 3 (some .int)] : List Cond), w ∈ wsX6_leastFrom := fun _ h => (List.mem_cons_of_mem _ (List.mem_append_left _ h))
theorem lf_X6_leastFrom_2 : ∀ w ∈ wsX60, w ∈ wsX6_leastFrom := fun _ h => (List.mem_cons_of_mem _ (List.mem_append_right _ h))
set_option maxRecDepth 20000 in
theorem ggX6_leastFrom_X3_kind : GoodIn wsX6_leastFrom wsX3_kind := (gd_cons (lf_X6_leastFrom_1 _ (List.mem_of_getElem? (i := 4) rfl)) rfl (gd_cons (lf_X6_leastFrom_1 _ (List.mem_of_getElem? (i := 5) rfl)) rfl (gd_nil _)))
set_option maxRecDepth 20000 in
theorem gX6_leastFrom_X3_kind : GoodIn wsX6_leastFrom (va_wsS RX6 27 yX3_kind wsX3_kind) := goodIn_app (gd_cons (lf_X6_leastFrom_1 _ (List.mem_of_getElem? (i := 1) rfl)) rfl (gd_cons (lf_X6_leastFrom_1 _ (List.mem_of_getElem? (i := 2) rfl)) rfl (gd_cons (lf_X6_leastFrom_1 _ (List.mem_of_getElem? (i := 3) rfl)) rfl (gd_nil _)))) ggX6_leastFrom_X3_kind
set_option maxRecDepth 20000 in
theorem ggX6_leastFrom_X6_place : GoodIn wsX6_leastFrom wsX6_place := (gd_cons (lf_X6_leastFrom_1 _ (List.mem_of_getElem? (i := 9) rfl)) rfl (gd_nil _))
set_option maxRecDepth 20000 in
theorem gX6_leastFrom_X6_place : GoodIn wsX6_leastFrom (va_wsS RX6 31 yX6_place wsX6_place) := goodIn_app (gd_cons (lf_X6_leastFrom_1 _ (List.mem_of_getElem? (i := 6) rfl)) rfl (gd_cons (lf_X6_leastFrom_1 _ (List.mem_of_getElem? (i := 7) rfl)) rfl (gd_cons (lf_X6_leastFrom_1 _ (List.mem_of_getElem? (i := 8) rfl)) rfl (gd_nil _)))) ggX6_leastFrom_X6_place
theorem dX6_leastFrom_0 : decode cX6_leastFrom 0 = .ok (.aload_n 0, 1) := dq_42 (dst 0 rd_prog_8_method_3_code_0 rfl)
theorem dX6_leastFrom_1 : decode cX6_leastFrom 1 = .ok (.getfield 13, 3) := dq_180 (dst 1 rd_prog_8_method_3_code_0 rfl) rfl
theorem dX6_leastFrom_4 : decode cX6_leastFrom 4 = .ok (.iload_n 1, 1) := dq_27 (dst 4 rd_prog_8_method_3_code_0 rfl)
theorem dX6_leastFrom_5 : decode cX6_leastFrom 5 = .ok (.iload_n 2, 1) := dq_28 (dst 5 rd_prog_8_method_3_code_0 rfl)
theorem dX6_leastFrom_6 : decode cX6_leastFrom 6 = .ok (.invokestatic 27, 3) := dq_184 (dst 6 rd_prog_8_method_3_code_0 rfl) rfl
theorem dX6_leastFrom_9 : decode cX6_leastFrom 9 = .ok (.iload_n 3, 1) := dq_29 (dst 9 rd_prog_8_method_3_code_0 rfl)
theorem dX6_leastFrom_10 : decode cX6_leastFrom 10 = .ok (.invokestatic 31, 3) := dq_184 (dst 10 rd_prog_8_method_3_code_0 rfl) rfl
theorem dX6_leastFrom_13 : decode cX6_leastFrom 13 = .ok (.laload, 1) := dq_47 (dst 13 rd_prog_8_method_3_code_0 rfl)
theorem dX6_leastFrom_14 : decode cX6_leastFrom 14 = .ok (.lreturn, 1) := dq_173 (dst 14 rd_prog_8_method_3_code_0 rfl)
theorem lf_X6_firstAct_1 : ∀ w ∈ ([Cond.fieldLink RX6 17 "StillInAugust$Plan" "first" "[I", Cond.methodLink RX6 27 yX3_kind, Cond.static yX3_kind, Cond.initialized RX3, Cond.code yX3_kind cX3_kind 4 (some .int), Cond.fieldLink RX3 15 "StillInAugust$Hands" "BEGINNINGS" "[I", Cond.methodLink RX6 31 yX6_place, Cond.static yX6_place, Cond.initialized RX6, Cond.code yX6_place cX6_place 3 (some .int)] : List Cond), w ∈ wsX6_firstAct := fun _ h => (List.mem_cons_of_mem _ (List.mem_append_left _ h))
theorem lf_X6_firstAct_2 : ∀ w ∈ wsX60, w ∈ wsX6_firstAct := fun _ h => (List.mem_cons_of_mem _ (List.mem_append_right _ h))
set_option maxRecDepth 20000 in
theorem ggX6_firstAct_X3_kind : GoodIn wsX6_firstAct wsX3_kind := (gd_cons (lf_X6_firstAct_1 _ (List.mem_of_getElem? (i := 4) rfl)) rfl (gd_cons (lf_X6_firstAct_1 _ (List.mem_of_getElem? (i := 5) rfl)) rfl (gd_nil _)))
set_option maxRecDepth 20000 in
theorem gX6_firstAct_X3_kind : GoodIn wsX6_firstAct (va_wsS RX6 27 yX3_kind wsX3_kind) := goodIn_app (gd_cons (lf_X6_firstAct_1 _ (List.mem_of_getElem? (i := 1) rfl)) rfl (gd_cons (lf_X6_firstAct_1 _ (List.mem_of_getElem? (i := 2) rfl)) rfl (gd_cons (lf_X6_firstAct_1 _ (List.mem_of_getElem? (i := 3) rfl)) rfl (gd_nil _)))) ggX6_firstAct_X3_kind
set_option maxRecDepth 20000 in
theorem ggX6_firstAct_X6_place : GoodIn wsX6_firstAct wsX6_place := (gd_cons (lf_X6_firstAct_1 _ (List.mem_of_getElem? (i := 9) rfl)) rfl (gd_nil _))
set_option maxRecDepth 20000 in
theorem gX6_firstAct_X6_place : GoodIn wsX6_firstAct (va_wsS RX6 31 yX6_place wsX6_place) := goodIn_app (gd_cons (lf_X6_firstAct_1 _ (List.mem_of_getElem? (i := 6) rfl)) rfl (gd_cons (lf_X6_firstAct_1 _ (List.mem_of_getElem? (i := 7) rfl)) rfl (gd_cons (lf_X6_firstAct_1 _ (List.mem_of_getElem? (i := 8) rfl)) rfl (gd_nil _)))) ggX6_firstAct_X6_place
theorem dX6_firstAct_0 : decode cX6_firstAct 0 = .ok (.aload_n 0, 1) := dq_42 (dst 0 rd_prog_8_method_4_code_0 rfl)
theorem dX6_firstAct_1 : decode cX6_firstAct 1 = .ok (.getfield 17, 3) := dq_180 (dst 1 rd_prog_8_method_4_code_0 rfl) rfl
theorem dX6_firstAct_4 : decode cX6_firstAct 4 = .ok (.iload_n 1, 1) := dq_27 (dst 4 rd_prog_8_method_4_code_0 rfl)
theorem dX6_firstAct_5 : decode cX6_firstAct 5 = .ok (.iload_n 2, 1) := dq_28 (dst 5 rd_prog_8_method_4_code_0 rfl)
theorem dX6_firstAct_6 : decode cX6_firstAct 6 = .ok (.invokestatic 27, 3) := dq_184 (dst 6 rd_prog_8_method_4_code_0 rfl) rfl
theorem dX6_firstAct_9 : decode cX6_firstAct 9 = .ok (.iload_n 3, 1) := dq_29 (dst 9 rd_prog_8_method_4_code_0 rfl)
theorem dX6_firstAct_10 : decode cX6_firstAct 10 = .ok (.invokestatic 31, 3) := dq_184 (dst 10 rd_prog_8_method_4_code_0 rfl) rfl
theorem dX6_firstAct_13 : decode cX6_firstAct 13 = .ok (.iaload, 1) := dq_46 (dst 13 rd_prog_8_method_4_code_0 rfl)
theorem dX6_firstAct_14 : decode cX6_firstAct 14 = .ok (.ireturn, 1) := dq_172 (dst 14 rd_prog_8_method_4_code_0 rfl)
theorem dX6_scale_0 : decode cX6_scale 0 = .ok (.getstatic 35, 3) := dq_178 (dst 0 rd_prog_8_method_5_code_0 rfl) rfl
theorem dX6_scale_3 : decode cX6_scale 3 = .ok (.aload_n 0, 1) := dq_42 (dst 3 rd_prog_8_method_5_code_0 rfl)
theorem dX6_scale_4 : decode cX6_scale 4 = .ok (.getfield 38, 3) := dq_180 (dst 4 rd_prog_8_method_5_code_0 rfl) rfl
theorem dX6_scale_7 : decode cX6_scale 7 = .ok (.iload_n 1, 1) := dq_27 (dst 7 rd_prog_8_method_5_code_0 rfl)
theorem dX6_scale_8 : decode cX6_scale 8 = .ok (.isub, 1) := dq_100 (dst 8 rd_prog_8_method_5_code_0 rfl)
theorem dX6_scale_9 : decode cX6_scale 9 = .ok (.laload, 1) := dq_47 (dst 9 rd_prog_8_method_5_code_0 rfl)
theorem dX6_scale_10 : decode cX6_scale 10 = .ok (.lreturn, 1) := dq_173 (dst 10 rd_prog_8_method_5_code_0 rfl)
theorem lf_X6_solve_1 : ∀ w ∈ wsX6_solve_r1, w ∈ wsX6_solve := fun _ h => (List.mem_cons_of_mem _ (List.mem_append_left _ (List.mem_append_left _ (List.mem_append_left _ h))))
theorem lf_X6_solve_2 : ∀ w ∈ wsX6_solve_r2, w ∈ wsX6_solve := fun _ h => (List.mem_cons_of_mem _ (List.mem_append_left _ (List.mem_append_left _ (List.mem_append_right _ (List.mem_append_left _ h)))))
theorem lf_X6_solve_3 : ∀ w ∈ wsX6_solve_r3, w ∈ wsX6_solve := fun _ h => (List.mem_cons_of_mem _ (List.mem_append_left _ (List.mem_append_left _ (List.mem_append_right _ (List.mem_append_right _ (List.mem_append_left _ h))))))
theorem lf_X6_solve_4 : ∀ w ∈ wsX6_solve_r4, w ∈ wsX6_solve := fun _ h => (List.mem_cons_of_mem _ (List.mem_append_left _ (List.mem_append_left _ (List.mem_append_right _ (List.mem_append_right _ (List.mem_append_right _ (List.mem_append_left _ h)))))))
theorem lf_X6_solve_5 : ∀ w ∈ wsX6_solve_r5, w ∈ wsX6_solve := fun _ h => (List.mem_cons_of_mem _ (List.mem_append_left _ (List.mem_append_left _ (List.mem_append_right _ (List.mem_append_right _ (List.mem_append_right _ (List.mem_append_right _ (List.mem_append_left _ h))))))))
theorem lf_X6_solve_6 : ∀ w ∈ wsX6_solve_r6, w ∈ wsX6_solve := fun _ h => (List.mem_cons_of_mem _ (List.mem_append_left _ (List.mem_append_left _ (List.mem_append_right _ (List.mem_append_right _ (List.mem_append_right _ (List.mem_append_right _ (List.mem_append_right _ h))))))))
theorem lf_X6_solve_7 : ∀ w ∈ wsX40, w ∈ wsX6_solve := fun _ h => (List.mem_cons_of_mem _ (List.mem_append_left _ (List.mem_append_right _ h)))
theorem lf_X6_solve_8 : ∀ w ∈ wsX60, w ∈ wsX6_solve := fun _ h => (List.mem_cons_of_mem _ (List.mem_append_right _ h))
set_option maxRecDepth 20000 in
theorem ggX6_solve_X6_place : GoodIn wsX6_solve wsX6_place := (gd_cons (lf_X6_solve_1 _ (List.mem_of_getElem? (i := 7) rfl)) rfl (gd_nil _))
set_option maxRecDepth 20000 in
theorem gX6_solve_X6_place : GoodIn wsX6_solve (va_wsS RX6 31 yX6_place wsX6_place) := goodIn_app (gd_cons (lf_X6_solve_1 _ (List.mem_of_getElem? (i := 4) rfl)) rfl (gd_cons (lf_X6_solve_1 _ (List.mem_of_getElem? (i := 5) rfl)) rfl (gd_cons (lf_X6_solve_1 _ (List.mem_of_getElem? (i := 6) rfl)) rfl (gd_nil _)))) ggX6_solve_X6_place
set_option maxRecDepth 20000 in
theorem ggX6_solve_X4_bonusFor : GoodIn wsX6_solve wsX4_bonusFor := (gd_cons (lf_X6_solve_1 _ (List.mem_of_getElem? (i := 12) rfl)) rfl (goodIn_app (gd_cons (lf_X6_solve_1 _ (List.mem_of_getElem? (i := 13) rfl)) rfl (gd_cons (lf_X6_solve_1 _ (List.mem_of_getElem? (i := 14) rfl)) rfl (gd_cons (lf_X6_solve_1 _ (List.mem_of_getElem? (i := 15) rfl)) rfl (gd_cons (lf_X6_solve_1 _ (List.mem_of_getElem? (i := 16) rfl)) rfl (gd_cons (lf_X6_solve_1 _ (List.mem_of_getElem? (i := 17) rfl)) rfl (gd_nil _)))))) (goodIn_sub lf_X6_solve_7 ga_wsX40)))
set_option maxRecDepth 20000 in
theorem gX6_solve_X4_bonusFor : GoodIn wsX6_solve (wsV RX6 48 RX4 yX4_bonusFor wsX4_bonusFor) := goodIn_app (gd_cons (lf_X6_solve_1 _ (List.mem_of_getElem? (i := 8) rfl)) rfl (gd_cons (lf_X6_solve_1 _ (List.mem_of_getElem? (i := 9) rfl)) rfl (gd_cons (lf_X6_solve_1 _ (List.mem_of_getElem? (i := 10) rfl)) rfl (gd_cons (lf_X6_solve_1 _ (List.mem_of_getElem? (i := 11) rfl)) rfl (gd_nil _))))) ggX6_solve_X4_bonusFor
theorem ga_wsX60 : List.all wsX60 goodWord = true := by decide +kernel
set_option maxRecDepth 20000 in
theorem ggX6_solve_X6_chooseOrders : GoodIn wsX6_solve wsX6_chooseOrders := (gd_cons (lf_X6_solve_1 _ (List.mem_of_getElem? (i := 21) rfl)) rfl (goodIn_app (goodIn_app (goodIn_app (gd_cons (lf_X6_solve_1 _ (List.mem_of_getElem? (i := 3) rfl)) rfl (gd_cons (lf_X6_solve_1 _ (List.mem_of_getElem? (i := 22) rfl)) rfl (gd_cons (lf_X6_solve_1 _ (List.mem_of_getElem? (i := 23) rfl)) rfl (gd_cons (lf_X6_solve_2 _ (List.mem_of_getElem? (i := 0) rfl)) rfl (gd_cons (lf_X6_solve_2 _ (List.mem_of_getElem? (i := 1) rfl)) rfl (gd_cons (lf_X6_solve_2 _ (List.mem_of_getElem? (i := 2) rfl)) rfl (gd_cons (lf_X6_solve_2 _ (List.mem_of_getElem? (i := 3) rfl)) rfl (gd_cons (lf_X6_solve_1 _ (List.mem_of_getElem? (i := 11) rfl)) rfl (gd_cons (lf_X6_solve_2 _ (List.mem_of_getElem? (i := 4) rfl)) rfl (gd_cons (lf_X6_solve_2 _ (List.mem_of_getElem? (i := 5) rfl)) rfl (gd_cons (lf_X6_solve_2 _ (List.mem_of_getElem? (i := 6) rfl)) rfl (gd_cons (lf_X6_solve_2 _ (List.mem_of_getElem? (i := 7) rfl)) rfl (gd_cons (lf_X6_solve_2 _ (List.mem_of_getElem? (i := 8) rfl)) rfl (gd_cons (lf_X6_solve_2 _ (List.mem_of_getElem? (i := 9) rfl)) rfl (gd_cons (lf_X6_solve_2 _ (List.mem_of_getElem? (i := 10) rfl)) rfl (gd_cons (lf_X6_solve_2 _ (List.mem_of_getElem? (i := 11) rfl)) rfl (gd_cons (lf_X6_solve_1 _ (List.mem_of_getElem? (i := 15) rfl)) rfl (gd_cons (lf_X6_solve_1 _ (List.mem_of_getElem? (i := 16) rfl)) rfl (gd_cons (lf_X6_solve_1 _ (List.mem_of_getElem? (i := 17) rfl)) rfl (gd_cons (lf_X6_solve_2 _ (List.mem_of_getElem? (i := 12) rfl)) rfl (gd_cons (lf_X6_solve_2 _ (List.mem_of_getElem? (i := 13) rfl)) rfl (gd_cons (lf_X6_solve_2 _ (List.mem_of_getElem? (i := 14) rfl)) rfl (gd_cons (lf_X6_solve_1 _ (List.mem_of_getElem? (i := 6) rfl)) rfl (gd_cons (lf_X6_solve_2 _ (List.mem_of_getElem? (i := 15) rfl)) rfl (gd_nil _))))))))))))))))))))))))) (gd_cons (lf_X6_solve_1 _ (List.mem_of_getElem? (i := 2) rfl)) rfl (gd_cons (lf_X6_solve_2 _ (List.mem_of_getElem? (i := 16) rfl)) rfl (gd_cons (lf_X6_solve_2 _ (List.mem_of_getElem? (i := 17) rfl)) rfl (gd_cons (lf_X6_solve_2 _ (List.mem_of_getElem? (i := 18) rfl)) rfl (gd_cons (lf_X6_solve_2 _ (List.mem_of_getElem? (i := 19) rfl)) rfl (gd_cons (lf_X6_solve_2 _ (List.mem_of_getElem? (i := 20) rfl)) rfl (gd_cons (lf_X6_solve_1 _ (List.mem_of_getElem? (i := 4) rfl)) rfl (gd_cons (lf_X6_solve_1 _ (List.mem_of_getElem? (i := 5) rfl)) rfl (gd_cons (lf_X6_solve_1 _ (List.mem_of_getElem? (i := 7) rfl)) rfl (gd_nil _))))))))))) (goodIn_sub lf_X6_solve_7 ga_wsX40)) (goodIn_sub lf_X6_solve_8 ga_wsX60)))
set_option maxRecDepth 20000 in
theorem gX6_solve_X6_chooseOrders : GoodIn wsX6_solve (wsV RX6 51 RX6 yX6_chooseOrders wsX6_chooseOrders) := goodIn_app (gd_cons (lf_X6_solve_1 _ (List.mem_of_getElem? (i := 18) rfl)) rfl (gd_cons (lf_X6_solve_1 _ (List.mem_of_getElem? (i := 19) rfl)) rfl (gd_cons (lf_X6_solve_1 _ (List.mem_of_getElem? (i := 20) rfl)) rfl (gd_cons (lf_X6_solve_1 _ (List.mem_of_getElem? (i := 6) rfl)) rfl (gd_nil _))))) ggX6_solve_X6_chooseOrders
set_option maxRecDepth 20000 in
theorem ggX6_solve_X6_chooseActs : GoodIn wsX6_solve wsX6_chooseActs := (gd_cons (lf_X6_solve_3 _ (List.mem_of_getElem? (i := 0) rfl)) rfl (goodIn_app (goodIn_app (goodIn_app (gd_cons (lf_X6_solve_1 _ (List.mem_of_getElem? (i := 3) rfl)) rfl (gd_cons (lf_X6_solve_1 _ (List.mem_of_getElem? (i := 22) rfl)) rfl (gd_cons (lf_X6_solve_3 _ (List.mem_of_getElem? (i := 1) rfl)) rfl (gd_cons (lf_X6_solve_2 _ (List.mem_of_getElem? (i := 7) rfl)) rfl (gd_cons (lf_X6_solve_2 _ (List.mem_of_getElem? (i := 8) rfl)) rfl (gd_cons (lf_X6_solve_1 _ (List.mem_of_getElem? (i := 11) rfl)) rfl (gd_cons (lf_X6_solve_2 _ (List.mem_of_getElem? (i := 9) rfl)) rfl (gd_cons (lf_X6_solve_2 _ (List.mem_of_getElem? (i := 10) rfl)) rfl (gd_cons (lf_X6_solve_2 _ (List.mem_of_getElem? (i := 11) rfl)) rfl (gd_cons (lf_X6_solve_1 _ (List.mem_of_getElem? (i := 15) rfl)) rfl (gd_cons (lf_X6_solve_1 _ (List.mem_of_getElem? (i := 16) rfl)) rfl (gd_cons (lf_X6_solve_1 _ (List.mem_of_getElem? (i := 17) rfl)) rfl (gd_cons (lf_X6_solve_3 _ (List.mem_of_getElem? (i := 2) rfl)) rfl (gd_cons (lf_X6_solve_3 _ (List.mem_of_getElem? (i := 3) rfl)) rfl (gd_cons (lf_X6_solve_3 _ (List.mem_of_getElem? (i := 4) rfl)) rfl (gd_cons (lf_X6_solve_1 _ (List.mem_of_getElem? (i := 6) rfl)) rfl (gd_cons (lf_X6_solve_3 _ (List.mem_of_getElem? (i := 5) rfl)) rfl (gd_cons (lf_X6_solve_3 _ (List.mem_of_getElem? (i := 6) rfl)) rfl (gd_cons (lf_X6_solve_1 _ (List.mem_of_getElem? (i := 23) rfl)) rfl (gd_cons (lf_X6_solve_2 _ (List.mem_of_getElem? (i := 0) rfl)) rfl (gd_cons (lf_X6_solve_1 _ (List.mem_of_getElem? (i := 2) rfl)) rfl (gd_cons (lf_X6_solve_3 _ (List.mem_of_getElem? (i := 7) rfl)) rfl (gd_cons (lf_X6_solve_3 _ (List.mem_of_getElem? (i := 8) rfl)) rfl (gd_cons (lf_X6_solve_3 _ (List.mem_of_getElem? (i := 9) rfl)) rfl (gd_nil _))))))))))))))))))))))))) (goodIn_app (gd_cons (lf_X6_solve_3 _ (List.mem_of_getElem? (i := 10) rfl)) rfl (gd_cons (lf_X6_solve_3 _ (List.mem_of_getElem? (i := 11) rfl)) rfl (gd_cons (lf_X6_solve_3 _ (List.mem_of_getElem? (i := 12) rfl)) rfl (gd_cons (lf_X6_solve_1 _ (List.mem_of_getElem? (i := 1) rfl)) rfl (gd_cons (lf_X6_solve_3 _ (List.mem_of_getElem? (i := 13) rfl)) rfl (gd_cons (lf_X6_solve_3 _ (List.mem_of_getElem? (i := 14) rfl)) rfl (gd_cons (lf_X6_solve_3 _ (List.mem_of_getElem? (i := 15) rfl)) rfl (gd_cons (lf_X6_solve_3 _ (List.mem_of_getElem? (i := 16) rfl)) rfl (gd_cons (lf_X6_solve_3 _ (List.mem_of_getElem? (i := 17) rfl)) rfl (gd_cons (lf_X6_solve_1 _ (List.mem_of_getElem? (i := 14) rfl)) rfl (gd_cons (lf_X6_solve_3 _ (List.mem_of_getElem? (i := 18) rfl)) rfl (gd_cons (lf_X6_solve_3 _ (List.mem_of_getElem? (i := 19) rfl)) rfl (gd_cons (lf_X6_solve_3 _ (List.mem_of_getElem? (i := 20) rfl)) rfl (gd_cons (lf_X6_solve_3 _ (List.mem_of_getElem? (i := 21) rfl)) rfl (gd_cons (lf_X6_solve_3 _ (List.mem_of_getElem? (i := 22) rfl)) rfl (gd_cons (lf_X6_solve_3 _ (List.mem_of_getElem? (i := 23) rfl)) rfl (gd_cons (lf_X6_solve_4 _ (List.mem_of_getElem? (i := 0) rfl)) rfl (gd_cons (lf_X6_solve_4 _ (List.mem_of_getElem? (i := 1) rfl)) rfl (gd_cons (lf_X6_solve_4 _ (List.mem_of_getElem? (i := 2) rfl)) rfl (gd_cons (lf_X6_solve_4 _ (List.mem_of_getElem? (i := 3) rfl)) rfl (gd_cons (lf_X6_solve_4 _ (List.mem_of_getElem? (i := 4) rfl)) rfl (gd_cons (lf_X6_solve_4 _ (List.mem_of_getElem? (i := 5) rfl)) rfl (gd_cons (lf_X6_solve_4 _ (List.mem_of_getElem? (i := 6) rfl)) rfl (gd_cons (lf_X6_solve_4 _ (List.mem_of_getElem? (i := 7) rfl)) rfl (gd_nil _))))))))))))))))))))))))) (goodIn_app (gd_cons (lf_X6_solve_4 _ (List.mem_of_getElem? (i := 8) rfl)) rfl (gd_cons (lf_X6_solve_4 _ (List.mem_of_getElem? (i := 9) rfl)) rfl (gd_cons (lf_X6_solve_4 _ (List.mem_of_getElem? (i := 10) rfl)) rfl (gd_cons (lf_X6_solve_4 _ (List.mem_of_getElem? (i := 11) rfl)) rfl (gd_cons (lf_X6_solve_4 _ (List.mem_of_getElem? (i := 12) rfl)) rfl (gd_cons (lf_X6_solve_4 _ (List.mem_of_getElem? (i := 13) rfl)) rfl (gd_cons (lf_X6_solve_4 _ (List.mem_of_getElem? (i := 14) rfl)) rfl (gd_cons (lf_X6_solve_4 _ (List.mem_of_getElem? (i := 15) rfl)) rfl (gd_cons (lf_X6_solve_4 _ (List.mem_of_getElem? (i := 16) rfl)) rfl (gd_cons (lf_X6_solve_4 _ (List.mem_of_getElem? (i := 17) rfl)) rfl (gd_cons (lf_X6_solve_4 _ (List.mem_of_getElem? (i := 18) rfl)) rfl (gd_cons (lf_X6_solve_4 _ (List.mem_of_getElem? (i := 19) rfl)) rfl (gd_cons (lf_X6_solve_4 _ (List.mem_of_getElem? (i := 20) rfl)) rfl (gd_cons (lf_X6_solve_4 _ (List.mem_of_getElem? (i := 21) rfl)) rfl (gd_cons (lf_X6_solve_4 _ (List.mem_of_getElem? (i := 22) rfl)) rfl (gd_cons (lf_X6_solve_4 _ (List.mem_of_getElem? (i := 23) rfl)) rfl (gd_cons (lf_X6_solve_5 _ (List.mem_of_getElem? (i := 0) rfl)) rfl (gd_cons (lf_X6_solve_5 _ (List.mem_of_getElem? (i := 1) rfl)) rfl (gd_cons (lf_X6_solve_5 _ (List.mem_of_getElem? (i := 2) rfl)) rfl (gd_cons (lf_X6_solve_5 _ (List.mem_of_getElem? (i := 3) rfl)) rfl (gd_cons (lf_X6_solve_5 _ (List.mem_of_getElem? (i := 4) rfl)) rfl (gd_cons (lf_X6_solve_5 _ (List.mem_of_getElem? (i := 5) rfl)) rfl (gd_cons (lf_X6_solve_5 _ (List.mem_of_getElem? (i := 6) rfl)) rfl (gd_cons (lf_X6_solve_5 _ (List.mem_of_getElem? (i := 7) rfl)) rfl (gd_nil _))))))))))))))))))))))))) (gd_cons (lf_X6_solve_5 _ (List.mem_of_getElem? (i := 8) rfl)) rfl (gd_cons (lf_X6_solve_5 _ (List.mem_of_getElem? (i := 9) rfl)) rfl (gd_cons (lf_X6_solve_5 _ (List.mem_of_getElem? (i := 10) rfl)) rfl (gd_cons (lf_X6_solve_5 _ (List.mem_of_getElem? (i := 11) rfl)) rfl (gd_cons (lf_X6_solve_5 _ (List.mem_of_getElem? (i := 12) rfl)) rfl (gd_cons (lf_X6_solve_5 _ (List.mem_of_getElem? (i := 13) rfl)) rfl (gd_cons (lf_X6_solve_5 _ (List.mem_of_getElem? (i := 14) rfl)) rfl (gd_cons (lf_X6_solve_5 _ (List.mem_of_getElem? (i := 15) rfl)) rfl (gd_cons (lf_X6_solve_5 _ (List.mem_of_getElem? (i := 16) rfl)) rfl (gd_cons (lf_X6_solve_5 _ (List.mem_of_getElem? (i := 17) rfl)) rfl (gd_cons (lf_X6_solve_5 _ (List.mem_of_getElem? (i := 18) rfl)) rfl (gd_cons (lf_X6_solve_5 _ (List.mem_of_getElem? (i := 19) rfl)) rfl (gd_cons (lf_X6_solve_5 _ (List.mem_of_getElem? (i := 20) rfl)) rfl (gd_cons (lf_X6_solve_5 _ (List.mem_of_getElem? (i := 21) rfl)) rfl (gd_cons (lf_X6_solve_5 _ (List.mem_of_getElem? (i := 22) rfl)) rfl (gd_cons (lf_X6_solve_5 _ (List.mem_of_getElem? (i := 23) rfl)) rfl (gd_cons (lf_X6_solve_6 _ (List.mem_of_getElem? (i := 0) rfl)) rfl (gd_cons (lf_X6_solve_6 _ (List.mem_of_getElem? (i := 1) rfl)) rfl (gd_cons (lf_X6_solve_6 _ (List.mem_of_getElem? (i := 2) rfl)) rfl (gd_cons (lf_X6_solve_1 _ (List.mem_of_getElem? (i := 4) rfl)) rfl (gd_cons (lf_X6_solve_1 _ (List.mem_of_getElem? (i := 5) rfl)) rfl (gd_cons (lf_X6_solve_1 _ (List.mem_of_getElem? (i := 7) rfl)) rfl (gd_nil _)))))))))))))))))))))))))) (goodIn_sub lf_X6_solve_7 ga_wsX40)) (goodIn_sub lf_X6_solve_8 ga_wsX60)))
set_option maxRecDepth 20000 in
theorem gX6_solve_X6_chooseActs : GoodIn wsX6_solve (wsV RX6 55 RX6 yX6_chooseActs wsX6_chooseActs) := goodIn_app (gd_cons (lf_X6_solve_2 _ (List.mem_of_getElem? (i := 21) rfl)) rfl (gd_cons (lf_X6_solve_2 _ (List.mem_of_getElem? (i := 22) rfl)) rfl (gd_cons (lf_X6_solve_2 _ (List.mem_of_getElem? (i := 23) rfl)) rfl (gd_cons (lf_X6_solve_1 _ (List.mem_of_getElem? (i := 6) rfl)) rfl (gd_nil _))))) ggX6_solve_X6_chooseActs
theorem dX6_solve_0 : decode cX6_solve 0 = .ok (.aload_n 0, 1) := dq_42 (dst 0 rd_prog_8_method_6_code_0 rfl)
theorem dX6_solve_1 : decode cX6_solve 1 = .ok (.aload_n 1, 1) := dq_43 (dst 1 rd_prog_8_method_6_code_0 rfl)
theorem dX6_solve_2 : decode cX6_solve 2 = .ok (.getfield 42, 3) := dq_180 (dst 2 rd_prog_8_method_6_code_0 rfl) rfl
theorem dX6_solve_5 : decode cX6_solve 5 = .ok (.putfield 38, 3) := dq_181 (dst 5 rd_prog_8_method_6_code_0 rfl) rfl
theorem dX6_solve_8 : decode cX6_solve 8 = .ok (.iconst 0, 1) := dq_3 (dst 8 rd_prog_8_method_6_code_0 rfl)
theorem dX6_solve_9 : decode cX6_solve 9 = .ok (.istore_n 2, 1) := dq_61 (dst 9 rd_prog_8_method_6_code_0 rfl)
theorem dX6_solve_10 : decode cX6_solve 10 = .ok (.iload_n 2, 1) := dq_28 (dst 10 rd_prog_8_method_6_code_0 rfl)
theorem dX6_solve_11 : decode cX6_solve 11 = .ok (.bipush 35, 2) := dq_16 (dst 11 rd_prog_8_method_6_code_0 rfl) (by decide +kernel)
theorem dX6_solve_13 : decode cX6_solve 13 = .ok (.if_icmp .ge 33, 3) := dq_162 (dst 13 rd_prog_8_method_6_code_0 rfl) (by decide +kernel)
theorem dX6_solve_16 : decode cX6_solve 16 = .ok (.aload_n 0, 1) := dq_42 (dst 16 rd_prog_8_method_6_code_0 rfl)
theorem dX6_solve_17 : decode cX6_solve 17 = .ok (.getfield 13, 3) := dq_180 (dst 17 rd_prog_8_method_6_code_0 rfl) rfl
theorem dX6_solve_20 : decode cX6_solve 20 = .ok (.aload_n 0, 1) := dq_42 (dst 20 rd_prog_8_method_6_code_0 rfl)
theorem dX6_solve_21 : decode cX6_solve 21 = .ok (.getfield 38, 3) := dq_180 (dst 21 rd_prog_8_method_6_code_0 rfl) rfl
theorem dX6_solve_24 : decode cX6_solve 24 = .ok (.iload_n 2, 1) := dq_28 (dst 24 rd_prog_8_method_6_code_0 rfl)
theorem dX6_solve_25 : decode cX6_solve 25 = .ok (.iconst 0, 1) := dq_3 (dst 25 rd_prog_8_method_6_code_0 rfl)
theorem dX6_solve_26 : decode cX6_solve 26 = .ok (.invokestatic 31, 3) := dq_184 (dst 26 rd_prog_8_method_6_code_0 rfl) rfl
theorem dX6_solve_29 : decode cX6_solve 29 = .ok (.aload_n 1, 1) := dq_43 (dst 29 rd_prog_8_method_6_code_0 rfl)
theorem dX6_solve_30 : decode cX6_solve 30 = .ok (.getstatic 45, 3) := dq_178 (dst 30 rd_prog_8_method_6_code_0 rfl) rfl
theorem dX6_solve_33 : decode cX6_solve 33 = .ok (.iload_n 2, 1) := dq_28 (dst 1 rd_prog_8_method_6_code_1 rfl)
theorem dX6_solve_34 : decode cX6_solve 34 = .ok (.iaload, 1) := dq_46 (dst 2 rd_prog_8_method_6_code_1 rfl)
theorem dX6_solve_35 : decode cX6_solve 35 = .ok (.invokevirtual 48, 3) := dq_182 (dst 3 rd_prog_8_method_6_code_1 rfl) rfl
theorem dX6_solve_38 : decode cX6_solve 38 = .ok (.i2l, 1) := dq_133 (dst 6 rd_prog_8_method_6_code_1 rfl)
theorem dX6_solve_39 : decode cX6_solve 39 = .ok (.lastore, 1) := dq_80 (dst 7 rd_prog_8_method_6_code_1 rfl)
theorem dX6_solve_40 : decode cX6_solve 40 = .ok (.iinc 2 1, 3) := dq_132 (dst 8 rd_prog_8_method_6_code_1 rfl) rfl (by decide +kernel)
theorem dX6_solve_43 : decode cX6_solve 43 = .ok (.goto (-33), 3) := dq_167 (dst 11 rd_prog_8_method_6_code_1 rfl) (by decide +kernel)
theorem dX6_solve_46 : decode cX6_solve 46 = .ok (.aload_n 0, 1) := dq_42 (dst 14 rd_prog_8_method_6_code_1 rfl)
theorem dX6_solve_47 : decode cX6_solve 47 = .ok (.getfield 38, 3) := dq_180 (dst 15 rd_prog_8_method_6_code_1 rfl) rfl
theorem dX6_solve_50 : decode cX6_solve 50 = .ok (.iconst 1, 1) := dq_4 (dst 18 rd_prog_8_method_6_code_1 rfl)
theorem dX6_solve_51 : decode cX6_solve 51 = .ok (.isub, 1) := dq_100 (dst 19 rd_prog_8_method_6_code_1 rfl)
theorem dX6_solve_52 : decode cX6_solve 52 = .ok (.istore_n 2, 1) := dq_61 (dst 20 rd_prog_8_method_6_code_1 rfl)
theorem dX6_solve_53 : decode cX6_solve 53 = .ok (.iload_n 2, 1) := dq_28 (dst 21 rd_prog_8_method_6_code_1 rfl)
theorem dX6_solve_54 : decode cX6_solve 54 = .ok (.ifCond .lt 21, 3) := dq_155 (dst 22 rd_prog_8_method_6_code_1 rfl) (by decide +kernel)
theorem dX6_solve_57 : decode cX6_solve 57 = .ok (.aload_n 0, 1) := dq_42 (dst 25 rd_prog_8_method_6_code_1 rfl)
theorem dX6_solve_58 : decode cX6_solve 58 = .ok (.aload_n 1, 1) := dq_43 (dst 26 rd_prog_8_method_6_code_1 rfl)
theorem dX6_solve_59 : decode cX6_solve 59 = .ok (.iload_n 2, 1) := dq_28 (dst 27 rd_prog_8_method_6_code_1 rfl)
theorem dX6_solve_60 : decode cX6_solve 60 = .ok (.invokevirtual 51, 3) := dq_182 (dst 28 rd_prog_8_method_6_code_1 rfl) rfl
theorem dX6_solve_63 : decode cX6_solve 63 = .ok (.aload_n 0, 1) := dq_42 (dst 31 rd_prog_8_method_6_code_1 rfl)
theorem dX6_solve_64 : decode cX6_solve 64 = .ok (.aload_n 1, 1) := dq_43 (dst 0 rd_prog_8_method_6_code_2 rfl)
theorem dX6_solve_65 : decode cX6_solve 65 = .ok (.iload_n 2, 1) := dq_28 (dst 1 rd_prog_8_method_6_code_2 rfl)
theorem dX6_solve_66 : decode cX6_solve 66 = .ok (.invokevirtual 55, 3) := dq_182 (dst 2 rd_prog_8_method_6_code_2 rfl) rfl
theorem dX6_solve_69 : decode cX6_solve 69 = .ok (.iinc 2 (-1), 3) := dq_132 (dst 5 rd_prog_8_method_6_code_2 rfl) rfl (by decide +kernel)
theorem dX6_solve_72 : decode cX6_solve 72 = .ok (.goto (-19), 3) := dq_167 (dst 8 rd_prog_8_method_6_code_2 rfl) (by decide +kernel)
theorem dX6_solve_75 : decode cX6_solve 75 = .ok (.return_, 1) := dq_177 (dst 11 rd_prog_8_method_6_code_2 rfl)
theorem lf_X6_chooseOrders_1 : ∀ w ∈ wsX6_chooseOrders_r1, w ∈ wsX6_chooseOrders := fun _ h => (List.mem_cons_of_mem _ (List.mem_append_left _ (List.mem_append_left _ (List.mem_append_left _ h))))
theorem lf_X6_chooseOrders_2 : ∀ w ∈ wsX6_chooseOrders_r2, w ∈ wsX6_chooseOrders := fun _ h => (List.mem_cons_of_mem _ (List.mem_append_left _ (List.mem_append_left _ (List.mem_append_right _ h))))
theorem lf_X6_chooseOrders_3 : ∀ w ∈ wsX40, w ∈ wsX6_chooseOrders := fun _ h => (List.mem_cons_of_mem _ (List.mem_append_left _ (List.mem_append_right _ h)))
theorem lf_X6_chooseOrders_4 : ∀ w ∈ wsX60, w ∈ wsX6_chooseOrders := fun _ h => (List.mem_cons_of_mem _ (List.mem_append_right _ h))
set_option maxRecDepth 20000 in
theorem ggX6_chooseOrders_X4_mostOrdered : GoodIn wsX6_chooseOrders wsX4_mostOrdered := (gd_cons (lf_X6_chooseOrders_1 _ (List.mem_of_getElem? (i := 8) rfl)) rfl (goodIn_app (gd_cons (lf_X6_chooseOrders_1 _ (List.mem_of_getElem? (i := 9) rfl)) rfl (gd_cons (lf_X6_chooseOrders_1 _ (List.mem_of_getElem? (i := 10) rfl)) rfl (gd_cons (lf_X6_chooseOrders_1 _ (List.mem_of_getElem? (i := 11) rfl)) rfl (gd_cons (lf_X6_chooseOrders_1 _ (List.mem_of_getElem? (i := 12) rfl)) rfl (gd_cons (lf_X6_chooseOrders_1 _ (List.mem_of_getElem? (i := 7) rfl)) rfl (gd_cons (lf_X6_chooseOrders_1 _ (List.mem_of_getElem? (i := 13) rfl)) rfl (gd_cons (lf_X6_chooseOrders_1 _ (List.mem_of_getElem? (i := 14) rfl)) rfl (gd_nil _)))))))) (goodIn_sub lf_X6_chooseOrders_3 ga_wsX40)))
set_option maxRecDepth 20000 in
theorem gX6_chooseOrders_X4_mostOrdered : GoodIn wsX6_chooseOrders (wsV RX6 58 RX4 yX4_mostOrdered wsX4_mostOrdered) := goodIn_app (gd_cons (lf_X6_chooseOrders_1 _ (List.mem_of_getElem? (i := 4) rfl)) rfl (gd_cons (lf_X6_chooseOrders_1 _ (List.mem_of_getElem? (i := 5) rfl)) rfl (gd_cons (lf_X6_chooseOrders_1 _ (List.mem_of_getElem? (i := 6) rfl)) rfl (gd_cons (lf_X6_chooseOrders_1 _ (List.mem_of_getElem? (i := 7) rfl)) rfl (gd_nil _))))) ggX6_chooseOrders_X4_mostOrdered
set_option maxRecDepth 20000 in
theorem ggX6_chooseOrders_X3_total : GoodIn wsX6_chooseOrders wsX3_total := (gd_cons (lf_X6_chooseOrders_1 _ (List.mem_of_getElem? (i := 18) rfl)) rfl (gd_nil _))
set_option maxRecDepth 20000 in
theorem gX6_chooseOrders_X3_total : GoodIn wsX6_chooseOrders (va_wsS RX6 61 yX3_total wsX3_total) := goodIn_app (gd_cons (lf_X6_chooseOrders_1 _ (List.mem_of_getElem? (i := 15) rfl)) rfl (gd_cons (lf_X6_chooseOrders_1 _ (List.mem_of_getElem? (i := 16) rfl)) rfl (gd_cons (lf_X6_chooseOrders_1 _ (List.mem_of_getElem? (i := 17) rfl)) rfl (gd_nil _)))) ggX6_chooseOrders_X3_total
set_option maxRecDepth 20000 in
theorem ggX6_chooseOrders_X6_meanBehind : GoodIn wsX6_chooseOrders wsX6_meanBehind := (gd_cons (lf_X6_chooseOrders_1 _ (List.mem_of_getElem? (i := 23) rfl)) rfl (goodIn_app (goodIn_app (gd_cons (lf_X6_chooseOrders_2 _ (List.mem_of_getElem? (i := 0) rfl)) rfl (gd_cons (lf_X6_chooseOrders_2 _ (List.mem_of_getElem? (i := 1) rfl)) rfl (gd_cons (lf_X6_chooseOrders_2 _ (List.mem_of_getElem? (i := 2) rfl)) rfl (gd_cons (lf_X6_chooseOrders_2 _ (List.mem_of_getElem? (i := 3) rfl)) rfl (gd_cons (lf_X6_chooseOrders_1 _ (List.mem_of_getElem? (i := 7) rfl)) rfl (gd_cons (lf_X6_chooseOrders_2 _ (List.mem_of_getElem? (i := 4) rfl)) rfl (gd_cons (lf_X6_chooseOrders_2 _ (List.mem_of_getElem? (i := 5) rfl)) rfl (gd_cons (lf_X6_chooseOrders_2 _ (List.mem_of_getElem? (i := 6) rfl)) rfl (gd_cons (lf_X6_chooseOrders_2 _ (List.mem_of_getElem? (i := 7) rfl)) rfl (gd_cons (lf_X6_chooseOrders_1 _ (List.mem_of_getElem? (i := 22) rfl)) rfl (gd_cons (lf_X6_chooseOrders_2 _ (List.mem_of_getElem? (i := 8) rfl)) rfl (gd_nil _)))))))))))) (goodIn_sub lf_X6_chooseOrders_4 ga_wsX60)) (goodIn_sub lf_X6_chooseOrders_3 ga_wsX40)))
set_option maxRecDepth 20000 in
theorem gX6_chooseOrders_X6_meanBehind : GoodIn wsX6_chooseOrders (wsV RX6 67 RX6 yX6_meanBehind wsX6_meanBehind) := goodIn_app (gd_cons (lf_X6_chooseOrders_1 _ (List.mem_of_getElem? (i := 19) rfl)) rfl (gd_cons (lf_X6_chooseOrders_1 _ (List.mem_of_getElem? (i := 20) rfl)) rfl (gd_cons (lf_X6_chooseOrders_1 _ (List.mem_of_getElem? (i := 21) rfl)) rfl (gd_cons (lf_X6_chooseOrders_1 _ (List.mem_of_getElem? (i := 22) rfl)) rfl (gd_nil _))))) ggX6_chooseOrders_X6_meanBehind
theorem dX6_chooseOrders_0 : decode cX6_chooseOrders 0 = .ok (.aload_n 1, 1) := dq_43 (dst 0 rd_prog_8_method_7_code_0 rfl)
theorem dX6_chooseOrders_1 : decode cX6_chooseOrders 1 = .ok (.iload_n 2, 1) := dq_28 (dst 1 rd_prog_8_method_7_code_0 rfl)
theorem dX6_chooseOrders_2 : decode cX6_chooseOrders 2 = .ok (.invokevirtual 58, 3) := dq_182 (dst 2 rd_prog_8_method_7_code_0 rfl) rfl
theorem dX6_chooseOrders_5 : decode cX6_chooseOrders 5 = .ok (.istore_n 3, 1) := dq_62 (dst 5 rd_prog_8_method_7_code_0 rfl)
theorem dX6_chooseOrders_6 : decode cX6_chooseOrders 6 = .ok (.iconst 0, 1) := dq_3 (dst 6 rd_prog_8_method_7_code_0 rfl)
theorem dX6_chooseOrders_7 : decode cX6_chooseOrders 7 = .ok (.istore 4, 2) := dq_54 (dst 7 rd_prog_8_method_7_code_0 rfl) rfl
theorem dX6_chooseOrders_9 : decode cX6_chooseOrders 9 = .ok (.iload 4, 2) := dq_21 (dst 9 rd_prog_8_method_7_code_0 rfl) rfl
theorem dX6_chooseOrders_11 : decode cX6_chooseOrders 11 = .ok (.bipush 35, 2) := dq_16 (dst 11 rd_prog_8_method_7_code_0 rfl) (by decide +kernel)
theorem dX6_chooseOrders_13 : decode cX6_chooseOrders 13 = .ok (.if_icmp .ge 93, 3) := dq_162 (dst 13 rd_prog_8_method_7_code_0 rfl) (by decide +kernel)
theorem dX6_chooseOrders_16 : decode cX6_chooseOrders 16 = .ok (.getstatic 45, 3) := dq_178 (dst 16 rd_prog_8_method_7_code_0 rfl) rfl
theorem dX6_chooseOrders_19 : decode cX6_chooseOrders 19 = .ok (.iload 4, 2) := dq_21 (dst 19 rd_prog_8_method_7_code_0 rfl) rfl
theorem dX6_chooseOrders_21 : decode cX6_chooseOrders 21 = .ok (.iaload, 1) := dq_46 (dst 21 rd_prog_8_method_7_code_0 rfl)
theorem dX6_chooseOrders_22 : decode cX6_chooseOrders 22 = .ok (.invokestatic 61, 3) := dq_184 (dst 22 rd_prog_8_method_7_code_0 rfl) rfl
theorem dX6_chooseOrders_25 : decode cX6_chooseOrders 25 = .ok (.aload_n 1, 1) := dq_43 (dst 25 rd_prog_8_method_7_code_0 rfl)
theorem dX6_chooseOrders_26 : decode cX6_chooseOrders 26 = .ok (.getfield 64, 3) := dq_180 (dst 26 rd_prog_8_method_7_code_0 rfl) rfl
theorem dX6_chooseOrders_29 : decode cX6_chooseOrders 29 = .ok (.if_icmp .le 6, 3) := dq_164 (dst 29 rd_prog_8_method_7_code_0 rfl) (by decide +kernel)
theorem dX6_chooseOrders_32 : decode cX6_chooseOrders 32 = .ok (.goto 68, 3) := dq_167 (dst 0 rd_prog_8_method_7_code_1 rfl) (by decide +kernel)
theorem dX6_chooseOrders_35 : decode cX6_chooseOrders 35 = .ok (.iconst 0, 1) := dq_3 (dst 3 rd_prog_8_method_7_code_1 rfl)
theorem dX6_chooseOrders_36 : decode cX6_chooseOrders 36 = .ok (.istore 5, 2) := dq_54 (dst 4 rd_prog_8_method_7_code_1 rfl) rfl
theorem dX6_chooseOrders_38 : decode cX6_chooseOrders 38 = .ok (.iload 5, 2) := dq_21 (dst 6 rd_prog_8_method_7_code_1 rfl) rfl
theorem dX6_chooseOrders_40 : decode cX6_chooseOrders 40 = .ok (.iload_n 3, 1) := dq_29 (dst 8 rd_prog_8_method_7_code_1 rfl)
theorem dX6_chooseOrders_41 : decode cX6_chooseOrders 41 = .ok (.if_icmp .gt 59, 3) := dq_163 (dst 9 rd_prog_8_method_7_code_1 rfl) (by decide +kernel)
theorem dX6_chooseOrders_44 : decode cX6_chooseOrders 44 = .ok (.aload_n 0, 1) := dq_42 (dst 12 rd_prog_8_method_7_code_1 rfl)
theorem dX6_chooseOrders_45 : decode cX6_chooseOrders 45 = .ok (.aload_n 1, 1) := dq_43 (dst 13 rd_prog_8_method_7_code_1 rfl)
theorem dX6_chooseOrders_46 : decode cX6_chooseOrders 46 = .ok (.iload 4, 2) := dq_21 (dst 14 rd_prog_8_method_7_code_1 rfl) rfl
theorem dX6_chooseOrders_48 : decode cX6_chooseOrders 48 = .ok (.iload_n 2, 1) := dq_28 (dst 16 rd_prog_8_method_7_code_1 rfl)
theorem dX6_chooseOrders_49 : decode cX6_chooseOrders 49 = .ok (.iconst 1, 1) := dq_4 (dst 17 rd_prog_8_method_7_code_1 rfl)
theorem dX6_chooseOrders_50 : decode cX6_chooseOrders 50 = .ok (.iadd, 1) := dq_96 (dst 18 rd_prog_8_method_7_code_1 rfl)
theorem dX6_chooseOrders_51 : decode cX6_chooseOrders 51 = .ok (.iload 5, 2) := dq_21 (dst 19 rd_prog_8_method_7_code_1 rfl) rfl
theorem dX6_chooseOrders_53 : decode cX6_chooseOrders 53 = .ok (.invokevirtual 67, 3) := dq_182 (dst 21 rd_prog_8_method_7_code_1 rfl) rfl
theorem dX6_chooseOrders_56 : decode cX6_chooseOrders 56 = .ok (.lstore 6, 2) := dq_55 (dst 24 rd_prog_8_method_7_code_1 rfl) rfl
theorem dX6_chooseOrders_58 : decode cX6_chooseOrders 58 = .ok (.iload 5, 2) := dq_21 (dst 26 rd_prog_8_method_7_code_1 rfl) rfl
theorem dX6_chooseOrders_60 : decode cX6_chooseOrders 60 = .ok (.ifCond .eq 16, 3) := dq_153 (dst 28 rd_prog_8_method_7_code_1 rfl) (by decide +kernel)
theorem dX6_chooseOrders_63 : decode cX6_chooseOrders 63 = .ok (.lload 6, 2) := dq_22 (dst 31 rd_prog_8_method_7_code_1 rfl) rfl
theorem dX6_chooseOrders_65 : decode cX6_chooseOrders 65 = .ok (.aload_n 0, 1) := dq_42 (dst 1 rd_prog_8_method_7_code_2 rfl)
theorem dX6_chooseOrders_66 : decode cX6_chooseOrders 66 = .ok (.getfield 21, 3) := dq_180 (dst 2 rd_prog_8_method_7_code_2 rfl) rfl
theorem dX6_chooseOrders_69 : decode cX6_chooseOrders 69 = .ok (.iload 4, 2) := dq_21 (dst 5 rd_prog_8_method_7_code_2 rfl) rfl
theorem dX6_chooseOrders_71 : decode cX6_chooseOrders 71 = .ok (.laload, 1) := dq_47 (dst 7 rd_prog_8_method_7_code_2 rfl)
theorem dX6_chooseOrders_72 : decode cX6_chooseOrders 72 = .ok (.lcmp, 1) := dq_148 (dst 8 rd_prog_8_method_7_code_2 rfl)
theorem dX6_chooseOrders_73 : decode cX6_chooseOrders 73 = .ok (.ifCond .ge 21, 3) := dq_156 (dst 9 rd_prog_8_method_7_code_2 rfl) (by decide +kernel)
theorem dX6_chooseOrders_76 : decode cX6_chooseOrders 76 = .ok (.aload_n 0, 1) := dq_42 (dst 12 rd_prog_8_method_7_code_2 rfl)
theorem dX6_chooseOrders_77 : decode cX6_chooseOrders 77 = .ok (.getfield 21, 3) := dq_180 (dst 13 rd_prog_8_method_7_code_2 rfl) rfl
theorem dX6_chooseOrders_80 : decode cX6_chooseOrders 80 = .ok (.iload 4, 2) := dq_21 (dst 16 rd_prog_8_method_7_code_2 rfl) rfl
theorem dX6_chooseOrders_82 : decode cX6_chooseOrders 82 = .ok (.lload 6, 2) := dq_22 (dst 18 rd_prog_8_method_7_code_2 rfl) rfl
theorem dX6_chooseOrders_84 : decode cX6_chooseOrders 84 = .ok (.lastore, 1) := dq_80 (dst 20 rd_prog_8_method_7_code_2 rfl)
theorem dX6_chooseOrders_85 : decode cX6_chooseOrders 85 = .ok (.aload_n 0, 1) := dq_42 (dst 21 rd_prog_8_method_7_code_2 rfl)
theorem dX6_chooseOrders_86 : decode cX6_chooseOrders 86 = .ok (.getfield 24, 3) := dq_180 (dst 22 rd_prog_8_method_7_code_2 rfl) rfl
theorem dX6_chooseOrders_89 : decode cX6_chooseOrders 89 = .ok (.iload 4, 2) := dq_21 (dst 25 rd_prog_8_method_7_code_2 rfl) rfl
theorem dX6_chooseOrders_91 : decode cX6_chooseOrders 91 = .ok (.iload 5, 2) := dq_21 (dst 27 rd_prog_8_method_7_code_2 rfl) rfl
theorem dX6_chooseOrders_93 : decode cX6_chooseOrders 93 = .ok (.iastore, 1) := dq_79 (dst 29 rd_prog_8_method_7_code_2 rfl)
theorem dX6_chooseOrders_94 : decode cX6_chooseOrders 94 = .ok (.iinc 5 1, 3) := dq_132 (dst 30 rd_prog_8_method_7_code_2 rfl) rfl (by decide +kernel)
theorem dX6_chooseOrders_97 : decode cX6_chooseOrders 97 = .ok (.goto (-59), 3) := dq_167 (dst 1 rd_prog_8_method_7_code_3 rfl) (by decide +kernel)
theorem dX6_chooseOrders_100 : decode cX6_chooseOrders 100 = .ok (.iinc 4 1, 3) := dq_132 (dst 4 rd_prog_8_method_7_code_3 rfl) rfl (by decide +kernel)
theorem dX6_chooseOrders_103 : decode cX6_chooseOrders 103 = .ok (.goto (-94), 3) := dq_167 (dst 7 rd_prog_8_method_7_code_3 rfl) (by decide +kernel)
theorem dX6_chooseOrders_106 : decode cX6_chooseOrders 106 = .ok (.return_, 1) := dq_177 (dst 10 rd_prog_8_method_7_code_3 rfl)
theorem lf_X6_meanBehind_1 : ∀ w ∈ ([Cond.fieldLink RX6 13 "StillInAugust$Plan" "cost" "[J", Cond.methodLink RX6 71 yX4_partsTo, Cond.instanceMethod yX4_partsTo, Cond.selects RX4 yX4_partsTo yX4_partsTo, Cond.initialized RX4, Cond.code yX4_partsTo cX4_partsTo 3 (some .int), Cond.fieldLink RX4 26 "StillInAugust$House" "sundays" "[I", Cond.methodLink RX6 31 yX6_place, Cond.static yX6_place, Cond.initialized RX6, Cond.code yX6_place cX6_place 3 (some .int)] : List Cond), w ∈ wsX6_meanBehind := fun _ h => (List.mem_cons_of_mem _ (List.mem_append_left _ (List.mem_append_left _ h)))
theorem lf_X6_meanBehind_2 : ∀ w ∈ wsX60, w ∈ wsX6_meanBehind := fun _ h => (List.mem_cons_of_mem _ (List.mem_append_left _ (List.mem_append_right _ h)))
theorem lf_X6_meanBehind_3 : ∀ w ∈ wsX40, w ∈ wsX6_meanBehind := fun _ h => (List.mem_cons_of_mem _ (List.mem_append_right _ h))
set_option maxRecDepth 20000 in
theorem ggX6_meanBehind_X4_partsTo : GoodIn wsX6_meanBehind wsX4_partsTo := (gd_cons (lf_X6_meanBehind_1 _ (List.mem_of_getElem? (i := 5) rfl)) rfl (goodIn_app (gd_cons (lf_X6_meanBehind_1 _ (List.mem_of_getElem? (i := 6) rfl)) rfl (gd_nil _)) (goodIn_sub lf_X6_meanBehind_3 ga_wsX40)))
set_option maxRecDepth 20000 in
theorem gX6_meanBehind_X4_partsTo : GoodIn wsX6_meanBehind (wsV RX6 71 RX4 yX4_partsTo wsX4_partsTo) := goodIn_app (gd_cons (lf_X6_meanBehind_1 _ (List.mem_of_getElem? (i := 1) rfl)) rfl (gd_cons (lf_X6_meanBehind_1 _ (List.mem_of_getElem? (i := 2) rfl)) rfl (gd_cons (lf_X6_meanBehind_1 _ (List.mem_of_getElem? (i := 3) rfl)) rfl (gd_cons (lf_X6_meanBehind_1 _ (List.mem_of_getElem? (i := 4) rfl)) rfl (gd_nil _))))) ggX6_meanBehind_X4_partsTo
set_option maxRecDepth 20000 in
theorem ggX6_meanBehind_X6_place : GoodIn wsX6_meanBehind wsX6_place := (gd_cons (lf_X6_meanBehind_1 _ (List.mem_of_getElem? (i := 10) rfl)) rfl (gd_nil _))
set_option maxRecDepth 20000 in
theorem gX6_meanBehind_X6_place : GoodIn wsX6_meanBehind (va_wsS RX6 31 yX6_place wsX6_place) := goodIn_app (gd_cons (lf_X6_meanBehind_1 _ (List.mem_of_getElem? (i := 7) rfl)) rfl (gd_cons (lf_X6_meanBehind_1 _ (List.mem_of_getElem? (i := 8) rfl)) rfl (gd_cons (lf_X6_meanBehind_1 _ (List.mem_of_getElem? (i := 9) rfl)) rfl (gd_nil _)))) ggX6_meanBehind_X6_place
theorem dX6_meanBehind_0 : decode cX6_meanBehind 0 = .ok (.lconst 0, 1) := dq_9 (dst 0 rd_prog_8_method_8_code_0 rfl)
theorem dX6_meanBehind_1 : decode cX6_meanBehind 1 = .ok (.lstore 5, 2) := dq_55 (dst 1 rd_prog_8_method_8_code_0 rfl) rfl
theorem dX6_meanBehind_3 : decode cX6_meanBehind 3 = .ok (.iconst 0, 1) := dq_3 (dst 3 rd_prog_8_method_8_code_0 rfl)
theorem dX6_meanBehind_4 : decode cX6_meanBehind 4 = .ok (.istore 7, 2) := dq_54 (dst 4 rd_prog_8_method_8_code_0 rfl) rfl
theorem dX6_meanBehind_6 : decode cX6_meanBehind 6 = .ok (.iload 7, 2) := dq_21 (dst 6 rd_prog_8_method_8_code_0 rfl) rfl
theorem dX6_meanBehind_8 : decode cX6_meanBehind 8 = .ok (.bipush 15, 2) := dq_16 (dst 8 rd_prog_8_method_8_code_0 rfl) (by decide +kernel)
theorem dX6_meanBehind_10 : decode cX6_meanBehind 10 = .ok (.if_icmp .ge 36, 3) := dq_162 (dst 10 rd_prog_8_method_8_code_0 rfl) (by decide +kernel)
theorem dX6_meanBehind_13 : decode cX6_meanBehind 13 = .ok (.lload 5, 2) := dq_22 (dst 13 rd_prog_8_method_8_code_0 rfl) rfl
theorem dX6_meanBehind_15 : decode cX6_meanBehind 15 = .ok (.aload_n 1, 1) := dq_43 (dst 15 rd_prog_8_method_8_code_0 rfl)
theorem dX6_meanBehind_16 : decode cX6_meanBehind 16 = .ok (.iload_n 2, 1) := dq_28 (dst 16 rd_prog_8_method_8_code_0 rfl)
theorem dX6_meanBehind_17 : decode cX6_meanBehind 17 = .ok (.iload 7, 2) := dq_21 (dst 17 rd_prog_8_method_8_code_0 rfl) rfl
theorem dX6_meanBehind_19 : decode cX6_meanBehind 19 = .ok (.invokevirtual 71, 3) := dq_182 (dst 19 rd_prog_8_method_8_code_0 rfl) rfl
theorem dX6_meanBehind_22 : decode cX6_meanBehind 22 = .ok (.i2l, 1) := dq_133 (dst 22 rd_prog_8_method_8_code_0 rfl)
theorem dX6_meanBehind_23 : decode cX6_meanBehind 23 = .ok (.aload_n 0, 1) := dq_42 (dst 23 rd_prog_8_method_8_code_0 rfl)
theorem dX6_meanBehind_24 : decode cX6_meanBehind 24 = .ok (.getfield 13, 3) := dq_180 (dst 24 rd_prog_8_method_8_code_0 rfl) rfl
theorem dX6_meanBehind_27 : decode cX6_meanBehind 27 = .ok (.iload_n 3, 1) := dq_29 (dst 27 rd_prog_8_method_8_code_0 rfl)
theorem dX6_meanBehind_28 : decode cX6_meanBehind 28 = .ok (.iload 7, 2) := dq_21 (dst 28 rd_prog_8_method_8_code_0 rfl) rfl
theorem dX6_meanBehind_30 : decode cX6_meanBehind 30 = .ok (.iload 4, 2) := dq_21 (dst 30 rd_prog_8_method_8_code_0 rfl) rfl
theorem dX6_meanBehind_32 : decode cX6_meanBehind 32 = .ok (.invokestatic 31, 3) := dq_184 (dst 0 rd_prog_8_method_8_code_1 rfl) rfl
theorem dX6_meanBehind_35 : decode cX6_meanBehind 35 = .ok (.laload, 1) := dq_47 (dst 3 rd_prog_8_method_8_code_1 rfl)
theorem dX6_meanBehind_36 : decode cX6_meanBehind 36 = .ok (.lmul, 1) := dq_105 (dst 4 rd_prog_8_method_8_code_1 rfl)
theorem dX6_meanBehind_37 : decode cX6_meanBehind 37 = .ok (.ladd, 1) := dq_97 (dst 5 rd_prog_8_method_8_code_1 rfl)
theorem dX6_meanBehind_38 : decode cX6_meanBehind 38 = .ok (.lstore 5, 2) := dq_55 (dst 6 rd_prog_8_method_8_code_1 rfl) rfl
theorem dX6_meanBehind_40 : decode cX6_meanBehind 40 = .ok (.iinc 7 1, 3) := dq_132 (dst 8 rd_prog_8_method_8_code_1 rfl) rfl (by decide +kernel)
theorem dX6_meanBehind_43 : decode cX6_meanBehind 43 = .ok (.goto (-37), 3) := dq_167 (dst 11 rd_prog_8_method_8_code_1 rfl) (by decide +kernel)
theorem dX6_meanBehind_46 : decode cX6_meanBehind 46 = .ok (.lload 5, 2) := dq_22 (dst 14 rd_prog_8_method_8_code_1 rfl) rfl
theorem dX6_meanBehind_48 : decode cX6_meanBehind 48 = .ok (.lreturn, 1) := dq_173 (dst 16 rd_prog_8_method_8_code_1 rfl)
theorem lf_X6_chooseActs_1 : ∀ w ∈ wsX6_chooseActs_r1, w ∈ wsX6_chooseActs := fun _ h => (List.mem_cons_of_mem _ (List.mem_append_left _ (List.mem_append_left _ (List.mem_append_left _ h))))
theorem lf_X6_chooseActs_2 : ∀ w ∈ wsX6_chooseActs_r2, w ∈ wsX6_chooseActs := fun _ h => (List.mem_cons_of_mem _ (List.mem_append_left _ (List.mem_append_left _ (List.mem_append_right _ (List.mem_append_left _ h)))))
theorem lf_X6_chooseActs_3 : ∀ w ∈ wsX6_chooseActs_r3, w ∈ wsX6_chooseActs := fun _ h => (List.mem_cons_of_mem _ (List.mem_append_left _ (List.mem_append_left _ (List.mem_append_right _ (List.mem_append_right _ (List.mem_append_left _ h))))))
theorem lf_X6_chooseActs_4 : ∀ w ∈ wsX6_chooseActs_r4, w ∈ wsX6_chooseActs := fun _ h => (List.mem_cons_of_mem _ (List.mem_append_left _ (List.mem_append_left _ (List.mem_append_right _ (List.mem_append_right _ (List.mem_append_right _ h))))))
theorem lf_X6_chooseActs_5 : ∀ w ∈ wsX40, w ∈ wsX6_chooseActs := fun _ h => (List.mem_cons_of_mem _ (List.mem_append_left _ (List.mem_append_right _ h)))
theorem lf_X6_chooseActs_6 : ∀ w ∈ wsX60, w ∈ wsX6_chooseActs := fun _ h => (List.mem_cons_of_mem _ (List.mem_append_right _ h))
set_option maxRecDepth 20000 in
theorem ggX6_chooseActs_X4_mostComing : GoodIn wsX6_chooseActs wsX4_mostComing := (gd_cons (lf_X6_chooseActs_1 _ (List.mem_of_getElem? (i := 6) rfl)) rfl (goodIn_app (gd_cons (lf_X6_chooseActs_1 _ (List.mem_of_getElem? (i := 7) rfl)) rfl (gd_nil _)) (goodIn_sub lf_X6_chooseActs_5 ga_wsX40)))
set_option maxRecDepth 20000 in
theorem gX6_chooseActs_X4_mostComing : GoodIn wsX6_chooseActs (wsV RX6 75 RX4 yX4_mostComing wsX4_mostComing) := goodIn_app (gd_cons (lf_X6_chooseActs_1 _ (List.mem_of_getElem? (i := 2) rfl)) rfl (gd_cons (lf_X6_chooseActs_1 _ (List.mem_of_getElem? (i := 3) rfl)) rfl (gd_cons (lf_X6_chooseActs_1 _ (List.mem_of_getElem? (i := 4) rfl)) rfl (gd_cons (lf_X6_chooseActs_1 _ (List.mem_of_getElem? (i := 5) rfl)) rfl (gd_nil _))))) ggX6_chooseActs_X4_mostComing
set_option maxRecDepth 20000 in
theorem ggX6_chooseActs_X3_total : GoodIn wsX6_chooseActs wsX3_total := (gd_cons (lf_X6_chooseActs_1 _ (List.mem_of_getElem? (i := 11) rfl)) rfl (gd_nil _))
set_option maxRecDepth 20000 in
theorem gX6_chooseActs_X3_total : GoodIn wsX6_chooseActs (va_wsS RX6 61 yX3_total wsX3_total) := goodIn_app (gd_cons (lf_X6_chooseActs_1 _ (List.mem_of_getElem? (i := 8) rfl)) rfl (gd_cons (lf_X6_chooseActs_1 _ (List.mem_of_getElem? (i := 9) rfl)) rfl (gd_cons (lf_X6_chooseActs_1 _ (List.mem_of_getElem? (i := 10) rfl)) rfl (gd_nil _)))) ggX6_chooseActs_X3_total
set_option maxRecDepth 20000 in
theorem ggX6_chooseActs_X6_chooseAct : GoodIn wsX6_chooseActs wsX6_chooseAct := (gd_cons (lf_X6_chooseActs_1 _ (List.mem_of_getElem? (i := 16) rfl)) rfl (goodIn_app (goodIn_app (goodIn_app (gd_cons (lf_X6_chooseActs_1 _ (List.mem_of_getElem? (i := 17) rfl)) rfl (gd_cons (lf_X6_chooseActs_1 _ (List.mem_of_getElem? (i := 18) rfl)) rfl (gd_cons (lf_X6_chooseActs_1 _ (List.mem_of_getElem? (i := 19) rfl)) rfl (gd_cons (lf_X6_chooseActs_1 _ (List.mem_of_getElem? (i := 20) rfl)) rfl (gd_cons (lf_X6_chooseActs_1 _ (List.mem_of_getElem? (i := 21) rfl)) rfl (gd_cons (lf_X6_chooseActs_1 _ (List.mem_of_getElem? (i := 22) rfl)) rfl (gd_cons (lf_X6_chooseActs_1 _ (List.mem_of_getElem? (i := 23) rfl)) rfl (gd_cons (lf_X6_chooseActs_2 _ (List.mem_of_getElem? (i := 0) rfl)) rfl (gd_cons (lf_X6_chooseActs_1 _ (List.mem_of_getElem? (i := 15) rfl)) rfl (gd_cons (lf_X6_chooseActs_2 _ (List.mem_of_getElem? (i := 1) rfl)) rfl (gd_cons (lf_X6_chooseActs_2 _ (List.mem_of_getElem? (i := 2) rfl)) rfl (gd_cons (lf_X6_chooseActs_2 _ (List.mem_of_getElem? (i := 3) rfl)) rfl (gd_cons (lf_X6_chooseActs_2 _ (List.mem_of_getElem? (i := 4) rfl)) rfl (gd_cons (lf_X6_chooseActs_2 _ (List.mem_of_getElem? (i := 5) rfl)) rfl (gd_cons (lf_X6_chooseActs_2 _ (List.mem_of_getElem? (i := 6) rfl)) rfl (gd_cons (lf_X6_chooseActs_1 _ (List.mem_of_getElem? (i := 5) rfl)) rfl (gd_cons (lf_X6_chooseActs_2 _ (List.mem_of_getElem? (i := 7) rfl)) rfl (gd_cons (lf_X6_chooseActs_2 _ (List.mem_of_getElem? (i := 8) rfl)) rfl (gd_cons (lf_X6_chooseActs_2 _ (List.mem_of_getElem? (i := 9) rfl)) rfl (gd_cons (lf_X6_chooseActs_1 _ (List.mem_of_getElem? (i := 9) rfl)) rfl (gd_cons (lf_X6_chooseActs_1 _ (List.mem_of_getElem? (i := 10) rfl)) rfl (gd_cons (lf_X6_chooseActs_1 _ (List.mem_of_getElem? (i := 11) rfl)) rfl (gd_cons (lf_X6_chooseActs_2 _ (List.mem_of_getElem? (i := 10) rfl)) rfl (gd_cons (lf_X6_chooseActs_2 _ (List.mem_of_getElem? (i := 11) rfl)) rfl (gd_nil _))))))))))))))))))))))))) (goodIn_app (gd_cons (lf_X6_chooseActs_2 _ (List.mem_of_getElem? (i := 12) rfl)) rfl (gd_cons (lf_X6_chooseActs_2 _ (List.mem_of_getElem? (i := 13) rfl)) rfl (gd_cons (lf_X6_chooseActs_2 _ (List.mem_of_getElem? (i := 14) rfl)) rfl (gd_cons (lf_X6_chooseActs_2 _ (List.mem_of_getElem? (i := 15) rfl)) rfl (gd_cons (lf_X6_chooseActs_2 _ (List.mem_of_getElem? (i := 16) rfl)) rfl (gd_cons (lf_X6_chooseActs_2 _ (List.mem_of_getElem? (i := 17) rfl)) rfl (gd_cons (lf_X6_chooseActs_2 _ (List.mem_of_getElem? (i := 18) rfl)) rfl (gd_cons (lf_X6_chooseActs_2 _ (List.mem_of_getElem? (i := 19) rfl)) rfl (gd_cons (lf_X6_chooseActs_2 _ (List.mem_of_getElem? (i := 20) rfl)) rfl (gd_cons (lf_X6_chooseActs_2 _ (List.mem_of_getElem? (i := 21) rfl)) rfl (gd_cons (lf_X6_chooseActs_2 _ (List.mem_of_getElem? (i := 22) rfl)) rfl (gd_cons (lf_X6_chooseActs_2 _ (List.mem_of_getElem? (i := 23) rfl)) rfl (gd_cons (lf_X6_chooseActs_3 _ (List.mem_of_getElem? (i := 0) rfl)) rfl (gd_cons (lf_X6_chooseActs_3 _ (List.mem_of_getElem? (i := 1) rfl)) rfl (gd_cons (lf_X6_chooseActs_3 _ (List.mem_of_getElem? (i := 2) rfl)) rfl (gd_cons (lf_X6_chooseActs_3 _ (List.mem_of_getElem? (i := 3) rfl)) rfl (gd_cons (lf_X6_chooseActs_3 _ (List.mem_of_getElem? (i := 4) rfl)) rfl (gd_cons (lf_X6_chooseActs_3 _ (List.mem_of_getElem? (i := 5) rfl)) rfl (gd_cons (lf_X6_chooseActs_3 _ (List.mem_of_getElem? (i := 6) rfl)) rfl (gd_cons (lf_X6_chooseActs_3 _ (List.mem_of_getElem? (i := 7) rfl)) rfl (gd_cons (lf_X6_chooseActs_3 _ (List.mem_of_getElem? (i := 8) rfl)) rfl (gd_cons (lf_X6_chooseActs_3 _ (List.mem_of_getElem? (i := 9) rfl)) rfl (gd_cons (lf_X6_chooseActs_3 _ (List.mem_of_getElem? (i := 10) rfl)) rfl (gd_cons (lf_X6_chooseActs_3 _ (List.mem_of_getElem? (i := 11) rfl)) rfl (gd_nil _))))))))))))))))))))))))) (goodIn_app (gd_cons (lf_X6_chooseActs_3 _ (List.mem_of_getElem? (i := 12) rfl)) rfl (gd_cons (lf_X6_chooseActs_3 _ (List.mem_of_getElem? (i := 13) rfl)) rfl (gd_cons (lf_X6_chooseActs_3 _ (List.mem_of_getElem? (i := 14) rfl)) rfl (gd_cons (lf_X6_chooseActs_3 _ (List.mem_of_getElem? (i := 15) rfl)) rfl (gd_cons (lf_X6_chooseActs_3 _ (List.mem_of_getElem? (i := 16) rfl)) rfl (gd_cons (lf_X6_chooseActs_3 _ (List.mem_of_getElem? (i := 17) rfl)) rfl (gd_cons (lf_X6_chooseActs_3 _ (List.mem_of_getElem? (i := 18) rfl)) rfl (gd_cons (lf_X6_chooseActs_3 _ (List.mem_of_getElem? (i := 19) rfl)) rfl (gd_cons (lf_X6_chooseActs_3 _ (List.mem_of_getElem? (i := 20) rfl)) rfl (gd_cons (lf_X6_chooseActs_3 _ (List.mem_of_getElem? (i := 21) rfl)) rfl (gd_cons (lf_X6_chooseActs_3 _ (List.mem_of_getElem? (i := 22) rfl)) rfl (gd_cons (lf_X6_chooseActs_3 _ (List.mem_of_getElem? (i := 23) rfl)) rfl (gd_cons (lf_X6_chooseActs_4 _ (List.mem_of_getElem? (i := 0) rfl)) rfl (gd_cons (lf_X6_chooseActs_4 _ (List.mem_of_getElem? (i := 1) rfl)) rfl (gd_cons (lf_X6_chooseActs_4 _ (List.mem_of_getElem? (i := 2) rfl)) rfl (gd_cons (lf_X6_chooseActs_4 _ (List.mem_of_getElem? (i := 3) rfl)) rfl (gd_cons (lf_X6_chooseActs_4 _ (List.mem_of_getElem? (i := 4) rfl)) rfl (gd_cons (lf_X6_chooseActs_4 _ (List.mem_of_getElem? (i := 5) rfl)) rfl (gd_cons (lf_X6_chooseActs_4 _ (List.mem_of_getElem? (i := 6) rfl)) rfl (gd_cons (lf_X6_chooseActs_4 _ (List.mem_of_getElem? (i := 7) rfl)) rfl (gd_cons (lf_X6_chooseActs_4 _ (List.mem_of_getElem? (i := 8) rfl)) rfl (gd_cons (lf_X6_chooseActs_4 _ (List.mem_of_getElem? (i := 9) rfl)) rfl (gd_cons (lf_X6_chooseActs_4 _ (List.mem_of_getElem? (i := 10) rfl)) rfl (gd_cons (lf_X6_chooseActs_1 _ (List.mem_of_getElem? (i := 7) rfl)) rfl (gd_nil _))))))))))))))))))))))))) (gd_cons (lf_X6_chooseActs_4 _ (List.mem_of_getElem? (i := 11) rfl)) rfl (gd_cons (lf_X6_chooseActs_4 _ (List.mem_of_getElem? (i := 12) rfl)) rfl (gd_cons (lf_X6_chooseActs_4 _ (List.mem_of_getElem? (i := 13) rfl)) rfl (gd_cons (lf_X6_chooseActs_4 _ (List.mem_of_getElem? (i := 14) rfl)) rfl (gd_cons (lf_X6_chooseActs_4 _ (List.mem_of_getElem? (i := 15) rfl)) rfl (gd_cons (lf_X6_chooseActs_4 _ (List.mem_of_getElem? (i := 16) rfl)) rfl (gd_cons (lf_X6_chooseActs_4 _ (List.mem_of_getElem? (i := 17) rfl)) rfl (gd_cons (lf_X6_chooseActs_4 _ (List.mem_of_getElem? (i := 18) rfl)) rfl (gd_cons (lf_X6_chooseActs_4 _ (List.mem_of_getElem? (i := 19) rfl)) rfl (gd_cons (lf_X6_chooseActs_4 _ (List.mem_of_getElem? (i := 20) rfl)) rfl (gd_cons (lf_X6_chooseActs_4 _ (List.mem_of_getElem? (i := 21) rfl)) rfl (gd_nil _))))))))))))))) (goodIn_sub lf_X6_chooseActs_6 ga_wsX60)) (goodIn_sub lf_X6_chooseActs_5 ga_wsX40)))
set_option maxRecDepth 20000 in
theorem gX6_chooseActs_X6_chooseAct : GoodIn wsX6_chooseActs (wsV RX6 79 RX6 yX6_chooseAct wsX6_chooseAct) := goodIn_app (gd_cons (lf_X6_chooseActs_1 _ (List.mem_of_getElem? (i := 12) rfl)) rfl (gd_cons (lf_X6_chooseActs_1 _ (List.mem_of_getElem? (i := 13) rfl)) rfl (gd_cons (lf_X6_chooseActs_1 _ (List.mem_of_getElem? (i := 14) rfl)) rfl (gd_cons (lf_X6_chooseActs_1 _ (List.mem_of_getElem? (i := 15) rfl)) rfl (gd_nil _))))) ggX6_chooseActs_X6_chooseAct
theorem dX6_chooseActs_0 : decode cX6_chooseActs 0 = .ok (.aload_n 1, 1) := dq_43 (dst 0 rd_prog_8_method_9_code_0 rfl)
theorem dX6_chooseActs_1 : decode cX6_chooseActs 1 = .ok (.invokevirtual 75, 3) := dq_182 (dst 1 rd_prog_8_method_9_code_0 rfl) rfl
theorem dX6_chooseActs_4 : decode cX6_chooseActs 4 = .ok (.istore_n 3, 1) := dq_62 (dst 4 rd_prog_8_method_9_code_0 rfl)
theorem dX6_chooseActs_5 : decode cX6_chooseActs 5 = .ok (.getstatic 45, 3) := dq_178 (dst 5 rd_prog_8_method_9_code_0 rfl) rfl
theorem dX6_chooseActs_8 : decode cX6_chooseActs 8 = .ok (.astore 4, 2) := dq_58 (dst 8 rd_prog_8_method_9_code_0 rfl) rfl
theorem dX6_chooseActs_10 : decode cX6_chooseActs 10 = .ok (.aload 4, 2) := dq_25 (dst 10 rd_prog_8_method_9_code_0 rfl) rfl
theorem dX6_chooseActs_12 : decode cX6_chooseActs 12 = .ok (.arraylength, 1) := dq_190 (dst 12 rd_prog_8_method_9_code_0 rfl)
theorem dX6_chooseActs_13 : decode cX6_chooseActs 13 = .ok (.istore 5, 2) := dq_54 (dst 13 rd_prog_8_method_9_code_0 rfl) rfl
theorem dX6_chooseActs_15 : decode cX6_chooseActs 15 = .ok (.iconst 0, 1) := dq_3 (dst 15 rd_prog_8_method_9_code_0 rfl)
theorem dX6_chooseActs_16 : decode cX6_chooseActs 16 = .ok (.istore 6, 2) := dq_54 (dst 16 rd_prog_8_method_9_code_0 rfl) rfl
theorem dX6_chooseActs_18 : decode cX6_chooseActs 18 = .ok (.iload 6, 2) := dq_21 (dst 18 rd_prog_8_method_9_code_0 rfl) rfl
theorem dX6_chooseActs_20 : decode cX6_chooseActs 20 = .ok (.iload 5, 2) := dq_21 (dst 20 rd_prog_8_method_9_code_0 rfl) rfl
theorem dX6_chooseActs_22 : decode cX6_chooseActs 22 = .ok (.if_icmp .ge 56, 3) := dq_162 (dst 22 rd_prog_8_method_9_code_0 rfl) (by decide +kernel)
theorem dX6_chooseActs_25 : decode cX6_chooseActs 25 = .ok (.aload 4, 2) := dq_25 (dst 25 rd_prog_8_method_9_code_0 rfl) rfl
theorem dX6_chooseActs_27 : decode cX6_chooseActs 27 = .ok (.iload 6, 2) := dq_21 (dst 27 rd_prog_8_method_9_code_0 rfl) rfl
theorem dX6_chooseActs_29 : decode cX6_chooseActs 29 = .ok (.iaload, 1) := dq_46 (dst 29 rd_prog_8_method_9_code_0 rfl)
theorem dX6_chooseActs_30 : decode cX6_chooseActs 30 = .ok (.istore 7, 2) := dq_54 (dst 30 rd_prog_8_method_9_code_0 rfl) rfl
theorem dX6_chooseActs_32 : decode cX6_chooseActs 32 = .ok (.iload 7, 2) := dq_21 (dst 0 rd_prog_8_method_9_code_1 rfl) rfl
theorem dX6_chooseActs_34 : decode cX6_chooseActs 34 = .ok (.invokestatic 61, 3) := dq_184 (dst 2 rd_prog_8_method_9_code_1 rfl) rfl
theorem dX6_chooseActs_37 : decode cX6_chooseActs 37 = .ok (.aload_n 1, 1) := dq_43 (dst 5 rd_prog_8_method_9_code_1 rfl)
theorem dX6_chooseActs_38 : decode cX6_chooseActs 38 = .ok (.getfield 64, 3) := dq_180 (dst 6 rd_prog_8_method_9_code_1 rfl) rfl
theorem dX6_chooseActs_41 : decode cX6_chooseActs 41 = .ok (.if_icmp .le 6, 3) := dq_164 (dst 9 rd_prog_8_method_9_code_1 rfl) (by decide +kernel)
theorem dX6_chooseActs_44 : decode cX6_chooseActs 44 = .ok (.goto 28, 3) := dq_167 (dst 12 rd_prog_8_method_9_code_1 rfl) (by decide +kernel)
theorem dX6_chooseActs_47 : decode cX6_chooseActs 47 = .ok (.iconst 0, 1) := dq_3 (dst 15 rd_prog_8_method_9_code_1 rfl)
theorem dX6_chooseActs_48 : decode cX6_chooseActs 48 = .ok (.istore 8, 2) := dq_54 (dst 16 rd_prog_8_method_9_code_1 rfl) rfl
theorem dX6_chooseActs_50 : decode cX6_chooseActs 50 = .ok (.iload 8, 2) := dq_21 (dst 18 rd_prog_8_method_9_code_1 rfl) rfl
theorem dX6_chooseActs_52 : decode cX6_chooseActs 52 = .ok (.iload_n 3, 1) := dq_29 (dst 20 rd_prog_8_method_9_code_1 rfl)
theorem dX6_chooseActs_53 : decode cX6_chooseActs 53 = .ok (.if_icmp .gt 19, 3) := dq_163 (dst 21 rd_prog_8_method_9_code_1 rfl) (by decide +kernel)
theorem dX6_chooseActs_56 : decode cX6_chooseActs 56 = .ok (.aload_n 0, 1) := dq_42 (dst 24 rd_prog_8_method_9_code_1 rfl)
theorem dX6_chooseActs_57 : decode cX6_chooseActs 57 = .ok (.aload_n 1, 1) := dq_43 (dst 25 rd_prog_8_method_9_code_1 rfl)
theorem dX6_chooseActs_58 : decode cX6_chooseActs 58 = .ok (.iload_n 2, 1) := dq_28 (dst 26 rd_prog_8_method_9_code_1 rfl)
theorem dX6_chooseActs_59 : decode cX6_chooseActs 59 = .ok (.iload 7, 2) := dq_21 (dst 27 rd_prog_8_method_9_code_1 rfl) rfl
theorem dX6_chooseActs_61 : decode cX6_chooseActs 61 = .ok (.iload 8, 2) := dq_21 (dst 29 rd_prog_8_method_9_code_1 rfl) rfl
theorem dX6_chooseActs_63 : decode cX6_chooseActs 63 = .ok (.invokevirtual 79, 3) := dq_182 (dst 31 rd_prog_8_method_9_code_1 rfl) rfl
theorem dX6_chooseActs_66 : decode cX6_chooseActs 66 = .ok (.iinc 8 1, 3) := dq_132 (dst 2 rd_prog_8_method_9_code_2 rfl) rfl (by decide +kernel)
theorem dX6_chooseActs_69 : decode cX6_chooseActs 69 = .ok (.goto (-19), 3) := dq_167 (dst 5 rd_prog_8_method_9_code_2 rfl) (by decide +kernel)
theorem dX6_chooseActs_72 : decode cX6_chooseActs 72 = .ok (.iinc 6 1, 3) := dq_132 (dst 8 rd_prog_8_method_9_code_2 rfl) rfl (by decide +kernel)
theorem dX6_chooseActs_75 : decode cX6_chooseActs 75 = .ok (.goto (-57), 3) := dq_167 (dst 11 rd_prog_8_method_9_code_2 rfl) (by decide +kernel)
theorem dX6_chooseActs_78 : decode cX6_chooseActs 78 = .ok (.return_, 1) := dq_177 (dst 14 rd_prog_8_method_9_code_2 rfl)
theorem lf_X6_chooseAct_1 : ∀ w ∈ wsX6_chooseAct_r1, w ∈ wsX6_chooseAct := fun _ h => (List.mem_cons_of_mem _ (List.mem_append_left _ (List.mem_append_left _ (List.mem_append_left _ h))))
theorem lf_X6_chooseAct_2 : ∀ w ∈ wsX6_chooseAct_r2, w ∈ wsX6_chooseAct := fun _ h => (List.mem_cons_of_mem _ (List.mem_append_left _ (List.mem_append_left _ (List.mem_append_right _ (List.mem_append_left _ h)))))
theorem lf_X6_chooseAct_3 : ∀ w ∈ wsX6_chooseAct_r3, w ∈ wsX6_chooseAct := fun _ h => (List.mem_cons_of_mem _ (List.mem_append_left _ (List.mem_append_left _ (List.mem_append_right _ (List.mem_append_right _ (List.mem_append_left _ h))))))
theorem lf_X6_chooseAct_4 : ∀ w ∈ wsX6_chooseAct_r4, w ∈ wsX6_chooseAct := fun _ h => (List.mem_cons_of_mem _ (List.mem_append_left _ (List.mem_append_left _ (List.mem_append_right _ (List.mem_append_right _ (List.mem_append_right _ h))))))
theorem lf_X6_chooseAct_5 : ∀ w ∈ wsX60, w ∈ wsX6_chooseAct := fun _ h => (List.mem_cons_of_mem _ (List.mem_append_left _ (List.mem_append_right _ h)))
theorem lf_X6_chooseAct_6 : ∀ w ∈ wsX40, w ∈ wsX6_chooseAct := fun _ h => (List.mem_cons_of_mem _ (List.mem_append_right _ h))
set_option maxRecDepth 20000 in
theorem ggX6_chooseAct_X6_scale : GoodIn wsX6_chooseAct wsX6_scale := (gd_cons (lf_X6_chooseAct_1 _ (List.mem_of_getElem? (i := 9) rfl)) rfl (goodIn_app (gd_cons (lf_X6_chooseAct_1 _ (List.mem_of_getElem? (i := 10) rfl)) rfl (gd_cons (lf_X6_chooseAct_1 _ (List.mem_of_getElem? (i := 11) rfl)) rfl (gd_nil _))) (goodIn_sub lf_X6_chooseAct_5 ga_wsX60)))
set_option maxRecDepth 20000 in
theorem gX6_chooseAct_X6_scale : GoodIn wsX6_chooseAct (wsV RX6 87 RX6 yX6_scale wsX6_scale) := goodIn_app (gd_cons (lf_X6_chooseAct_1 _ (List.mem_of_getElem? (i := 5) rfl)) rfl (gd_cons (lf_X6_chooseAct_1 _ (List.mem_of_getElem? (i := 6) rfl)) rfl (gd_cons (lf_X6_chooseAct_1 _ (List.mem_of_getElem? (i := 7) rfl)) rfl (gd_cons (lf_X6_chooseAct_1 _ (List.mem_of_getElem? (i := 8) rfl)) rfl (gd_nil _))))) ggX6_chooseAct_X6_scale
set_option maxRecDepth 20000 in
theorem ggX6_chooseAct_X4_mostLetGo : GoodIn wsX6_chooseAct wsX4_mostLetGo := (gd_cons (lf_X6_chooseAct_1 _ (List.mem_of_getElem? (i := 16) rfl)) rfl (goodIn_app (gd_cons (lf_X6_chooseAct_1 _ (List.mem_of_getElem? (i := 17) rfl)) rfl (gd_cons (lf_X6_chooseAct_1 _ (List.mem_of_getElem? (i := 18) rfl)) rfl (gd_cons (lf_X6_chooseAct_1 _ (List.mem_of_getElem? (i := 19) rfl)) rfl (gd_cons (lf_X6_chooseAct_1 _ (List.mem_of_getElem? (i := 20) rfl)) rfl (gd_cons (lf_X6_chooseAct_1 _ (List.mem_of_getElem? (i := 21) rfl)) rfl (gd_nil _)))))) (goodIn_sub lf_X6_chooseAct_6 ga_wsX40)))
set_option maxRecDepth 20000 in
theorem gX6_chooseAct_X4_mostLetGo : GoodIn wsX6_chooseAct (wsV RX6 91 RX4 yX4_mostLetGo wsX4_mostLetGo) := goodIn_app (gd_cons (lf_X6_chooseAct_1 _ (List.mem_of_getElem? (i := 12) rfl)) rfl (gd_cons (lf_X6_chooseAct_1 _ (List.mem_of_getElem? (i := 13) rfl)) rfl (gd_cons (lf_X6_chooseAct_1 _ (List.mem_of_getElem? (i := 14) rfl)) rfl (gd_cons (lf_X6_chooseAct_1 _ (List.mem_of_getElem? (i := 15) rfl)) rfl (gd_nil _))))) ggX6_chooseAct_X4_mostLetGo
set_option maxRecDepth 20000 in
theorem ggX6_chooseAct_X3_lessYoungestFirst : GoodIn wsX6_chooseAct wsX3_lessYoungestFirst := (gd_cons (lf_X6_chooseAct_2 _ (List.mem_of_getElem? (i := 0) rfl)) rfl (gd_cons (lf_X6_chooseAct_2 _ (List.mem_of_getElem? (i := 1) rfl)) rfl (gd_cons (lf_X6_chooseAct_2 _ (List.mem_of_getElem? (i := 2) rfl)) rfl (gd_cons (lf_X6_chooseAct_2 _ (List.mem_of_getElem? (i := 3) rfl)) rfl (gd_cons (lf_X6_chooseAct_2 _ (List.mem_of_getElem? (i := 4) rfl)) rfl (gd_nil _))))))
set_option maxRecDepth 20000 in
theorem gX6_chooseAct_X3_lessYoungestFirst : GoodIn wsX6_chooseAct (va_wsS RX6 94 yX3_lessYoungestFirst wsX3_lessYoungestFirst) := goodIn_app (gd_cons (lf_X6_chooseAct_1 _ (List.mem_of_getElem? (i := 22) rfl)) rfl (gd_cons (lf_X6_chooseAct_1 _ (List.mem_of_getElem? (i := 23) rfl)) rfl (gd_cons (lf_X6_chooseAct_1 _ (List.mem_of_getElem? (i := 20) rfl)) rfl (gd_nil _)))) ggX6_chooseAct_X3_lessYoungestFirst
set_option maxRecDepth 20000 in
theorem ggX6_chooseAct_X4_mostTaken : GoodIn wsX6_chooseAct wsX4_mostTaken := (gd_cons (lf_X6_chooseAct_2 _ (List.mem_of_getElem? (i := 8) rfl)) rfl (goodIn_app (gd_cons (lf_X6_chooseAct_2 _ (List.mem_of_getElem? (i := 9) rfl)) rfl (gd_cons (lf_X6_chooseAct_2 _ (List.mem_of_getElem? (i := 10) rfl)) rfl (gd_cons (lf_X6_chooseAct_2 _ (List.mem_of_getElem? (i := 11) rfl)) rfl (gd_cons (lf_X6_chooseAct_2 _ (List.mem_of_getElem? (i := 2) rfl)) rfl (gd_cons (lf_X6_chooseAct_2 _ (List.mem_of_getElem? (i := 3) rfl)) rfl (gd_cons (lf_X6_chooseAct_2 _ (List.mem_of_getElem? (i := 4) rfl)) rfl (gd_cons (lf_X6_chooseAct_1 _ (List.mem_of_getElem? (i := 18) rfl)) rfl (gd_cons (lf_X6_chooseAct_1 _ (List.mem_of_getElem? (i := 19) rfl)) rfl (gd_cons (lf_X6_chooseAct_1 _ (List.mem_of_getElem? (i := 20) rfl)) rfl (gd_cons (lf_X6_chooseAct_1 _ (List.mem_of_getElem? (i := 21) rfl)) rfl (gd_nil _))))))))))) (goodIn_sub lf_X6_chooseAct_6 ga_wsX40)))
set_option maxRecDepth 20000 in
theorem gX6_chooseAct_X4_mostTaken : GoodIn wsX6_chooseAct (wsV RX6 97 RX4 yX4_mostTaken wsX4_mostTaken) := goodIn_app (gd_cons (lf_X6_chooseAct_2 _ (List.mem_of_getElem? (i := 5) rfl)) rfl (gd_cons (lf_X6_chooseAct_2 _ (List.mem_of_getElem? (i := 6) rfl)) rfl (gd_cons (lf_X6_chooseAct_2 _ (List.mem_of_getElem? (i := 7) rfl)) rfl (gd_cons (lf_X6_chooseAct_1 _ (List.mem_of_getElem? (i := 15) rfl)) rfl (gd_nil _))))) ggX6_chooseAct_X4_mostTaken
set_option maxRecDepth 20000 in
theorem ggX6_chooseAct_X4_mostTaught : GoodIn wsX6_chooseAct wsX4_mostTaught := (gd_cons (lf_X6_chooseAct_2 _ (List.mem_of_getElem? (i := 15) rfl)) rfl (goodIn_app (gd_cons (lf_X6_chooseAct_2 _ (List.mem_of_getElem? (i := 16) rfl)) rfl (gd_cons (lf_X6_chooseAct_2 _ (List.mem_of_getElem? (i := 17) rfl)) rfl (gd_cons (lf_X6_chooseAct_2 _ (List.mem_of_getElem? (i := 18) rfl)) rfl (gd_cons (lf_X6_chooseAct_1 _ (List.mem_of_getElem? (i := 20) rfl)) rfl (gd_cons (lf_X6_chooseAct_2 _ (List.mem_of_getElem? (i := 19) rfl)) rfl (gd_nil _)))))) (goodIn_sub lf_X6_chooseAct_6 ga_wsX40)))
set_option maxRecDepth 20000 in
theorem gX6_chooseAct_X4_mostTaught : GoodIn wsX6_chooseAct (wsV RX6 100 RX4 yX4_mostTaught wsX4_mostTaught) := goodIn_app (gd_cons (lf_X6_chooseAct_2 _ (List.mem_of_getElem? (i := 12) rfl)) rfl (gd_cons (lf_X6_chooseAct_2 _ (List.mem_of_getElem? (i := 13) rfl)) rfl (gd_cons (lf_X6_chooseAct_2 _ (List.mem_of_getElem? (i := 14) rfl)) rfl (gd_cons (lf_X6_chooseAct_1 _ (List.mem_of_getElem? (i := 15) rfl)) rfl (gd_nil _))))) ggX6_chooseAct_X4_mostTaught
set_option maxRecDepth 20000 in
theorem ggX6_chooseAct_X0_done : GoodIn wsX6_chooseAct wsX0_done := (gd_cons (lf_X6_chooseAct_2 _ (List.mem_of_getElem? (i := 23) rfl)) rfl (gd_cons (lf_X6_chooseAct_3 _ (List.mem_of_getElem? (i := 0) rfl)) rfl (gd_cons (lf_X6_chooseAct_3 _ (List.mem_of_getElem? (i := 1) rfl)) rfl (gd_cons (lf_X6_chooseAct_2 _ (List.mem_of_getElem? (i := 22) rfl)) rfl (gd_cons (lf_X6_chooseAct_3 _ (List.mem_of_getElem? (i := 2) rfl)) rfl (gd_cons (lf_X6_chooseAct_3 _ (List.mem_of_getElem? (i := 3) rfl)) rfl (gd_cons (lf_X6_chooseAct_1 _ (List.mem_of_getElem? (i := 23) rfl)) rfl (gd_cons (lf_X6_chooseAct_1 _ (List.mem_of_getElem? (i := 20) rfl)) rfl (gd_cons (lf_X6_chooseAct_2 _ (List.mem_of_getElem? (i := 0) rfl)) rfl (gd_cons (lf_X6_chooseAct_2 _ (List.mem_of_getElem? (i := 1) rfl)) rfl (gd_cons (lf_X6_chooseAct_2 _ (List.mem_of_getElem? (i := 2) rfl)) rfl (gd_cons (lf_X6_chooseAct_2 _ (List.mem_of_getElem? (i := 3) rfl)) rfl (gd_cons (lf_X6_chooseAct_2 _ (List.mem_of_getElem? (i := 4) rfl)) rfl (gd_cons (lf_X6_chooseAct_3 _ (List.mem_of_getElem? (i := 4) rfl)) rfl (gd_cons (lf_X6_chooseAct_3 _ (List.mem_of_getElem? (i := 5) rfl)) rfl (gd_cons (lf_X6_chooseAct_3 _ (List.mem_of_getElem? (i := 6) rfl)) rfl (gd_cons (lf_X6_chooseAct_3 _ (List.mem_of_getElem? (i := 7) rfl)) rfl (gd_cons (lf_X6_chooseAct_3 _ (List.mem_of_getElem? (i := 8) rfl)) rfl (gd_cons (lf_X6_chooseAct_3 _ (List.mem_of_getElem? (i := 9) rfl)) rfl (gd_nil _))))))))))))))))))))
set_option maxRecDepth 20000 in
theorem gX6_chooseAct_X0_done : GoodIn wsX6_chooseAct (va_wsS RX6 103 yX0_done wsX0_done) := goodIn_app (gd_cons (lf_X6_chooseAct_2 _ (List.mem_of_getElem? (i := 20) rfl)) rfl (gd_cons (lf_X6_chooseAct_2 _ (List.mem_of_getElem? (i := 21) rfl)) rfl (gd_cons (lf_X6_chooseAct_2 _ (List.mem_of_getElem? (i := 22) rfl)) rfl (gd_nil _)))) ggX6_chooseAct_X0_done
set_option maxRecDepth 20000 in
theorem ggX6_chooseAct_X3_kind : GoodIn wsX6_chooseAct wsX3_kind := (gd_cons (lf_X6_chooseAct_3 _ (List.mem_of_getElem? (i := 12) rfl)) rfl (gd_cons (lf_X6_chooseAct_3 _ (List.mem_of_getElem? (i := 13) rfl)) rfl (gd_nil _)))
set_option maxRecDepth 20000 in
theorem gX6_chooseAct_X3_kind : GoodIn wsX6_chooseAct (va_wsS RX6 27 yX3_kind wsX3_kind) := goodIn_app (gd_cons (lf_X6_chooseAct_3 _ (List.mem_of_getElem? (i := 10) rfl)) rfl (gd_cons (lf_X6_chooseAct_3 _ (List.mem_of_getElem? (i := 11) rfl)) rfl (gd_cons (lf_X6_chooseAct_1 _ (List.mem_of_getElem? (i := 20) rfl)) rfl (gd_nil _)))) ggX6_chooseAct_X3_kind
set_option maxRecDepth 20000 in
theorem ggX6_chooseAct_X4_weekCost : GoodIn wsX6_chooseAct wsX4_weekCost := (gd_cons (lf_X6_chooseAct_3 _ (List.mem_of_getElem? (i := 17) rfl)) rfl (goodIn_app (goodIn_app (gd_cons (lf_X6_chooseAct_3 _ (List.mem_of_getElem? (i := 18) rfl)) rfl (gd_cons (lf_X6_chooseAct_3 _ (List.mem_of_getElem? (i := 19) rfl)) rfl (gd_cons (lf_X6_chooseAct_3 _ (List.mem_of_getElem? (i := 20) rfl)) rfl (gd_cons (lf_X6_chooseAct_3 _ (List.mem_of_getElem? (i := 21) rfl)) rfl (gd_cons (lf_X6_chooseAct_2 _ (List.mem_of_getElem? (i := 3) rfl)) rfl (gd_cons (lf_X6_chooseAct_3 _ (List.mem_of_getElem? (i := 22) rfl)) rfl (gd_cons (lf_X6_chooseAct_1 _ (List.mem_of_getElem? (i := 17) rfl)) rfl (gd_cons (lf_X6_chooseAct_2 _ (List.mem_of_getElem? (i := 16) rfl)) rfl (gd_cons (lf_X6_chooseAct_3 _ (List.mem_of_getElem? (i := 23) rfl)) rfl (gd_cons (lf_X6_chooseAct_4 _ (List.mem_of_getElem? (i := 0) rfl)) rfl (gd_cons (lf_X6_chooseAct_3 _ (List.mem_of_getElem? (i := 8) rfl)) rfl (gd_cons (lf_X6_chooseAct_2 _ (List.mem_of_getElem? (i := 22) rfl)) rfl (gd_cons (lf_X6_chooseAct_3 _ (List.mem_of_getElem? (i := 9) rfl)) rfl (gd_cons (lf_X6_chooseAct_1 _ (List.mem_of_getElem? (i := 18) rfl)) rfl (gd_cons (lf_X6_chooseAct_1 _ (List.mem_of_getElem? (i := 19) rfl)) rfl (gd_cons (lf_X6_chooseAct_1 _ (List.mem_of_getElem? (i := 20) rfl)) rfl (gd_cons (lf_X6_chooseAct_1 _ (List.mem_of_getElem? (i := 21) rfl)) rfl (gd_cons (lf_X6_chooseAct_4 _ (List.mem_of_getElem? (i := 1) rfl)) rfl (gd_cons (lf_X6_chooseAct_4 _ (List.mem_of_getElem? (i := 2) rfl)) rfl (gd_cons (lf_X6_chooseAct_4 _ (List.mem_of_getElem? (i := 3) rfl)) rfl (gd_cons (lf_X6_chooseAct_1 _ (List.mem_of_getElem? (i := 15) rfl)) rfl (gd_cons (lf_X6_chooseAct_4 _ (List.mem_of_getElem? (i := 4) rfl)) rfl (gd_cons (lf_X6_chooseAct_4 _ (List.mem_of_getElem? (i := 5) rfl)) rfl (gd_cons (lf_X6_chooseAct_4 _ (List.mem_of_getElem? (i := 6) rfl)) rfl (gd_nil _))))))))))))))))))))))))) (gd_cons (lf_X6_chooseAct_4 _ (List.mem_of_getElem? (i := 7) rfl)) rfl (gd_cons (lf_X6_chooseAct_3 _ (List.mem_of_getElem? (i := 1) rfl)) rfl (gd_cons (lf_X6_chooseAct_3 _ (List.mem_of_getElem? (i := 2) rfl)) rfl (gd_nil _))))) (goodIn_sub lf_X6_chooseAct_6 ga_wsX40)))
set_option maxRecDepth 20000 in
theorem gX6_chooseAct_X4_weekCost : GoodIn wsX6_chooseAct (wsV RX6 108 RX4 yX4_weekCost wsX4_weekCost) := goodIn_app (gd_cons (lf_X6_chooseAct_3 _ (List.mem_of_getElem? (i := 14) rfl)) rfl (gd_cons (lf_X6_chooseAct_3 _ (List.mem_of_getElem? (i := 15) rfl)) rfl (gd_cons (lf_X6_chooseAct_3 _ (List.mem_of_getElem? (i := 16) rfl)) rfl (gd_cons (lf_X6_chooseAct_1 _ (List.mem_of_getElem? (i := 15) rfl)) rfl (gd_nil _))))) ggX6_chooseAct_X4_weekCost
set_option maxRecDepth 20000 in
theorem ggX6_chooseAct_X6_place : GoodIn wsX6_chooseAct wsX6_place := (gd_cons (lf_X6_chooseAct_4 _ (List.mem_of_getElem? (i := 10) rfl)) rfl (gd_nil _))
set_option maxRecDepth 20000 in
theorem gX6_chooseAct_X6_place : GoodIn wsX6_chooseAct (va_wsS RX6 31 yX6_place wsX6_place) := goodIn_app (gd_cons (lf_X6_chooseAct_4 _ (List.mem_of_getElem? (i := 8) rfl)) rfl (gd_cons (lf_X6_chooseAct_4 _ (List.mem_of_getElem? (i := 9) rfl)) rfl (gd_cons (lf_X6_chooseAct_1 _ (List.mem_of_getElem? (i := 8) rfl)) rfl (gd_nil _)))) ggX6_chooseAct_X6_place
theorem dX6_chooseAct_0 : decode cX6_chooseAct 0 = .ok (.ldc2_w 85, 3) := dq_20 (dst 0 rd_prog_8_method_10_code_0 rfl) rfl
theorem dX6_chooseAct_3 : decode cX6_chooseAct 3 = .ok (.lstore 5, 2) := dq_55 (dst 3 rd_prog_8_method_10_code_0 rfl) rfl
theorem dX6_chooseAct_5 : decode cX6_chooseAct 5 = .ok (.iconst 0, 1) := dq_3 (dst 5 rd_prog_8_method_10_code_0 rfl)
theorem dX6_chooseAct_6 : decode cX6_chooseAct 6 = .ok (.istore 7, 2) := dq_54 (dst 6 rd_prog_8_method_10_code_0 rfl) rfl
theorem dX6_chooseAct_8 : decode cX6_chooseAct 8 = .ok (.aload_n 0, 1) := dq_42 (dst 8 rd_prog_8_method_10_code_0 rfl)
theorem dX6_chooseAct_9 : decode cX6_chooseAct 9 = .ok (.iload_n 2, 1) := dq_28 (dst 9 rd_prog_8_method_10_code_0 rfl)
theorem dX6_chooseAct_10 : decode cX6_chooseAct 10 = .ok (.invokevirtual 87, 3) := dq_182 (dst 10 rd_prog_8_method_10_code_0 rfl) rfl
theorem dX6_chooseAct_13 : decode cX6_chooseAct 13 = .ok (.lstore 8, 2) := dq_55 (dst 13 rd_prog_8_method_10_code_0 rfl) rfl
theorem dX6_chooseAct_15 : decode cX6_chooseAct 15 = .ok (.aload_n 1, 1) := dq_43 (dst 15 rd_prog_8_method_10_code_0 rfl)
theorem dX6_chooseAct_16 : decode cX6_chooseAct 16 = .ok (.iload_n 3, 1) := dq_29 (dst 16 rd_prog_8_method_10_code_0 rfl)
theorem dX6_chooseAct_17 : decode cX6_chooseAct 17 = .ok (.invokevirtual 91, 3) := dq_182 (dst 17 rd_prog_8_method_10_code_0 rfl) rfl
theorem dX6_chooseAct_20 : decode cX6_chooseAct 20 = .ok (.istore 10, 2) := dq_54 (dst 20 rd_prog_8_method_10_code_0 rfl) rfl
theorem dX6_chooseAct_22 : decode cX6_chooseAct 22 = .ok (.iconst 0, 1) := dq_3 (dst 22 rd_prog_8_method_10_code_0 rfl)
theorem dX6_chooseAct_23 : decode cX6_chooseAct 23 = .ok (.istore 11, 2) := dq_54 (dst 23 rd_prog_8_method_10_code_0 rfl) rfl
theorem dX6_chooseAct_25 : decode cX6_chooseAct 25 = .ok (.iload 11, 2) := dq_21 (dst 25 rd_prog_8_method_10_code_0 rfl) rfl
theorem dX6_chooseAct_27 : decode cX6_chooseAct 27 = .ok (.iload 10, 2) := dq_21 (dst 27 rd_prog_8_method_10_code_0 rfl) rfl
theorem dX6_chooseAct_29 : decode cX6_chooseAct 29 = .ok (.if_icmp .gt 156, 3) := dq_163 (dst 29 rd_prog_8_method_10_code_0 rfl) (by decide +kernel)
theorem dX6_chooseAct_32 : decode cX6_chooseAct 32 = .ok (.iload_n 3, 1) := dq_29 (dst 0 rd_prog_8_method_10_code_1 rfl)
theorem dX6_chooseAct_33 : decode cX6_chooseAct 33 = .ok (.iload 11, 2) := dq_21 (dst 1 rd_prog_8_method_10_code_1 rfl) rfl
theorem dX6_chooseAct_35 : decode cX6_chooseAct 35 = .ok (.invokestatic 94, 3) := dq_184 (dst 3 rd_prog_8_method_10_code_1 rfl) rfl
theorem dX6_chooseAct_38 : decode cX6_chooseAct 38 = .ok (.istore 12, 2) := dq_54 (dst 6 rd_prog_8_method_10_code_1 rfl) rfl
theorem dX6_chooseAct_40 : decode cX6_chooseAct 40 = .ok (.aload_n 1, 1) := dq_43 (dst 8 rd_prog_8_method_10_code_1 rfl)
theorem dX6_chooseAct_41 : decode cX6_chooseAct 41 = .ok (.iload_n 2, 1) := dq_28 (dst 9 rd_prog_8_method_10_code_1 rfl)
theorem dX6_chooseAct_42 : decode cX6_chooseAct 42 = .ok (.iload 12, 2) := dq_21 (dst 10 rd_prog_8_method_10_code_1 rfl) rfl
theorem dX6_chooseAct_44 : decode cX6_chooseAct 44 = .ok (.invokevirtual 97, 3) := dq_182 (dst 12 rd_prog_8_method_10_code_1 rfl) rfl
theorem dX6_chooseAct_47 : decode cX6_chooseAct 47 = .ok (.istore 13, 2) := dq_54 (dst 15 rd_prog_8_method_10_code_1 rfl) rfl
theorem dX6_chooseAct_49 : decode cX6_chooseAct 49 = .ok (.iconst 0, 1) := dq_3 (dst 17 rd_prog_8_method_10_code_1 rfl)
theorem dX6_chooseAct_50 : decode cX6_chooseAct 50 = .ok (.istore 14, 2) := dq_54 (dst 18 rd_prog_8_method_10_code_1 rfl) rfl
theorem dX6_chooseAct_52 : decode cX6_chooseAct 52 = .ok (.iload 14, 2) := dq_21 (dst 20 rd_prog_8_method_10_code_1 rfl) rfl
theorem dX6_chooseAct_54 : decode cX6_chooseAct 54 = .ok (.iload 13, 2) := dq_21 (dst 22 rd_prog_8_method_10_code_1 rfl) rfl
theorem dX6_chooseAct_56 : decode cX6_chooseAct 56 = .ok (.if_icmp .gt 123, 3) := dq_163 (dst 24 rd_prog_8_method_10_code_1 rfl) (by decide +kernel)
theorem dX6_chooseAct_59 : decode cX6_chooseAct 59 = .ok (.aload_n 1, 1) := dq_43 (dst 27 rd_prog_8_method_10_code_1 rfl)
theorem dX6_chooseAct_60 : decode cX6_chooseAct 60 = .ok (.iload 12, 2) := dq_21 (dst 28 rd_prog_8_method_10_code_1 rfl) rfl
theorem dX6_chooseAct_62 : decode cX6_chooseAct 62 = .ok (.bipush 100, 2) := dq_16 (dst 30 rd_prog_8_method_10_code_1 rfl) (by decide +kernel)
theorem dX6_chooseAct_64 : decode cX6_chooseAct 64 = .ok (.iload 14, 2) := dq_21 (dst 0 rd_prog_8_method_10_code_2 rfl) rfl
theorem dX6_chooseAct_66 : decode cX6_chooseAct 66 = .ok (.imul, 1) := dq_104 (dst 2 rd_prog_8_method_10_code_2 rfl)
theorem dX6_chooseAct_67 : decode cX6_chooseAct 67 = .ok (.iadd, 1) := dq_96 (dst 3 rd_prog_8_method_10_code_2 rfl)
theorem dX6_chooseAct_68 : decode cX6_chooseAct 68 = .ok (.invokevirtual 100, 3) := dq_182 (dst 4 rd_prog_8_method_10_code_2 rfl) rfl
theorem dX6_chooseAct_71 : decode cX6_chooseAct 71 = .ok (.istore 15, 2) := dq_54 (dst 7 rd_prog_8_method_10_code_2 rfl) rfl
theorem dX6_chooseAct_73 : decode cX6_chooseAct 73 = .ok (.iconst 0, 1) := dq_3 (dst 9 rd_prog_8_method_10_code_2 rfl)
theorem dX6_chooseAct_74 : decode cX6_chooseAct 74 = .ok (.istore 16, 2) := dq_54 (dst 10 rd_prog_8_method_10_code_2 rfl) rfl
theorem dX6_chooseAct_76 : decode cX6_chooseAct 76 = .ok (.iload 16, 2) := dq_21 (dst 12 rd_prog_8_method_10_code_2 rfl) rfl
theorem dX6_chooseAct_78 : decode cX6_chooseAct 78 = .ok (.iload 15, 2) := dq_21 (dst 14 rd_prog_8_method_10_code_2 rfl) rfl
theorem dX6_chooseAct_80 : decode cX6_chooseAct 80 = .ok (.if_icmp .gt 93, 3) := dq_163 (dst 16 rd_prog_8_method_10_code_2 rfl) (by decide +kernel)
theorem dX6_chooseAct_83 : decode cX6_chooseAct 83 = .ok (.sipush 1000, 3) := dq_17 (dst 19 rd_prog_8_method_10_code_2 rfl) (by decide +kernel)
theorem dX6_chooseAct_86 : decode cX6_chooseAct 86 = .ok (.iload 11, 2) := dq_21 (dst 22 rd_prog_8_method_10_code_2 rfl) rfl
theorem dX6_chooseAct_88 : decode cX6_chooseAct 88 = .ok (.imul, 1) := dq_104 (dst 24 rd_prog_8_method_10_code_2 rfl)
theorem dX6_chooseAct_89 : decode cX6_chooseAct 89 = .ok (.bipush 100, 2) := dq_16 (dst 25 rd_prog_8_method_10_code_2 rfl) (by decide +kernel)
theorem dX6_chooseAct_91 : decode cX6_chooseAct 91 = .ok (.iload 14, 2) := dq_21 (dst 27 rd_prog_8_method_10_code_2 rfl) rfl
theorem dX6_chooseAct_93 : decode cX6_chooseAct 93 = .ok (.imul, 1) := dq_104 (dst 29 rd_prog_8_method_10_code_2 rfl)
theorem dX6_chooseAct_94 : decode cX6_chooseAct 94 = .ok (.iadd, 1) := dq_96 (dst 30 rd_prog_8_method_10_code_2 rfl)
theorem dX6_chooseAct_95 : decode cX6_chooseAct 95 = .ok (.bipush 10, 2) := dq_16 (dst 31 rd_prog_8_method_10_code_2 rfl) (by decide +kernel)
theorem dX6_chooseAct_97 : decode cX6_chooseAct 97 = .ok (.iload 16, 2) := dq_21 (dst 1 rd_prog_8_method_10_code_3 rfl) rfl
theorem dX6_chooseAct_99 : decode cX6_chooseAct 99 = .ok (.imul, 1) := dq_104 (dst 3 rd_prog_8_method_10_code_3 rfl)
theorem dX6_chooseAct_100 : decode cX6_chooseAct 100 = .ok (.iadd, 1) := dq_96 (dst 4 rd_prog_8_method_10_code_3 rfl)
theorem dX6_chooseAct_101 : decode cX6_chooseAct 101 = .ok (.istore 17, 2) := dq_54 (dst 5 rd_prog_8_method_10_code_3 rfl) rfl
theorem dX6_chooseAct_103 : decode cX6_chooseAct 103 = .ok (.iload_n 3, 1) := dq_29 (dst 7 rd_prog_8_method_10_code_3 rfl)
theorem dX6_chooseAct_104 : decode cX6_chooseAct 104 = .ok (.iload 17, 2) := dq_21 (dst 8 rd_prog_8_method_10_code_3 rfl) rfl
theorem dX6_chooseAct_106 : decode cX6_chooseAct 106 = .ok (.invokestatic 103, 3) := dq_184 (dst 10 rd_prog_8_method_10_code_3 rfl) rfl
theorem dX6_chooseAct_109 : decode cX6_chooseAct 109 = .ok (.istore 18, 2) := dq_54 (dst 13 rd_prog_8_method_10_code_3 rfl) rfl
theorem dX6_chooseAct_111 : decode cX6_chooseAct 111 = .ok (.iload 18, 2) := dq_21 (dst 15 rd_prog_8_method_10_code_3 rfl) rfl
theorem dX6_chooseAct_113 : decode cX6_chooseAct 113 = .ok (.invokestatic 27, 3) := dq_184 (dst 17 rd_prog_8_method_10_code_3 rfl) rfl
theorem dX6_chooseAct_116 : decode cX6_chooseAct 116 = .ok (.istore 19, 2) := dq_54 (dst 20 rd_prog_8_method_10_code_3 rfl) rfl
theorem dX6_chooseAct_118 : decode cX6_chooseAct 118 = .ok (.aload_n 1, 1) := dq_43 (dst 22 rd_prog_8_method_10_code_3 rfl)
theorem dX6_chooseAct_119 : decode cX6_chooseAct 119 = .ok (.iload_n 2, 1) := dq_28 (dst 23 rd_prog_8_method_10_code_3 rfl)
theorem dX6_chooseAct_120 : decode cX6_chooseAct 120 = .ok (.iload 18, 2) := dq_21 (dst 24 rd_prog_8_method_10_code_3 rfl) rfl
theorem dX6_chooseAct_122 : decode cX6_chooseAct 122 = .ok (.iload 4, 2) := dq_21 (dst 26 rd_prog_8_method_10_code_3 rfl) rfl
theorem dX6_chooseAct_124 : decode cX6_chooseAct 124 = .ok (.iload 17, 2) := dq_21 (dst 28 rd_prog_8_method_10_code_3 rfl) rfl
theorem dX6_chooseAct_126 : decode cX6_chooseAct 126 = .ok (.invokevirtual 108, 3) := dq_182 (dst 30 rd_prog_8_method_10_code_3 rfl) rfl
theorem dX6_chooseAct_129 : decode cX6_chooseAct 129 = .ok (.i2l, 1) := dq_133 (dst 1 rd_prog_8_method_10_code_4 rfl)
theorem dX6_chooseAct_130 : decode cX6_chooseAct 130 = .ok (.lload 8, 2) := dq_22 (dst 2 rd_prog_8_method_10_code_4 rfl) rfl
theorem dX6_chooseAct_132 : decode cX6_chooseAct 132 = .ok (.lmul, 1) := dq_105 (dst 4 rd_prog_8_method_10_code_4 rfl)
theorem dX6_chooseAct_133 : decode cX6_chooseAct 133 = .ok (.aload_n 0, 1) := dq_42 (dst 5 rd_prog_8_method_10_code_4 rfl)
theorem dX6_chooseAct_134 : decode cX6_chooseAct 134 = .ok (.getfield 21, 3) := dq_180 (dst 6 rd_prog_8_method_10_code_4 rfl) rfl
theorem dX6_chooseAct_137 : decode cX6_chooseAct 137 = .ok (.iload 19, 2) := dq_21 (dst 9 rd_prog_8_method_10_code_4 rfl) rfl
theorem dX6_chooseAct_139 : decode cX6_chooseAct 139 = .ok (.laload, 1) := dq_47 (dst 11 rd_prog_8_method_10_code_4 rfl)
theorem dX6_chooseAct_140 : decode cX6_chooseAct 140 = .ok (.ladd, 1) := dq_97 (dst 12 rd_prog_8_method_10_code_4 rfl)
theorem dX6_chooseAct_141 : decode cX6_chooseAct 141 = .ok (.lstore 20, 2) := dq_55 (dst 13 rd_prog_8_method_10_code_4 rfl) rfl
theorem dX6_chooseAct_143 : decode cX6_chooseAct 143 = .ok (.lload 20, 2) := dq_22 (dst 15 rd_prog_8_method_10_code_4 rfl) rfl
theorem dX6_chooseAct_145 : decode cX6_chooseAct 145 = .ok (.lload 5, 2) := dq_22 (dst 17 rd_prog_8_method_10_code_4 rfl) rfl
theorem dX6_chooseAct_147 : decode cX6_chooseAct 147 = .ok (.lcmp, 1) := dq_148 (dst 19 rd_prog_8_method_10_code_4 rfl)
theorem dX6_chooseAct_148 : decode cX6_chooseAct 148 = .ok (.ifCond .ge 19, 3) := dq_156 (dst 20 rd_prog_8_method_10_code_4 rfl) (by decide +kernel)
theorem dX6_chooseAct_151 : decode cX6_chooseAct 151 = .ok (.lload 20, 2) := dq_22 (dst 23 rd_prog_8_method_10_code_4 rfl) rfl
theorem dX6_chooseAct_153 : decode cX6_chooseAct 153 = .ok (.lstore 5, 2) := dq_55 (dst 25 rd_prog_8_method_10_code_4 rfl) rfl
theorem dX6_chooseAct_155 : decode cX6_chooseAct 155 = .ok (.iload 17, 2) := dq_21 (dst 27 rd_prog_8_method_10_code_4 rfl) rfl
theorem dX6_chooseAct_157 : decode cX6_chooseAct 157 = .ok (.aload_n 0, 1) := dq_42 (dst 29 rd_prog_8_method_10_code_4 rfl)
theorem dX6_chooseAct_158 : decode cX6_chooseAct 158 = .ok (.getfield 24, 3) := dq_180 (dst 30 rd_prog_8_method_10_code_4 rfl) rfl
theorem dX6_chooseAct_161 : decode cX6_chooseAct 161 = .ok (.iload 19, 2) := dq_21 (dst 1 rd_prog_8_method_10_code_5 rfl) rfl
theorem dX6_chooseAct_163 : decode cX6_chooseAct 163 = .ok (.iaload, 1) := dq_46 (dst 3 rd_prog_8_method_10_code_5 rfl)
theorem dX6_chooseAct_164 : decode cX6_chooseAct 164 = .ok (.iadd, 1) := dq_96 (dst 4 rd_prog_8_method_10_code_5 rfl)
theorem dX6_chooseAct_165 : decode cX6_chooseAct 165 = .ok (.istore 7, 2) := dq_54 (dst 5 rd_prog_8_method_10_code_5 rfl) rfl
theorem dX6_chooseAct_167 : decode cX6_chooseAct 167 = .ok (.iinc 16 1, 3) := dq_132 (dst 7 rd_prog_8_method_10_code_5 rfl) rfl (by decide +kernel)
theorem dX6_chooseAct_170 : decode cX6_chooseAct 170 = .ok (.goto (-94), 3) := dq_167 (dst 10 rd_prog_8_method_10_code_5 rfl) (by decide +kernel)
theorem dX6_chooseAct_173 : decode cX6_chooseAct 173 = .ok (.iinc 14 1, 3) := dq_132 (dst 13 rd_prog_8_method_10_code_5 rfl) rfl (by decide +kernel)
theorem dX6_chooseAct_176 : decode cX6_chooseAct 176 = .ok (.goto (-124), 3) := dq_167 (dst 16 rd_prog_8_method_10_code_5 rfl) (by decide +kernel)
theorem dX6_chooseAct_179 : decode cX6_chooseAct 179 = .ok (.iinc 11 1, 3) := dq_132 (dst 19 rd_prog_8_method_10_code_5 rfl) rfl (by decide +kernel)
theorem dX6_chooseAct_182 : decode cX6_chooseAct 182 = .ok (.goto (-157), 3) := dq_167 (dst 22 rd_prog_8_method_10_code_5 rfl) (by decide +kernel)
theorem dX6_chooseAct_185 : decode cX6_chooseAct 185 = .ok (.iload_n 2, 1) := dq_28 (dst 25 rd_prog_8_method_10_code_5 rfl)
theorem dX6_chooseAct_186 : decode cX6_chooseAct 186 = .ok (.iload_n 3, 1) := dq_29 (dst 26 rd_prog_8_method_10_code_5 rfl)
theorem dX6_chooseAct_187 : decode cX6_chooseAct 187 = .ok (.invokestatic 27, 3) := dq_184 (dst 27 rd_prog_8_method_10_code_5 rfl) rfl
theorem dX6_chooseAct_190 : decode cX6_chooseAct 190 = .ok (.iload 4, 2) := dq_21 (dst 30 rd_prog_8_method_10_code_5 rfl) rfl
theorem dX6_chooseAct_192 : decode cX6_chooseAct 192 = .ok (.invokestatic 31, 3) := dq_184 (dst 0 rd_prog_8_method_10_code_6 rfl) rfl
theorem dX6_chooseAct_195 : decode cX6_chooseAct 195 = .ok (.istore 11, 2) := dq_54 (dst 3 rd_prog_8_method_10_code_6 rfl) rfl
theorem dX6_chooseAct_197 : decode cX6_chooseAct 197 = .ok (.aload_n 0, 1) := dq_42 (dst 5 rd_prog_8_method_10_code_6 rfl)
theorem dX6_chooseAct_198 : decode cX6_chooseAct 198 = .ok (.getfield 13, 3) := dq_180 (dst 6 rd_prog_8_method_10_code_6 rfl) rfl
theorem dX6_chooseAct_201 : decode cX6_chooseAct 201 = .ok (.iload 11, 2) := dq_21 (dst 9 rd_prog_8_method_10_code_6 rfl) rfl
theorem dX6_chooseAct_203 : decode cX6_chooseAct 203 = .ok (.lload 5, 2) := dq_22 (dst 11 rd_prog_8_method_10_code_6 rfl) rfl
theorem dX6_chooseAct_205 : decode cX6_chooseAct 205 = .ok (.lastore, 1) := dq_80 (dst 13 rd_prog_8_method_10_code_6 rfl)
theorem dX6_chooseAct_206 : decode cX6_chooseAct 206 = .ok (.aload_n 0, 1) := dq_42 (dst 14 rd_prog_8_method_10_code_6 rfl)
theorem dX6_chooseAct_207 : decode cX6_chooseAct 207 = .ok (.getfield 17, 3) := dq_180 (dst 15 rd_prog_8_method_10_code_6 rfl) rfl
theorem dX6_chooseAct_210 : decode cX6_chooseAct 210 = .ok (.iload 11, 2) := dq_21 (dst 18 rd_prog_8_method_10_code_6 rfl) rfl
theorem dX6_chooseAct_212 : decode cX6_chooseAct 212 = .ok (.iload 7, 2) := dq_21 (dst 20 rd_prog_8_method_10_code_6 rfl) rfl
theorem dX6_chooseAct_214 : decode cX6_chooseAct 214 = .ok (.iastore, 1) := dq_79 (dst 22 rd_prog_8_method_10_code_6 rfl)
theorem dX6_chooseAct_215 : decode cX6_chooseAct 215 = .ok (.return_, 1) := dq_177 (dst 23 rd_prog_8_method_10_code_6 rfl)
theorem lf_X7_init_1 : ∀ w ∈ ([Cond.methodLink RX7 3 objectInit, Cond.instanceMethod objectInit, Cond.code objectInit ⟨#[0xb1]⟩ 1 none, Cond.arrayClass .int, Cond.fieldLink RX7 9 "StillInAugust$Row" "acts" "[I", Cond.fieldLink RX7 15 "StillInAugust$Row" "leavers" "[I", Cond.classLink RX7 18 RX9, Cond.instantiable RX9 6, Cond.initialized RX9, Cond.fieldLink RX7 21 "StillInAugust$Row" "past" "LStillInAugust$Summer;", Cond.instanceMethod yX9_init, Cond.code yX9_init cX9_init 1 none, Cond.methodLink RX9 1 objectInit] : List Cond), w ∈ wsX7_init := fun _ h => (List.mem_cons_of_mem _ (List.mem_append_left _ (List.mem_append_left _ h)))
theorem lf_X7_init_2 : ∀ w ∈ wsX70, w ∈ wsX7_init := fun _ h => (List.mem_cons_of_mem _ (List.mem_append_left _ (List.mem_append_right _ h)))
theorem lf_X7_init_3 : ∀ w ∈ wsX90, w ∈ wsX7_init := fun _ h => (List.mem_cons_of_mem _ (List.mem_append_right _ h))
set_option maxRecDepth 20000 in
theorem ggX7_init_X9_init : GoodIn wsX7_init wsX9_init := (gd_cons (lf_X7_init_1 _ (List.mem_of_getElem? (i := 11) rfl)) rfl (gd_cons (lf_X7_init_1 _ (List.mem_of_getElem? (i := 12) rfl)) rfl (gd_cons (lf_X7_init_1 _ (List.mem_of_getElem? (i := 1) rfl)) rfl (gd_cons (lf_X7_init_1 _ (List.mem_of_getElem? (i := 2) rfl)) rfl (gd_nil _)))))
set_option maxRecDepth 20000 in
theorem gX7_init_X9_init_n20 : GoodIn wsX7_init (wsX9_init) := ggX7_init_X9_init
theorem dX7_init_0 : decode cX7_init 0 = .ok (.aload_n 0, 1) := dq_42 (dst 0 rd_prog_9_method_1_code_0 rfl)
theorem dX7_init_1 : decode cX7_init 1 = .ok (.invokespecial 3, 3) := dq_183 (dst 1 rd_prog_9_method_1_code_0 rfl) rfl
theorem dX7_init_4 : decode cX7_init 4 = .ok (.aload_n 0, 1) := dq_42 (dst 4 rd_prog_9_method_1_code_0 rfl)
theorem dX7_init_5 : decode cX7_init 5 = .ok (.iconst 5, 1) := dq_8 (dst 5 rd_prog_9_method_1_code_0 rfl)
theorem dX7_init_6 : decode cX7_init 6 = .ok (.newarray .int, 2) := dq_188_10 (dst 6 rd_prog_9_method_1_code_0 rfl)
theorem dX7_init_8 : decode cX7_init 8 = .ok (.putfield 9, 3) := dq_181 (dst 8 rd_prog_9_method_1_code_0 rfl) rfl
theorem dX7_init_11 : decode cX7_init 11 = .ok (.aload_n 0, 1) := dq_42 (dst 11 rd_prog_9_method_1_code_0 rfl)
theorem dX7_init_12 : decode cX7_init 12 = .ok (.iconst 5, 1) := dq_8 (dst 12 rd_prog_9_method_1_code_0 rfl)
theorem dX7_init_13 : decode cX7_init 13 = .ok (.newarray .int, 2) := dq_188_10 (dst 13 rd_prog_9_method_1_code_0 rfl)
theorem dX7_init_15 : decode cX7_init 15 = .ok (.putfield 15, 3) := dq_181 (dst 15 rd_prog_9_method_1_code_0 rfl) rfl
theorem dX7_init_18 : decode cX7_init 18 = .ok (.aload_n 0, 1) := dq_42 (dst 18 rd_prog_9_method_1_code_0 rfl)
theorem dX7_init_19 : decode cX7_init 19 = .ok (.new 18, 3) := dq_187 (dst 19 rd_prog_9_method_1_code_0 rfl) rfl
theorem dX7_init_22 : decode cX7_init 22 = .ok (.dup, 1) := dq_89 (dst 22 rd_prog_9_method_1_code_0 rfl)
theorem dX7_init_23 : decode cX7_init 23 = .ok (.invokespecial 20, 3) := dq_183 (dst 23 rd_prog_9_method_1_code_0 rfl) rfl
theorem dX7_init_26 : decode cX7_init 26 = .ok (.putfield 21, 3) := dq_181 (dst 26 rd_prog_9_method_1_code_0 rfl) rfl
theorem dX7_init_29 : decode cX7_init 29 = .ok (.return_, 1) := dq_177 (dst 29 rd_prog_9_method_1_code_0 rfl)
theorem dX7_append_0 : decode cX7_append 0 = .ok (.aload_n 0, 1) := dq_42 (dst 0 rd_prog_9_method_2_code_0 rfl)
theorem dX7_append_1 : decode cX7_append 1 = .ok (.getfield 9, 3) := dq_180 (dst 1 rd_prog_9_method_2_code_0 rfl) rfl
theorem dX7_append_4 : decode cX7_append 4 = .ok (.aload_n 0, 1) := dq_42 (dst 4 rd_prog_9_method_2_code_0 rfl)
theorem dX7_append_5 : decode cX7_append 5 = .ok (.getfield 25, 3) := dq_180 (dst 5 rd_prog_9_method_2_code_0 rfl) rfl
theorem dX7_append_8 : decode cX7_append 8 = .ok (.iload_n 1, 1) := dq_27 (dst 8 rd_prog_9_method_2_code_0 rfl)
theorem dX7_append_9 : decode cX7_append 9 = .ok (.iastore, 1) := dq_79 (dst 9 rd_prog_9_method_2_code_0 rfl)
theorem dX7_append_10 : decode cX7_append 10 = .ok (.aload_n 0, 1) := dq_42 (dst 10 rd_prog_9_method_2_code_0 rfl)
theorem dX7_append_11 : decode cX7_append 11 = .ok (.getfield 15, 3) := dq_180 (dst 11 rd_prog_9_method_2_code_0 rfl) rfl
theorem dX7_append_14 : decode cX7_append 14 = .ok (.aload_n 0, 1) := dq_42 (dst 14 rd_prog_9_method_2_code_0 rfl)
theorem dX7_append_15 : decode cX7_append 15 = .ok (.getfield 25, 3) := dq_180 (dst 15 rd_prog_9_method_2_code_0 rfl) rfl
theorem dX7_append_18 : decode cX7_append 18 = .ok (.iload_n 2, 1) := dq_28 (dst 18 rd_prog_9_method_2_code_0 rfl)
theorem dX7_append_19 : decode cX7_append 19 = .ok (.iastore, 1) := dq_79 (dst 19 rd_prog_9_method_2_code_0 rfl)
theorem dX7_append_20 : decode cX7_append 20 = .ok (.aload_n 0, 1) := dq_42 (dst 20 rd_prog_9_method_2_code_0 rfl)
theorem dX7_append_21 : decode cX7_append 21 = .ok (.dup, 1) := dq_89 (dst 21 rd_prog_9_method_2_code_0 rfl)
theorem dX7_append_22 : decode cX7_append 22 = .ok (.getfield 25, 3) := dq_180 (dst 22 rd_prog_9_method_2_code_0 rfl) rfl
theorem dX7_append_25 : decode cX7_append 25 = .ok (.iconst 1, 1) := dq_4 (dst 25 rd_prog_9_method_2_code_0 rfl)
theorem dX7_append_26 : decode cX7_append 26 = .ok (.iadd, 1) := dq_96 (dst 26 rd_prog_9_method_2_code_0 rfl)
theorem dX7_append_27 : decode cX7_append 27 = .ok (.putfield 25, 3) := dq_181 (dst 27 rd_prog_9_method_2_code_0 rfl) rfl
theorem dX7_append_30 : decode cX7_append 30 = .ok (.return_, 1) := dq_177 (dst 30 rd_prog_9_method_2_code_0 rfl)
theorem lf_X7_judgeBy_1 : ∀ w ∈ wsX7_judgeBy_r1, w ∈ wsX7_judgeBy := fun _ h => (List.mem_cons_of_mem _ (List.mem_append_left _ (List.mem_append_left _ (List.mem_append_left _ (List.mem_append_left _ h)))))
theorem lf_X7_judgeBy_2 : ∀ w ∈ wsX7_judgeBy_r2, w ∈ wsX7_judgeBy := fun _ h => (List.mem_cons_of_mem _ (List.mem_append_left _ (List.mem_append_left _ (List.mem_append_left _ (List.mem_append_right _ (List.mem_append_left _ h))))))
theorem lf_X7_judgeBy_3 : ∀ w ∈ wsX7_judgeBy_r3, w ∈ wsX7_judgeBy := fun _ h => (List.mem_cons_of_mem _ (List.mem_append_left _ (List.mem_append_left _ (List.mem_append_left _ (List.mem_append_right _ (List.mem_append_right _ (List.mem_append_left _ h)))))))
theorem lf_X7_judgeBy_4 : ∀ w ∈ wsX7_judgeBy_r4, w ∈ wsX7_judgeBy := fun _ h => (List.mem_cons_of_mem _ (List.mem_append_left _ (List.mem_append_left _ (List.mem_append_left _ (List.mem_append_right _ (List.mem_append_right _ (List.mem_append_right _ (List.mem_append_left _ h))))))))
theorem lf_X7_judgeBy_5 : ∀ w ∈ wsX7_judgeBy_r5, w ∈ wsX7_judgeBy := fun _ h => (List.mem_cons_of_mem _ (List.mem_append_left _ (List.mem_append_left _ (List.mem_append_left _ (List.mem_append_right _ (List.mem_append_right _ (List.mem_append_right _ (List.mem_append_right _ (List.mem_append_left _ h)))))))))
theorem lf_X7_judgeBy_6 : ∀ w ∈ wsX7_judgeBy_r6, w ∈ wsX7_judgeBy := fun _ h => (List.mem_cons_of_mem _ (List.mem_append_left _ (List.mem_append_left _ (List.mem_append_left _ (List.mem_append_right _ (List.mem_append_right _ (List.mem_append_right _ (List.mem_append_right _ (List.mem_append_right _ (List.mem_append_left _ h))))))))))
theorem lf_X7_judgeBy_7 : ∀ w ∈ wsX7_judgeBy_r7, w ∈ wsX7_judgeBy := fun _ h => (List.mem_cons_of_mem _ (List.mem_append_left _ (List.mem_append_left _ (List.mem_append_left _ (List.mem_append_right _ (List.mem_append_right _ (List.mem_append_right _ (List.mem_append_right _ (List.mem_append_right _ (List.mem_append_right _ h))))))))))
theorem lf_X7_judgeBy_8 : ∀ w ∈ wsX70, w ∈ wsX7_judgeBy := fun _ h => (List.mem_cons_of_mem _ (List.mem_append_left _ (List.mem_append_left _ (List.mem_append_right _ h))))
theorem lf_X7_judgeBy_9 : ∀ w ∈ wsX90, w ∈ wsX7_judgeBy := fun _ h => (List.mem_cons_of_mem _ (List.mem_append_left _ (List.mem_append_right _ h)))
theorem lf_X7_judgeBy_10 : ∀ w ∈ wsX40, w ∈ wsX7_judgeBy := fun _ h => (List.mem_cons_of_mem _ (List.mem_append_right _ h))
theorem ga_wsX90 : List.all wsX90 goodWord = true := by decide +kernel
set_option maxRecDepth 20000 in
theorem ggX7_judgeBy_X9_begin : GoodIn wsX7_judgeBy wsX9_begin := (gd_cons (lf_X7_judgeBy_1 _ (List.mem_of_getElem? (i := 13) rfl)) rfl (goodIn_app (gd_cons (lf_X7_judgeBy_1 _ (List.mem_of_getElem? (i := 14) rfl)) rfl (gd_cons (lf_X7_judgeBy_1 _ (List.mem_of_getElem? (i := 15) rfl)) rfl (gd_cons (lf_X7_judgeBy_1 _ (List.mem_of_getElem? (i := 16) rfl)) rfl (gd_cons (lf_X7_judgeBy_1 _ (List.mem_of_getElem? (i := 17) rfl)) rfl (gd_cons (lf_X7_judgeBy_1 _ (List.mem_of_getElem? (i := 18) rfl)) rfl (gd_cons (lf_X7_judgeBy_1 _ (List.mem_of_getElem? (i := 19) rfl)) rfl (gd_nil _))))))) (goodIn_sub lf_X7_judgeBy_9 ga_wsX90)))
set_option maxRecDepth 20000 in
theorem gX7_judgeBy_X9_begin : GoodIn wsX7_judgeBy (wsV RX7 29 RX9 yX9_begin wsX9_begin) := goodIn_app (gd_cons (lf_X7_judgeBy_1 _ (List.mem_of_getElem? (i := 9) rfl)) rfl (gd_cons (lf_X7_judgeBy_1 _ (List.mem_of_getElem? (i := 10) rfl)) rfl (gd_cons (lf_X7_judgeBy_1 _ (List.mem_of_getElem? (i := 11) rfl)) rfl (gd_cons (lf_X7_judgeBy_1 _ (List.mem_of_getElem? (i := 12) rfl)) rfl (gd_nil _))))) ggX7_judgeBy_X9_begin
theorem ga_wsX70 : List.all wsX70 goodWord = true := by decide +kernel
set_option maxRecDepth 20000 in
theorem ggX7_judgeBy_X7_judgeWeek : GoodIn wsX7_judgeBy wsX7_judgeWeek := (gd_cons (lf_X7_judgeBy_2 _ (List.mem_of_getElem? (i := 0) rfl)) rfl (goodIn_app (goodIn_app (goodIn_app (goodIn_app (gd_cons (lf_X7_judgeBy_1 _ (List.mem_of_getElem? (i := 0) rfl)) rfl (gd_cons (lf_X7_judgeBy_2 _ (List.mem_of_getElem? (i := 1) rfl)) rfl (gd_cons (lf_X7_judgeBy_1 _ (List.mem_of_getElem? (i := 1) rfl)) rfl (gd_cons (lf_X7_judgeBy_2 _ (List.mem_of_getElem? (i := 2) rfl)) rfl (gd_cons (lf_X7_judgeBy_1 _ (List.mem_of_getElem? (i := 4) rfl)) rfl (gd_cons (lf_X7_judgeBy_1 _ (List.mem_of_getElem? (i := 5) rfl)) rfl (gd_cons (lf_X7_judgeBy_2 _ (List.mem_of_getElem? (i := 3) rfl)) rfl (gd_cons (lf_X7_judgeBy_2 _ (List.mem_of_getElem? (i := 4) rfl)) rfl (gd_cons (lf_X7_judgeBy_2 _ (List.mem_of_getElem? (i := 5) rfl)) rfl (gd_cons (lf_X7_judgeBy_2 _ (List.mem_of_getElem? (i := 6) rfl)) rfl (gd_cons (lf_X7_judgeBy_2 _ (List.mem_of_getElem? (i := 7) rfl)) rfl (gd_cons (lf_X7_judgeBy_2 _ (List.mem_of_getElem? (i := 8) rfl)) rfl (gd_cons (lf_X7_judgeBy_1 _ (List.mem_of_getElem? (i := 12) rfl)) rfl (gd_cons (lf_X7_judgeBy_2 _ (List.mem_of_getElem? (i := 9) rfl)) rfl (gd_cons (lf_X7_judgeBy_1 _ (List.mem_of_getElem? (i := 18) rfl)) rfl (gd_cons (lf_X7_judgeBy_1 _ (List.mem_of_getElem? (i := 14) rfl)) rfl (gd_cons (lf_X7_judgeBy_2 _ (List.mem_of_getElem? (i := 10) rfl)) rfl (gd_cons (lf_X7_judgeBy_1 _ (List.mem_of_getElem? (i := 15) rfl)) rfl (gd_cons (lf_X7_judgeBy_2 _ (List.mem_of_getElem? (i := 11) rfl)) rfl (gd_cons (lf_X7_judgeBy_2 _ (List.mem_of_getElem? (i := 12) rfl)) rfl (gd_cons (lf_X7_judgeBy_2 _ (List.mem_of_getElem? (i := 13) rfl)) rfl (gd_cons (lf_X7_judgeBy_2 _ (List.mem_of_getElem? (i := 14) rfl)) rfl (gd_cons (lf_X7_judgeBy_2 _ (List.mem_of_getElem? (i := 15) rfl)) rfl (gd_cons (lf_X7_judgeBy_2 _ (List.mem_of_getElem? (i := 16) rfl)) rfl (gd_nil _))))))))))))))))))))))))) (goodIn_app (gd_cons (lf_X7_judgeBy_2 _ (List.mem_of_getElem? (i := 17) rfl)) rfl (gd_cons (lf_X7_judgeBy_2 _ (List.mem_of_getElem? (i := 18) rfl)) rfl (gd_cons (lf_X7_judgeBy_2 _ (List.mem_of_getElem? (i := 19) rfl)) rfl (gd_cons (lf_X7_judgeBy_2 _ (List.mem_of_getElem? (i := 20) rfl)) rfl (gd_cons (lf_X7_judgeBy_2 _ (List.mem_of_getElem? (i := 21) rfl)) rfl (gd_cons (lf_X7_judgeBy_2 _ (List.mem_of_getElem? (i := 22) rfl)) rfl (gd_cons (lf_X7_judgeBy_2 _ (List.mem_of_getElem? (i := 23) rfl)) rfl (gd_cons (lf_X7_judgeBy_3 _ (List.mem_of_getElem? (i := 0) rfl)) rfl (gd_cons (lf_X7_judgeBy_3 _ (List.mem_of_getElem? (i := 1) rfl)) rfl (gd_cons (lf_X7_judgeBy_3 _ (List.mem_of_getElem? (i := 2) rfl)) rfl (gd_cons (lf_X7_judgeBy_3 _ (List.mem_of_getElem? (i := 3) rfl)) rfl (gd_cons (lf_X7_judgeBy_3 _ (List.mem_of_getElem? (i := 4) rfl)) rfl (gd_cons (lf_X7_judgeBy_3 _ (List.mem_of_getElem? (i := 5) rfl)) rfl (gd_cons (lf_X7_judgeBy_3 _ (List.mem_of_getElem? (i := 6) rfl)) rfl (gd_cons (lf_X7_judgeBy_3 _ (List.mem_of_getElem? (i := 7) rfl)) rfl (gd_cons (lf_X7_judgeBy_3 _ (List.mem_of_getElem? (i := 8) rfl)) rfl (gd_cons (lf_X7_judgeBy_3 _ (List.mem_of_getElem? (i := 9) rfl)) rfl (gd_cons (lf_X7_judgeBy_3 _ (List.mem_of_getElem? (i := 10) rfl)) rfl (gd_cons (lf_X7_judgeBy_3 _ (List.mem_of_getElem? (i := 11) rfl)) rfl (gd_cons (lf_X7_judgeBy_3 _ (List.mem_of_getElem? (i := 12) rfl)) rfl (gd_cons (lf_X7_judgeBy_3 _ (List.mem_of_getElem? (i := 13) rfl)) rfl (gd_cons (lf_X7_judgeBy_3 _ (List.mem_of_getElem? (i := 14) rfl)) rfl (gd_cons (lf_X7_judgeBy_3 _ (List.mem_of_getElem? (i := 15) rfl)) rfl (gd_cons (lf_X7_judgeBy_3 _ (List.mem_of_getElem? (i := 16) rfl)) rfl (gd_nil _))))))))))))))))))))))))) (goodIn_app (gd_cons (lf_X7_judgeBy_3 _ (List.mem_of_getElem? (i := 17) rfl)) rfl (gd_cons (lf_X7_judgeBy_3 _ (List.mem_of_getElem? (i := 18) rfl)) rfl (gd_cons (lf_X7_judgeBy_3 _ (List.mem_of_getElem? (i := 19) rfl)) rfl (gd_cons (lf_X7_judgeBy_3 _ (List.mem_of_getElem? (i := 20) rfl)) rfl (gd_cons (lf_X7_judgeBy_3 _ (List.mem_of_getElem? (i := 21) rfl)) rfl (gd_cons (lf_X7_judgeBy_3 _ (List.mem_of_getElem? (i := 22) rfl)) rfl (gd_cons (lf_X7_judgeBy_3 _ (List.mem_of_getElem? (i := 23) rfl)) rfl (gd_cons (lf_X7_judgeBy_4 _ (List.mem_of_getElem? (i := 0) rfl)) rfl (gd_cons (lf_X7_judgeBy_4 _ (List.mem_of_getElem? (i := 1) rfl)) rfl (gd_cons (lf_X7_judgeBy_4 _ (List.mem_of_getElem? (i := 2) rfl)) rfl (gd_cons (lf_X7_judgeBy_4 _ (List.mem_of_getElem? (i := 3) rfl)) rfl (gd_cons (lf_X7_judgeBy_4 _ (List.mem_of_getElem? (i := 4) rfl)) rfl (gd_cons (lf_X7_judgeBy_4 _ (List.mem_of_getElem? (i := 5) rfl)) rfl (gd_cons (lf_X7_judgeBy_4 _ (List.mem_of_getElem? (i := 6) rfl)) rfl (gd_cons (lf_X7_judgeBy_4 _ (List.mem_of_getElem? (i := 7) rfl)) rfl (gd_cons (lf_X7_judgeBy_4 _ (List.mem_of_getElem? (i := 8) rfl)) rfl (gd_cons (lf_X7_judgeBy_4 _ (List.mem_of_getElem? (i := 9) rfl)) rfl (gd_cons (lf_X7_judgeBy_4 _ (List.mem_of_getElem? (i := 10) rfl)) rfl (gd_cons (lf_X7_judgeBy_4 _ (List.mem_of_getElem? (i := 11) rfl)) rfl (gd_cons (lf_X7_judgeBy_4 _ (List.mem_of_getElem? (i := 12) rfl)) rfl (gd_cons (lf_X7_judgeBy_4 _ (List.mem_of_getElem? (i := 13) rfl)) rfl (gd_cons (lf_X7_judgeBy_4 _ (List.mem_of_getElem? (i := 14) rfl)) rfl (gd_cons (lf_X7_judgeBy_4 _ (List.mem_of_getElem? (i := 15) rfl)) rfl (gd_cons (lf_X7_judgeBy_4 _ (List.mem_of_getElem? (i := 16) rfl)) rfl (gd_nil _))))))))))))))))))))))))) (goodIn_app (gd_cons (lf_X7_judgeBy_4 _ (List.mem_of_getElem? (i := 17) rfl)) rfl (gd_cons (lf_X7_judgeBy_4 _ (List.mem_of_getElem? (i := 18) rfl)) rfl (gd_cons (lf_X7_judgeBy_4 _ (List.mem_of_getElem? (i := 19) rfl)) rfl (gd_cons (lf_X7_judgeBy_4 _ (List.mem_of_getElem? (i := 20) rfl)) rfl (gd_cons (lf_X7_judgeBy_4 _ (List.mem_of_getElem? (i := 21) rfl)) rfl (gd_cons (lf_X7_judgeBy_4 _ (List.mem_of_getElem? (i := 22) rfl)) rfl (gd_cons (lf_X7_judgeBy_4 _ (List.mem_of_getElem? (i := 23) rfl)) rfl (gd_cons (lf_X7_judgeBy_5 _ (List.mem_of_getElem? (i := 0) rfl)) rfl (gd_cons (lf_X7_judgeBy_5 _ (List.mem_of_getElem? (i := 1) rfl)) rfl (gd_cons (lf_X7_judgeBy_1 _ (List.mem_of_getElem? (i := 17) rfl)) rfl (gd_cons (lf_X7_judgeBy_1 _ (List.mem_of_getElem? (i := 16) rfl)) rfl (gd_cons (lf_X7_judgeBy_1 _ (List.mem_of_getElem? (i := 19) rfl)) rfl (gd_cons (lf_X7_judgeBy_5 _ (List.mem_of_getElem? (i := 2) rfl)) rfl (gd_cons (lf_X7_judgeBy_5 _ (List.mem_of_getElem? (i := 3) rfl)) rfl (gd_cons (lf_X7_judgeBy_5 _ (List.mem_of_getElem? (i := 4) rfl)) rfl (gd_cons (lf_X7_judgeBy_5 _ (List.mem_of_getElem? (i := 5) rfl)) rfl (gd_cons (lf_X7_judgeBy_5 _ (List.mem_of_getElem? (i := 6) rfl)) rfl (gd_cons (lf_X7_judgeBy_5 _ (List.mem_of_getElem? (i := 7) rfl)) rfl (gd_cons (lf_X7_judgeBy_5 _ (List.mem_of_getElem? (i := 8) rfl)) rfl (gd_cons (lf_X7_judgeBy_5 _ (List.mem_of_getElem? (i := 9) rfl)) rfl (gd_cons (lf_X7_judgeBy_5 _ (List.mem_of_getElem? (i := 10) rfl)) rfl (gd_cons (lf_X7_judgeBy_5 _ (List.mem_of_getElem? (i := 11) rfl)) rfl (gd_cons (lf_X7_judgeBy_5 _ (List.mem_of_getElem? (i := 12) rfl)) rfl (gd_cons (lf_X7_judgeBy_5 _ (List.mem_of_getElem? (i := 13) rfl)) rfl (gd_nil _))))))))))))))))))))))))) (goodIn_app (gd_cons (lf_X7_judgeBy_5 _ (List.mem_of_getElem? (i := 14) rfl)) rfl (gd_cons (lf_X7_judgeBy_5 _ (List.mem_of_getElem? (i := 15) rfl)) rfl (gd_cons (lf_X7_judgeBy_5 _ (List.mem_of_getElem? (i := 16) rfl)) rfl (gd_cons (lf_X7_judgeBy_5 _ (List.mem_of_getElem? (i := 17) rfl)) rfl (gd_cons (lf_X7_judgeBy_5 _ (List.mem_of_getElem? (i := 18) rfl)) rfl (gd_cons (lf_X7_judgeBy_5 _ (List.mem_of_getElem? (i := 19) rfl)) rfl (gd_cons (lf_X7_judgeBy_5 _ (List.mem_of_getElem? (i := 20) rfl)) rfl (gd_cons (lf_X7_judgeBy_5 _ (List.mem_of_getElem? (i := 21) rfl)) rfl (gd_cons (lf_X7_judgeBy_5 _ (List.mem_of_getElem? (i := 22) rfl)) rfl (gd_cons (lf_X7_judgeBy_5 _ (List.mem_of_getElem? (i := 23) rfl)) rfl (gd_cons (lf_X7_judgeBy_6 _ (List.mem_of_getElem? (i := 0) rfl)) rfl (gd_cons (lf_X7_judgeBy_6 _ (List.mem_of_getElem? (i := 1) rfl)) rfl (gd_cons (lf_X7_judgeBy_6 _ (List.mem_of_getElem? (i := 2) rfl)) rfl (gd_cons (lf_X7_judgeBy_6 _ (List.mem_of_getElem? (i := 3) rfl)) rfl (gd_cons (lf_X7_judgeBy_6 _ (List.mem_of_getElem? (i := 4) rfl)) rfl (gd_cons (lf_X7_judgeBy_6 _ (List.mem_of_getElem? (i := 5) rfl)) rfl (gd_cons (lf_X7_judgeBy_6 _ (List.mem_of_getElem? (i := 6) rfl)) rfl (gd_cons (lf_X7_judgeBy_6 _ (List.mem_of_getElem? (i := 7) rfl)) rfl (gd_cons (lf_X7_judgeBy_6 _ (List.mem_of_getElem? (i := 8) rfl)) rfl (gd_cons (lf_X7_judgeBy_6 _ (List.mem_of_getElem? (i := 9) rfl)) rfl (gd_cons (lf_X7_judgeBy_6 _ (List.mem_of_getElem? (i := 10) rfl)) rfl (gd_cons (lf_X7_judgeBy_6 _ (List.mem_of_getElem? (i := 11) rfl)) rfl (gd_cons (lf_X7_judgeBy_6 _ (List.mem_of_getElem? (i := 12) rfl)) rfl (gd_cons (lf_X7_judgeBy_6 _ (List.mem_of_getElem? (i := 13) rfl)) rfl (gd_nil _))))))))))))))))))))))))) (gd_cons (lf_X7_judgeBy_6 _ (List.mem_of_getElem? (i := 14) rfl)) rfl (gd_cons (lf_X7_judgeBy_6 _ (List.mem_of_getElem? (i := 15) rfl)) rfl (gd_cons (lf_X7_judgeBy_6 _ (List.mem_of_getElem? (i := 16) rfl)) rfl (gd_cons (lf_X7_judgeBy_6 _ (List.mem_of_getElem? (i := 17) rfl)) rfl (gd_cons (lf_X7_judgeBy_6 _ (List.mem_of_getElem? (i := 18) rfl)) rfl (gd_cons (lf_X7_judgeBy_6 _ (List.mem_of_getElem? (i := 19) rfl)) rfl (gd_cons (lf_X7_judgeBy_6 _ (List.mem_of_getElem? (i := 20) rfl)) rfl (gd_cons (lf_X7_judgeBy_1 _ (List.mem_of_getElem? (i := 23) rfl)) rfl (gd_cons (lf_X7_judgeBy_6 _ (List.mem_of_getElem? (i := 21) rfl)) rfl (gd_cons (lf_X7_judgeBy_1 _ (List.mem_of_getElem? (i := 3) rfl)) rfl (gd_cons (lf_X7_judgeBy_1 _ (List.mem_of_getElem? (i := 2) rfl)) rfl (gd_cons (lf_X7_judgeBy_6 _ (List.mem_of_getElem? (i := 22) rfl)) rfl (gd_cons (lf_X7_judgeBy_6 _ (List.mem_of_getElem? (i := 23) rfl)) rfl (gd_cons (lf_X7_judgeBy_7 _ (List.mem_of_getElem? (i := 0) rfl)) rfl (gd_cons (lf_X7_judgeBy_7 _ (List.mem_of_getElem? (i := 1) rfl)) rfl (gd_cons (lf_X7_judgeBy_7 _ (List.mem_of_getElem? (i := 2) rfl)) rfl (gd_cons (lf_X7_judgeBy_7 _ (List.mem_of_getElem? (i := 3) rfl)) rfl (gd_cons (lf_X7_judgeBy_7 _ (List.mem_of_getElem? (i := 4) rfl)) rfl (gd_cons (lf_X7_judgeBy_7 _ (List.mem_of_getElem? (i := 5) rfl)) rfl (gd_cons (lf_X7_judgeBy_7 _ (List.mem_of_getElem? (i := 6) rfl)) rfl (gd_cons (lf_X7_judgeBy_7 _ (List.mem_of_getElem? (i := 7) rfl)) rfl (gd_cons (lf_X7_judgeBy_7 _ (List.mem_of_getElem? (i := 8) rfl)) rfl (gd_cons (lf_X7_judgeBy_7 _ (List.mem_of_getElem? (i := 9) rfl)) rfl (gd_nil _))))))))))))))))))))))))))))) (goodIn_sub lf_X7_judgeBy_8 ga_wsX70)) (goodIn_sub lf_X7_judgeBy_9 ga_wsX90)) (goodIn_sub lf_X7_judgeBy_10 ga_wsX40)))
set_option maxRecDepth 20000 in
theorem gX7_judgeBy_X7_judgeWeek : GoodIn wsX7_judgeBy (wsV RX7 48 RX7 yX7_judgeWeek wsX7_judgeWeek) := goodIn_app (gd_cons (lf_X7_judgeBy_1 _ (List.mem_of_getElem? (i := 20) rfl)) rfl (gd_cons (lf_X7_judgeBy_1 _ (List.mem_of_getElem? (i := 21) rfl)) rfl (gd_cons (lf_X7_judgeBy_1 _ (List.mem_of_getElem? (i := 22) rfl)) rfl (gd_cons (lf_X7_judgeBy_1 _ (List.mem_of_getElem? (i := 23) rfl)) rfl (gd_nil _))))) ggX7_judgeBy_X7_judgeWeek
theorem dX7_judgeBy_0 : decode cX7_judgeBy 0 = .ok (.aload_n 0, 1) := dq_42 (dst 0 rd_prog_9_method_3_code_0 rfl)
theorem dX7_judgeBy_1 : decode cX7_judgeBy 1 = .ok (.getfield 21, 3) := dq_180 (dst 1 rd_prog_9_method_3_code_0 rfl) rfl
theorem dX7_judgeBy_4 : decode cX7_judgeBy 4 = .ok (.invokevirtual 29, 3) := dq_182 (dst 4 rd_prog_9_method_3_code_0 rfl) rfl
theorem dX7_judgeBy_7 : decode cX7_judgeBy 7 = .ok (.aload_n 0, 1) := dq_42 (dst 7 rd_prog_9_method_3_code_0 rfl)
theorem dX7_judgeBy_8 : decode cX7_judgeBy 8 = .ok (.bipush (-9), 2) := dq_16 (dst 8 rd_prog_9_method_3_code_0 rfl) (by decide +kernel)
theorem dX7_judgeBy_10 : decode cX7_judgeBy 10 = .ok (.putfield 32, 3) := dq_181 (dst 10 rd_prog_9_method_3_code_0 rfl) rfl
theorem dX7_judgeBy_13 : decode cX7_judgeBy 13 = .ok (.aload_n 0, 1) := dq_42 (dst 13 rd_prog_9_method_3_code_0 rfl)
theorem dX7_judgeBy_14 : decode cX7_judgeBy 14 = .ok (.bipush (-9), 2) := dq_16 (dst 14 rd_prog_9_method_3_code_0 rfl) (by decide +kernel)
theorem dX7_judgeBy_16 : decode cX7_judgeBy 16 = .ok (.putfield 35, 3) := dq_181 (dst 16 rd_prog_9_method_3_code_0 rfl) rfl
theorem dX7_judgeBy_19 : decode cX7_judgeBy 19 = .ok (.aload_n 0, 1) := dq_42 (dst 19 rd_prog_9_method_3_code_0 rfl)
theorem dX7_judgeBy_20 : decode cX7_judgeBy 20 = .ok (.iconst 0, 1) := dq_3 (dst 20 rd_prog_9_method_3_code_0 rfl)
theorem dX7_judgeBy_21 : decode cX7_judgeBy 21 = .ok (.putfield 38, 3) := dq_181 (dst 21 rd_prog_9_method_3_code_0 rfl) rfl
theorem dX7_judgeBy_24 : decode cX7_judgeBy 24 = .ok (.aload_n 0, 1) := dq_42 (dst 24 rd_prog_9_method_3_code_0 rfl)
theorem dX7_judgeBy_25 : decode cX7_judgeBy 25 = .ok (.lconst 1, 1) := dq_10 (dst 25 rd_prog_9_method_3_code_0 rfl)
theorem dX7_judgeBy_26 : decode cX7_judgeBy 26 = .ok (.putfield 41, 3) := dq_181 (dst 26 rd_prog_9_method_3_code_0 rfl) rfl
theorem dX7_judgeBy_29 : decode cX7_judgeBy 29 = .ok (.aload_n 0, 1) := dq_42 (dst 29 rd_prog_9_method_3_code_0 rfl)
theorem dX7_judgeBy_30 : decode cX7_judgeBy 30 = .ok (.lconst 1, 1) := dq_10 (dst 30 rd_prog_9_method_3_code_0 rfl)
theorem dX7_judgeBy_31 : decode cX7_judgeBy 31 = .ok (.putfield 45, 3) := dq_181 (dst 31 rd_prog_9_method_3_code_0 rfl) rfl
theorem dX7_judgeBy_34 : decode cX7_judgeBy 34 = .ok (.iconst 0, 1) := dq_3 (dst 2 rd_prog_9_method_3_code_1 rfl)
theorem dX7_judgeBy_35 : decode cX7_judgeBy 35 = .ok (.istore_n 2, 1) := dq_61 (dst 3 rd_prog_9_method_3_code_1 rfl)
theorem dX7_judgeBy_36 : decode cX7_judgeBy 36 = .ok (.iload_n 2, 1) := dq_28 (dst 4 rd_prog_9_method_3_code_1 rfl)
theorem dX7_judgeBy_37 : decode cX7_judgeBy 37 = .ok (.aload_n 0, 1) := dq_42 (dst 5 rd_prog_9_method_3_code_1 rfl)
theorem dX7_judgeBy_38 : decode cX7_judgeBy 38 = .ok (.getfield 25, 3) := dq_180 (dst 6 rd_prog_9_method_3_code_1 rfl) rfl
theorem dX7_judgeBy_41 : decode cX7_judgeBy 41 = .ok (.if_icmp .ge 35, 3) := dq_162 (dst 9 rd_prog_9_method_3_code_1 rfl) (by decide +kernel)
theorem dX7_judgeBy_44 : decode cX7_judgeBy 44 = .ok (.aload_n 0, 1) := dq_42 (dst 12 rd_prog_9_method_3_code_1 rfl)
theorem dX7_judgeBy_45 : decode cX7_judgeBy 45 = .ok (.getfield 32, 3) := dq_180 (dst 13 rd_prog_9_method_3_code_1 rfl) rfl
theorem dX7_judgeBy_48 : decode cX7_judgeBy 48 = .ok (.bipush (-9), 2) := dq_16 (dst 16 rd_prog_9_method_3_code_1 rfl) (by decide +kernel)
theorem dX7_judgeBy_50 : decode cX7_judgeBy 50 = .ok (.if_icmp .ne 26, 3) := dq_160 (dst 18 rd_prog_9_method_3_code_1 rfl) (by decide +kernel)
theorem dX7_judgeBy_53 : decode cX7_judgeBy 53 = .ok (.aload_n 0, 1) := dq_42 (dst 21 rd_prog_9_method_3_code_1 rfl)
theorem dX7_judgeBy_54 : decode cX7_judgeBy 54 = .ok (.aload_n 1, 1) := dq_43 (dst 22 rd_prog_9_method_3_code_1 rfl)
theorem dX7_judgeBy_55 : decode cX7_judgeBy 55 = .ok (.aload_n 0, 1) := dq_42 (dst 23 rd_prog_9_method_3_code_1 rfl)
theorem dX7_judgeBy_56 : decode cX7_judgeBy 56 = .ok (.getfield 9, 3) := dq_180 (dst 24 rd_prog_9_method_3_code_1 rfl) rfl
theorem dX7_judgeBy_59 : decode cX7_judgeBy 59 = .ok (.iload_n 2, 1) := dq_28 (dst 27 rd_prog_9_method_3_code_1 rfl)
theorem dX7_judgeBy_60 : decode cX7_judgeBy 60 = .ok (.iaload, 1) := dq_46 (dst 28 rd_prog_9_method_3_code_1 rfl)
theorem dX7_judgeBy_61 : decode cX7_judgeBy 61 = .ok (.aload_n 0, 1) := dq_42 (dst 29 rd_prog_9_method_3_code_1 rfl)
theorem dX7_judgeBy_62 : decode cX7_judgeBy 62 = .ok (.getfield 15, 3) := dq_180 (dst 30 rd_prog_9_method_3_code_1 rfl) rfl
theorem dX7_judgeBy_65 : decode cX7_judgeBy 65 = .ok (.iload_n 2, 1) := dq_28 (dst 1 rd_prog_9_method_3_code_2 rfl)
theorem dX7_judgeBy_66 : decode cX7_judgeBy 66 = .ok (.iaload, 1) := dq_46 (dst 2 rd_prog_9_method_3_code_2 rfl)
theorem dX7_judgeBy_67 : decode cX7_judgeBy 67 = .ok (.invokevirtual 48, 3) := dq_182 (dst 3 rd_prog_9_method_3_code_2 rfl) rfl
theorem dX7_judgeBy_70 : decode cX7_judgeBy 70 = .ok (.iinc 2 1, 3) := dq_132 (dst 6 rd_prog_9_method_3_code_2 rfl) rfl (by decide +kernel)
theorem dX7_judgeBy_73 : decode cX7_judgeBy 73 = .ok (.goto (-37), 3) := dq_167 (dst 9 rd_prog_9_method_3_code_2 rfl) (by decide +kernel)
theorem dX7_judgeBy_76 : decode cX7_judgeBy 76 = .ok (.return_, 1) := dq_177 (dst 12 rd_prog_9_method_3_code_2 rfl)
theorem lf_X7_judgeWeek_1 : ∀ w ∈ wsX7_judgeWeek_r1, w ∈ wsX7_judgeWeek := fun _ h => (List.mem_cons_of_mem _ (List.mem_append_left _ (List.mem_append_left _ (List.mem_append_left _ (List.mem_append_left _ h)))))
theorem lf_X7_judgeWeek_2 : ∀ w ∈ wsX7_judgeWeek_r2, w ∈ wsX7_judgeWeek := fun _ h => (List.mem_cons_of_mem _ (List.mem_append_left _ (List.mem_append_left _ (List.mem_append_left _ (List.mem_append_right _ (List.mem_append_left _ h))))))
theorem lf_X7_judgeWeek_3 : ∀ w ∈ wsX7_judgeWeek_r3, w ∈ wsX7_judgeWeek := fun _ h => (List.mem_cons_of_mem _ (List.mem_append_left _ (List.mem_append_left _ (List.mem_append_left _ (List.mem_append_right _ (List.mem_append_right _ (List.mem_append_left _ h)))))))
theorem lf_X7_judgeWeek_4 : ∀ w ∈ wsX7_judgeWeek_r4, w ∈ wsX7_judgeWeek := fun _ h => (List.mem_cons_of_mem _ (List.mem_append_left _ (List.mem_append_left _ (List.mem_append_left _ (List.mem_append_right _ (List.mem_append_right _ (List.mem_append_right _ (List.mem_append_left _ h))))))))
theorem lf_X7_judgeWeek_5 : ∀ w ∈ wsX7_judgeWeek_r5, w ∈ wsX7_judgeWeek := fun _ h => (List.mem_cons_of_mem _ (List.mem_append_left _ (List.mem_append_left _ (List.mem_append_left _ (List.mem_append_right _ (List.mem_append_right _ (List.mem_append_right _ (List.mem_append_right _ (List.mem_append_left _ h)))))))))
theorem lf_X7_judgeWeek_6 : ∀ w ∈ wsX7_judgeWeek_r6, w ∈ wsX7_judgeWeek := fun _ h => (List.mem_cons_of_mem _ (List.mem_append_left _ (List.mem_append_left _ (List.mem_append_left _ (List.mem_append_right _ (List.mem_append_right _ (List.mem_append_right _ (List.mem_append_right _ (List.mem_append_right _ h)))))))))
theorem lf_X7_judgeWeek_7 : ∀ w ∈ wsX70, w ∈ wsX7_judgeWeek := fun _ h => (List.mem_cons_of_mem _ (List.mem_append_left _ (List.mem_append_left _ (List.mem_append_right _ h))))
theorem lf_X7_judgeWeek_8 : ∀ w ∈ wsX90, w ∈ wsX7_judgeWeek := fun _ h => (List.mem_cons_of_mem _ (List.mem_append_left _ (List.mem_append_right _ h)))
theorem lf_X7_judgeWeek_9 : ∀ w ∈ wsX40, w ∈ wsX7_judgeWeek := fun _ h => (List.mem_cons_of_mem _ (List.mem_append_right _ h))
set_option maxRecDepth 20000 in
theorem ggX7_judgeWeek_X9_mayAct : GoodIn wsX7_judgeWeek wsX9_mayAct := (gd_cons (lf_X7_judgeWeek_1 _ (List.mem_of_getElem? (i := 13) rfl)) rfl (goodIn_app (goodIn_app (goodIn_app (gd_cons (lf_X7_judgeWeek_1 _ (List.mem_of_getElem? (i := 14) rfl)) rfl (gd_cons (lf_X7_judgeWeek_1 _ (List.mem_of_getElem? (i := 15) rfl)) rfl (gd_cons (lf_X7_judgeWeek_1 _ (List.mem_of_getElem? (i := 16) rfl)) rfl (gd_cons (lf_X7_judgeWeek_1 _ (List.mem_of_getElem? (i := 17) rfl)) rfl (gd_cons (lf_X7_judgeWeek_1 _ (List.mem_of_getElem? (i := 18) rfl)) rfl (gd_cons (lf_X7_judgeWeek_1 _ (List.mem_of_getElem? (i := 19) rfl)) rfl (gd_cons (lf_X7_judgeWeek_1 _ (List.mem_of_getElem? (i := 20) rfl)) rfl (gd_cons (lf_X7_judgeWeek_1 _ (List.mem_of_getElem? (i := 21) rfl)) rfl (gd_cons (lf_X7_judgeWeek_1 _ (List.mem_of_getElem? (i := 22) rfl)) rfl (gd_cons (lf_X7_judgeWeek_1 _ (List.mem_of_getElem? (i := 23) rfl)) rfl (gd_cons (lf_X7_judgeWeek_2 _ (List.mem_of_getElem? (i := 0) rfl)) rfl (gd_cons (lf_X7_judgeWeek_2 _ (List.mem_of_getElem? (i := 1) rfl)) rfl (gd_cons (lf_X7_judgeWeek_2 _ (List.mem_of_getElem? (i := 2) rfl)) rfl (gd_cons (lf_X7_judgeWeek_2 _ (List.mem_of_getElem? (i := 3) rfl)) rfl (gd_cons (lf_X7_judgeWeek_2 _ (List.mem_of_getElem? (i := 4) rfl)) rfl (gd_cons (lf_X7_judgeWeek_2 _ (List.mem_of_getElem? (i := 5) rfl)) rfl (gd_cons (lf_X7_judgeWeek_2 _ (List.mem_of_getElem? (i := 6) rfl)) rfl (gd_cons (lf_X7_judgeWeek_2 _ (List.mem_of_getElem? (i := 7) rfl)) rfl (gd_cons (lf_X7_judgeWeek_2 _ (List.mem_of_getElem? (i := 8) rfl)) rfl (gd_cons (lf_X7_judgeWeek_2 _ (List.mem_of_getElem? (i := 9) rfl)) rfl (gd_cons (lf_X7_judgeWeek_2 _ (List.mem_of_getElem? (i := 10) rfl)) rfl (gd_cons (lf_X7_judgeWeek_2 _ (List.mem_of_getElem? (i := 11) rfl)) rfl (gd_cons (lf_X7_judgeWeek_2 _ (List.mem_of_getElem? (i := 12) rfl)) rfl (gd_cons (lf_X7_judgeWeek_2 _ (List.mem_of_getElem? (i := 13) rfl)) rfl (gd_nil _))))))))))))))))))))))))) (goodIn_app (gd_cons (lf_X7_judgeWeek_2 _ (List.mem_of_getElem? (i := 14) rfl)) rfl (gd_cons (lf_X7_judgeWeek_2 _ (List.mem_of_getElem? (i := 15) rfl)) rfl (gd_cons (lf_X7_judgeWeek_2 _ (List.mem_of_getElem? (i := 16) rfl)) rfl (gd_cons (lf_X7_judgeWeek_2 _ (List.mem_of_getElem? (i := 17) rfl)) rfl (gd_cons (lf_X7_judgeWeek_2 _ (List.mem_of_getElem? (i := 18) rfl)) rfl (gd_cons (lf_X7_judgeWeek_2 _ (List.mem_of_getElem? (i := 19) rfl)) rfl (gd_cons (lf_X7_judgeWeek_2 _ (List.mem_of_getElem? (i := 20) rfl)) rfl (gd_cons (lf_X7_judgeWeek_2 _ (List.mem_of_getElem? (i := 21) rfl)) rfl (gd_cons (lf_X7_judgeWeek_2 _ (List.mem_of_getElem? (i := 22) rfl)) rfl (gd_cons (lf_X7_judgeWeek_2 _ (List.mem_of_getElem? (i := 23) rfl)) rfl (gd_cons (lf_X7_judgeWeek_3 _ (List.mem_of_getElem? (i := 0) rfl)) rfl (gd_cons (lf_X7_judgeWeek_3 _ (List.mem_of_getElem? (i := 1) rfl)) rfl (gd_cons (lf_X7_judgeWeek_3 _ (List.mem_of_getElem? (i := 2) rfl)) rfl (gd_cons (lf_X7_judgeWeek_3 _ (List.mem_of_getElem? (i := 3) rfl)) rfl (gd_cons (lf_X7_judgeWeek_3 _ (List.mem_of_getElem? (i := 4) rfl)) rfl (gd_cons (lf_X7_judgeWeek_3 _ (List.mem_of_getElem? (i := 5) rfl)) rfl (gd_cons (lf_X7_judgeWeek_3 _ (List.mem_of_getElem? (i := 6) rfl)) rfl (gd_cons (lf_X7_judgeWeek_3 _ (List.mem_of_getElem? (i := 7) rfl)) rfl (gd_cons (lf_X7_judgeWeek_3 _ (List.mem_of_getElem? (i := 8) rfl)) rfl (gd_cons (lf_X7_judgeWeek_3 _ (List.mem_of_getElem? (i := 9) rfl)) rfl (gd_cons (lf_X7_judgeWeek_3 _ (List.mem_of_getElem? (i := 10) rfl)) rfl (gd_cons (lf_X7_judgeWeek_3 _ (List.mem_of_getElem? (i := 11) rfl)) rfl (gd_cons (lf_X7_judgeWeek_3 _ (List.mem_of_getElem? (i := 12) rfl)) rfl (gd_cons (lf_X7_judgeWeek_3 _ (List.mem_of_getElem? (i := 13) rfl)) rfl (gd_nil _))))))))))))))))))))))))) (gd_cons (lf_X7_judgeWeek_3 _ (List.mem_of_getElem? (i := 14) rfl)) rfl (gd_cons (lf_X7_judgeWeek_3 _ (List.mem_of_getElem? (i := 15) rfl)) rfl (gd_cons (lf_X7_judgeWeek_3 _ (List.mem_of_getElem? (i := 16) rfl)) rfl (gd_cons (lf_X7_judgeWeek_3 _ (List.mem_of_getElem? (i := 17) rfl)) rfl (gd_cons (lf_X7_judgeWeek_3 _ (List.mem_of_getElem? (i := 18) rfl)) rfl (gd_cons (lf_X7_judgeWeek_3 _ (List.mem_of_getElem? (i := 19) rfl)) rfl (gd_cons (lf_X7_judgeWeek_3 _ (List.mem_of_getElem? (i := 20) rfl)) rfl (gd_cons (lf_X7_judgeWeek_3 _ (List.mem_of_getElem? (i := 21) rfl)) rfl (gd_cons (lf_X7_judgeWeek_3 _ (List.mem_of_getElem? (i := 22) rfl)) rfl (gd_cons (lf_X7_judgeWeek_3 _ (List.mem_of_getElem? (i := 23) rfl)) rfl (gd_cons (lf_X7_judgeWeek_4 _ (List.mem_of_getElem? (i := 0) rfl)) rfl (gd_cons (lf_X7_judgeWeek_4 _ (List.mem_of_getElem? (i := 1) rfl)) rfl (gd_cons (lf_X7_judgeWeek_4 _ (List.mem_of_getElem? (i := 2) rfl)) rfl (gd_cons (lf_X7_judgeWeek_4 _ (List.mem_of_getElem? (i := 3) rfl)) rfl (gd_cons (lf_X7_judgeWeek_4 _ (List.mem_of_getElem? (i := 4) rfl)) rfl (gd_nil _)))))))))))))))))) (goodIn_sub lf_X7_judgeWeek_8 ga_wsX90)) (goodIn_sub lf_X7_judgeWeek_9 ga_wsX40)))
set_option maxRecDepth 20000 in
theorem gX7_judgeWeek_X9_mayAct : GoodIn wsX7_judgeWeek (wsV RX7 52 RX9 yX9_mayAct wsX9_mayAct) := goodIn_app (gd_cons (lf_X7_judgeWeek_1 _ (List.mem_of_getElem? (i := 9) rfl)) rfl (gd_cons (lf_X7_judgeWeek_1 _ (List.mem_of_getElem? (i := 10) rfl)) rfl (gd_cons (lf_X7_judgeWeek_1 _ (List.mem_of_getElem? (i := 11) rfl)) rfl (gd_cons (lf_X7_judgeWeek_1 _ (List.mem_of_getElem? (i := 12) rfl)) rfl (gd_nil _))))) ggX7_judgeWeek_X9_mayAct
set_option maxRecDepth 20000 in
theorem ggX7_judgeWeek_X9_passWeek : GoodIn wsX7_judgeWeek wsX9_passWeek := (gd_cons (lf_X7_judgeWeek_4 _ (List.mem_of_getElem? (i := 8) rfl)) rfl (goodIn_app (goodIn_app (goodIn_app (gd_cons (lf_X7_judgeWeek_1 _ (List.mem_of_getElem? (i := 17) rfl)) rfl (gd_cons (lf_X7_judgeWeek_4 _ (List.mem_of_getElem? (i := 9) rfl)) rfl (gd_cons (lf_X7_judgeWeek_1 _ (List.mem_of_getElem? (i := 14) rfl)) rfl (gd_cons (lf_X7_judgeWeek_1 _ (List.mem_of_getElem? (i := 15) rfl)) rfl (gd_cons (lf_X7_judgeWeek_4 _ (List.mem_of_getElem? (i := 10) rfl)) rfl (gd_cons (lf_X7_judgeWeek_4 _ (List.mem_of_getElem? (i := 11) rfl)) rfl (gd_cons (lf_X7_judgeWeek_4 _ (List.mem_of_getElem? (i := 12) rfl)) rfl (gd_cons (lf_X7_judgeWeek_4 _ (List.mem_of_getElem? (i := 13) rfl)) rfl (gd_cons (lf_X7_judgeWeek_2 _ (List.mem_of_getElem? (i := 1) rfl)) rfl (gd_cons (lf_X7_judgeWeek_4 _ (List.mem_of_getElem? (i := 14) rfl)) rfl (gd_cons (lf_X7_judgeWeek_4 _ (List.mem_of_getElem? (i := 15) rfl)) rfl (gd_cons (lf_X7_judgeWeek_2 _ (List.mem_of_getElem? (i := 0) rfl)) rfl (gd_cons (lf_X7_judgeWeek_2 _ (List.mem_of_getElem? (i := 2) rfl)) rfl (gd_cons (lf_X7_judgeWeek_4 _ (List.mem_of_getElem? (i := 16) rfl)) rfl (gd_cons (lf_X7_judgeWeek_2 _ (List.mem_of_getElem? (i := 13) rfl)) rfl (gd_cons (lf_X7_judgeWeek_2 _ (List.mem_of_getElem? (i := 10) rfl)) rfl (gd_cons (lf_X7_judgeWeek_2 _ (List.mem_of_getElem? (i := 14) rfl)) rfl (gd_cons (lf_X7_judgeWeek_2 _ (List.mem_of_getElem? (i := 15) rfl)) rfl (gd_cons (lf_X7_judgeWeek_2 _ (List.mem_of_getElem? (i := 16) rfl)) rfl (gd_cons (lf_X7_judgeWeek_2 _ (List.mem_of_getElem? (i := 17) rfl)) rfl (gd_cons (lf_X7_judgeWeek_2 _ (List.mem_of_getElem? (i := 18) rfl)) rfl (gd_cons (lf_X7_judgeWeek_4 _ (List.mem_of_getElem? (i := 17) rfl)) rfl (gd_cons (lf_X7_judgeWeek_2 _ (List.mem_of_getElem? (i := 20) rfl)) rfl (gd_cons (lf_X7_judgeWeek_2 _ (List.mem_of_getElem? (i := 21) rfl)) rfl (gd_nil _))))))))))))))))))))))))) (goodIn_app (gd_cons (lf_X7_judgeWeek_4 _ (List.mem_of_getElem? (i := 18) rfl)) rfl (gd_cons (lf_X7_judgeWeek_3 _ (List.mem_of_getElem? (i := 6) rfl)) rfl (gd_cons (lf_X7_judgeWeek_3 _ (List.mem_of_getElem? (i := 7) rfl)) rfl (gd_cons (lf_X7_judgeWeek_4 _ (List.mem_of_getElem? (i := 19) rfl)) rfl (gd_cons (lf_X7_judgeWeek_3 _ (List.mem_of_getElem? (i := 17) rfl)) rfl (gd_cons (lf_X7_judgeWeek_3 _ (List.mem_of_getElem? (i := 18) rfl)) rfl (gd_cons (lf_X7_judgeWeek_4 _ (List.mem_of_getElem? (i := 20) rfl)) rfl (gd_cons (lf_X7_judgeWeek_4 _ (List.mem_of_getElem? (i := 21) rfl)) rfl (gd_cons (lf_X7_judgeWeek_4 _ (List.mem_of_getElem? (i := 22) rfl)) rfl (gd_cons (lf_X7_judgeWeek_1 _ (List.mem_of_getElem? (i := 21) rfl)) rfl (gd_cons (lf_X7_judgeWeek_4 _ (List.mem_of_getElem? (i := 23) rfl)) rfl (gd_cons (lf_X7_judgeWeek_5 _ (List.mem_of_getElem? (i := 0) rfl)) rfl (gd_cons (lf_X7_judgeWeek_5 _ (List.mem_of_getElem? (i := 1) rfl)) rfl (gd_cons (lf_X7_judgeWeek_5 _ (List.mem_of_getElem? (i := 2) rfl)) rfl (gd_cons (lf_X7_judgeWeek_5 _ (List.mem_of_getElem? (i := 3) rfl)) rfl (gd_cons (lf_X7_judgeWeek_5 _ (List.mem_of_getElem? (i := 4) rfl)) rfl (gd_cons (lf_X7_judgeWeek_2 _ (List.mem_of_getElem? (i := 7) rfl)) rfl (gd_cons (lf_X7_judgeWeek_3 _ (List.mem_of_getElem? (i := 12) rfl)) rfl (gd_cons (lf_X7_judgeWeek_4 _ (List.mem_of_getElem? (i := 4) rfl)) rfl (gd_cons (lf_X7_judgeWeek_3 _ (List.mem_of_getElem? (i := 5) rfl)) rfl (gd_cons (lf_X7_judgeWeek_2 _ (List.mem_of_getElem? (i := 8) rfl)) rfl (gd_cons (lf_X7_judgeWeek_2 _ (List.mem_of_getElem? (i := 9) rfl)) rfl (gd_cons (lf_X7_judgeWeek_2 _ (List.mem_of_getElem? (i := 11) rfl)) rfl (gd_cons (lf_X7_judgeWeek_5 _ (List.mem_of_getElem? (i := 5) rfl)) rfl (gd_nil _))))))))))))))))))))))))) (gd_cons (lf_X7_judgeWeek_5 _ (List.mem_of_getElem? (i := 6) rfl)) rfl (gd_cons (lf_X7_judgeWeek_5 _ (List.mem_of_getElem? (i := 7) rfl)) rfl (gd_cons (lf_X7_judgeWeek_5 _ (List.mem_of_getElem? (i := 8) rfl)) rfl (gd_cons (lf_X7_judgeWeek_5 _ (List.mem_of_getElem? (i := 9) rfl)) rfl (gd_cons (lf_X7_judgeWeek_5 _ (List.mem_of_getElem? (i := 10) rfl)) rfl (gd_cons (lf_X7_judgeWeek_1 _ (List.mem_of_getElem? (i := 23) rfl)) rfl (gd_nil _))))))))) (goodIn_sub lf_X7_judgeWeek_8 ga_wsX90)) (goodIn_sub lf_X7_judgeWeek_9 ga_wsX40)))
set_option maxRecDepth 20000 in
theorem gX7_judgeWeek_X9_passWeek : GoodIn wsX7_judgeWeek (wsV RX7 59 RX9 yX9_passWeek wsX9_passWeek) := goodIn_app (gd_cons (lf_X7_judgeWeek_4 _ (List.mem_of_getElem? (i := 5) rfl)) rfl (gd_cons (lf_X7_judgeWeek_4 _ (List.mem_of_getElem? (i := 6) rfl)) rfl (gd_cons (lf_X7_judgeWeek_4 _ (List.mem_of_getElem? (i := 7) rfl)) rfl (gd_cons (lf_X7_judgeWeek_1 _ (List.mem_of_getElem? (i := 12) rfl)) rfl (gd_nil _))))) ggX7_judgeWeek_X9_passWeek
set_option maxRecDepth 20000 in
theorem ggX7_judgeWeek_X4_leaving : GoodIn wsX7_judgeWeek wsX4_leaving := (gd_cons (lf_X7_judgeWeek_5 _ (List.mem_of_getElem? (i := 14) rfl)) rfl (goodIn_app (gd_cons (lf_X7_judgeWeek_5 _ (List.mem_of_getElem? (i := 15) rfl)) rfl (gd_cons (lf_X7_judgeWeek_5 _ (List.mem_of_getElem? (i := 16) rfl)) rfl (gd_cons (lf_X7_judgeWeek_5 _ (List.mem_of_getElem? (i := 17) rfl)) rfl (gd_cons (lf_X7_judgeWeek_5 _ (List.mem_of_getElem? (i := 18) rfl)) rfl (gd_cons (lf_X7_judgeWeek_2 _ (List.mem_of_getElem? (i := 10) rfl)) rfl (gd_cons (lf_X7_judgeWeek_5 _ (List.mem_of_getElem? (i := 19) rfl)) rfl (gd_cons (lf_X7_judgeWeek_2 _ (List.mem_of_getElem? (i := 8) rfl)) rfl (gd_cons (lf_X7_judgeWeek_2 _ (List.mem_of_getElem? (i := 9) rfl)) rfl (gd_cons (lf_X7_judgeWeek_2 _ (List.mem_of_getElem? (i := 11) rfl)) rfl (gd_cons (lf_X7_judgeWeek_3 _ (List.mem_of_getElem? (i := 13) rfl)) rfl (gd_cons (lf_X7_judgeWeek_3 _ (List.mem_of_getElem? (i := 14) rfl)) rfl (gd_cons (lf_X7_judgeWeek_3 _ (List.mem_of_getElem? (i := 15) rfl)) rfl (gd_cons (lf_X7_judgeWeek_5 _ (List.mem_of_getElem? (i := 20) rfl)) rfl (gd_cons (lf_X7_judgeWeek_5 _ (List.mem_of_getElem? (i := 21) rfl)) rfl (gd_cons (lf_X7_judgeWeek_5 _ (List.mem_of_getElem? (i := 22) rfl)) rfl (gd_cons (lf_X7_judgeWeek_1 _ (List.mem_of_getElem? (i := 21) rfl)) rfl (gd_cons (lf_X7_judgeWeek_5 _ (List.mem_of_getElem? (i := 23) rfl)) rfl (gd_cons (lf_X7_judgeWeek_6 _ (List.mem_of_getElem? (i := 0) rfl)) rfl (gd_cons (lf_X7_judgeWeek_6 _ (List.mem_of_getElem? (i := 1) rfl)) rfl (gd_cons (lf_X7_judgeWeek_5 _ (List.mem_of_getElem? (i := 2) rfl)) rfl (gd_cons (lf_X7_judgeWeek_5 _ (List.mem_of_getElem? (i := 3) rfl)) rfl (gd_cons (lf_X7_judgeWeek_2 _ (List.mem_of_getElem? (i := 17) rfl)) rfl (gd_cons (lf_X7_judgeWeek_5 _ (List.mem_of_getElem? (i := 4) rfl)) rfl (gd_nil _)))))))))))))))))))))))) (goodIn_sub lf_X7_judgeWeek_9 ga_wsX40)))
set_option maxRecDepth 20000 in
theorem gX7_judgeWeek_X4_leaving : GoodIn wsX7_judgeWeek (wsV RX7 66 RX4 yX4_leaving wsX4_leaving) := goodIn_app (gd_cons (lf_X7_judgeWeek_5 _ (List.mem_of_getElem? (i := 11) rfl)) rfl (gd_cons (lf_X7_judgeWeek_5 _ (List.mem_of_getElem? (i := 12) rfl)) rfl (gd_cons (lf_X7_judgeWeek_5 _ (List.mem_of_getElem? (i := 13) rfl)) rfl (gd_cons (lf_X7_judgeWeek_1 _ (List.mem_of_getElem? (i := 21) rfl)) rfl (gd_nil _))))) ggX7_judgeWeek_X4_leaving
set_option maxRecDepth 20000 in
theorem ggX7_judgeWeek_X0_taught : GoodIn wsX7_judgeWeek wsX0_taught := (gd_cons (lf_X7_judgeWeek_3 _ (List.mem_of_getElem? (i := 7) rfl)) rfl (gd_nil _))
set_option maxRecDepth 20000 in
theorem gX7_judgeWeek_X0_taught : GoodIn wsX7_judgeWeek (va_wsS RX7 77 yX0_taught wsX0_taught) := goodIn_app (gd_cons (lf_X7_judgeWeek_6 _ (List.mem_of_getElem? (i := 2) rfl)) rfl (gd_cons (lf_X7_judgeWeek_3 _ (List.mem_of_getElem? (i := 6) rfl)) rfl (gd_cons (lf_X7_judgeWeek_2 _ (List.mem_of_getElem? (i := 1) rfl)) rfl (gd_nil _)))) ggX7_judgeWeek_X0_taught
set_option maxRecDepth 20000 in
theorem ggX7_judgeWeek_X4_lack : GoodIn wsX7_judgeWeek wsX4_lack := (gd_cons (lf_X7_judgeWeek_5 _ (List.mem_of_getElem? (i := 8) rfl)) rfl (goodIn_app (gd_cons (lf_X7_judgeWeek_5 _ (List.mem_of_getElem? (i := 9) rfl)) rfl (gd_cons (lf_X7_judgeWeek_5 _ (List.mem_of_getElem? (i := 10) rfl)) rfl (gd_nil _))) (goodIn_sub lf_X7_judgeWeek_9 ga_wsX40)))
set_option maxRecDepth 20000 in
theorem gX7_judgeWeek_X4_lack : GoodIn wsX7_judgeWeek (wsV RX7 83 RX4 yX4_lack wsX4_lack) := goodIn_app (gd_cons (lf_X7_judgeWeek_6 _ (List.mem_of_getElem? (i := 3) rfl)) rfl (gd_cons (lf_X7_judgeWeek_5 _ (List.mem_of_getElem? (i := 6) rfl)) rfl (gd_cons (lf_X7_judgeWeek_5 _ (List.mem_of_getElem? (i := 7) rfl)) rfl (gd_cons (lf_X7_judgeWeek_1 _ (List.mem_of_getElem? (i := 21) rfl)) rfl (gd_nil _))))) ggX7_judgeWeek_X4_lack
set_option maxRecDepth 20000 in
theorem ggX7_judgeWeek_X7_noteLoss : GoodIn wsX7_judgeWeek wsX7_noteLoss := (gd_cons (lf_X7_judgeWeek_6 _ (List.mem_of_getElem? (i := 8) rfl)) rfl (goodIn_app (gd_cons (lf_X7_judgeWeek_6 _ (List.mem_of_getElem? (i := 9) rfl)) rfl (gd_cons (lf_X7_judgeWeek_6 _ (List.mem_of_getElem? (i := 10) rfl)) rfl (gd_nil _))) (goodIn_sub lf_X7_judgeWeek_7 ga_wsX70)))
set_option maxRecDepth 20000 in
theorem gX7_judgeWeek_X7_noteLoss : GoodIn wsX7_judgeWeek (wsV RX7 90 RX7 yX7_noteLoss wsX7_noteLoss) := goodIn_app (gd_cons (lf_X7_judgeWeek_6 _ (List.mem_of_getElem? (i := 4) rfl)) rfl (gd_cons (lf_X7_judgeWeek_6 _ (List.mem_of_getElem? (i := 5) rfl)) rfl (gd_cons (lf_X7_judgeWeek_6 _ (List.mem_of_getElem? (i := 6) rfl)) rfl (gd_cons (lf_X7_judgeWeek_6 _ (List.mem_of_getElem? (i := 7) rfl)) rfl (gd_nil _))))) ggX7_judgeWeek_X7_noteLoss
set_option maxRecDepth 20000 in
theorem ggX7_judgeWeek_X9_passSunday : GoodIn wsX7_judgeWeek wsX9_passSunday := (gd_cons (lf_X7_judgeWeek_6 _ (List.mem_of_getElem? (i := 14) rfl)) rfl (goodIn_app (goodIn_app (gd_cons (lf_X7_judgeWeek_1 _ (List.mem_of_getElem? (i := 17) rfl)) rfl (gd_cons (lf_X7_judgeWeek_4 _ (List.mem_of_getElem? (i := 9) rfl)) rfl (gd_cons (lf_X7_judgeWeek_4 _ (List.mem_of_getElem? (i := 10) rfl)) rfl (gd_cons (lf_X7_judgeWeek_1 _ (List.mem_of_getElem? (i := 14) rfl)) rfl (gd_cons (lf_X7_judgeWeek_1 _ (List.mem_of_getElem? (i := 15) rfl)) rfl (gd_cons (lf_X7_judgeWeek_1 _ (List.mem_of_getElem? (i := 16) rfl)) rfl (gd_cons (lf_X7_judgeWeek_4 _ (List.mem_of_getElem? (i := 11) rfl)) rfl (gd_cons (lf_X7_judgeWeek_6 _ (List.mem_of_getElem? (i := 15) rfl)) rfl (gd_cons (lf_X7_judgeWeek_6 _ (List.mem_of_getElem? (i := 16) rfl)) rfl (gd_cons (lf_X7_judgeWeek_2 _ (List.mem_of_getElem? (i := 10) rfl)) rfl (gd_cons (lf_X7_judgeWeek_6 _ (List.mem_of_getElem? (i := 17) rfl)) rfl (gd_cons (lf_X7_judgeWeek_6 _ (List.mem_of_getElem? (i := 18) rfl)) rfl (gd_cons (lf_X7_judgeWeek_6 _ (List.mem_of_getElem? (i := 19) rfl)) rfl (gd_cons (lf_X7_judgeWeek_6 _ (List.mem_of_getElem? (i := 20) rfl)) rfl (gd_cons (lf_X7_judgeWeek_1 _ (List.mem_of_getElem? (i := 21) rfl)) rfl (gd_cons (lf_X7_judgeWeek_6 _ (List.mem_of_getElem? (i := 21) rfl)) rfl (gd_cons (lf_X7_judgeWeek_6 _ (List.mem_of_getElem? (i := 22) rfl)) rfl (gd_cons (lf_X7_judgeWeek_2 _ (List.mem_of_getElem? (i := 8) rfl)) rfl (gd_cons (lf_X7_judgeWeek_2 _ (List.mem_of_getElem? (i := 9) rfl)) rfl (gd_cons (lf_X7_judgeWeek_2 _ (List.mem_of_getElem? (i := 11) rfl)) rfl (gd_nil _))))))))))))))))))))) (goodIn_sub lf_X7_judgeWeek_8 ga_wsX90)) (goodIn_sub lf_X7_judgeWeek_9 ga_wsX40)))
set_option maxRecDepth 20000 in
theorem gX7_judgeWeek_X9_passSunday : GoodIn wsX7_judgeWeek (wsV RX7 94 RX9 yX9_passSunday wsX9_passSunday) := goodIn_app (gd_cons (lf_X7_judgeWeek_6 _ (List.mem_of_getElem? (i := 11) rfl)) rfl (gd_cons (lf_X7_judgeWeek_6 _ (List.mem_of_getElem? (i := 12) rfl)) rfl (gd_cons (lf_X7_judgeWeek_6 _ (List.mem_of_getElem? (i := 13) rfl)) rfl (gd_cons (lf_X7_judgeWeek_1 _ (List.mem_of_getElem? (i := 12) rfl)) rfl (gd_nil _))))) ggX7_judgeWeek_X9_passSunday
theorem dX7_judgeWeek_0 : decode cX7_judgeWeek 0 = .ok (.aload_n 0, 1) := dq_42 (dst 0 rd_prog_9_method_4_code_0 rfl)
theorem dX7_judgeWeek_1 : decode cX7_judgeWeek 1 = .ok (.getfield 21, 3) := dq_180 (dst 1 rd_prog_9_method_4_code_0 rfl) rfl
theorem dX7_judgeWeek_4 : decode cX7_judgeWeek 4 = .ok (.aload_n 1, 1) := dq_43 (dst 4 rd_prog_9_method_4_code_0 rfl)
theorem dX7_judgeWeek_5 : decode cX7_judgeWeek 5 = .ok (.iload_n 2, 1) := dq_28 (dst 5 rd_prog_9_method_4_code_0 rfl)
theorem dX7_judgeWeek_6 : decode cX7_judgeWeek 6 = .ok (.invokevirtual 52, 3) := dq_182 (dst 6 rd_prog_9_method_4_code_0 rfl) rfl
theorem dX7_judgeWeek_9 : decode cX7_judgeWeek 9 = .ok (.ifCond .ne 15, 3) := dq_154 (dst 9 rd_prog_9_method_4_code_0 rfl) (by decide +kernel)
theorem dX7_judgeWeek_12 : decode cX7_judgeWeek 12 = .ok (.aload_n 0, 1) := dq_42 (dst 12 rd_prog_9_method_4_code_0 rfl)
theorem dX7_judgeWeek_13 : decode cX7_judgeWeek 13 = .ok (.aload_n 0, 1) := dq_42 (dst 13 rd_prog_9_method_4_code_0 rfl)
theorem dX7_judgeWeek_14 : decode cX7_judgeWeek 14 = .ok (.getfield 21, 3) := dq_180 (dst 14 rd_prog_9_method_4_code_0 rfl) rfl
theorem dX7_judgeWeek_17 : decode cX7_judgeWeek 17 = .ok (.getfield 56, 3) := dq_180 (dst 17 rd_prog_9_method_4_code_0 rfl) rfl
theorem dX7_judgeWeek_20 : decode cX7_judgeWeek 20 = .ok (.putfield 32, 3) := dq_181 (dst 20 rd_prog_9_method_4_code_0 rfl) rfl
theorem dX7_judgeWeek_23 : decode cX7_judgeWeek 23 = .ok (.return_, 1) := dq_177 (dst 23 rd_prog_9_method_4_code_0 rfl)
theorem dX7_judgeWeek_24 : decode cX7_judgeWeek 24 = .ok (.aload_n 0, 1) := dq_42 (dst 24 rd_prog_9_method_4_code_0 rfl)
theorem dX7_judgeWeek_25 : decode cX7_judgeWeek 25 = .ok (.getfield 21, 3) := dq_180 (dst 25 rd_prog_9_method_4_code_0 rfl) rfl
theorem dX7_judgeWeek_28 : decode cX7_judgeWeek 28 = .ok (.aload_n 1, 1) := dq_43 (dst 28 rd_prog_9_method_4_code_0 rfl)
theorem dX7_judgeWeek_29 : decode cX7_judgeWeek 29 = .ok (.iload_n 2, 1) := dq_28 (dst 29 rd_prog_9_method_4_code_0 rfl)
theorem dX7_judgeWeek_30 : decode cX7_judgeWeek 30 = .ok (.invokevirtual 59, 3) := dq_182 (dst 30 rd_prog_9_method_4_code_0 rfl) rfl
theorem dX7_judgeWeek_33 : decode cX7_judgeWeek 33 = .ok (.pop, 1) := dq_87 (dst 1 rd_prog_9_method_4_code_1 rfl)
theorem dX7_judgeWeek_34 : decode cX7_judgeWeek 34 = .ok (.aload_n 1, 1) := dq_43 (dst 2 rd_prog_9_method_4_code_1 rfl)
theorem dX7_judgeWeek_35 : decode cX7_judgeWeek 35 = .ok (.aload_n 0, 1) := dq_42 (dst 3 rd_prog_9_method_4_code_1 rfl)
theorem dX7_judgeWeek_36 : decode cX7_judgeWeek 36 = .ok (.getfield 21, 3) := dq_180 (dst 4 rd_prog_9_method_4_code_1 rfl) rfl
theorem dX7_judgeWeek_39 : decode cX7_judgeWeek 39 = .ok (.getfield 63, 3) := dq_180 (dst 7 rd_prog_9_method_4_code_1 rfl) rfl
theorem dX7_judgeWeek_42 : decode cX7_judgeWeek 42 = .ok (.iload_n 3, 1) := dq_29 (dst 10 rd_prog_9_method_4_code_1 rfl)
theorem dX7_judgeWeek_43 : decode cX7_judgeWeek 43 = .ok (.invokevirtual 66, 3) := dq_182 (dst 11 rd_prog_9_method_4_code_1 rfl) rfl
theorem dX7_judgeWeek_46 : decode cX7_judgeWeek 46 = .ok (.istore 4, 2) := dq_54 (dst 14 rd_prog_9_method_4_code_1 rfl) rfl
theorem dX7_judgeWeek_48 : decode cX7_judgeWeek 48 = .ok (.iload 4, 2) := dq_21 (dst 16 rd_prog_9_method_4_code_1 rfl) rfl
theorem dX7_judgeWeek_50 : decode cX7_judgeWeek 50 = .ok (.ifCond .ne 15, 3) := dq_154 (dst 18 rd_prog_9_method_4_code_1 rfl) (by decide +kernel)
theorem dX7_judgeWeek_53 : decode cX7_judgeWeek 53 = .ok (.aload_n 0, 1) := dq_42 (dst 21 rd_prog_9_method_4_code_1 rfl)
theorem dX7_judgeWeek_54 : decode cX7_judgeWeek 54 = .ok (.aload_n 0, 1) := dq_42 (dst 22 rd_prog_9_method_4_code_1 rfl)
theorem dX7_judgeWeek_55 : decode cX7_judgeWeek 55 = .ok (.getfield 21, 3) := dq_180 (dst 23 rd_prog_9_method_4_code_1 rfl) rfl
theorem dX7_judgeWeek_58 : decode cX7_judgeWeek 58 = .ok (.getfield 56, 3) := dq_180 (dst 26 rd_prog_9_method_4_code_1 rfl) rfl
theorem dX7_judgeWeek_61 : decode cX7_judgeWeek 61 = .ok (.putfield 32, 3) := dq_181 (dst 29 rd_prog_9_method_4_code_1 rfl) rfl
theorem dX7_judgeWeek_64 : decode cX7_judgeWeek 64 = .ok (.return_, 1) := dq_177 (dst 0 rd_prog_9_method_4_code_2 rfl)
theorem dX7_judgeWeek_65 : decode cX7_judgeWeek 65 = .ok (.aload_n 0, 1) := dq_42 (dst 1 rd_prog_9_method_4_code_2 rfl)
theorem dX7_judgeWeek_66 : decode cX7_judgeWeek 66 = .ok (.dup, 1) := dq_89 (dst 2 rd_prog_9_method_4_code_2 rfl)
theorem dX7_judgeWeek_67 : decode cX7_judgeWeek 67 = .ok (.getfield 41, 3) := dq_180 (dst 3 rd_prog_9_method_4_code_2 rfl) rfl
theorem dX7_judgeWeek_70 : decode cX7_judgeWeek 70 = .ok (.iload 4, 2) := dq_21 (dst 6 rd_prog_9_method_4_code_2 rfl) rfl
theorem dX7_judgeWeek_72 : decode cX7_judgeWeek 72 = .ok (.i2l, 1) := dq_133 (dst 8 rd_prog_9_method_4_code_2 rfl)
theorem dX7_judgeWeek_73 : decode cX7_judgeWeek 73 = .ok (.lmul, 1) := dq_105 (dst 9 rd_prog_9_method_4_code_2 rfl)
theorem dX7_judgeWeek_74 : decode cX7_judgeWeek 74 = .ok (.putfield 41, 3) := dq_181 (dst 10 rd_prog_9_method_4_code_2 rfl) rfl
theorem dX7_judgeWeek_77 : decode cX7_judgeWeek 77 = .ok (.aload_n 0, 1) := dq_42 (dst 13 rd_prog_9_method_4_code_2 rfl)
theorem dX7_judgeWeek_78 : decode cX7_judgeWeek 78 = .ok (.dup, 1) := dq_89 (dst 14 rd_prog_9_method_4_code_2 rfl)
theorem dX7_judgeWeek_79 : decode cX7_judgeWeek 79 = .ok (.getfield 45, 3) := dq_180 (dst 15 rd_prog_9_method_4_code_2 rfl) rfl
theorem dX7_judgeWeek_82 : decode cX7_judgeWeek 82 = .ok (.ldc2_w 72, 3) := dq_20 (dst 18 rd_prog_9_method_4_code_2 rfl) rfl
theorem dX7_judgeWeek_85 : decode cX7_judgeWeek 85 = .ok (.lmul, 1) := dq_105 (dst 21 rd_prog_9_method_4_code_2 rfl)
theorem dX7_judgeWeek_86 : decode cX7_judgeWeek 86 = .ok (.putfield 45, 3) := dq_181 (dst 22 rd_prog_9_method_4_code_2 rfl) rfl
theorem dX7_judgeWeek_89 : decode cX7_judgeWeek 89 = .ok (.aload_n 1, 1) := dq_43 (dst 25 rd_prog_9_method_4_code_2 rfl)
theorem dX7_judgeWeek_90 : decode cX7_judgeWeek 90 = .ok (.aload_n 0, 1) := dq_42 (dst 26 rd_prog_9_method_4_code_2 rfl)
theorem dX7_judgeWeek_91 : decode cX7_judgeWeek 91 = .ok (.getfield 21, 3) := dq_180 (dst 27 rd_prog_9_method_4_code_2 rfl) rfl
theorem dX7_judgeWeek_94 : decode cX7_judgeWeek 94 = .ok (.getfield 56, 3) := dq_180 (dst 30 rd_prog_9_method_4_code_2 rfl) rfl
theorem dX7_judgeWeek_97 : decode cX7_judgeWeek 97 = .ok (.aload_n 0, 1) := dq_42 (dst 1 rd_prog_9_method_4_code_3 rfl)
theorem dX7_judgeWeek_98 : decode cX7_judgeWeek 98 = .ok (.getfield 21, 3) := dq_180 (dst 2 rd_prog_9_method_4_code_3 rfl) rfl
theorem dX7_judgeWeek_101 : decode cX7_judgeWeek 101 = .ok (.getfield 63, 3) := dq_180 (dst 5 rd_prog_9_method_4_code_3 rfl) rfl
theorem dX7_judgeWeek_104 : decode cX7_judgeWeek 104 = .ok (.aload_n 0, 1) := dq_42 (dst 8 rd_prog_9_method_4_code_3 rfl)
theorem dX7_judgeWeek_105 : decode cX7_judgeWeek 105 = .ok (.getfield 21, 3) := dq_180 (dst 9 rd_prog_9_method_4_code_3 rfl) rfl
theorem dX7_judgeWeek_108 : decode cX7_judgeWeek 108 = .ok (.getfield 74, 3) := dq_180 (dst 12 rd_prog_9_method_4_code_3 rfl) rfl
theorem dX7_judgeWeek_111 : decode cX7_judgeWeek 111 = .ok (.iload_n 2, 1) := dq_28 (dst 15 rd_prog_9_method_4_code_3 rfl)
theorem dX7_judgeWeek_112 : decode cX7_judgeWeek 112 = .ok (.invokestatic 77, 3) := dq_184 (dst 16 rd_prog_9_method_4_code_3 rfl) rfl
theorem dX7_judgeWeek_115 : decode cX7_judgeWeek 115 = .ok (.invokevirtual 83, 3) := dq_182 (dst 19 rd_prog_9_method_4_code_3 rfl) rfl
theorem dX7_judgeWeek_118 : decode cX7_judgeWeek 118 = .ok (.istore 5, 2) := dq_54 (dst 22 rd_prog_9_method_4_code_3 rfl) rfl
theorem dX7_judgeWeek_120 : decode cX7_judgeWeek 120 = .ok (.aload_n 0, 1) := dq_42 (dst 24 rd_prog_9_method_4_code_3 rfl)
theorem dX7_judgeWeek_121 : decode cX7_judgeWeek 121 = .ok (.aload_n 0, 1) := dq_42 (dst 25 rd_prog_9_method_4_code_3 rfl)
theorem dX7_judgeWeek_122 : decode cX7_judgeWeek 122 = .ok (.getfield 21, 3) := dq_180 (dst 26 rd_prog_9_method_4_code_3 rfl) rfl
theorem dX7_judgeWeek_125 : decode cX7_judgeWeek 125 = .ok (.getfield 56, 3) := dq_180 (dst 29 rd_prog_9_method_4_code_3 rfl) rfl
theorem dX7_judgeWeek_128 : decode cX7_judgeWeek 128 = .ok (.aload_n 1, 1) := dq_43 (dst 0 rd_prog_9_method_4_code_4 rfl)
theorem dX7_judgeWeek_129 : decode cX7_judgeWeek 129 = .ok (.getfield 87, 3) := dq_180 (dst 1 rd_prog_9_method_4_code_4 rfl) rfl
theorem dX7_judgeWeek_132 : decode cX7_judgeWeek 132 = .ok (.iload 5, 2) := dq_21 (dst 4 rd_prog_9_method_4_code_4 rfl) rfl
theorem dX7_judgeWeek_134 : decode cX7_judgeWeek 134 = .ok (.imul, 1) := dq_104 (dst 6 rd_prog_9_method_4_code_4 rfl)
theorem dX7_judgeWeek_135 : decode cX7_judgeWeek 135 = .ok (.invokevirtual 90, 3) := dq_182 (dst 7 rd_prog_9_method_4_code_4 rfl) rfl
theorem dX7_judgeWeek_138 : decode cX7_judgeWeek 138 = .ok (.aload_n 0, 1) := dq_42 (dst 10 rd_prog_9_method_4_code_4 rfl)
theorem dX7_judgeWeek_139 : decode cX7_judgeWeek 139 = .ok (.getfield 21, 3) := dq_180 (dst 11 rd_prog_9_method_4_code_4 rfl) rfl
theorem dX7_judgeWeek_142 : decode cX7_judgeWeek 142 = .ok (.aload_n 1, 1) := dq_43 (dst 14 rd_prog_9_method_4_code_4 rfl)
theorem dX7_judgeWeek_143 : decode cX7_judgeWeek 143 = .ok (.iload_n 3, 1) := dq_29 (dst 15 rd_prog_9_method_4_code_4 rfl)
theorem dX7_judgeWeek_144 : decode cX7_judgeWeek 144 = .ok (.invokevirtual 94, 3) := dq_182 (dst 16 rd_prog_9_method_4_code_4 rfl) rfl
theorem dX7_judgeWeek_147 : decode cX7_judgeWeek 147 = .ok (.return_, 1) := dq_177 (dst 19 rd_prog_9_method_4_code_4 rfl)
theorem dX7_noteLoss_0 : decode cX7_noteLoss 0 = .ok (.iload_n 2, 1) := dq_28 (dst 0 rd_prog_9_method_5_code_0 rfl)
theorem dX7_noteLoss_1 : decode cX7_noteLoss 1 = .ok (.aload_n 0, 1) := dq_42 (dst 1 rd_prog_9_method_5_code_0 rfl)
theorem dX7_noteLoss_2 : decode cX7_noteLoss 2 = .ok (.getfield 38, 3) := dq_180 (dst 2 rd_prog_9_method_5_code_0 rfl) rfl
theorem dX7_noteLoss_5 : decode cX7_noteLoss 5 = .ok (.if_icmp .le 13, 3) := dq_164 (dst 5 rd_prog_9_method_5_code_0 rfl) (by decide +kernel)
theorem dX7_noteLoss_8 : decode cX7_noteLoss 8 = .ok (.aload_n 0, 1) := dq_42 (dst 8 rd_prog_9_method_5_code_0 rfl)
theorem dX7_noteLoss_9 : decode cX7_noteLoss 9 = .ok (.iload_n 2, 1) := dq_28 (dst 9 rd_prog_9_method_5_code_0 rfl)
theorem dX7_noteLoss_10 : decode cX7_noteLoss 10 = .ok (.putfield 38, 3) := dq_181 (dst 10 rd_prog_9_method_5_code_0 rfl) rfl
theorem dX7_noteLoss_13 : decode cX7_noteLoss 13 = .ok (.aload_n 0, 1) := dq_42 (dst 13 rd_prog_9_method_5_code_0 rfl)
theorem dX7_noteLoss_14 : decode cX7_noteLoss 14 = .ok (.iload_n 1, 1) := dq_27 (dst 14 rd_prog_9_method_5_code_0 rfl)
theorem dX7_noteLoss_15 : decode cX7_noteLoss 15 = .ok (.putfield 35, 3) := dq_181 (dst 15 rd_prog_9_method_5_code_0 rfl) rfl
theorem dX7_noteLoss_18 : decode cX7_noteLoss 18 = .ok (.return_, 1) := dq_177 (dst 18 rd_prog_9_method_5_code_0 rfl)
theorem lf_X8_init_1 : ∀ w ∈ ([Cond.methodLink RX8 3 objectInit, Cond.instanceMethod objectInit, Cond.code objectInit ⟨#[0xb1]⟩ 1 none, Cond.arrayClass .int, Cond.fieldLink RX8 9 "StillInAugust$RuleReader" "exceptLevel" "[I", Cond.classLink RX8 15 RX2, Cond.instantiable RX2 3, Cond.initialized RX2, Cond.fieldLink RX8 20 "StillInAugust$RuleReader" "cursor" "LStillInAugust$Cursor;", Cond.methodLink RX8 17 yX2_init, Cond.instanceMethod yX2_init, Cond.code yX2_init cX2_init 2 none, Cond.methodLink RX2 3 objectInit, Cond.fieldLink RX2 9 "StillInAugust$Cursor" "text" "LStillInAugust$Text;"] : List Cond), w ∈ wsX8_init := fun _ h => (List.mem_cons_of_mem _ (List.mem_append_left _ (List.mem_append_left _ h)))
theorem lf_X8_init_2 : ∀ w ∈ wsX80, w ∈ wsX8_init := fun _ h => (List.mem_cons_of_mem _ (List.mem_append_left _ (List.mem_append_right _ h)))
theorem lf_X8_init_3 : ∀ w ∈ wsX20, w ∈ wsX8_init := fun _ h => (List.mem_cons_of_mem _ (List.mem_append_right _ h))
set_option maxRecDepth 20000 in
theorem ggX8_init_X2_init : GoodIn wsX8_init wsX2_init := (gd_cons (lf_X8_init_1 _ (List.mem_of_getElem? (i := 11) rfl)) rfl (goodIn_app (gd_cons (lf_X8_init_1 _ (List.mem_of_getElem? (i := 12) rfl)) rfl (gd_cons (lf_X8_init_1 _ (List.mem_of_getElem? (i := 1) rfl)) rfl (gd_cons (lf_X8_init_1 _ (List.mem_of_getElem? (i := 2) rfl)) rfl (gd_cons (lf_X8_init_1 _ (List.mem_of_getElem? (i := 13) rfl)) rfl (gd_nil _))))) (goodIn_sub lf_X8_init_3 ga_wsX20)))
set_option maxRecDepth 20000 in
theorem gX8_init_X2_init : GoodIn wsX8_init (wsX2_init) := ggX8_init_X2_init
theorem dX8_init_0 : decode cX8_init 0 = .ok (.aload_n 0, 1) := dq_42 (dst 0 rd_prog_10_method_1_code_0 rfl)
theorem dX8_init_1 : decode cX8_init 1 = .ok (.invokespecial 3, 3) := dq_183 (dst 1 rd_prog_10_method_1_code_0 rfl) rfl
theorem dX8_init_4 : decode cX8_init 4 = .ok (.aload_n 0, 1) := dq_42 (dst 4 rd_prog_10_method_1_code_0 rfl)
theorem dX8_init_5 : decode cX8_init 5 = .ok (.iconst 5, 1) := dq_8 (dst 5 rd_prog_10_method_1_code_0 rfl)
theorem dX8_init_6 : decode cX8_init 6 = .ok (.newarray .int, 2) := dq_188_10 (dst 6 rd_prog_10_method_1_code_0 rfl)
theorem dX8_init_8 : decode cX8_init 8 = .ok (.putfield 9, 3) := dq_181 (dst 8 rd_prog_10_method_1_code_0 rfl) rfl
theorem dX8_init_11 : decode cX8_init 11 = .ok (.aload_n 0, 1) := dq_42 (dst 11 rd_prog_10_method_1_code_0 rfl)
theorem dX8_init_12 : decode cX8_init 12 = .ok (.new 15, 3) := dq_187 (dst 12 rd_prog_10_method_1_code_0 rfl) rfl
theorem dX8_init_15 : decode cX8_init 15 = .ok (.dup, 1) := dq_89 (dst 15 rd_prog_10_method_1_code_0 rfl)
theorem dX8_init_16 : decode cX8_init 16 = .ok (.aload_n 1, 1) := dq_43 (dst 16 rd_prog_10_method_1_code_0 rfl)
theorem dX8_init_17 : decode cX8_init 17 = .ok (.invokespecial 17, 3) := dq_183 (dst 17 rd_prog_10_method_1_code_0 rfl) rfl
theorem dX8_init_20 : decode cX8_init 20 = .ok (.putfield 20, 3) := dq_181 (dst 20 rd_prog_10_method_1_code_0 rfl) rfl
theorem dX8_init_23 : decode cX8_init 23 = .ok (.return_, 1) := dq_177 (dst 23 rd_prog_10_method_1_code_0 rfl)
theorem lf_X8_read_1 : ∀ w ∈ wsX8_read_r1, w ∈ wsX8_read := fun _ h => (List.mem_cons_of_mem _ (List.mem_append_left _ (List.mem_append_left _ (List.mem_append_left _ (List.mem_append_left _ h)))))
theorem lf_X8_read_2 : ∀ w ∈ wsX8_read_r2, w ∈ wsX8_read := fun _ h => (List.mem_cons_of_mem _ (List.mem_append_left _ (List.mem_append_left _ (List.mem_append_left _ (List.mem_append_right _ (List.mem_append_left _ h))))))
theorem lf_X8_read_3 : ∀ w ∈ wsX8_read_r3, w ∈ wsX8_read := fun _ h => (List.mem_cons_of_mem _ (List.mem_append_left _ (List.mem_append_left _ (List.mem_append_left _ (List.mem_append_right _ (List.mem_append_right _ h))))))
theorem lf_X8_read_4 : ∀ w ∈ wsX80, w ∈ wsX8_read := fun _ h => (List.mem_cons_of_mem _ (List.mem_append_left _ (List.mem_append_left _ (List.mem_append_right _ h))))
theorem lf_X8_read_5 : ∀ w ∈ wsX20, w ∈ wsX8_read := fun _ h => (List.mem_cons_of_mem _ (List.mem_append_left _ (List.mem_append_right _ h)))
theorem lf_X8_read_6 : ∀ w ∈ wsX100, w ∈ wsX8_read := fun _ h => (List.mem_cons_of_mem _ (List.mem_append_right _ h))
set_option maxRecDepth 20000 in
theorem ggX8_read_X2_start : GoodIn wsX8_read wsX2_start := (gd_cons (lf_X8_read_1 _ (List.mem_of_getElem? (i := 6) rfl)) rfl (goodIn_app (gd_cons (lf_X8_read_1 _ (List.mem_of_getElem? (i := 7) rfl)) rfl (gd_cons (lf_X8_read_1 _ (List.mem_of_getElem? (i := 8) rfl)) rfl (gd_nil _))) (goodIn_sub lf_X8_read_5 ga_wsX20)))
set_option maxRecDepth 20000 in
theorem gX8_read_X2_start : GoodIn wsX8_read (wsV RX8 24 RX2 yX2_start wsX2_start) := goodIn_app (gd_cons (lf_X8_read_1 _ (List.mem_of_getElem? (i := 2) rfl)) rfl (gd_cons (lf_X8_read_1 _ (List.mem_of_getElem? (i := 3) rfl)) rfl (gd_cons (lf_X8_read_1 _ (List.mem_of_getElem? (i := 4) rfl)) rfl (gd_cons (lf_X8_read_1 _ (List.mem_of_getElem? (i := 5) rfl)) rfl (gd_nil _))))) ggX8_read_X2_start
set_option maxRecDepth 20000 in
theorem ggX8_read_X2_figures : GoodIn wsX8_read wsX2_figures := (gd_cons (lf_X8_read_1 _ (List.mem_of_getElem? (i := 11) rfl)) rfl (gd_nil _))
set_option maxRecDepth 20000 in
theorem gX8_read_X2_figures : GoodIn wsX8_read (va_wsS RX8 27 yX2_figures wsX2_figures) := goodIn_app (gd_cons (lf_X8_read_1 _ (List.mem_of_getElem? (i := 9) rfl)) rfl (gd_cons (lf_X8_read_1 _ (List.mem_of_getElem? (i := 10) rfl)) rfl (gd_cons (lf_X8_read_1 _ (List.mem_of_getElem? (i := 5) rfl)) rfl (gd_nil _)))) ggX8_read_X2_figures
set_option maxRecDepth 20000 in
theorem ggX8_read_X2_hasMore : GoodIn wsX8_read wsX2_hasMore := (gd_cons (lf_X8_read_1 _ (List.mem_of_getElem? (i := 15) rfl)) rfl (goodIn_app (goodIn_app (gd_cons (lf_X8_read_1 _ (List.mem_of_getElem? (i := 8) rfl)) rfl (gd_cons (lf_X8_read_1 _ (List.mem_of_getElem? (i := 7) rfl)) rfl (gd_cons (lf_X8_read_1 _ (List.mem_of_getElem? (i := 16) rfl)) rfl (gd_cons (lf_X8_read_1 _ (List.mem_of_getElem? (i := 17) rfl)) rfl (gd_nil _))))) (goodIn_sub lf_X8_read_5 ga_wsX20)) (goodIn_sub lf_X8_read_6 ga_wsX100)))
set_option maxRecDepth 20000 in
theorem gX8_read_X2_hasMore : GoodIn wsX8_read (wsV RX8 35 RX2 yX2_hasMore wsX2_hasMore) := goodIn_app (gd_cons (lf_X8_read_1 _ (List.mem_of_getElem? (i := 12) rfl)) rfl (gd_cons (lf_X8_read_1 _ (List.mem_of_getElem? (i := 13) rfl)) rfl (gd_cons (lf_X8_read_1 _ (List.mem_of_getElem? (i := 14) rfl)) rfl (gd_cons (lf_X8_read_1 _ (List.mem_of_getElem? (i := 5) rfl)) rfl (gd_nil _))))) ggX8_read_X2_hasMore
set_option maxRecDepth 20000 in
theorem ggX8_read_X2_here : GoodIn wsX8_read wsX2_here := (gd_cons (lf_X8_read_1 _ (List.mem_of_getElem? (i := 21) rfl)) rfl (goodIn_app (goodIn_app (gd_cons (lf_X8_read_1 _ (List.mem_of_getElem? (i := 16) rfl)) rfl (gd_cons (lf_X8_read_1 _ (List.mem_of_getElem? (i := 7) rfl)) rfl (gd_cons (lf_X8_read_1 _ (List.mem_of_getElem? (i := 22) rfl)) rfl (gd_cons (lf_X8_read_1 _ (List.mem_of_getElem? (i := 23) rfl)) rfl (gd_cons (lf_X8_read_2 _ (List.mem_of_getElem? (i := 0) rfl)) rfl (gd_cons (lf_X8_read_2 _ (List.mem_of_getElem? (i := 1) rfl)) rfl (gd_cons (lf_X8_read_2 _ (List.mem_of_getElem? (i := 2) rfl)) rfl (gd_cons (lf_X8_read_2 _ (List.mem_of_getElem? (i := 3) rfl)) rfl (gd_cons (lf_X8_read_2 _ (List.mem_of_getElem? (i := 4) rfl)) rfl (gd_nil _)))))))))) (goodIn_sub lf_X8_read_5 ga_wsX20)) (goodIn_sub lf_X8_read_6 ga_wsX100)))
set_option maxRecDepth 20000 in
theorem gX8_read_X2_here : GoodIn wsX8_read (wsV RX8 39 RX2 yX2_here wsX2_here) := goodIn_app (gd_cons (lf_X8_read_1 _ (List.mem_of_getElem? (i := 18) rfl)) rfl (gd_cons (lf_X8_read_1 _ (List.mem_of_getElem? (i := 19) rfl)) rfl (gd_cons (lf_X8_read_1 _ (List.mem_of_getElem? (i := 20) rfl)) rfl (gd_cons (lf_X8_read_1 _ (List.mem_of_getElem? (i := 5) rfl)) rfl (gd_nil _))))) ggX8_read_X2_here
theorem ga_wsX80 : List.all wsX80 goodWord = true := by decide +kernel
set_option maxRecDepth 20000 in
theorem ggX8_read_X8_readException : GoodIn wsX8_read wsX8_readException := (gd_cons (lf_X8_read_2 _ (List.mem_of_getElem? (i := 9) rfl)) rfl (goodIn_app (goodIn_app (goodIn_app (goodIn_app (gd_cons (lf_X8_read_1 _ (List.mem_of_getElem? (i := 0) rfl)) rfl (gd_cons (lf_X8_read_1 _ (List.mem_of_getElem? (i := 1) rfl)) rfl (gd_cons (lf_X8_read_2 _ (List.mem_of_getElem? (i := 10) rfl)) rfl (gd_cons (lf_X8_read_2 _ (List.mem_of_getElem? (i := 11) rfl)) rfl (gd_cons (lf_X8_read_2 _ (List.mem_of_getElem? (i := 12) rfl)) rfl (gd_cons (lf_X8_read_2 _ (List.mem_of_getElem? (i := 13) rfl)) rfl (gd_cons (lf_X8_read_1 _ (List.mem_of_getElem? (i := 5) rfl)) rfl (gd_cons (lf_X8_read_2 _ (List.mem_of_getElem? (i := 14) rfl)) rfl (gd_cons (lf_X8_read_2 _ (List.mem_of_getElem? (i := 15) rfl)) rfl (gd_cons (lf_X8_read_1 _ (List.mem_of_getElem? (i := 19) rfl)) rfl (gd_cons (lf_X8_read_1 _ (List.mem_of_getElem? (i := 20) rfl)) rfl (gd_cons (lf_X8_read_1 _ (List.mem_of_getElem? (i := 21) rfl)) rfl (gd_cons (lf_X8_read_1 _ (List.mem_of_getElem? (i := 16) rfl)) rfl (gd_cons (lf_X8_read_1 _ (List.mem_of_getElem? (i := 7) rfl)) rfl (gd_cons (lf_X8_read_1 _ (List.mem_of_getElem? (i := 22) rfl)) rfl (gd_cons (lf_X8_read_1 _ (List.mem_of_getElem? (i := 23) rfl)) rfl (gd_cons (lf_X8_read_2 _ (List.mem_of_getElem? (i := 0) rfl)) rfl (gd_cons (lf_X8_read_2 _ (List.mem_of_getElem? (i := 1) rfl)) rfl (gd_cons (lf_X8_read_2 _ (List.mem_of_getElem? (i := 2) rfl)) rfl (gd_cons (lf_X8_read_2 _ (List.mem_of_getElem? (i := 3) rfl)) rfl (gd_cons (lf_X8_read_2 _ (List.mem_of_getElem? (i := 4) rfl)) rfl (gd_cons (lf_X8_read_2 _ (List.mem_of_getElem? (i := 16) rfl)) rfl (gd_cons (lf_X8_read_2 _ (List.mem_of_getElem? (i := 17) rfl)) rfl (gd_cons (lf_X8_read_2 _ (List.mem_of_getElem? (i := 18) rfl)) rfl (gd_nil _))))))))))))))))))))))))) (gd_cons (lf_X8_read_2 _ (List.mem_of_getElem? (i := 19) rfl)) rfl (gd_cons (lf_X8_read_1 _ (List.mem_of_getElem? (i := 8) rfl)) rfl (gd_cons (lf_X8_read_2 _ (List.mem_of_getElem? (i := 20) rfl)) rfl (gd_cons (lf_X8_read_2 _ (List.mem_of_getElem? (i := 21) rfl)) rfl (gd_cons (lf_X8_read_2 _ (List.mem_of_getElem? (i := 22) rfl)) rfl (gd_cons (lf_X8_read_2 _ (List.mem_of_getElem? (i := 23) rfl)) rfl (gd_cons (lf_X8_read_1 _ (List.mem_of_getElem? (i := 9) rfl)) rfl (gd_cons (lf_X8_read_1 _ (List.mem_of_getElem? (i := 10) rfl)) rfl (gd_cons (lf_X8_read_1 _ (List.mem_of_getElem? (i := 11) rfl)) rfl (gd_nil _))))))))))) (goodIn_sub lf_X8_read_4 ga_wsX80)) (goodIn_sub lf_X8_read_5 ga_wsX20)) (goodIn_sub lf_X8_read_6 ga_wsX100)))
set_option maxRecDepth 20000 in
theorem gX8_read_X8_readException : GoodIn wsX8_read (wsV RX8 43 RX8 yX8_readException wsX8_readException) := goodIn_app (gd_cons (lf_X8_read_2 _ (List.mem_of_getElem? (i := 5) rfl)) rfl (gd_cons (lf_X8_read_2 _ (List.mem_of_getElem? (i := 6) rfl)) rfl (gd_cons (lf_X8_read_2 _ (List.mem_of_getElem? (i := 7) rfl)) rfl (gd_cons (lf_X8_read_2 _ (List.mem_of_getElem? (i := 8) rfl)) rfl (gd_nil _))))) ggX8_read_X8_readException
set_option maxRecDepth 20000 in
theorem ggX8_read_X8_readEnd : GoodIn wsX8_read wsX8_readEnd := (gd_cons (lf_X8_read_3 _ (List.mem_of_getElem? (i := 3) rfl)) rfl (goodIn_app (goodIn_app (goodIn_app (goodIn_app (gd_cons (lf_X8_read_1 _ (List.mem_of_getElem? (i := 0) rfl)) rfl (gd_cons (lf_X8_read_3 _ (List.mem_of_getElem? (i := 4) rfl)) rfl (gd_cons (lf_X8_read_3 _ (List.mem_of_getElem? (i := 5) rfl)) rfl (gd_cons (lf_X8_read_3 _ (List.mem_of_getElem? (i := 6) rfl)) rfl (gd_cons (lf_X8_read_3 _ (List.mem_of_getElem? (i := 7) rfl)) rfl (gd_cons (lf_X8_read_1 _ (List.mem_of_getElem? (i := 5) rfl)) rfl (gd_cons (lf_X8_read_3 _ (List.mem_of_getElem? (i := 8) rfl)) rfl (gd_cons (lf_X8_read_1 _ (List.mem_of_getElem? (i := 8) rfl)) rfl (gd_cons (lf_X8_read_1 _ (List.mem_of_getElem? (i := 7) rfl)) rfl (gd_cons (lf_X8_read_1 _ (List.mem_of_getElem? (i := 18) rfl)) rfl (gd_cons (lf_X8_read_1 _ (List.mem_of_getElem? (i := 19) rfl)) rfl (gd_cons (lf_X8_read_1 _ (List.mem_of_getElem? (i := 20) rfl)) rfl (gd_cons (lf_X8_read_1 _ (List.mem_of_getElem? (i := 21) rfl)) rfl (gd_cons (lf_X8_read_1 _ (List.mem_of_getElem? (i := 16) rfl)) rfl (gd_cons (lf_X8_read_1 _ (List.mem_of_getElem? (i := 22) rfl)) rfl (gd_cons (lf_X8_read_1 _ (List.mem_of_getElem? (i := 23) rfl)) rfl (gd_cons (lf_X8_read_2 _ (List.mem_of_getElem? (i := 0) rfl)) rfl (gd_cons (lf_X8_read_2 _ (List.mem_of_getElem? (i := 1) rfl)) rfl (gd_cons (lf_X8_read_2 _ (List.mem_of_getElem? (i := 2) rfl)) rfl (gd_cons (lf_X8_read_2 _ (List.mem_of_getElem? (i := 3) rfl)) rfl (gd_cons (lf_X8_read_2 _ (List.mem_of_getElem? (i := 4) rfl)) rfl (gd_cons (lf_X8_read_3 _ (List.mem_of_getElem? (i := 9) rfl)) rfl (gd_cons (lf_X8_read_2 _ (List.mem_of_getElem? (i := 17) rfl)) rfl (gd_cons (lf_X8_read_2 _ (List.mem_of_getElem? (i := 18) rfl)) rfl (gd_nil _))))))))))))))))))))))))) (gd_cons (lf_X8_read_2 _ (List.mem_of_getElem? (i := 19) rfl)) rfl (gd_cons (lf_X8_read_3 _ (List.mem_of_getElem? (i := 10) rfl)) rfl (gd_cons (lf_X8_read_2 _ (List.mem_of_getElem? (i := 21) rfl)) rfl (gd_cons (lf_X8_read_2 _ (List.mem_of_getElem? (i := 22) rfl)) rfl (gd_cons (lf_X8_read_2 _ (List.mem_of_getElem? (i := 23) rfl)) rfl (gd_cons (lf_X8_read_1 _ (List.mem_of_getElem? (i := 9) rfl)) rfl (gd_cons (lf_X8_read_1 _ (List.mem_of_getElem? (i := 10) rfl)) rfl (gd_cons (lf_X8_read_1 _ (List.mem_of_getElem? (i := 11) rfl)) rfl (gd_cons (lf_X8_read_2 _ (List.mem_of_getElem? (i := 11) rfl)) rfl (gd_cons (lf_X8_read_2 _ (List.mem_of_getElem? (i := 12) rfl)) rfl (gd_cons (lf_X8_read_2 _ (List.mem_of_getElem? (i := 13) rfl)) rfl (gd_cons (lf_X8_read_2 _ (List.mem_of_getElem? (i := 14) rfl)) rfl (gd_cons (lf_X8_read_2 _ (List.mem_of_getElem? (i := 15) rfl)) rfl (gd_cons (lf_X8_read_2 _ (List.mem_of_getElem? (i := 16) rfl)) rfl (gd_cons (lf_X8_read_2 _ (List.mem_of_getElem? (i := 20) rfl)) rfl (gd_cons (lf_X8_read_1 _ (List.mem_of_getElem? (i := 12) rfl)) rfl (gd_cons (lf_X8_read_1 _ (List.mem_of_getElem? (i := 13) rfl)) rfl (gd_cons (lf_X8_read_1 _ (List.mem_of_getElem? (i := 14) rfl)) rfl (gd_cons (lf_X8_read_1 _ (List.mem_of_getElem? (i := 15) rfl)) rfl (gd_cons (lf_X8_read_1 _ (List.mem_of_getElem? (i := 17) rfl)) rfl (gd_nil _)))))))))))))))))))))) (goodIn_sub lf_X8_read_4 ga_wsX80)) (goodIn_sub lf_X8_read_5 ga_wsX20)) (goodIn_sub lf_X8_read_6 ga_wsX100)))
set_option maxRecDepth 20000 in
theorem gX8_read_X8_readEnd : GoodIn wsX8_read (wsV RX8 46 RX8 yX8_readEnd wsX8_readEnd) := goodIn_app (gd_cons (lf_X8_read_3 _ (List.mem_of_getElem? (i := 0) rfl)) rfl (gd_cons (lf_X8_read_3 _ (List.mem_of_getElem? (i := 1) rfl)) rfl (gd_cons (lf_X8_read_3 _ (List.mem_of_getElem? (i := 2) rfl)) rfl (gd_cons (lf_X8_read_2 _ (List.mem_of_getElem? (i := 8) rfl)) rfl (gd_nil _))))) ggX8_read_X8_readEnd
set_option maxRecDepth 20000 in
theorem ggX8_read_X2_stoppedAt : GoodIn wsX8_read wsX2_stoppedAt := (gd_cons (lf_X8_read_3 _ (List.mem_of_getElem? (i := 8) rfl)) rfl (goodIn_app (gd_cons (lf_X8_read_1 _ (List.mem_of_getElem? (i := 8) rfl)) rfl (gd_cons (lf_X8_read_1 _ (List.mem_of_getElem? (i := 7) rfl)) rfl (gd_nil _))) (goodIn_sub lf_X8_read_5 ga_wsX20)))
set_option maxRecDepth 20000 in
theorem gX8_read_X2_stoppedAt : GoodIn wsX8_read (wsV RX8 49 RX2 yX2_stoppedAt wsX2_stoppedAt) := goodIn_app (gd_cons (lf_X8_read_3 _ (List.mem_of_getElem? (i := 5) rfl)) rfl (gd_cons (lf_X8_read_3 _ (List.mem_of_getElem? (i := 6) rfl)) rfl (gd_cons (lf_X8_read_3 _ (List.mem_of_getElem? (i := 7) rfl)) rfl (gd_cons (lf_X8_read_1 _ (List.mem_of_getElem? (i := 5) rfl)) rfl (gd_nil _))))) ggX8_read_X2_stoppedAt
theorem dX8_read_0 : decode cX8_read 0 = .ok (.aload_n 0, 1) := dq_42 (dst 0 rd_prog_10_method_2_code_0 rfl)
theorem dX8_read_1 : decode cX8_read 1 = .ok (.getfield 20, 3) := dq_180 (dst 1 rd_prog_10_method_2_code_0 rfl) rfl
theorem dX8_read_4 : decode cX8_read 4 = .ok (.invokevirtual 24, 3) := dq_182 (dst 4 rd_prog_10_method_2_code_0 rfl) rfl
theorem dX8_read_7 : decode cX8_read 7 = .ok (.aload_n 0, 1) := dq_42 (dst 7 rd_prog_10_method_2_code_0 rfl)
theorem dX8_read_8 : decode cX8_read 8 = .ok (.iconst 0, 1) := dq_3 (dst 8 rd_prog_10_method_2_code_0 rfl)
theorem dX8_read_9 : decode cX8_read 9 = .ok (.iconst 4, 1) := dq_7 (dst 9 rd_prog_10_method_2_code_0 rfl)
theorem dX8_read_10 : decode cX8_read 10 = .ok (.invokestatic 27, 3) := dq_184 (dst 10 rd_prog_10_method_2_code_0 rfl) rfl
theorem dX8_read_13 : decode cX8_read 13 = .ok (.putfield 31, 3) := dq_181 (dst 13 rd_prog_10_method_2_code_0 rfl) rfl
theorem dX8_read_16 : decode cX8_read 16 = .ok (.iconst 0, 1) := dq_3 (dst 16 rd_prog_10_method_2_code_0 rfl)
theorem dX8_read_17 : decode cX8_read 17 = .ok (.istore_n 1, 1) := dq_60 (dst 17 rd_prog_10_method_2_code_0 rfl)
theorem dX8_read_18 : decode cX8_read 18 = .ok (.iload_n 1, 1) := dq_27 (dst 18 rd_prog_10_method_2_code_0 rfl)
theorem dX8_read_19 : decode cX8_read 19 = .ok (.iconst 5, 1) := dq_8 (dst 19 rd_prog_10_method_2_code_0 rfl)
theorem dX8_read_20 : decode cX8_read 20 = .ok (.if_icmp .ge 35, 3) := dq_162 (dst 20 rd_prog_10_method_2_code_0 rfl) (by decide +kernel)
theorem dX8_read_23 : decode cX8_read 23 = .ok (.aload_n 0, 1) := dq_42 (dst 23 rd_prog_10_method_2_code_0 rfl)
theorem dX8_read_24 : decode cX8_read 24 = .ok (.getfield 20, 3) := dq_180 (dst 24 rd_prog_10_method_2_code_0 rfl) rfl
theorem dX8_read_27 : decode cX8_read 27 = .ok (.invokevirtual 35, 3) := dq_182 (dst 27 rd_prog_10_method_2_code_0 rfl) rfl
theorem dX8_read_30 : decode cX8_read 30 = .ok (.ifCond .eq 25, 3) := dq_153 (dst 30 rd_prog_10_method_2_code_0 rfl) (by decide +kernel)
theorem dX8_read_33 : decode cX8_read 33 = .ok (.aload_n 0, 1) := dq_42 (dst 1 rd_prog_10_method_2_code_1 rfl)
theorem dX8_read_34 : decode cX8_read 34 = .ok (.getfield 20, 3) := dq_180 (dst 2 rd_prog_10_method_2_code_1 rfl) rfl
theorem dX8_read_37 : decode cX8_read 37 = .ok (.invokevirtual 39, 3) := dq_182 (dst 5 rd_prog_10_method_2_code_1 rfl) rfl
theorem dX8_read_40 : decode cX8_read 40 = .ok (.bipush 76, 2) := dq_16 (dst 8 rd_prog_10_method_2_code_1 rfl) (by decide +kernel)
theorem dX8_read_42 : decode cX8_read 42 = .ok (.if_icmp .eq 13, 3) := dq_159 (dst 10 rd_prog_10_method_2_code_1 rfl) (by decide +kernel)
theorem dX8_read_45 : decode cX8_read 45 = .ok (.aload_n 0, 1) := dq_42 (dst 13 rd_prog_10_method_2_code_1 rfl)
theorem dX8_read_46 : decode cX8_read 46 = .ok (.invokevirtual 43, 3) := dq_182 (dst 14 rd_prog_10_method_2_code_1 rfl) rfl
theorem dX8_read_49 : decode cX8_read 49 = .ok (.iinc 1 1, 3) := dq_132 (dst 17 rd_prog_10_method_2_code_1 rfl) rfl (by decide +kernel)
theorem dX8_read_52 : decode cX8_read 52 = .ok (.goto (-34), 3) := dq_167 (dst 20 rd_prog_10_method_2_code_1 rfl) (by decide +kernel)
theorem dX8_read_55 : decode cX8_read 55 = .ok (.aload_n 0, 1) := dq_42 (dst 23 rd_prog_10_method_2_code_1 rfl)
theorem dX8_read_56 : decode cX8_read 56 = .ok (.invokevirtual 46, 3) := dq_182 (dst 24 rd_prog_10_method_2_code_1 rfl) rfl
theorem dX8_read_59 : decode cX8_read 59 = .ok (.aload_n 0, 1) := dq_42 (dst 27 rd_prog_10_method_2_code_1 rfl)
theorem dX8_read_60 : decode cX8_read 60 = .ok (.getfield 20, 3) := dq_180 (dst 28 rd_prog_10_method_2_code_1 rfl) rfl
theorem dX8_read_63 : decode cX8_read 63 = .ok (.invokevirtual 49, 3) := dq_182 (dst 31 rd_prog_10_method_2_code_1 rfl) rfl
theorem dX8_read_66 : decode cX8_read 66 = .ok (.ireturn, 1) := dq_172 (dst 2 rd_prog_10_method_2_code_2 rfl)
theorem lf_X8_readException_1 : ∀ w ∈ wsX8_readException_r1, w ∈ wsX8_readException := fun _ h => (List.mem_cons_of_mem _ (List.mem_append_left _ (List.mem_append_left _ (List.mem_append_left _ (List.mem_append_left _ h)))))
theorem lf_X8_readException_2 : ∀ w ∈ wsX8_readException_r2, w ∈ wsX8_readException := fun _ h => (List.mem_cons_of_mem _ (List.mem_append_left _ (List.mem_append_left _ (List.mem_append_left _ (List.mem_append_right _ h)))))
theorem lf_X8_readException_3 : ∀ w ∈ wsX80, w ∈ wsX8_readException := fun _ h => (List.mem_cons_of_mem _ (List.mem_append_left _ (List.mem_append_left _ (List.mem_append_right _ h))))
theorem lf_X8_readException_4 : ∀ w ∈ wsX20, w ∈ wsX8_readException := fun _ h => (List.mem_cons_of_mem _ (List.mem_append_left _ (List.mem_append_right _ h)))
theorem lf_X8_readException_5 : ∀ w ∈ wsX100, w ∈ wsX8_readException := fun _ h => (List.mem_cons_of_mem _ (List.mem_append_right _ h))
set_option maxRecDepth 20000 in
theorem ggX8_readException_X2_figure : GoodIn wsX8_readException wsX2_figure := (gd_cons (lf_X8_readException_1 _ (List.mem_of_getElem? (i := 7) rfl)) rfl (goodIn_app (goodIn_app (gd_cons (lf_X8_readException_1 _ (List.mem_of_getElem? (i := 8) rfl)) rfl (gd_cons (lf_X8_readException_1 _ (List.mem_of_getElem? (i := 9) rfl)) rfl (gd_cons (lf_X8_readException_1 _ (List.mem_of_getElem? (i := 10) rfl)) rfl (gd_cons (lf_X8_readException_1 _ (List.mem_of_getElem? (i := 6) rfl)) rfl (gd_cons (lf_X8_readException_1 _ (List.mem_of_getElem? (i := 11) rfl)) rfl (gd_cons (lf_X8_readException_1 _ (List.mem_of_getElem? (i := 12) rfl)) rfl (gd_cons (lf_X8_readException_1 _ (List.mem_of_getElem? (i := 13) rfl)) rfl (gd_cons (lf_X8_readException_1 _ (List.mem_of_getElem? (i := 14) rfl)) rfl (gd_cons (lf_X8_readException_1 _ (List.mem_of_getElem? (i := 15) rfl)) rfl (gd_cons (lf_X8_readException_1 _ (List.mem_of_getElem? (i := 16) rfl)) rfl (gd_cons (lf_X8_readException_1 _ (List.mem_of_getElem? (i := 17) rfl)) rfl (gd_cons (lf_X8_readException_1 _ (List.mem_of_getElem? (i := 18) rfl)) rfl (gd_cons (lf_X8_readException_1 _ (List.mem_of_getElem? (i := 19) rfl)) rfl (gd_cons (lf_X8_readException_1 _ (List.mem_of_getElem? (i := 20) rfl)) rfl (gd_cons (lf_X8_readException_1 _ (List.mem_of_getElem? (i := 21) rfl)) rfl (gd_cons (lf_X8_readException_1 _ (List.mem_of_getElem? (i := 22) rfl)) rfl (gd_cons (lf_X8_readException_1 _ (List.mem_of_getElem? (i := 23) rfl)) rfl (gd_cons (lf_X8_readException_2 _ (List.mem_of_getElem? (i := 0) rfl)) rfl (gd_cons (lf_X8_readException_2 _ (List.mem_of_getElem? (i := 1) rfl)) rfl (gd_cons (lf_X8_readException_2 _ (List.mem_of_getElem? (i := 2) rfl)) rfl (gd_cons (lf_X8_readException_2 _ (List.mem_of_getElem? (i := 3) rfl)) rfl (gd_cons (lf_X8_readException_2 _ (List.mem_of_getElem? (i := 4) rfl)) rfl (gd_cons (lf_X8_readException_2 _ (List.mem_of_getElem? (i := 5) rfl)) rfl (gd_nil _)))))))))))))))))))))))) (goodIn_sub lf_X8_readException_4 ga_wsX20)) (goodIn_sub lf_X8_readException_5 ga_wsX100)))
set_option maxRecDepth 20000 in
theorem gX8_readException_X2_figure : GoodIn wsX8_readException (wsV RX8 52 RX2 yX2_figure wsX2_figure) := goodIn_app (gd_cons (lf_X8_readException_1 _ (List.mem_of_getElem? (i := 3) rfl)) rfl (gd_cons (lf_X8_readException_1 _ (List.mem_of_getElem? (i := 4) rfl)) rfl (gd_cons (lf_X8_readException_1 _ (List.mem_of_getElem? (i := 5) rfl)) rfl (gd_cons (lf_X8_readException_1 _ (List.mem_of_getElem? (i := 6) rfl)) rfl (gd_nil _))))) ggX8_readException_X2_figure
set_option maxRecDepth 20000 in
theorem ggX8_readException_X2_figures : GoodIn wsX8_readException wsX2_figures := (gd_cons (lf_X8_readException_2 _ (List.mem_of_getElem? (i := 8) rfl)) rfl (gd_nil _))
set_option maxRecDepth 20000 in
theorem gX8_readException_X2_figures : GoodIn wsX8_readException (va_wsS RX8 27 yX2_figures wsX2_figures) := goodIn_app (gd_cons (lf_X8_readException_2 _ (List.mem_of_getElem? (i := 6) rfl)) rfl (gd_cons (lf_X8_readException_2 _ (List.mem_of_getElem? (i := 7) rfl)) rfl (gd_cons (lf_X8_readException_1 _ (List.mem_of_getElem? (i := 6) rfl)) rfl (gd_nil _)))) ggX8_readException_X2_figures
theorem dX8_readException_0 : decode cX8_readException 0 = .ok (.aload_n 0, 1) := dq_42 (dst 0 rd_prog_10_method_3_code_0 rfl)
theorem dX8_readException_1 : decode cX8_readException 1 = .ok (.getfield 20, 3) := dq_180 (dst 1 rd_prog_10_method_3_code_0 rfl) rfl
theorem dX8_readException_4 : decode cX8_readException 4 = .ok (.aload_n 0, 1) := dq_42 (dst 4 rd_prog_10_method_3_code_0 rfl)
theorem dX8_readException_5 : decode cX8_readException 5 = .ok (.getfield 31, 3) := dq_180 (dst 5 rd_prog_10_method_3_code_0 rfl) rfl
theorem dX8_readException_8 : decode cX8_readException 8 = .ok (.invokevirtual 52, 3) := dq_182 (dst 8 rd_prog_10_method_3_code_0 rfl) rfl
theorem dX8_readException_11 : decode cX8_readException 11 = .ok (.istore_n 1, 1) := dq_60 (dst 11 rd_prog_10_method_3_code_0 rfl)
theorem dX8_readException_12 : decode cX8_readException 12 = .ok (.iload_n 1, 1) := dq_27 (dst 12 rd_prog_10_method_3_code_0 rfl)
theorem dX8_readException_13 : decode cX8_readException 13 = .ok (.bipush (-9), 2) := dq_16 (dst 13 rd_prog_10_method_3_code_0 rfl) (by decide +kernel)
theorem dX8_readException_15 : decode cX8_readException 15 = .ok (.if_icmp .ne 4, 3) := dq_160 (dst 15 rd_prog_10_method_3_code_0 rfl) (by decide +kernel)
theorem dX8_readException_18 : decode cX8_readException 18 = .ok (.return_, 1) := dq_177 (dst 18 rd_prog_10_method_3_code_0 rfl)
theorem dX8_readException_19 : decode cX8_readException 19 = .ok (.aload_n 0, 1) := dq_42 (dst 19 rd_prog_10_method_3_code_0 rfl)
theorem dX8_readException_20 : decode cX8_readException 20 = .ok (.getfield 20, 3) := dq_180 (dst 20 rd_prog_10_method_3_code_0 rfl) rfl
theorem dX8_readException_23 : decode cX8_readException 23 = .ok (.iconst 0, 1) := dq_3 (dst 23 rd_prog_10_method_3_code_0 rfl)
theorem dX8_readException_24 : decode cX8_readException 24 = .ok (.iconst 4, 1) := dq_7 (dst 24 rd_prog_10_method_3_code_0 rfl)
theorem dX8_readException_25 : decode cX8_readException 25 = .ok (.invokestatic 27, 3) := dq_184 (dst 25 rd_prog_10_method_3_code_0 rfl) rfl
theorem dX8_readException_28 : decode cX8_readException 28 = .ok (.invokevirtual 52, 3) := dq_182 (dst 28 rd_prog_10_method_3_code_0 rfl) rfl
theorem dX8_readException_31 : decode cX8_readException 31 = .ok (.istore_n 2, 1) := dq_61 (dst 31 rd_prog_10_method_3_code_0 rfl)
theorem dX8_readException_32 : decode cX8_readException 32 = .ok (.iload_n 2, 1) := dq_28 (dst 0 rd_prog_10_method_3_code_1 rfl)
theorem dX8_readException_33 : decode cX8_readException 33 = .ok (.bipush (-9), 2) := dq_16 (dst 1 rd_prog_10_method_3_code_1 rfl) (by decide +kernel)
theorem dX8_readException_35 : decode cX8_readException 35 = .ok (.if_icmp .ne 4, 3) := dq_160 (dst 3 rd_prog_10_method_3_code_1 rfl) (by decide +kernel)
theorem dX8_readException_38 : decode cX8_readException 38 = .ok (.return_, 1) := dq_177 (dst 6 rd_prog_10_method_3_code_1 rfl)
theorem dX8_readException_39 : decode cX8_readException 39 = .ok (.aload_n 0, 1) := dq_42 (dst 7 rd_prog_10_method_3_code_1 rfl)
theorem dX8_readException_40 : decode cX8_readException 40 = .ok (.dup, 1) := dq_89 (dst 8 rd_prog_10_method_3_code_1 rfl)
theorem dX8_readException_41 : decode cX8_readException 41 = .ok (.getfield 31, 3) := dq_180 (dst 9 rd_prog_10_method_3_code_1 rfl) rfl
theorem dX8_readException_44 : decode cX8_readException 44 = .ok (.iconst 1, 1) := dq_4 (dst 12 rd_prog_10_method_3_code_1 rfl)
theorem dX8_readException_45 : decode cX8_readException 45 = .ok (.iload_n 1, 1) := dq_27 (dst 13 rd_prog_10_method_3_code_1 rfl)
theorem dX8_readException_46 : decode cX8_readException 46 = .ok (.ishl, 1) := dq_120 (dst 14 rd_prog_10_method_3_code_1 rfl)
theorem dX8_readException_47 : decode cX8_readException 47 = .ok (.iconst (-1), 1) := dq_2 (dst 15 rd_prog_10_method_3_code_1 rfl)
theorem dX8_readException_48 : decode cX8_readException 48 = .ok (.ixor, 1) := dq_130 (dst 16 rd_prog_10_method_3_code_1 rfl)
theorem dX8_readException_49 : decode cX8_readException 49 = .ok (.iand, 1) := dq_126 (dst 17 rd_prog_10_method_3_code_1 rfl)
theorem dX8_readException_50 : decode cX8_readException 50 = .ok (.putfield 31, 3) := dq_181 (dst 18 rd_prog_10_method_3_code_1 rfl) rfl
theorem dX8_readException_53 : decode cX8_readException 53 = .ok (.aload_n 0, 1) := dq_42 (dst 21 rd_prog_10_method_3_code_1 rfl)
theorem dX8_readException_54 : decode cX8_readException 54 = .ok (.getfield 9, 3) := dq_180 (dst 22 rd_prog_10_method_3_code_1 rfl) rfl
theorem dX8_readException_57 : decode cX8_readException 57 = .ok (.iload_n 1, 1) := dq_27 (dst 25 rd_prog_10_method_3_code_1 rfl)
theorem dX8_readException_58 : decode cX8_readException 58 = .ok (.iload_n 2, 1) := dq_28 (dst 26 rd_prog_10_method_3_code_1 rfl)
theorem dX8_readException_59 : decode cX8_readException 59 = .ok (.iastore, 1) := dq_79 (dst 27 rd_prog_10_method_3_code_1 rfl)
theorem dX8_readException_60 : decode cX8_readException 60 = .ok (.return_, 1) := dq_177 (dst 28 rd_prog_10_method_3_code_1 rfl)
theorem lf_X8_readEnd_1 : ∀ w ∈ wsX8_readEnd_r1, w ∈ wsX8_readEnd := fun _ h => (List.mem_cons_of_mem _ (List.mem_append_left _ (List.mem_append_left _ (List.mem_append_left _ (List.mem_append_left _ h)))))
theorem lf_X8_readEnd_2 : ∀ w ∈ wsX8_readEnd_r2, w ∈ wsX8_readEnd := fun _ h => (List.mem_cons_of_mem _ (List.mem_append_left _ (List.mem_append_left _ (List.mem_append_left _ (List.mem_append_right _ h)))))
theorem lf_X8_readEnd_3 : ∀ w ∈ wsX80, w ∈ wsX8_readEnd := fun _ h => (List.mem_cons_of_mem _ (List.mem_append_left _ (List.mem_append_left _ (List.mem_append_right _ h))))
theorem lf_X8_readEnd_4 : ∀ w ∈ wsX20, w ∈ wsX8_readEnd := fun _ h => (List.mem_cons_of_mem _ (List.mem_append_left _ (List.mem_append_right _ h)))
theorem lf_X8_readEnd_5 : ∀ w ∈ wsX100, w ∈ wsX8_readEnd := fun _ h => (List.mem_cons_of_mem _ (List.mem_append_right _ h))
set_option maxRecDepth 20000 in
theorem ggX8_readEnd_X2_stoppedAt : GoodIn wsX8_readEnd wsX2_stoppedAt := (gd_cons (lf_X8_readEnd_1 _ (List.mem_of_getElem? (i := 6) rfl)) rfl (goodIn_app (gd_cons (lf_X8_readEnd_1 _ (List.mem_of_getElem? (i := 7) rfl)) rfl (gd_cons (lf_X8_readEnd_1 _ (List.mem_of_getElem? (i := 8) rfl)) rfl (gd_nil _))) (goodIn_sub lf_X8_readEnd_4 ga_wsX20)))
set_option maxRecDepth 20000 in
theorem gX8_readEnd_X2_stoppedAt : GoodIn wsX8_readEnd (wsV RX8 49 RX2 yX2_stoppedAt wsX2_stoppedAt) := goodIn_app (gd_cons (lf_X8_readEnd_1 _ (List.mem_of_getElem? (i := 2) rfl)) rfl (gd_cons (lf_X8_readEnd_1 _ (List.mem_of_getElem? (i := 3) rfl)) rfl (gd_cons (lf_X8_readEnd_1 _ (List.mem_of_getElem? (i := 4) rfl)) rfl (gd_cons (lf_X8_readEnd_1 _ (List.mem_of_getElem? (i := 5) rfl)) rfl (gd_nil _))))) ggX8_readEnd_X2_stoppedAt
set_option maxRecDepth 20000 in
theorem ggX8_readEnd_X2_here : GoodIn wsX8_readEnd wsX2_here := (gd_cons (lf_X8_readEnd_1 _ (List.mem_of_getElem? (i := 12) rfl)) rfl (goodIn_app (goodIn_app (gd_cons (lf_X8_readEnd_1 _ (List.mem_of_getElem? (i := 13) rfl)) rfl (gd_cons (lf_X8_readEnd_1 _ (List.mem_of_getElem? (i := 8) rfl)) rfl (gd_cons (lf_X8_readEnd_1 _ (List.mem_of_getElem? (i := 14) rfl)) rfl (gd_cons (lf_X8_readEnd_1 _ (List.mem_of_getElem? (i := 15) rfl)) rfl (gd_cons (lf_X8_readEnd_1 _ (List.mem_of_getElem? (i := 16) rfl)) rfl (gd_cons (lf_X8_readEnd_1 _ (List.mem_of_getElem? (i := 17) rfl)) rfl (gd_cons (lf_X8_readEnd_1 _ (List.mem_of_getElem? (i := 18) rfl)) rfl (gd_cons (lf_X8_readEnd_1 _ (List.mem_of_getElem? (i := 19) rfl)) rfl (gd_cons (lf_X8_readEnd_1 _ (List.mem_of_getElem? (i := 20) rfl)) rfl (gd_nil _)))))))))) (goodIn_sub lf_X8_readEnd_4 ga_wsX20)) (goodIn_sub lf_X8_readEnd_5 ga_wsX100)))
set_option maxRecDepth 20000 in
theorem gX8_readEnd_X2_here : GoodIn wsX8_readEnd (wsV RX8 39 RX2 yX2_here wsX2_here) := goodIn_app (gd_cons (lf_X8_readEnd_1 _ (List.mem_of_getElem? (i := 9) rfl)) rfl (gd_cons (lf_X8_readEnd_1 _ (List.mem_of_getElem? (i := 10) rfl)) rfl (gd_cons (lf_X8_readEnd_1 _ (List.mem_of_getElem? (i := 11) rfl)) rfl (gd_cons (lf_X8_readEnd_1 _ (List.mem_of_getElem? (i := 5) rfl)) rfl (gd_nil _))))) ggX8_readEnd_X2_here
set_option maxRecDepth 20000 in
theorem ggX8_readEnd_X2_stop : GoodIn wsX8_readEnd wsX2_stop := (gd_cons (lf_X8_readEnd_2 _ (List.mem_of_getElem? (i := 0) rfl)) rfl (goodIn_app (gd_cons (lf_X8_readEnd_1 _ (List.mem_of_getElem? (i := 7) rfl)) rfl (gd_nil _)) (goodIn_sub lf_X8_readEnd_4 ga_wsX20)))
set_option maxRecDepth 20000 in
theorem gX8_readEnd_X2_stop : GoodIn wsX8_readEnd (wsV RX8 56 RX2 yX2_stop wsX2_stop) := goodIn_app (gd_cons (lf_X8_readEnd_1 _ (List.mem_of_getElem? (i := 21) rfl)) rfl (gd_cons (lf_X8_readEnd_1 _ (List.mem_of_getElem? (i := 22) rfl)) rfl (gd_cons (lf_X8_readEnd_1 _ (List.mem_of_getElem? (i := 23) rfl)) rfl (gd_cons (lf_X8_readEnd_1 _ (List.mem_of_getElem? (i := 5) rfl)) rfl (gd_nil _))))) ggX8_readEnd_X2_stop
set_option maxRecDepth 20000 in
theorem ggX8_readEnd_X2_step : GoodIn wsX8_readEnd wsX2_step := (gd_cons (lf_X8_readEnd_2 _ (List.mem_of_getElem? (i := 4) rfl)) rfl (goodIn_app (gd_cons (lf_X8_readEnd_1 _ (List.mem_of_getElem? (i := 8) rfl)) rfl (gd_nil _)) (goodIn_sub lf_X8_readEnd_4 ga_wsX20)))
set_option maxRecDepth 20000 in
theorem gX8_readEnd_X2_step : GoodIn wsX8_readEnd (wsV RX8 59 RX2 yX2_step wsX2_step) := goodIn_app (gd_cons (lf_X8_readEnd_2 _ (List.mem_of_getElem? (i := 1) rfl)) rfl (gd_cons (lf_X8_readEnd_2 _ (List.mem_of_getElem? (i := 2) rfl)) rfl (gd_cons (lf_X8_readEnd_2 _ (List.mem_of_getElem? (i := 3) rfl)) rfl (gd_cons (lf_X8_readEnd_1 _ (List.mem_of_getElem? (i := 5) rfl)) rfl (gd_nil _))))) ggX8_readEnd_X2_step
set_option maxRecDepth 20000 in
theorem ggX8_readEnd_X2_figures : GoodIn wsX8_readEnd wsX2_figures := (gd_cons (lf_X8_readEnd_2 _ (List.mem_of_getElem? (i := 7) rfl)) rfl (gd_nil _))
set_option maxRecDepth 20000 in
theorem gX8_readEnd_X2_figures : GoodIn wsX8_readEnd (va_wsS RX8 27 yX2_figures wsX2_figures) := goodIn_app (gd_cons (lf_X8_readEnd_2 _ (List.mem_of_getElem? (i := 5) rfl)) rfl (gd_cons (lf_X8_readEnd_2 _ (List.mem_of_getElem? (i := 6) rfl)) rfl (gd_cons (lf_X8_readEnd_1 _ (List.mem_of_getElem? (i := 5) rfl)) rfl (gd_nil _)))) ggX8_readEnd_X2_figures
set_option maxRecDepth 20000 in
theorem ggX8_readEnd_X2_figure : GoodIn wsX8_readEnd wsX2_figure := (gd_cons (lf_X8_readEnd_2 _ (List.mem_of_getElem? (i := 11) rfl)) rfl (goodIn_app (goodIn_app (gd_cons (lf_X8_readEnd_2 _ (List.mem_of_getElem? (i := 12) rfl)) rfl (gd_cons (lf_X8_readEnd_1 _ (List.mem_of_getElem? (i := 10) rfl)) rfl (gd_cons (lf_X8_readEnd_1 _ (List.mem_of_getElem? (i := 11) rfl)) rfl (gd_cons (lf_X8_readEnd_1 _ (List.mem_of_getElem? (i := 5) rfl)) rfl (gd_cons (lf_X8_readEnd_1 _ (List.mem_of_getElem? (i := 12) rfl)) rfl (gd_cons (lf_X8_readEnd_1 _ (List.mem_of_getElem? (i := 13) rfl)) rfl (gd_cons (lf_X8_readEnd_1 _ (List.mem_of_getElem? (i := 8) rfl)) rfl (gd_cons (lf_X8_readEnd_1 _ (List.mem_of_getElem? (i := 14) rfl)) rfl (gd_cons (lf_X8_readEnd_1 _ (List.mem_of_getElem? (i := 15) rfl)) rfl (gd_cons (lf_X8_readEnd_1 _ (List.mem_of_getElem? (i := 16) rfl)) rfl (gd_cons (lf_X8_readEnd_1 _ (List.mem_of_getElem? (i := 17) rfl)) rfl (gd_cons (lf_X8_readEnd_1 _ (List.mem_of_getElem? (i := 18) rfl)) rfl (gd_cons (lf_X8_readEnd_1 _ (List.mem_of_getElem? (i := 19) rfl)) rfl (gd_cons (lf_X8_readEnd_1 _ (List.mem_of_getElem? (i := 20) rfl)) rfl (gd_cons (lf_X8_readEnd_2 _ (List.mem_of_getElem? (i := 13) rfl)) rfl (gd_cons (lf_X8_readEnd_1 _ (List.mem_of_getElem? (i := 22) rfl)) rfl (gd_cons (lf_X8_readEnd_1 _ (List.mem_of_getElem? (i := 23) rfl)) rfl (gd_cons (lf_X8_readEnd_2 _ (List.mem_of_getElem? (i := 0) rfl)) rfl (gd_cons (lf_X8_readEnd_1 _ (List.mem_of_getElem? (i := 7) rfl)) rfl (gd_cons (lf_X8_readEnd_2 _ (List.mem_of_getElem? (i := 14) rfl)) rfl (gd_cons (lf_X8_readEnd_2 _ (List.mem_of_getElem? (i := 2) rfl)) rfl (gd_cons (lf_X8_readEnd_2 _ (List.mem_of_getElem? (i := 3) rfl)) rfl (gd_cons (lf_X8_readEnd_2 _ (List.mem_of_getElem? (i := 4) rfl)) rfl (gd_nil _)))))))))))))))))))))))) (goodIn_sub lf_X8_readEnd_4 ga_wsX20)) (goodIn_sub lf_X8_readEnd_5 ga_wsX100)))
set_option maxRecDepth 20000 in
theorem gX8_readEnd_X2_figure : GoodIn wsX8_readEnd (wsV RX8 52 RX2 yX2_figure wsX2_figure) := goodIn_app (gd_cons (lf_X8_readEnd_2 _ (List.mem_of_getElem? (i := 8) rfl)) rfl (gd_cons (lf_X8_readEnd_2 _ (List.mem_of_getElem? (i := 9) rfl)) rfl (gd_cons (lf_X8_readEnd_2 _ (List.mem_of_getElem? (i := 10) rfl)) rfl (gd_cons (lf_X8_readEnd_1 _ (List.mem_of_getElem? (i := 5) rfl)) rfl (gd_nil _))))) ggX8_readEnd_X2_figure
set_option maxRecDepth 20000 in
theorem ggX8_readEnd_X2_hasMore : GoodIn wsX8_readEnd wsX2_hasMore := (gd_cons (lf_X8_readEnd_2 _ (List.mem_of_getElem? (i := 18) rfl)) rfl (goodIn_app (goodIn_app (gd_cons (lf_X8_readEnd_1 _ (List.mem_of_getElem? (i := 7) rfl)) rfl (gd_cons (lf_X8_readEnd_1 _ (List.mem_of_getElem? (i := 8) rfl)) rfl (gd_cons (lf_X8_readEnd_1 _ (List.mem_of_getElem? (i := 13) rfl)) rfl (gd_cons (lf_X8_readEnd_2 _ (List.mem_of_getElem? (i := 19) rfl)) rfl (gd_nil _))))) (goodIn_sub lf_X8_readEnd_4 ga_wsX20)) (goodIn_sub lf_X8_readEnd_5 ga_wsX100)))
set_option maxRecDepth 20000 in
theorem gX8_readEnd_X2_hasMore : GoodIn wsX8_readEnd (wsV RX8 35 RX2 yX2_hasMore wsX2_hasMore) := goodIn_app (gd_cons (lf_X8_readEnd_2 _ (List.mem_of_getElem? (i := 15) rfl)) rfl (gd_cons (lf_X8_readEnd_2 _ (List.mem_of_getElem? (i := 16) rfl)) rfl (gd_cons (lf_X8_readEnd_2 _ (List.mem_of_getElem? (i := 17) rfl)) rfl (gd_cons (lf_X8_readEnd_1 _ (List.mem_of_getElem? (i := 5) rfl)) rfl (gd_nil _))))) ggX8_readEnd_X2_hasMore
theorem dX8_readEnd_0 : decode cX8_readEnd 0 = .ok (.aload_n 0, 1) := dq_42 (dst 0 rd_prog_10_method_4_code_0 rfl)
theorem dX8_readEnd_1 : decode cX8_readEnd 1 = .ok (.getfield 20, 3) := dq_180 (dst 1 rd_prog_10_method_4_code_0 rfl) rfl
theorem dX8_readEnd_4 : decode cX8_readEnd 4 = .ok (.invokevirtual 49, 3) := dq_182 (dst 4 rd_prog_10_method_4_code_0 rfl) rfl
theorem dX8_readEnd_7 : decode cX8_readEnd 7 = .ok (.bipush (-9), 2) := dq_16 (dst 7 rd_prog_10_method_4_code_0 rfl) (by decide +kernel)
theorem dX8_readEnd_9 : decode cX8_readEnd 9 = .ok (.if_icmp .eq 4, 3) := dq_159 (dst 9 rd_prog_10_method_4_code_0 rfl) (by decide +kernel)
theorem dX8_readEnd_12 : decode cX8_readEnd 12 = .ok (.return_, 1) := dq_177 (dst 12 rd_prog_10_method_4_code_0 rfl)
theorem dX8_readEnd_13 : decode cX8_readEnd 13 = .ok (.aload_n 0, 1) := dq_42 (dst 13 rd_prog_10_method_4_code_0 rfl)
theorem dX8_readEnd_14 : decode cX8_readEnd 14 = .ok (.getfield 20, 3) := dq_180 (dst 14 rd_prog_10_method_4_code_0 rfl) rfl
theorem dX8_readEnd_17 : decode cX8_readEnd 17 = .ok (.invokevirtual 39, 3) := dq_182 (dst 17 rd_prog_10_method_4_code_0 rfl) rfl
theorem dX8_readEnd_20 : decode cX8_readEnd 20 = .ok (.bipush 76, 2) := dq_16 (dst 20 rd_prog_10_method_4_code_0 rfl) (by decide +kernel)
theorem dX8_readEnd_22 : decode cX8_readEnd 22 = .ok (.if_icmp .eq 11, 3) := dq_159 (dst 22 rd_prog_10_method_4_code_0 rfl) (by decide +kernel)
theorem dX8_readEnd_25 : decode cX8_readEnd 25 = .ok (.aload_n 0, 1) := dq_42 (dst 25 rd_prog_10_method_4_code_0 rfl)
theorem dX8_readEnd_26 : decode cX8_readEnd 26 = .ok (.getfield 20, 3) := dq_180 (dst 26 rd_prog_10_method_4_code_0 rfl) rfl
theorem dX8_readEnd_29 : decode cX8_readEnd 29 = .ok (.invokevirtual 56, 3) := dq_182 (dst 29 rd_prog_10_method_4_code_0 rfl) rfl
theorem dX8_readEnd_32 : decode cX8_readEnd 32 = .ok (.return_, 1) := dq_177 (dst 0 rd_prog_10_method_4_code_1 rfl)
theorem dX8_readEnd_33 : decode cX8_readEnd 33 = .ok (.aload_n 0, 1) := dq_42 (dst 1 rd_prog_10_method_4_code_1 rfl)
theorem dX8_readEnd_34 : decode cX8_readEnd 34 = .ok (.getfield 20, 3) := dq_180 (dst 2 rd_prog_10_method_4_code_1 rfl) rfl
theorem dX8_readEnd_37 : decode cX8_readEnd 37 = .ok (.invokevirtual 59, 3) := dq_182 (dst 5 rd_prog_10_method_4_code_1 rfl) rfl
theorem dX8_readEnd_40 : decode cX8_readEnd 40 = .ok (.aload_n 0, 1) := dq_42 (dst 8 rd_prog_10_method_4_code_1 rfl)
theorem dX8_readEnd_41 : decode cX8_readEnd 41 = .ok (.getfield 20, 3) := dq_180 (dst 9 rd_prog_10_method_4_code_1 rfl) rfl
theorem dX8_readEnd_44 : decode cX8_readEnd 44 = .ok (.iconst 0, 1) := dq_3 (dst 12 rd_prog_10_method_4_code_1 rfl)
theorem dX8_readEnd_45 : decode cX8_readEnd 45 = .ok (.iconst 4, 1) := dq_7 (dst 13 rd_prog_10_method_4_code_1 rfl)
theorem dX8_readEnd_46 : decode cX8_readEnd 46 = .ok (.invokestatic 27, 3) := dq_184 (dst 14 rd_prog_10_method_4_code_1 rfl) rfl
theorem dX8_readEnd_49 : decode cX8_readEnd 49 = .ok (.invokevirtual 52, 3) := dq_182 (dst 17 rd_prog_10_method_4_code_1 rfl) rfl
theorem dX8_readEnd_52 : decode cX8_readEnd 52 = .ok (.istore_n 1, 1) := dq_60 (dst 20 rd_prog_10_method_4_code_1 rfl)
theorem dX8_readEnd_53 : decode cX8_readEnd 53 = .ok (.iload_n 1, 1) := dq_27 (dst 21 rd_prog_10_method_4_code_1 rfl)
theorem dX8_readEnd_54 : decode cX8_readEnd 54 = .ok (.bipush (-9), 2) := dq_16 (dst 22 rd_prog_10_method_4_code_1 rfl) (by decide +kernel)
theorem dX8_readEnd_56 : decode cX8_readEnd 56 = .ok (.if_icmp .ne 4, 3) := dq_160 (dst 24 rd_prog_10_method_4_code_1 rfl) (by decide +kernel)
theorem dX8_readEnd_59 : decode cX8_readEnd 59 = .ok (.return_, 1) := dq_177 (dst 27 rd_prog_10_method_4_code_1 rfl)
theorem dX8_readEnd_60 : decode cX8_readEnd 60 = .ok (.aload_n 0, 1) := dq_42 (dst 28 rd_prog_10_method_4_code_1 rfl)
theorem dX8_readEnd_61 : decode cX8_readEnd 61 = .ok (.iload_n 1, 1) := dq_27 (dst 29 rd_prog_10_method_4_code_1 rfl)
theorem dX8_readEnd_62 : decode cX8_readEnd 62 = .ok (.putfield 62, 3) := dq_181 (dst 30 rd_prog_10_method_4_code_1 rfl) rfl
theorem dX8_readEnd_65 : decode cX8_readEnd 65 = .ok (.aload_n 0, 1) := dq_42 (dst 1 rd_prog_10_method_4_code_2 rfl)
theorem dX8_readEnd_66 : decode cX8_readEnd 66 = .ok (.getfield 20, 3) := dq_180 (dst 2 rd_prog_10_method_4_code_2 rfl) rfl
theorem dX8_readEnd_69 : decode cX8_readEnd 69 = .ok (.invokevirtual 35, 3) := dq_182 (dst 5 rd_prog_10_method_4_code_2 rfl) rfl
theorem dX8_readEnd_72 : decode cX8_readEnd 72 = .ok (.ifCond .eq 10, 3) := dq_153 (dst 8 rd_prog_10_method_4_code_2 rfl) (by decide +kernel)
theorem dX8_readEnd_75 : decode cX8_readEnd 75 = .ok (.aload_n 0, 1) := dq_42 (dst 11 rd_prog_10_method_4_code_2 rfl)
theorem dX8_readEnd_76 : decode cX8_readEnd 76 = .ok (.getfield 20, 3) := dq_180 (dst 12 rd_prog_10_method_4_code_2 rfl) rfl
theorem dX8_readEnd_79 : decode cX8_readEnd 79 = .ok (.invokevirtual 56, 3) := dq_182 (dst 15 rd_prog_10_method_4_code_2 rfl) rfl
theorem dX8_readEnd_82 : decode cX8_readEnd 82 = .ok (.return_, 1) := dq_177 (dst 18 rd_prog_10_method_4_code_2 rfl)
theorem dX8_levelIn_0 : decode cX8_levelIn 0 = .ok (.aload_n 0, 1) := dq_42 (dst 0 rd_prog_10_method_5_code_0 rfl)
theorem dX8_levelIn_1 : decode cX8_levelIn 1 = .ok (.getfield 31, 3) := dq_180 (dst 1 rd_prog_10_method_5_code_0 rfl) rfl
theorem dX8_levelIn_4 : decode cX8_levelIn 4 = .ok (.iload_n 1, 1) := dq_27 (dst 4 rd_prog_10_method_5_code_0 rfl)
theorem dX8_levelIn_5 : decode cX8_levelIn 5 = .ok (.ishr, 1) := dq_122 (dst 5 rd_prog_10_method_5_code_0 rfl)
theorem dX8_levelIn_6 : decode cX8_levelIn 6 = .ok (.iconst 1, 1) := dq_4 (dst 6 rd_prog_10_method_5_code_0 rfl)
theorem dX8_levelIn_7 : decode cX8_levelIn 7 = .ok (.iand, 1) := dq_126 (dst 7 rd_prog_10_method_5_code_0 rfl)
theorem dX8_levelIn_8 : decode cX8_levelIn 8 = .ok (.ifCond .ne 12, 3) := dq_154 (dst 8 rd_prog_10_method_5_code_0 rfl) (by decide +kernel)
theorem dX8_levelIn_11 : decode cX8_levelIn 11 = .ok (.aload_n 0, 1) := dq_42 (dst 11 rd_prog_10_method_5_code_0 rfl)
theorem dX8_levelIn_12 : decode cX8_levelIn 12 = .ok (.getfield 9, 3) := dq_180 (dst 12 rd_prog_10_method_5_code_0 rfl) rfl
theorem dX8_levelIn_15 : decode cX8_levelIn 15 = .ok (.iload_n 1, 1) := dq_27 (dst 15 rd_prog_10_method_5_code_0 rfl)
theorem dX8_levelIn_16 : decode cX8_levelIn 16 = .ok (.iaload, 1) := dq_46 (dst 16 rd_prog_10_method_5_code_0 rfl)
theorem dX8_levelIn_17 : decode cX8_levelIn 17 = .ok (.goto 7, 3) := dq_167 (dst 17 rd_prog_10_method_5_code_0 rfl) (by decide +kernel)
theorem dX8_levelIn_20 : decode cX8_levelIn 20 = .ok (.aload_n 0, 1) := dq_42 (dst 20 rd_prog_10_method_5_code_0 rfl)
theorem dX8_levelIn_21 : decode cX8_levelIn 21 = .ok (.getfield 62, 3) := dq_180 (dst 21 rd_prog_10_method_5_code_0 rfl) rfl
theorem dX8_levelIn_24 : decode cX8_levelIn 24 = .ok (.ireturn, 1) := dq_172 (dst 24 rd_prog_10_method_5_code_0 rfl)
theorem lf_X8_exceptions_1 : ∀ w ∈ ([Cond.fieldLink RX8 31 "StillInAugust$RuleReader" "untoldWeeks" "I", Cond.methodLink RX8 65 yJ6_bitCount_0f7a4, Cond.static yJ6_bitCount_0f7a4, Cond.initialized RJ6, Cond.code yJ6_bitCount_0f7a4 cJ6_bitCount_0f7a4 1 (some .int), Cond.constant RJ6 265 (1431655765), Cond.constant RJ6 266 (858993459), Cond.constant RJ6 267 (252645135)] : List Cond), w ∈ wsX8_exceptions := fun _ h => (List.mem_cons_of_mem _ (List.mem_append_left _ h))
theorem lf_X8_exceptions_2 : ∀ w ∈ wsX80, w ∈ wsX8_exceptions := fun _ h => (List.mem_cons_of_mem _ (List.mem_append_right _ h))
set_option maxRecDepth 20000 in
theorem ggX8_exceptions_J6_bitCount_0f7a4 : GoodIn wsX8_exceptions wsJ6_bitCount_0f7a4 := (gd_cons (lf_X8_exceptions_1 _ (List.mem_of_getElem? (i := 4) rfl)) rfl (gd_cons (lf_X8_exceptions_1 _ (List.mem_of_getElem? (i := 5) rfl)) rfl (gd_cons (lf_X8_exceptions_1 _ (List.mem_of_getElem? (i := 6) rfl)) rfl (gd_cons (lf_X8_exceptions_1 _ (List.mem_of_getElem? (i := 7) rfl)) rfl (gd_nil _)))))
set_option maxRecDepth 20000 in
theorem gX8_exceptions_J6_bitCount_0f7a4 : GoodIn wsX8_exceptions (va_wsS RX8 65 yJ6_bitCount_0f7a4 wsJ6_bitCount_0f7a4) := goodIn_app (gd_cons (lf_X8_exceptions_1 _ (List.mem_of_getElem? (i := 1) rfl)) rfl (gd_cons (lf_X8_exceptions_1 _ (List.mem_of_getElem? (i := 2) rfl)) rfl (gd_cons (lf_X8_exceptions_1 _ (List.mem_of_getElem? (i := 3) rfl)) rfl (gd_nil _)))) ggX8_exceptions_J6_bitCount_0f7a4
theorem dX8_exceptions_0 : decode cX8_exceptions 0 = .ok (.iconst 5, 1) := dq_8 (dst 0 rd_prog_10_method_6_code_0 rfl)
theorem dX8_exceptions_1 : decode cX8_exceptions 1 = .ok (.aload_n 0, 1) := dq_42 (dst 1 rd_prog_10_method_6_code_0 rfl)
theorem dX8_exceptions_2 : decode cX8_exceptions 2 = .ok (.getfield 31, 3) := dq_180 (dst 2 rd_prog_10_method_6_code_0 rfl) rfl
theorem dX8_exceptions_5 : decode cX8_exceptions 5 = .ok (.invokestatic 65, 3) := dq_184 (dst 5 rd_prog_10_method_6_code_0 rfl) rfl
theorem dX8_exceptions_8 : decode cX8_exceptions 8 = .ok (.isub, 1) := dq_100 (dst 8 rd_prog_10_method_6_code_0 rfl)
theorem dX8_exceptions_9 : decode cX8_exceptions 9 = .ok (.ireturn, 1) := dq_172 (dst 9 rd_prog_10_method_6_code_0 rfl)
theorem dX9_init_0 : decode cX9_init 0 = .ok (.aload_n 0, 1) := dq_42 (dst 0 rd_prog_11_method_1_code_0 rfl)
theorem dX9_init_1 : decode cX9_init 1 = .ok (.invokespecial 1, 3) := dq_183 (dst 1 rd_prog_11_method_1_code_0 rfl) rfl
theorem dX9_init_4 : decode cX9_init 4 = .ok (.return_, 1) := dq_177 (dst 4 rd_prog_11_method_1_code_0 rfl)
theorem dX9_begin_0 : decode cX9_begin 0 = .ok (.aload_n 0, 1) := dq_42 (dst 0 rd_prog_11_method_2_code_0 rfl)
theorem dX9_begin_1 : decode cX9_begin 1 = .ok (.iconst 0, 1) := dq_3 (dst 1 rd_prog_11_method_2_code_0 rfl)
theorem dX9_begin_2 : decode cX9_begin 2 = .ok (.putfield 7, 3) := dq_181 (dst 2 rd_prog_11_method_2_code_0 rfl) rfl
theorem dX9_begin_5 : decode cX9_begin 5 = .ok (.aload_n 0, 1) := dq_42 (dst 5 rd_prog_11_method_2_code_0 rfl)
theorem dX9_begin_6 : decode cX9_begin 6 = .ok (.iconst 0, 1) := dq_3 (dst 6 rd_prog_11_method_2_code_0 rfl)
theorem dX9_begin_7 : decode cX9_begin 7 = .ok (.putfield 13, 3) := dq_181 (dst 7 rd_prog_11_method_2_code_0 rfl) rfl
theorem dX9_begin_10 : decode cX9_begin 10 = .ok (.aload_n 0, 1) := dq_42 (dst 10 rd_prog_11_method_2_code_0 rfl)
theorem dX9_begin_11 : decode cX9_begin 11 = .ok (.iconst 0, 1) := dq_3 (dst 11 rd_prog_11_method_2_code_0 rfl)
theorem dX9_begin_12 : decode cX9_begin 12 = .ok (.putfield 16, 3) := dq_181 (dst 12 rd_prog_11_method_2_code_0 rfl) rfl
theorem dX9_begin_15 : decode cX9_begin 15 = .ok (.aload_n 0, 1) := dq_42 (dst 15 rd_prog_11_method_2_code_0 rfl)
theorem dX9_begin_16 : decode cX9_begin 16 = .ok (.iconst 0, 1) := dq_3 (dst 16 rd_prog_11_method_2_code_0 rfl)
theorem dX9_begin_17 : decode cX9_begin 17 = .ok (.putfield 19, 3) := dq_181 (dst 17 rd_prog_11_method_2_code_0 rfl) rfl
theorem dX9_begin_20 : decode cX9_begin 20 = .ok (.aload_n 0, 1) := dq_42 (dst 20 rd_prog_11_method_2_code_0 rfl)
theorem dX9_begin_21 : decode cX9_begin 21 = .ok (.iconst 0, 1) := dq_3 (dst 21 rd_prog_11_method_2_code_0 rfl)
theorem dX9_begin_22 : decode cX9_begin 22 = .ok (.putfield 22, 3) := dq_181 (dst 22 rd_prog_11_method_2_code_0 rfl) rfl
theorem dX9_begin_25 : decode cX9_begin 25 = .ok (.aload_n 0, 1) := dq_42 (dst 25 rd_prog_11_method_2_code_0 rfl)
theorem dX9_begin_26 : decode cX9_begin 26 = .ok (.iconst 0, 1) := dq_3 (dst 26 rd_prog_11_method_2_code_0 rfl)
theorem dX9_begin_27 : decode cX9_begin 27 = .ok (.putfield 26, 3) := dq_181 (dst 27 rd_prog_11_method_2_code_0 rfl) rfl
theorem dX9_begin_30 : decode cX9_begin 30 = .ok (.return_, 1) := dq_177 (dst 30 rd_prog_11_method_2_code_0 rfl)
theorem dX9_copy_0 : decode cX9_copy 0 = .ok (.aload_n 0, 1) := dq_42 (dst 0 rd_prog_11_method_3_code_0 rfl)
theorem dX9_copy_1 : decode cX9_copy 1 = .ok (.aload_n 1, 1) := dq_43 (dst 1 rd_prog_11_method_3_code_0 rfl)
theorem dX9_copy_2 : decode cX9_copy 2 = .ok (.getfield 7, 3) := dq_180 (dst 2 rd_prog_11_method_3_code_0 rfl) rfl
theorem dX9_copy_5 : decode cX9_copy 5 = .ok (.putfield 7, 3) := dq_181 (dst 5 rd_prog_11_method_3_code_0 rfl) rfl
theorem dX9_copy_8 : decode cX9_copy 8 = .ok (.aload_n 0, 1) := dq_42 (dst 8 rd_prog_11_method_3_code_0 rfl)
theorem dX9_copy_9 : decode cX9_copy 9 = .ok (.aload_n 1, 1) := dq_43 (dst 9 rd_prog_11_method_3_code_0 rfl)
theorem dX9_copy_10 : decode cX9_copy 10 = .ok (.getfield 13, 3) := dq_180 (dst 10 rd_prog_11_method_3_code_0 rfl) rfl
theorem dX9_copy_13 : decode cX9_copy 13 = .ok (.putfield 13, 3) := dq_181 (dst 13 rd_prog_11_method_3_code_0 rfl) rfl
theorem dX9_copy_16 : decode cX9_copy 16 = .ok (.aload_n 0, 1) := dq_42 (dst 16 rd_prog_11_method_3_code_0 rfl)
theorem dX9_copy_17 : decode cX9_copy 17 = .ok (.aload_n 1, 1) := dq_43 (dst 17 rd_prog_11_method_3_code_0 rfl)
theorem dX9_copy_18 : decode cX9_copy 18 = .ok (.getfield 16, 3) := dq_180 (dst 18 rd_prog_11_method_3_code_0 rfl) rfl
theorem dX9_copy_21 : decode cX9_copy 21 = .ok (.putfield 16, 3) := dq_181 (dst 21 rd_prog_11_method_3_code_0 rfl) rfl
theorem dX9_copy_24 : decode cX9_copy 24 = .ok (.aload_n 0, 1) := dq_42 (dst 24 rd_prog_11_method_3_code_0 rfl)
theorem dX9_copy_25 : decode cX9_copy 25 = .ok (.aload_n 1, 1) := dq_43 (dst 25 rd_prog_11_method_3_code_0 rfl)
theorem dX9_copy_26 : decode cX9_copy 26 = .ok (.getfield 19, 3) := dq_180 (dst 26 rd_prog_11_method_3_code_0 rfl) rfl
theorem dX9_copy_29 : decode cX9_copy 29 = .ok (.putfield 19, 3) := dq_181 (dst 29 rd_prog_11_method_3_code_0 rfl) rfl
theorem dX9_copy_32 : decode cX9_copy 32 = .ok (.aload_n 0, 1) := dq_42 (dst 0 rd_prog_11_method_3_code_1 rfl)
theorem dX9_copy_33 : decode cX9_copy 33 = .ok (.aload_n 1, 1) := dq_43 (dst 1 rd_prog_11_method_3_code_1 rfl)
theorem dX9_copy_34 : decode cX9_copy 34 = .ok (.getfield 22, 3) := dq_180 (dst 2 rd_prog_11_method_3_code_1 rfl) rfl
theorem dX9_copy_37 : decode cX9_copy 37 = .ok (.putfield 22, 3) := dq_181 (dst 5 rd_prog_11_method_3_code_1 rfl) rfl
theorem dX9_copy_40 : decode cX9_copy 40 = .ok (.aload_n 0, 1) := dq_42 (dst 8 rd_prog_11_method_3_code_1 rfl)
theorem dX9_copy_41 : decode cX9_copy 41 = .ok (.aload_n 1, 1) := dq_43 (dst 9 rd_prog_11_method_3_code_1 rfl)
theorem dX9_copy_42 : decode cX9_copy 42 = .ok (.getfield 26, 3) := dq_180 (dst 10 rd_prog_11_method_3_code_1 rfl) rfl
theorem dX9_copy_45 : decode cX9_copy 45 = .ok (.putfield 26, 3) := dq_181 (dst 13 rd_prog_11_method_3_code_1 rfl) rfl
theorem dX9_copy_48 : decode cX9_copy 48 = .ok (.return_, 1) := dq_177 (dst 16 rd_prog_11_method_3_code_1 rfl)
theorem lf_X9_mayAct_1 : ∀ w ∈ wsX9_mayAct_r1, w ∈ wsX9_mayAct := fun _ h => (List.mem_cons_of_mem _ (List.mem_append_left _ (List.mem_append_left _ (List.mem_append_left _ h))))
theorem lf_X9_mayAct_2 : ∀ w ∈ wsX9_mayAct_r2, w ∈ wsX9_mayAct := fun _ h => (List.mem_cons_of_mem _ (List.mem_append_left _ (List.mem_append_left _ (List.mem_append_right _ (List.mem_append_left _ h)))))
theorem lf_X9_mayAct_3 : ∀ w ∈ wsX9_mayAct_r3, w ∈ wsX9_mayAct := fun _ h => (List.mem_cons_of_mem _ (List.mem_append_left _ (List.mem_append_left _ (List.mem_append_right _ (List.mem_append_right _ h)))))
theorem lf_X9_mayAct_4 : ∀ w ∈ wsX90, w ∈ wsX9_mayAct := fun _ h => (List.mem_cons_of_mem _ (List.mem_append_left _ (List.mem_append_right _ h)))
theorem lf_X9_mayAct_5 : ∀ w ∈ wsX40, w ∈ wsX9_mayAct := fun _ h => (List.mem_cons_of_mem _ (List.mem_append_right _ h))
set_option maxRecDepth 20000 in
theorem ggX9_mayAct_X4_allows : GoodIn wsX9_mayAct wsX4_allows := (gd_cons (lf_X9_mayAct_1 _ (List.mem_of_getElem? (i := 8) rfl)) rfl (goodIn_app (goodIn_app (gd_cons (lf_X9_mayAct_1 _ (List.mem_of_getElem? (i := 9) rfl)) rfl (gd_cons (lf_X9_mayAct_1 _ (List.mem_of_getElem? (i := 10) rfl)) rfl (gd_cons (lf_X9_mayAct_1 _ (List.mem_of_getElem? (i := 11) rfl)) rfl (gd_cons (lf_X9_mayAct_1 _ (List.mem_of_getElem? (i := 12) rfl)) rfl (gd_cons (lf_X9_mayAct_1 _ (List.mem_of_getElem? (i := 13) rfl)) rfl (gd_cons (lf_X9_mayAct_1 _ (List.mem_of_getElem? (i := 14) rfl)) rfl (gd_cons (lf_X9_mayAct_1 _ (List.mem_of_getElem? (i := 15) rfl)) rfl (gd_cons (lf_X9_mayAct_1 _ (List.mem_of_getElem? (i := 7) rfl)) rfl (gd_cons (lf_X9_mayAct_1 _ (List.mem_of_getElem? (i := 16) rfl)) rfl (gd_cons (lf_X9_mayAct_1 _ (List.mem_of_getElem? (i := 17) rfl)) rfl (gd_cons (lf_X9_mayAct_1 _ (List.mem_of_getElem? (i := 18) rfl)) rfl (gd_cons (lf_X9_mayAct_1 _ (List.mem_of_getElem? (i := 19) rfl)) rfl (gd_cons (lf_X9_mayAct_1 _ (List.mem_of_getElem? (i := 20) rfl)) rfl (gd_cons (lf_X9_mayAct_1 _ (List.mem_of_getElem? (i := 21) rfl)) rfl (gd_cons (lf_X9_mayAct_1 _ (List.mem_of_getElem? (i := 22) rfl)) rfl (gd_cons (lf_X9_mayAct_1 _ (List.mem_of_getElem? (i := 23) rfl)) rfl (gd_cons (lf_X9_mayAct_2 _ (List.mem_of_getElem? (i := 0) rfl)) rfl (gd_cons (lf_X9_mayAct_2 _ (List.mem_of_getElem? (i := 1) rfl)) rfl (gd_cons (lf_X9_mayAct_2 _ (List.mem_of_getElem? (i := 2) rfl)) rfl (gd_cons (lf_X9_mayAct_2 _ (List.mem_of_getElem? (i := 3) rfl)) rfl (gd_cons (lf_X9_mayAct_2 _ (List.mem_of_getElem? (i := 4) rfl)) rfl (gd_cons (lf_X9_mayAct_2 _ (List.mem_of_getElem? (i := 5) rfl)) rfl (gd_cons (lf_X9_mayAct_2 _ (List.mem_of_getElem? (i := 6) rfl)) rfl (gd_cons (lf_X9_mayAct_2 _ (List.mem_of_getElem? (i := 7) rfl)) rfl (gd_nil _))))))))))))))))))))))))) (goodIn_app (gd_cons (lf_X9_mayAct_2 _ (List.mem_of_getElem? (i := 8) rfl)) rfl (gd_cons (lf_X9_mayAct_2 _ (List.mem_of_getElem? (i := 9) rfl)) rfl (gd_cons (lf_X9_mayAct_2 _ (List.mem_of_getElem? (i := 10) rfl)) rfl (gd_cons (lf_X9_mayAct_2 _ (List.mem_of_getElem? (i := 11) rfl)) rfl (gd_cons (lf_X9_mayAct_2 _ (List.mem_of_getElem? (i := 12) rfl)) rfl (gd_cons (lf_X9_mayAct_2 _ (List.mem_of_getElem? (i := 13) rfl)) rfl (gd_cons (lf_X9_mayAct_2 _ (List.mem_of_getElem? (i := 14) rfl)) rfl (gd_cons (lf_X9_mayAct_2 _ (List.mem_of_getElem? (i := 15) rfl)) rfl (gd_cons (lf_X9_mayAct_2 _ (List.mem_of_getElem? (i := 16) rfl)) rfl (gd_cons (lf_X9_mayAct_2 _ (List.mem_of_getElem? (i := 17) rfl)) rfl (gd_cons (lf_X9_mayAct_2 _ (List.mem_of_getElem? (i := 18) rfl)) rfl (gd_cons (lf_X9_mayAct_2 _ (List.mem_of_getElem? (i := 19) rfl)) rfl (gd_cons (lf_X9_mayAct_2 _ (List.mem_of_getElem? (i := 20) rfl)) rfl (gd_cons (lf_X9_mayAct_2 _ (List.mem_of_getElem? (i := 21) rfl)) rfl (gd_cons (lf_X9_mayAct_2 _ (List.mem_of_getElem? (i := 22) rfl)) rfl (gd_cons (lf_X9_mayAct_2 _ (List.mem_of_getElem? (i := 23) rfl)) rfl (gd_cons (lf_X9_mayAct_3 _ (List.mem_of_getElem? (i := 0) rfl)) rfl (gd_cons (lf_X9_mayAct_3 _ (List.mem_of_getElem? (i := 1) rfl)) rfl (gd_cons (lf_X9_mayAct_3 _ (List.mem_of_getElem? (i := 2) rfl)) rfl (gd_cons (lf_X9_mayAct_3 _ (List.mem_of_getElem? (i := 3) rfl)) rfl (gd_cons (lf_X9_mayAct_3 _ (List.mem_of_getElem? (i := 4) rfl)) rfl (gd_cons (lf_X9_mayAct_3 _ (List.mem_of_getElem? (i := 5) rfl)) rfl (gd_cons (lf_X9_mayAct_3 _ (List.mem_of_getElem? (i := 6) rfl)) rfl (gd_cons (lf_X9_mayAct_3 _ (List.mem_of_getElem? (i := 7) rfl)) rfl (gd_nil _))))))))))))))))))))))))) (gd_cons (lf_X9_mayAct_3 _ (List.mem_of_getElem? (i := 8) rfl)) rfl (gd_cons (lf_X9_mayAct_3 _ (List.mem_of_getElem? (i := 9) rfl)) rfl (gd_cons (lf_X9_mayAct_3 _ (List.mem_of_getElem? (i := 10) rfl)) rfl (gd_cons (lf_X9_mayAct_3 _ (List.mem_of_getElem? (i := 11) rfl)) rfl (gd_cons (lf_X9_mayAct_3 _ (List.mem_of_getElem? (i := 12) rfl)) rfl (gd_cons (lf_X9_mayAct_3 _ (List.mem_of_getElem? (i := 13) rfl)) rfl (gd_cons (lf_X9_mayAct_3 _ (List.mem_of_getElem? (i := 14) rfl)) rfl (gd_nil _)))))))))) (goodIn_sub lf_X9_mayAct_5 ga_wsX40)))
set_option maxRecDepth 20000 in
theorem gX9_mayAct_X4_allows : GoodIn wsX9_mayAct (wsV RX9 34 RX4 yX4_allows wsX4_allows) := goodIn_app (gd_cons (lf_X9_mayAct_1 _ (List.mem_of_getElem? (i := 4) rfl)) rfl (gd_cons (lf_X9_mayAct_1 _ (List.mem_of_getElem? (i := 5) rfl)) rfl (gd_cons (lf_X9_mayAct_1 _ (List.mem_of_getElem? (i := 6) rfl)) rfl (gd_cons (lf_X9_mayAct_1 _ (List.mem_of_getElem? (i := 7) rfl)) rfl (gd_nil _))))) ggX9_mayAct_X4_allows
theorem dX9_mayAct_0 : decode cX9_mayAct 0 = .ok (.aload_n 0, 1) := dq_42 (dst 0 rd_prog_11_method_4_code_0 rfl)
theorem dX9_mayAct_1 : decode cX9_mayAct 1 = .ok (.getfield 22, 3) := dq_180 (dst 1 rd_prog_11_method_4_code_0 rfl) rfl
theorem dX9_mayAct_4 : decode cX9_mayAct 4 = .ok (.ifCond .ne 34, 3) := dq_154 (dst 4 rd_prog_11_method_4_code_0 rfl) (by decide +kernel)
theorem dX9_mayAct_7 : decode cX9_mayAct 7 = .ok (.aload_n 0, 1) := dq_42 (dst 7 rd_prog_11_method_4_code_0 rfl)
theorem dX9_mayAct_8 : decode cX9_mayAct 8 = .ok (.getfield 7, 3) := dq_180 (dst 8 rd_prog_11_method_4_code_0 rfl) rfl
theorem dX9_mayAct_11 : decode cX9_mayAct 11 = .ok (.aload_n 1, 1) := dq_43 (dst 11 rd_prog_11_method_4_code_0 rfl)
theorem dX9_mayAct_12 : decode cX9_mayAct 12 = .ok (.getfield 29, 3) := dq_180 (dst 12 rd_prog_11_method_4_code_0 rfl) rfl
theorem dX9_mayAct_15 : decode cX9_mayAct 15 = .ok (.if_icmp .ge 23, 3) := dq_162 (dst 15 rd_prog_11_method_4_code_0 rfl) (by decide +kernel)
theorem dX9_mayAct_18 : decode cX9_mayAct 18 = .ok (.aload_n 1, 1) := dq_43 (dst 18 rd_prog_11_method_4_code_0 rfl)
theorem dX9_mayAct_19 : decode cX9_mayAct 19 = .ok (.aload_n 0, 1) := dq_42 (dst 19 rd_prog_11_method_4_code_0 rfl)
theorem dX9_mayAct_20 : decode cX9_mayAct 20 = .ok (.getfield 7, 3) := dq_180 (dst 20 rd_prog_11_method_4_code_0 rfl) rfl
theorem dX9_mayAct_23 : decode cX9_mayAct 23 = .ok (.aload_n 0, 1) := dq_42 (dst 23 rd_prog_11_method_4_code_0 rfl)
theorem dX9_mayAct_24 : decode cX9_mayAct 24 = .ok (.getfield 13, 3) := dq_180 (dst 24 rd_prog_11_method_4_code_0 rfl) rfl
theorem dX9_mayAct_27 : decode cX9_mayAct 27 = .ok (.iload_n 2, 1) := dq_28 (dst 27 rd_prog_11_method_4_code_0 rfl)
theorem dX9_mayAct_28 : decode cX9_mayAct 28 = .ok (.invokevirtual 34, 3) := dq_182 (dst 28 rd_prog_11_method_4_code_0 rfl) rfl
theorem dX9_mayAct_31 : decode cX9_mayAct 31 = .ok (.ifCond .eq 7, 3) := dq_153 (dst 31 rd_prog_11_method_4_code_0 rfl) (by decide +kernel)
theorem dX9_mayAct_34 : decode cX9_mayAct 34 = .ok (.iconst 1, 1) := dq_4 (dst 2 rd_prog_11_method_4_code_1 rfl)
theorem dX9_mayAct_35 : decode cX9_mayAct 35 = .ok (.goto 4, 3) := dq_167 (dst 3 rd_prog_11_method_4_code_1 rfl) (by decide +kernel)
theorem dX9_mayAct_38 : decode cX9_mayAct 38 = .ok (.iconst 0, 1) := dq_3 (dst 6 rd_prog_11_method_4_code_1 rfl)
theorem dX9_mayAct_39 : decode cX9_mayAct 39 = .ok (.ireturn, 1) := dq_172 (dst 7 rd_prog_11_method_4_code_1 rfl)
theorem lf_X9_passWeek_1 : ∀ w ∈ wsX9_passWeek_r1, w ∈ wsX9_passWeek := fun _ h => (List.mem_cons_of_mem _ (List.mem_append_left _ (List.mem_append_left _ (List.mem_append_left _ h))))
theorem lf_X9_passWeek_2 : ∀ w ∈ wsX9_passWeek_r2, w ∈ wsX9_passWeek := fun _ h => (List.mem_cons_of_mem _ (List.mem_append_left _ (List.mem_append_left _ (List.mem_append_right _ (List.mem_append_left _ h)))))
theorem lf_X9_passWeek_3 : ∀ w ∈ wsX9_passWeek_r3, w ∈ wsX9_passWeek := fun _ h => (List.mem_cons_of_mem _ (List.mem_append_left _ (List.mem_append_left _ (List.mem_append_right _ (List.mem_append_right _ h)))))
theorem lf_X9_passWeek_4 : ∀ w ∈ wsX90, w ∈ wsX9_passWeek := fun _ h => (List.mem_cons_of_mem _ (List.mem_append_left _ (List.mem_append_right _ h)))
theorem lf_X9_passWeek_5 : ∀ w ∈ wsX40, w ∈ wsX9_passWeek := fun _ h => (List.mem_cons_of_mem _ (List.mem_append_right _ h))
set_option maxRecDepth 20000 in
theorem ggX9_passWeek_X0_done : GoodIn wsX9_passWeek wsX0_done := (gd_cons (lf_X9_passWeek_1 _ (List.mem_of_getElem? (i := 9) rfl)) rfl (gd_cons (lf_X9_passWeek_1 _ (List.mem_of_getElem? (i := 10) rfl)) rfl (gd_cons (lf_X9_passWeek_1 _ (List.mem_of_getElem? (i := 11) rfl)) rfl (gd_cons (lf_X9_passWeek_1 _ (List.mem_of_getElem? (i := 8) rfl)) rfl (gd_cons (lf_X9_passWeek_1 _ (List.mem_of_getElem? (i := 12) rfl)) rfl (gd_cons (lf_X9_passWeek_1 _ (List.mem_of_getElem? (i := 13) rfl)) rfl (gd_cons (lf_X9_passWeek_1 _ (List.mem_of_getElem? (i := 14) rfl)) rfl (gd_cons (lf_X9_passWeek_1 _ (List.mem_of_getElem? (i := 15) rfl)) rfl (gd_cons (lf_X9_passWeek_1 _ (List.mem_of_getElem? (i := 16) rfl)) rfl (gd_cons (lf_X9_passWeek_1 _ (List.mem_of_getElem? (i := 17) rfl)) rfl (gd_cons (lf_X9_passWeek_1 _ (List.mem_of_getElem? (i := 18) rfl)) rfl (gd_cons (lf_X9_passWeek_1 _ (List.mem_of_getElem? (i := 19) rfl)) rfl (gd_cons (lf_X9_passWeek_1 _ (List.mem_of_getElem? (i := 20) rfl)) rfl (gd_cons (lf_X9_passWeek_1 _ (List.mem_of_getElem? (i := 21) rfl)) rfl (gd_cons (lf_X9_passWeek_1 _ (List.mem_of_getElem? (i := 22) rfl)) rfl (gd_cons (lf_X9_passWeek_1 _ (List.mem_of_getElem? (i := 23) rfl)) rfl (gd_cons (lf_X9_passWeek_2 _ (List.mem_of_getElem? (i := 0) rfl)) rfl (gd_cons (lf_X9_passWeek_2 _ (List.mem_of_getElem? (i := 1) rfl)) rfl (gd_cons (lf_X9_passWeek_2 _ (List.mem_of_getElem? (i := 2) rfl)) rfl (gd_nil _))))))))))))))))))))
set_option maxRecDepth 20000 in
theorem gX9_passWeek_X0_done : GoodIn wsX9_passWeek (va_wsS RX9 38 yX0_done wsX0_done) := goodIn_app (gd_cons (lf_X9_passWeek_1 _ (List.mem_of_getElem? (i := 6) rfl)) rfl (gd_cons (lf_X9_passWeek_1 _ (List.mem_of_getElem? (i := 7) rfl)) rfl (gd_cons (lf_X9_passWeek_1 _ (List.mem_of_getElem? (i := 8) rfl)) rfl (gd_nil _)))) ggX9_passWeek_X0_done
set_option maxRecDepth 20000 in
theorem ggX9_passWeek_X0_ordered : GoodIn wsX9_passWeek wsX0_ordered := (gd_cons (lf_X9_passWeek_2 _ (List.mem_of_getElem? (i := 5) rfl)) rfl (gd_nil _))
set_option maxRecDepth 20000 in
theorem gX9_passWeek_X0_ordered : GoodIn wsX9_passWeek (va_wsS RX9 44 yX0_ordered wsX0_ordered) := goodIn_app (gd_cons (lf_X9_passWeek_2 _ (List.mem_of_getElem? (i := 3) rfl)) rfl (gd_cons (lf_X9_passWeek_2 _ (List.mem_of_getElem? (i := 4) rfl)) rfl (gd_cons (lf_X9_passWeek_1 _ (List.mem_of_getElem? (i := 8) rfl)) rfl (gd_nil _)))) ggX9_passWeek_X0_ordered
set_option maxRecDepth 20000 in
theorem ggX9_passWeek_X4_weekCost : GoodIn wsX9_passWeek wsX4_weekCost := (gd_cons (lf_X9_passWeek_2 _ (List.mem_of_getElem? (i := 10) rfl)) rfl (goodIn_app (goodIn_app (gd_cons (lf_X9_passWeek_2 _ (List.mem_of_getElem? (i := 11) rfl)) rfl (gd_cons (lf_X9_passWeek_2 _ (List.mem_of_getElem? (i := 12) rfl)) rfl (gd_cons (lf_X9_passWeek_2 _ (List.mem_of_getElem? (i := 13) rfl)) rfl (gd_cons (lf_X9_passWeek_2 _ (List.mem_of_getElem? (i := 14) rfl)) rfl (gd_cons (lf_X9_passWeek_1 _ (List.mem_of_getElem? (i := 19) rfl)) rfl (gd_cons (lf_X9_passWeek_2 _ (List.mem_of_getElem? (i := 15) rfl)) rfl (gd_cons (lf_X9_passWeek_2 _ (List.mem_of_getElem? (i := 16) rfl)) rfl (gd_cons (lf_X9_passWeek_2 _ (List.mem_of_getElem? (i := 17) rfl)) rfl (gd_cons (lf_X9_passWeek_2 _ (List.mem_of_getElem? (i := 18) rfl)) rfl (gd_cons (lf_X9_passWeek_2 _ (List.mem_of_getElem? (i := 19) rfl)) rfl (gd_cons (lf_X9_passWeek_2 _ (List.mem_of_getElem? (i := 1) rfl)) rfl (gd_cons (lf_X9_passWeek_1 _ (List.mem_of_getElem? (i := 8) rfl)) rfl (gd_cons (lf_X9_passWeek_2 _ (List.mem_of_getElem? (i := 2) rfl)) rfl (gd_cons (lf_X9_passWeek_2 _ (List.mem_of_getElem? (i := 20) rfl)) rfl (gd_cons (lf_X9_passWeek_2 _ (List.mem_of_getElem? (i := 21) rfl)) rfl (gd_cons (lf_X9_passWeek_1 _ (List.mem_of_getElem? (i := 15) rfl)) rfl (gd_cons (lf_X9_passWeek_2 _ (List.mem_of_getElem? (i := 22) rfl)) rfl (gd_cons (lf_X9_passWeek_2 _ (List.mem_of_getElem? (i := 23) rfl)) rfl (gd_cons (lf_X9_passWeek_3 _ (List.mem_of_getElem? (i := 0) rfl)) rfl (gd_cons (lf_X9_passWeek_3 _ (List.mem_of_getElem? (i := 1) rfl)) rfl (gd_cons (lf_X9_passWeek_2 _ (List.mem_of_getElem? (i := 9) rfl)) rfl (gd_cons (lf_X9_passWeek_3 _ (List.mem_of_getElem? (i := 2) rfl)) rfl (gd_cons (lf_X9_passWeek_3 _ (List.mem_of_getElem? (i := 3) rfl)) rfl (gd_cons (lf_X9_passWeek_3 _ (List.mem_of_getElem? (i := 4) rfl)) rfl (gd_nil _))))))))))))))))))))))))) (gd_cons (lf_X9_passWeek_3 _ (List.mem_of_getElem? (i := 5) rfl)) rfl (gd_cons (lf_X9_passWeek_1 _ (List.mem_of_getElem? (i := 11) rfl)) rfl (gd_cons (lf_X9_passWeek_1 _ (List.mem_of_getElem? (i := 12) rfl)) rfl (gd_nil _))))) (goodIn_sub lf_X9_passWeek_5 ga_wsX40)))
set_option maxRecDepth 20000 in
theorem gX9_passWeek_X4_weekCost : GoodIn wsX9_passWeek (wsV RX9 47 RX4 yX4_weekCost wsX4_weekCost) := goodIn_app (gd_cons (lf_X9_passWeek_2 _ (List.mem_of_getElem? (i := 6) rfl)) rfl (gd_cons (lf_X9_passWeek_2 _ (List.mem_of_getElem? (i := 7) rfl)) rfl (gd_cons (lf_X9_passWeek_2 _ (List.mem_of_getElem? (i := 8) rfl)) rfl (gd_cons (lf_X9_passWeek_2 _ (List.mem_of_getElem? (i := 9) rfl)) rfl (gd_nil _))))) ggX9_passWeek_X4_weekCost
theorem dX9_passWeek_0 : decode cX9_passWeek 0 = .ok (.aload_n 0, 1) := dq_42 (dst 0 rd_prog_11_method_5_code_0 rfl)
theorem dX9_passWeek_1 : decode cX9_passWeek 1 = .ok (.aload_n 0, 1) := dq_42 (dst 1 rd_prog_11_method_5_code_0 rfl)
theorem dX9_passWeek_2 : decode cX9_passWeek 2 = .ok (.getfield 13, 3) := dq_180 (dst 2 rd_prog_11_method_5_code_0 rfl) rfl
theorem dX9_passWeek_5 : decode cX9_passWeek 5 = .ok (.iload_n 2, 1) := dq_28 (dst 5 rd_prog_11_method_5_code_0 rfl)
theorem dX9_passWeek_6 : decode cX9_passWeek 6 = .ok (.invokestatic 38, 3) := dq_184 (dst 6 rd_prog_11_method_5_code_0 rfl) rfl
theorem dX9_passWeek_9 : decode cX9_passWeek 9 = .ok (.putfield 13, 3) := dq_181 (dst 9 rd_prog_11_method_5_code_0 rfl) rfl
theorem dX9_passWeek_12 : decode cX9_passWeek 12 = .ok (.aload_n 0, 1) := dq_42 (dst 12 rd_prog_11_method_5_code_0 rfl)
theorem dX9_passWeek_13 : decode cX9_passWeek 13 = .ok (.iload_n 2, 1) := dq_28 (dst 13 rd_prog_11_method_5_code_0 rfl)
theorem dX9_passWeek_14 : decode cX9_passWeek 14 = .ok (.invokestatic 44, 3) := dq_184 (dst 14 rd_prog_11_method_5_code_0 rfl) rfl
theorem dX9_passWeek_17 : decode cX9_passWeek 17 = .ok (.putfield 19, 3) := dq_181 (dst 17 rd_prog_11_method_5_code_0 rfl) rfl
theorem dX9_passWeek_20 : decode cX9_passWeek 20 = .ok (.aload_n 0, 1) := dq_42 (dst 20 rd_prog_11_method_5_code_0 rfl)
theorem dX9_passWeek_21 : decode cX9_passWeek 21 = .ok (.iconst 1, 1) := dq_4 (dst 21 rd_prog_11_method_5_code_0 rfl)
theorem dX9_passWeek_22 : decode cX9_passWeek 22 = .ok (.putfield 22, 3) := dq_181 (dst 22 rd_prog_11_method_5_code_0 rfl) rfl
theorem dX9_passWeek_25 : decode cX9_passWeek 25 = .ok (.aload_n 1, 1) := dq_43 (dst 25 rd_prog_11_method_5_code_0 rfl)
theorem dX9_passWeek_26 : decode cX9_passWeek 26 = .ok (.aload_n 0, 1) := dq_42 (dst 26 rd_prog_11_method_5_code_0 rfl)
theorem dX9_passWeek_27 : decode cX9_passWeek 27 = .ok (.getfield 7, 3) := dq_180 (dst 27 rd_prog_11_method_5_code_0 rfl) rfl
theorem dX9_passWeek_30 : decode cX9_passWeek 30 = .ok (.aload_n 0, 1) := dq_42 (dst 30 rd_prog_11_method_5_code_0 rfl)
theorem dX9_passWeek_31 : decode cX9_passWeek 31 = .ok (.getfield 13, 3) := dq_180 (dst 31 rd_prog_11_method_5_code_0 rfl) rfl
theorem dX9_passWeek_34 : decode cX9_passWeek 34 = .ok (.aload_n 0, 1) := dq_42 (dst 2 rd_prog_11_method_5_code_1 rfl)
theorem dX9_passWeek_35 : decode cX9_passWeek 35 = .ok (.getfield 16, 3) := dq_180 (dst 3 rd_prog_11_method_5_code_1 rfl) rfl
theorem dX9_passWeek_38 : decode cX9_passWeek 38 = .ok (.iload_n 2, 1) := dq_28 (dst 6 rd_prog_11_method_5_code_1 rfl)
theorem dX9_passWeek_39 : decode cX9_passWeek 39 = .ok (.invokevirtual 47, 3) := dq_182 (dst 7 rd_prog_11_method_5_code_1 rfl) rfl
theorem dX9_passWeek_42 : decode cX9_passWeek 42 = .ok (.istore_n 3, 1) := dq_62 (dst 10 rd_prog_11_method_5_code_1 rfl)
theorem dX9_passWeek_43 : decode cX9_passWeek 43 = .ok (.aload_n 0, 1) := dq_42 (dst 11 rd_prog_11_method_5_code_1 rfl)
theorem dX9_passWeek_44 : decode cX9_passWeek 44 = .ok (.dup, 1) := dq_89 (dst 12 rd_prog_11_method_5_code_1 rfl)
theorem dX9_passWeek_45 : decode cX9_passWeek 45 = .ok (.getfield 26, 3) := dq_180 (dst 13 rd_prog_11_method_5_code_1 rfl) rfl
theorem dX9_passWeek_48 : decode cX9_passWeek 48 = .ok (.iload_n 3, 1) := dq_29 (dst 16 rd_prog_11_method_5_code_1 rfl)
theorem dX9_passWeek_49 : decode cX9_passWeek 49 = .ok (.iadd, 1) := dq_96 (dst 17 rd_prog_11_method_5_code_1 rfl)
theorem dX9_passWeek_50 : decode cX9_passWeek 50 = .ok (.putfield 26, 3) := dq_181 (dst 18 rd_prog_11_method_5_code_1 rfl) rfl
theorem dX9_passWeek_53 : decode cX9_passWeek 53 = .ok (.iload_n 3, 1) := dq_29 (dst 21 rd_prog_11_method_5_code_1 rfl)
theorem dX9_passWeek_54 : decode cX9_passWeek 54 = .ok (.ireturn, 1) := dq_172 (dst 22 rd_prog_11_method_5_code_1 rfl)
theorem lf_X9_mayLeave_1 : ∀ w ∈ ([Cond.fieldLink RX9 22 "StillInAugust$Summer" "worked" "Z", Cond.fieldLink RX9 13 "StillInAugust$Summer" "hands" "I", Cond.methodLink RX9 51 yX3_has, Cond.static yX3_has, Cond.initialized RX3, Cond.code yX3_has cX3_has 2 (some .boolean)] : List Cond), w ∈ wsX9_mayLeave := fun _ h => (List.mem_cons_of_mem _ (List.mem_append_left _ h))
theorem lf_X9_mayLeave_2 : ∀ w ∈ wsX90, w ∈ wsX9_mayLeave := fun _ h => (List.mem_cons_of_mem _ (List.mem_append_right _ h))
set_option maxRecDepth 20000 in
theorem ggX9_mayLeave_X3_has : GoodIn wsX9_mayLeave wsX3_has := (gd_cons (lf_X9_mayLeave_1 _ (List.mem_of_getElem? (i := 5) rfl)) rfl (gd_nil _))
set_option maxRecDepth 20000 in
theorem gX9_mayLeave_X3_has : GoodIn wsX9_mayLeave (va_wsS RX9 51 yX3_has wsX3_has) := goodIn_app (gd_cons (lf_X9_mayLeave_1 _ (List.mem_of_getElem? (i := 2) rfl)) rfl (gd_cons (lf_X9_mayLeave_1 _ (List.mem_of_getElem? (i := 3) rfl)) rfl (gd_cons (lf_X9_mayLeave_1 _ (List.mem_of_getElem? (i := 4) rfl)) rfl (gd_nil _)))) ggX9_mayLeave_X3_has
theorem dX9_mayLeave_0 : decode cX9_mayLeave 0 = .ok (.aload_n 0, 1) := dq_42 (dst 0 rd_prog_11_method_6_code_0 rfl)
theorem dX9_mayLeave_1 : decode cX9_mayLeave 1 = .ok (.getfield 22, 3) := dq_180 (dst 1 rd_prog_11_method_6_code_0 rfl) rfl
theorem dX9_mayLeave_4 : decode cX9_mayLeave 4 = .ok (.ifCond .eq 18, 3) := dq_153 (dst 4 rd_prog_11_method_6_code_0 rfl) (by decide +kernel)
theorem dX9_mayLeave_7 : decode cX9_mayLeave 7 = .ok (.aload_n 0, 1) := dq_42 (dst 7 rd_prog_11_method_6_code_0 rfl)
theorem dX9_mayLeave_8 : decode cX9_mayLeave 8 = .ok (.getfield 13, 3) := dq_180 (dst 8 rd_prog_11_method_6_code_0 rfl) rfl
theorem dX9_mayLeave_11 : decode cX9_mayLeave 11 = .ok (.iload_n 1, 1) := dq_27 (dst 11 rd_prog_11_method_6_code_0 rfl)
theorem dX9_mayLeave_12 : decode cX9_mayLeave 12 = .ok (.invokestatic 51, 3) := dq_184 (dst 12 rd_prog_11_method_6_code_0 rfl) rfl
theorem dX9_mayLeave_15 : decode cX9_mayLeave 15 = .ok (.ifCond .eq 7, 3) := dq_153 (dst 15 rd_prog_11_method_6_code_0 rfl) (by decide +kernel)
theorem dX9_mayLeave_18 : decode cX9_mayLeave 18 = .ok (.iconst 1, 1) := dq_4 (dst 18 rd_prog_11_method_6_code_0 rfl)
theorem dX9_mayLeave_19 : decode cX9_mayLeave 19 = .ok (.goto 4, 3) := dq_167 (dst 19 rd_prog_11_method_6_code_0 rfl) (by decide +kernel)
theorem dX9_mayLeave_22 : decode cX9_mayLeave 22 = .ok (.iconst 0, 1) := dq_3 (dst 22 rd_prog_11_method_6_code_0 rfl)
theorem dX9_mayLeave_23 : decode cX9_mayLeave 23 = .ok (.ireturn, 1) := dq_172 (dst 23 rd_prog_11_method_6_code_0 rfl)
theorem lf_X9_passSunday_1 : ∀ w ∈ ([Cond.fieldLink RX9 13 "StillInAugust$Summer" "hands" "I", Cond.fieldLink RX9 19 "StillInAugust$Summer" "ordered" "I", Cond.fieldLink RX9 16 "StillInAugust$Summer" "coming" "I", Cond.fieldLink RX9 22 "StillInAugust$Summer" "worked" "Z", Cond.fieldLink RX9 7 "StillInAugust$Summer" "week" "I", Cond.fieldLink RX9 29 "StillInAugust$House" "weeks" "I", Cond.fieldLink RX9 26 "StillInAugust$Summer" "costs" "I", Cond.methodLink RX9 57 yX3_behindSunday, Cond.static yX3_behindSunday, Cond.initialized RX3, Cond.code yX3_behindSunday cX3_behindSunday 3 (some .int), Cond.methodLink RX9 60 yX4_bonusFor, Cond.instanceMethod yX4_bonusFor, Cond.selects RX4 yX4_bonusFor yX4_bonusFor, Cond.initialized RX4, Cond.code yX4_bonusFor cX4_bonusFor 2 (some .int), Cond.fieldLink RX4 60 "StillInAugust$House" "bonus" "I", Cond.methodLink RX4 105 yX3_total, Cond.static yX3_total, Cond.code yX3_total cX3_total 1 (some .int)] : List Cond), w ∈ wsX9_passSunday := fun _ h => (List.mem_cons_of_mem _ (List.mem_append_left _ (List.mem_append_left _ h)))
theorem lf_X9_passSunday_2 : ∀ w ∈ wsX90, w ∈ wsX9_passSunday := fun _ h => (List.mem_cons_of_mem _ (List.mem_append_left _ (List.mem_append_right _ h)))
theorem lf_X9_passSunday_3 : ∀ w ∈ wsX40, w ∈ wsX9_passSunday := fun _ h => (List.mem_cons_of_mem _ (List.mem_append_right _ h))
set_option maxRecDepth 20000 in
theorem ggX9_passSunday_X3_behindSunday : GoodIn wsX9_passSunday wsX3_behindSunday := (gd_cons (lf_X9_passSunday_1 _ (List.mem_of_getElem? (i := 10) rfl)) rfl (gd_nil _))
set_option maxRecDepth 20000 in
theorem gX9_passSunday_X3_behindSunday : GoodIn wsX9_passSunday (va_wsS RX9 57 yX3_behindSunday wsX3_behindSunday) := goodIn_app (gd_cons (lf_X9_passSunday_1 _ (List.mem_of_getElem? (i := 7) rfl)) rfl (gd_cons (lf_X9_passSunday_1 _ (List.mem_of_getElem? (i := 8) rfl)) rfl (gd_cons (lf_X9_passSunday_1 _ (List.mem_of_getElem? (i := 9) rfl)) rfl (gd_nil _)))) ggX9_passSunday_X3_behindSunday
set_option maxRecDepth 20000 in
theorem ggX9_passSunday_X4_bonusFor : GoodIn wsX9_passSunday wsX4_bonusFor := (gd_cons (lf_X9_passSunday_1 _ (List.mem_of_getElem? (i := 15) rfl)) rfl (goodIn_app (gd_cons (lf_X9_passSunday_1 _ (List.mem_of_getElem? (i := 16) rfl)) rfl (gd_cons (lf_X9_passSunday_1 _ (List.mem_of_getElem? (i := 17) rfl)) rfl (gd_cons (lf_X9_passSunday_1 _ (List.mem_of_getElem? (i := 18) rfl)) rfl (gd_cons (lf_X9_passSunday_1 _ (List.mem_of_getElem? (i := 9) rfl)) rfl (gd_cons (lf_X9_passSunday_1 _ (List.mem_of_getElem? (i := 19) rfl)) rfl (gd_nil _)))))) (goodIn_sub lf_X9_passSunday_3 ga_wsX40)))
set_option maxRecDepth 20000 in
theorem gX9_passSunday_X4_bonusFor : GoodIn wsX9_passSunday (wsV RX9 60 RX4 yX4_bonusFor wsX4_bonusFor) := goodIn_app (gd_cons (lf_X9_passSunday_1 _ (List.mem_of_getElem? (i := 11) rfl)) rfl (gd_cons (lf_X9_passSunday_1 _ (List.mem_of_getElem? (i := 12) rfl)) rfl (gd_cons (lf_X9_passSunday_1 _ (List.mem_of_getElem? (i := 13) rfl)) rfl (gd_cons (lf_X9_passSunday_1 _ (List.mem_of_getElem? (i := 14) rfl)) rfl (gd_nil _))))) ggX9_passSunday_X4_bonusFor
theorem dX9_passSunday_0 : decode cX9_passSunday 0 = .ok (.aload_n 0, 1) := dq_42 (dst 0 rd_prog_11_method_7_code_0 rfl)
theorem dX9_passSunday_1 : decode cX9_passSunday 1 = .ok (.aload_n 0, 1) := dq_42 (dst 1 rd_prog_11_method_7_code_0 rfl)
theorem dX9_passSunday_2 : decode cX9_passSunday 2 = .ok (.getfield 13, 3) := dq_180 (dst 2 rd_prog_11_method_7_code_0 rfl) rfl
theorem dX9_passSunday_5 : decode cX9_passSunday 5 = .ok (.iload_n 2, 1) := dq_28 (dst 5 rd_prog_11_method_7_code_0 rfl)
theorem dX9_passSunday_6 : decode cX9_passSunday 6 = .ok (.invokestatic 57, 3) := dq_184 (dst 6 rd_prog_11_method_7_code_0 rfl) rfl
theorem dX9_passSunday_9 : decode cX9_passSunday 9 = .ok (.putfield 13, 3) := dq_181 (dst 9 rd_prog_11_method_7_code_0 rfl) rfl
theorem dX9_passSunday_12 : decode cX9_passSunday 12 = .ok (.aload_n 0, 1) := dq_42 (dst 12 rd_prog_11_method_7_code_0 rfl)
theorem dX9_passSunday_13 : decode cX9_passSunday 13 = .ok (.aload_n 0, 1) := dq_42 (dst 13 rd_prog_11_method_7_code_0 rfl)
theorem dX9_passSunday_14 : decode cX9_passSunday 14 = .ok (.getfield 19, 3) := dq_180 (dst 14 rd_prog_11_method_7_code_0 rfl) rfl
theorem dX9_passSunday_17 : decode cX9_passSunday 17 = .ok (.putfield 16, 3) := dq_181 (dst 17 rd_prog_11_method_7_code_0 rfl) rfl
theorem dX9_passSunday_20 : decode cX9_passSunday 20 = .ok (.aload_n 0, 1) := dq_42 (dst 20 rd_prog_11_method_7_code_0 rfl)
theorem dX9_passSunday_21 : decode cX9_passSunday 21 = .ok (.iconst 0, 1) := dq_3 (dst 21 rd_prog_11_method_7_code_0 rfl)
theorem dX9_passSunday_22 : decode cX9_passSunday 22 = .ok (.putfield 22, 3) := dq_181 (dst 22 rd_prog_11_method_7_code_0 rfl) rfl
theorem dX9_passSunday_25 : decode cX9_passSunday 25 = .ok (.aload_n 0, 1) := dq_42 (dst 25 rd_prog_11_method_7_code_0 rfl)
theorem dX9_passSunday_26 : decode cX9_passSunday 26 = .ok (.dup, 1) := dq_89 (dst 26 rd_prog_11_method_7_code_0 rfl)
theorem dX9_passSunday_27 : decode cX9_passSunday 27 = .ok (.getfield 7, 3) := dq_180 (dst 27 rd_prog_11_method_7_code_0 rfl) rfl
theorem dX9_passSunday_30 : decode cX9_passSunday 30 = .ok (.iconst 1, 1) := dq_4 (dst 30 rd_prog_11_method_7_code_0 rfl)
theorem dX9_passSunday_31 : decode cX9_passSunday 31 = .ok (.iadd, 1) := dq_96 (dst 31 rd_prog_11_method_7_code_0 rfl)
theorem dX9_passSunday_32 : decode cX9_passSunday 32 = .ok (.putfield 7, 3) := dq_181 (dst 0 rd_prog_11_method_7_code_1 rfl) rfl
theorem dX9_passSunday_35 : decode cX9_passSunday 35 = .ok (.aload_n 0, 1) := dq_42 (dst 3 rd_prog_11_method_7_code_1 rfl)
theorem dX9_passSunday_36 : decode cX9_passSunday 36 = .ok (.getfield 7, 3) := dq_180 (dst 4 rd_prog_11_method_7_code_1 rfl) rfl
theorem dX9_passSunday_39 : decode cX9_passSunday 39 = .ok (.aload_n 1, 1) := dq_43 (dst 7 rd_prog_11_method_7_code_1 rfl)
theorem dX9_passSunday_40 : decode cX9_passSunday 40 = .ok (.getfield 29, 3) := dq_180 (dst 8 rd_prog_11_method_7_code_1 rfl) rfl
theorem dX9_passSunday_43 : decode cX9_passSunday 43 = .ok (.if_icmp .ne 20, 3) := dq_160 (dst 11 rd_prog_11_method_7_code_1 rfl) (by decide +kernel)
theorem dX9_passSunday_46 : decode cX9_passSunday 46 = .ok (.aload_n 0, 1) := dq_42 (dst 14 rd_prog_11_method_7_code_1 rfl)
theorem dX9_passSunday_47 : decode cX9_passSunday 47 = .ok (.dup, 1) := dq_89 (dst 15 rd_prog_11_method_7_code_1 rfl)
theorem dX9_passSunday_48 : decode cX9_passSunday 48 = .ok (.getfield 26, 3) := dq_180 (dst 16 rd_prog_11_method_7_code_1 rfl) rfl
theorem dX9_passSunday_51 : decode cX9_passSunday 51 = .ok (.aload_n 1, 1) := dq_43 (dst 19 rd_prog_11_method_7_code_1 rfl)
theorem dX9_passSunday_52 : decode cX9_passSunday 52 = .ok (.aload_n 0, 1) := dq_42 (dst 20 rd_prog_11_method_7_code_1 rfl)
theorem dX9_passSunday_53 : decode cX9_passSunday 53 = .ok (.getfield 13, 3) := dq_180 (dst 21 rd_prog_11_method_7_code_1 rfl) rfl
theorem dX9_passSunday_56 : decode cX9_passSunday 56 = .ok (.invokevirtual 60, 3) := dq_182 (dst 24 rd_prog_11_method_7_code_1 rfl) rfl
theorem dX9_passSunday_59 : decode cX9_passSunday 59 = .ok (.iadd, 1) := dq_96 (dst 27 rd_prog_11_method_7_code_1 rfl)
theorem dX9_passSunday_60 : decode cX9_passSunday 60 = .ok (.putfield 26, 3) := dq_181 (dst 28 rd_prog_11_method_7_code_1 rfl) rfl
theorem dX9_passSunday_63 : decode cX9_passSunday 63 = .ok (.return_, 1) := dq_177 (dst 31 rd_prog_11_method_7_code_1 rfl)
theorem dX10_init_0 : decode cX10_init 0 = .ok (.aload_n 0, 1) := dq_42 (dst 0 rd_prog_12_method_1_code_0 rfl)
theorem dX10_init_1 : decode cX10_init 1 = .ok (.invokespecial 3, 3) := dq_183 (dst 1 rd_prog_12_method_1_code_0 rfl) rfl
theorem dX10_init_4 : decode cX10_init 4 = .ok (.aload_n 0, 1) := dq_42 (dst 4 rd_prog_12_method_1_code_0 rfl)
theorem dX10_init_5 : decode cX10_init 5 = .ok (.bipush 64, 2) := dq_16 (dst 5 rd_prog_12_method_1_code_0 rfl) (by decide +kernel)
theorem dX10_init_7 : decode cX10_init 7 = .ok (.newarray .byte, 2) := dq_188_8 (dst 7 rd_prog_12_method_1_code_0 rfl)
theorem dX10_init_9 : decode cX10_init 9 = .ok (.putfield 11, 3) := dq_181 (dst 9 rd_prog_12_method_1_code_0 rfl) rfl
theorem dX10_init_12 : decode cX10_init 12 = .ok (.return_, 1) := dq_177 (dst 12 rd_prog_12_method_1_code_0 rfl)
theorem dX10_hasRoom_0 : decode cX10_hasRoom 0 = .ok (.aload_n 0, 1) := dq_42 (dst 0 rd_prog_12_method_2_code_0 rfl)
theorem dX10_hasRoom_1 : decode cX10_hasRoom 1 = .ok (.getfield 15, 3) := dq_180 (dst 1 rd_prog_12_method_2_code_0 rfl) rfl
theorem dX10_hasRoom_4 : decode cX10_hasRoom 4 = .ok (.iload_n 1, 1) := dq_27 (dst 4 rd_prog_12_method_2_code_0 rfl)
theorem dX10_hasRoom_5 : decode cX10_hasRoom 5 = .ok (.iadd, 1) := dq_96 (dst 5 rd_prog_12_method_2_code_0 rfl)
theorem dX10_hasRoom_6 : decode cX10_hasRoom 6 = .ok (.bipush 64, 2) := dq_16 (dst 6 rd_prog_12_method_2_code_0 rfl) (by decide +kernel)
theorem dX10_hasRoom_8 : decode cX10_hasRoom 8 = .ok (.if_icmp .gt 7, 3) := dq_163 (dst 8 rd_prog_12_method_2_code_0 rfl) (by decide +kernel)
theorem dX10_hasRoom_11 : decode cX10_hasRoom 11 = .ok (.iconst 1, 1) := dq_4 (dst 11 rd_prog_12_method_2_code_0 rfl)
theorem dX10_hasRoom_12 : decode cX10_hasRoom 12 = .ok (.goto 4, 3) := dq_167 (dst 12 rd_prog_12_method_2_code_0 rfl) (by decide +kernel)
theorem dX10_hasRoom_15 : decode cX10_hasRoom 15 = .ok (.iconst 0, 1) := dq_3 (dst 15 rd_prog_12_method_2_code_0 rfl)
theorem dX10_hasRoom_16 : decode cX10_hasRoom 16 = .ok (.ireturn, 1) := dq_172 (dst 16 rd_prog_12_method_2_code_0 rfl)
theorem dX10_append_0 : decode cX10_append 0 = .ok (.iload_n 1, 1) := dq_27 (dst 0 rd_prog_12_method_3_code_0 rfl)
theorem dX10_append_1 : decode cX10_append 1 = .ok (.iconst 1, 1) := dq_4 (dst 1 rd_prog_12_method_3_code_0 rfl)
theorem dX10_append_2 : decode cX10_append 2 = .ok (.isub, 1) := dq_100 (dst 2 rd_prog_12_method_3_code_0 rfl)
theorem dX10_append_3 : decode cX10_append 3 = .ok (.istore 4, 2) := dq_54 (dst 3 rd_prog_12_method_3_code_0 rfl) rfl
theorem dX10_append_5 : decode cX10_append 5 = .ok (.iload 4, 2) := dq_21 (dst 5 rd_prog_12_method_3_code_0 rfl) rfl
theorem dX10_append_7 : decode cX10_append 7 = .ok (.ifCond .lt 37, 3) := dq_155 (dst 7 rd_prog_12_method_3_code_0 rfl) (by decide +kernel)
theorem dX10_append_10 : decode cX10_append 10 = .ok (.aload_n 0, 1) := dq_42 (dst 10 rd_prog_12_method_3_code_0 rfl)
theorem dX10_append_11 : decode cX10_append 11 = .ok (.getfield 11, 3) := dq_180 (dst 11 rd_prog_12_method_3_code_0 rfl) rfl
theorem dX10_append_14 : decode cX10_append 14 = .ok (.aload_n 0, 1) := dq_42 (dst 14 rd_prog_12_method_3_code_0 rfl)
theorem dX10_append_15 : decode cX10_append 15 = .ok (.getfield 15, 3) := dq_180 (dst 15 rd_prog_12_method_3_code_0 rfl) rfl
theorem dX10_append_18 : decode cX10_append 18 = .ok (.lload_n 2, 1) := dq_32 (dst 18 rd_prog_12_method_3_code_0 rfl)
theorem dX10_append_19 : decode cX10_append 19 = .ok (.bipush 8, 2) := dq_16 (dst 19 rd_prog_12_method_3_code_0 rfl) (by decide +kernel)
theorem dX10_append_21 : decode cX10_append 21 = .ok (.iload 4, 2) := dq_21 (dst 21 rd_prog_12_method_3_code_0 rfl) rfl
theorem dX10_append_23 : decode cX10_append 23 = .ok (.imul, 1) := dq_104 (dst 23 rd_prog_12_method_3_code_0 rfl)
theorem dX10_append_24 : decode cX10_append 24 = .ok (.lushr, 1) := dq_125 (dst 24 rd_prog_12_method_3_code_0 rfl)
theorem dX10_append_25 : decode cX10_append 25 = .ok (.l2i, 1) := dq_136 (dst 25 rd_prog_12_method_3_code_0 rfl)
theorem dX10_append_26 : decode cX10_append 26 = .ok (.i2b, 1) := dq_145 (dst 26 rd_prog_12_method_3_code_0 rfl)
theorem dX10_append_27 : decode cX10_append 27 = .ok (.bastore, 1) := dq_84 (dst 27 rd_prog_12_method_3_code_0 rfl)
theorem dX10_append_28 : decode cX10_append 28 = .ok (.aload_n 0, 1) := dq_42 (dst 28 rd_prog_12_method_3_code_0 rfl)
theorem dX10_append_29 : decode cX10_append 29 = .ok (.dup, 1) := dq_89 (dst 29 rd_prog_12_method_3_code_0 rfl)
theorem dX10_append_30 : decode cX10_append 30 = .ok (.getfield 15, 3) := dq_180 (dst 30 rd_prog_12_method_3_code_0 rfl) rfl
theorem dX10_append_33 : decode cX10_append 33 = .ok (.iconst 1, 1) := dq_4 (dst 1 rd_prog_12_method_3_code_1 rfl)
theorem dX10_append_34 : decode cX10_append 34 = .ok (.iadd, 1) := dq_96 (dst 2 rd_prog_12_method_3_code_1 rfl)
theorem dX10_append_35 : decode cX10_append 35 = .ok (.putfield 15, 3) := dq_181 (dst 3 rd_prog_12_method_3_code_1 rfl) rfl
theorem dX10_append_38 : decode cX10_append 38 = .ok (.iinc 4 (-1), 3) := dq_132 (dst 6 rd_prog_12_method_3_code_1 rfl) rfl (by decide +kernel)
theorem dX10_append_41 : decode cX10_append 41 = .ok (.goto (-36), 3) := dq_167 (dst 9 rd_prog_12_method_3_code_1 rfl) (by decide +kernel)
theorem dX10_append_44 : decode cX10_append 44 = .ok (.return_, 1) := dq_177 (dst 12 rd_prog_12_method_3_code_1 rfl)
theorem dX10_at_0 : decode cX10_at 0 = .ok (.iload_n 1, 1) := dq_27 (dst 0 rd_prog_12_method_4_code_0 rfl)
theorem dX10_at_1 : decode cX10_at 1 = .ok (.ifCond .lt 24, 3) := dq_155 (dst 1 rd_prog_12_method_4_code_0 rfl) (by decide +kernel)
theorem dX10_at_4 : decode cX10_at 4 = .ok (.iload_n 1, 1) := dq_27 (dst 4 rd_prog_12_method_4_code_0 rfl)
theorem dX10_at_5 : decode cX10_at 5 = .ok (.aload_n 0, 1) := dq_42 (dst 5 rd_prog_12_method_4_code_0 rfl)
theorem dX10_at_6 : decode cX10_at 6 = .ok (.getfield 15, 3) := dq_180 (dst 6 rd_prog_12_method_4_code_0 rfl) rfl
theorem dX10_at_9 : decode cX10_at 9 = .ok (.if_icmp .ge 16, 3) := dq_162 (dst 9 rd_prog_12_method_4_code_0 rfl) (by decide +kernel)
theorem dX10_at_12 : decode cX10_at 12 = .ok (.aload_n 0, 1) := dq_42 (dst 12 rd_prog_12_method_4_code_0 rfl)
theorem dX10_at_13 : decode cX10_at 13 = .ok (.getfield 11, 3) := dq_180 (dst 13 rd_prog_12_method_4_code_0 rfl) rfl
theorem dX10_at_16 : decode cX10_at 16 = .ok (.iload_n 1, 1) := dq_27 (dst 16 rd_prog_12_method_4_code_0 rfl)
theorem dX10_at_17 : decode cX10_at 17 = .ok (.baload, 1) := dq_51 (dst 17 rd_prog_12_method_4_code_0 rfl)
theorem dX10_at_18 : decode cX10_at 18 = .ok (.sipush 255, 3) := dq_17 (dst 18 rd_prog_12_method_4_code_0 rfl) (by decide +kernel)
theorem dX10_at_21 : decode cX10_at 21 = .ok (.iand, 1) := dq_126 (dst 21 rd_prog_12_method_4_code_0 rfl)
theorem dX10_at_22 : decode cX10_at 22 = .ok (.goto 5, 3) := dq_167 (dst 22 rd_prog_12_method_4_code_0 rfl) (by decide +kernel)
theorem dX10_at_25 : decode cX10_at 25 = .ok (.bipush (-9), 2) := dq_16 (dst 25 rd_prog_12_method_4_code_0 rfl) (by decide +kernel)
theorem dX10_at_27 : decode cX10_at 27 = .ok (.ireturn, 1) := dq_172 (dst 27 rd_prog_12_method_4_code_0 rfl)
theorem dJ6_bitCount_0f7a4_0 : decode cJ6_bitCount_0f7a4 0 = .ok (.iload_n 0, 1) := dq_26 (dst 0 rd_prog_15_method_49_code_0 rfl)
theorem dJ6_bitCount_0f7a4_1 : decode cJ6_bitCount_0f7a4 1 = .ok (.iload_n 0, 1) := dq_26 (dst 1 rd_prog_15_method_49_code_0 rfl)
theorem dJ6_bitCount_0f7a4_2 : decode cJ6_bitCount_0f7a4 2 = .ok (.iconst 1, 1) := dq_4 (dst 2 rd_prog_15_method_49_code_0 rfl)
theorem dJ6_bitCount_0f7a4_3 : decode cJ6_bitCount_0f7a4 3 = .ok (.iushr, 1) := dq_124 (dst 3 rd_prog_15_method_49_code_0 rfl)
theorem dJ6_bitCount_0f7a4_4 : decode cJ6_bitCount_0f7a4 4 = .ok (.ldc_w 265, 3) := dq_19 (dst 4 rd_prog_15_method_49_code_0 rfl) rfl
theorem dJ6_bitCount_0f7a4_7 : decode cJ6_bitCount_0f7a4 7 = .ok (.iand, 1) := dq_126 (dst 7 rd_prog_15_method_49_code_0 rfl)
theorem dJ6_bitCount_0f7a4_8 : decode cJ6_bitCount_0f7a4 8 = .ok (.isub, 1) := dq_100 (dst 8 rd_prog_15_method_49_code_0 rfl)
theorem dJ6_bitCount_0f7a4_9 : decode cJ6_bitCount_0f7a4 9 = .ok (.istore_n 0, 1) := dq_59 (dst 9 rd_prog_15_method_49_code_0 rfl)
theorem dJ6_bitCount_0f7a4_10 : decode cJ6_bitCount_0f7a4 10 = .ok (.iload_n 0, 1) := dq_26 (dst 10 rd_prog_15_method_49_code_0 rfl)
theorem dJ6_bitCount_0f7a4_11 : decode cJ6_bitCount_0f7a4 11 = .ok (.ldc_w 266, 3) := dq_19 (dst 11 rd_prog_15_method_49_code_0 rfl) rfl
theorem dJ6_bitCount_0f7a4_14 : decode cJ6_bitCount_0f7a4 14 = .ok (.iand, 1) := dq_126 (dst 14 rd_prog_15_method_49_code_0 rfl)
theorem dJ6_bitCount_0f7a4_15 : decode cJ6_bitCount_0f7a4 15 = .ok (.iload_n 0, 1) := dq_26 (dst 15 rd_prog_15_method_49_code_0 rfl)
theorem dJ6_bitCount_0f7a4_16 : decode cJ6_bitCount_0f7a4 16 = .ok (.iconst 2, 1) := dq_5 (dst 16 rd_prog_15_method_49_code_0 rfl)
theorem dJ6_bitCount_0f7a4_17 : decode cJ6_bitCount_0f7a4 17 = .ok (.iushr, 1) := dq_124 (dst 17 rd_prog_15_method_49_code_0 rfl)
theorem dJ6_bitCount_0f7a4_18 : decode cJ6_bitCount_0f7a4 18 = .ok (.ldc_w 266, 3) := dq_19 (dst 18 rd_prog_15_method_49_code_0 rfl) rfl
theorem dJ6_bitCount_0f7a4_21 : decode cJ6_bitCount_0f7a4 21 = .ok (.iand, 1) := dq_126 (dst 21 rd_prog_15_method_49_code_0 rfl)
theorem dJ6_bitCount_0f7a4_22 : decode cJ6_bitCount_0f7a4 22 = .ok (.iadd, 1) := dq_96 (dst 22 rd_prog_15_method_49_code_0 rfl)
theorem dJ6_bitCount_0f7a4_23 : decode cJ6_bitCount_0f7a4 23 = .ok (.istore_n 0, 1) := dq_59 (dst 23 rd_prog_15_method_49_code_0 rfl)
theorem dJ6_bitCount_0f7a4_24 : decode cJ6_bitCount_0f7a4 24 = .ok (.iload_n 0, 1) := dq_26 (dst 24 rd_prog_15_method_49_code_0 rfl)
theorem dJ6_bitCount_0f7a4_25 : decode cJ6_bitCount_0f7a4 25 = .ok (.iload_n 0, 1) := dq_26 (dst 25 rd_prog_15_method_49_code_0 rfl)
theorem dJ6_bitCount_0f7a4_26 : decode cJ6_bitCount_0f7a4 26 = .ok (.iconst 4, 1) := dq_7 (dst 26 rd_prog_15_method_49_code_0 rfl)
theorem dJ6_bitCount_0f7a4_27 : decode cJ6_bitCount_0f7a4 27 = .ok (.iushr, 1) := dq_124 (dst 27 rd_prog_15_method_49_code_0 rfl)
theorem dJ6_bitCount_0f7a4_28 : decode cJ6_bitCount_0f7a4 28 = .ok (.iadd, 1) := dq_96 (dst 28 rd_prog_15_method_49_code_0 rfl)
theorem dJ6_bitCount_0f7a4_29 : decode cJ6_bitCount_0f7a4 29 = .ok (.ldc_w 267, 3) := dq_19 (dst 29 rd_prog_15_method_49_code_0 rfl) rfl
theorem dJ6_bitCount_0f7a4_32 : decode cJ6_bitCount_0f7a4 32 = .ok (.iand, 1) := dq_126 (dst 0 rd_prog_15_method_49_code_1 rfl)
theorem dJ6_bitCount_0f7a4_33 : decode cJ6_bitCount_0f7a4 33 = .ok (.istore_n 0, 1) := dq_59 (dst 1 rd_prog_15_method_49_code_1 rfl)
theorem dJ6_bitCount_0f7a4_34 : decode cJ6_bitCount_0f7a4 34 = .ok (.iload_n 0, 1) := dq_26 (dst 2 rd_prog_15_method_49_code_1 rfl)
theorem dJ6_bitCount_0f7a4_35 : decode cJ6_bitCount_0f7a4 35 = .ok (.iload_n 0, 1) := dq_26 (dst 3 rd_prog_15_method_49_code_1 rfl)
theorem dJ6_bitCount_0f7a4_36 : decode cJ6_bitCount_0f7a4 36 = .ok (.bipush 8, 2) := dq_16 (dst 4 rd_prog_15_method_49_code_1 rfl) (by decide +kernel)
theorem dJ6_bitCount_0f7a4_38 : decode cJ6_bitCount_0f7a4 38 = .ok (.iushr, 1) := dq_124 (dst 6 rd_prog_15_method_49_code_1 rfl)
theorem dJ6_bitCount_0f7a4_39 : decode cJ6_bitCount_0f7a4 39 = .ok (.iadd, 1) := dq_96 (dst 7 rd_prog_15_method_49_code_1 rfl)
theorem dJ6_bitCount_0f7a4_40 : decode cJ6_bitCount_0f7a4 40 = .ok (.istore_n 0, 1) := dq_59 (dst 8 rd_prog_15_method_49_code_1 rfl)
theorem dJ6_bitCount_0f7a4_41 : decode cJ6_bitCount_0f7a4 41 = .ok (.iload_n 0, 1) := dq_26 (dst 9 rd_prog_15_method_49_code_1 rfl)
theorem dJ6_bitCount_0f7a4_42 : decode cJ6_bitCount_0f7a4 42 = .ok (.iload_n 0, 1) := dq_26 (dst 10 rd_prog_15_method_49_code_1 rfl)
theorem dJ6_bitCount_0f7a4_43 : decode cJ6_bitCount_0f7a4 43 = .ok (.bipush 16, 2) := dq_16 (dst 11 rd_prog_15_method_49_code_1 rfl) (by decide +kernel)
theorem dJ6_bitCount_0f7a4_45 : decode cJ6_bitCount_0f7a4 45 = .ok (.iushr, 1) := dq_124 (dst 13 rd_prog_15_method_49_code_1 rfl)
theorem dJ6_bitCount_0f7a4_46 : decode cJ6_bitCount_0f7a4 46 = .ok (.iadd, 1) := dq_96 (dst 14 rd_prog_15_method_49_code_1 rfl)
theorem dJ6_bitCount_0f7a4_47 : decode cJ6_bitCount_0f7a4 47 = .ok (.istore_n 0, 1) := dq_59 (dst 15 rd_prog_15_method_49_code_1 rfl)
theorem dJ6_bitCount_0f7a4_48 : decode cJ6_bitCount_0f7a4 48 = .ok (.iload_n 0, 1) := dq_26 (dst 16 rd_prog_15_method_49_code_1 rfl)
theorem dJ6_bitCount_0f7a4_49 : decode cJ6_bitCount_0f7a4 49 = .ok (.bipush 63, 2) := dq_16 (dst 17 rd_prog_15_method_49_code_1 rfl) (by decide +kernel)
theorem dJ6_bitCount_0f7a4_51 : decode cJ6_bitCount_0f7a4 51 = .ok (.iand, 1) := dq_126 (dst 19 rd_prog_15_method_49_code_1 rfl)
theorem dJ6_bitCount_0f7a4_52 : decode cJ6_bitCount_0f7a4 52 = .ok (.ireturn, 1) := dq_172 (dst 20 rd_prog_15_method_49_code_1 rfl)
theorem dJ9_max_7cf53_0 : decode cJ9_max_7cf53 0 = .ok (.iload_n 0, 1) := dq_26 (dst 0 rd_prog_16_method_65_code_0 rfl)
theorem dJ9_max_7cf53_1 : decode cJ9_max_7cf53 1 = .ok (.iload_n 1, 1) := dq_27 (dst 1 rd_prog_16_method_65_code_0 rfl)
theorem dJ9_max_7cf53_2 : decode cJ9_max_7cf53 2 = .ok (.if_icmp .lt 7, 3) := dq_161 (dst 2 rd_prog_16_method_65_code_0 rfl) (by decide +kernel)
theorem dJ9_max_7cf53_5 : decode cJ9_max_7cf53 5 = .ok (.iload_n 0, 1) := dq_26 (dst 5 rd_prog_16_method_65_code_0 rfl)
theorem dJ9_max_7cf53_6 : decode cJ9_max_7cf53 6 = .ok (.goto 4, 3) := dq_167 (dst 6 rd_prog_16_method_65_code_0 rfl) (by decide +kernel)
theorem dJ9_max_7cf53_9 : decode cJ9_max_7cf53 9 = .ok (.iload_n 1, 1) := dq_27 (dst 9 rd_prog_16_method_65_code_0 rfl)
theorem dJ9_max_7cf53_10 : decode cJ9_max_7cf53 10 = .ok (.ireturn, 1) := dq_172 (dst 10 rd_prog_16_method_65_code_0 rfl)
theorem dJ9_min_7cf53_0 : decode cJ9_min_7cf53 0 = .ok (.iload_n 0, 1) := dq_26 (dst 0 rd_prog_16_method_69_code_0 rfl)
theorem dJ9_min_7cf53_1 : decode cJ9_min_7cf53 1 = .ok (.iload_n 1, 1) := dq_27 (dst 1 rd_prog_16_method_69_code_0 rfl)
theorem dJ9_min_7cf53_2 : decode cJ9_min_7cf53 2 = .ok (.if_icmp .gt 7, 3) := dq_163 (dst 2 rd_prog_16_method_69_code_0 rfl) (by decide +kernel)
theorem dJ9_min_7cf53_5 : decode cJ9_min_7cf53 5 = .ok (.iload_n 0, 1) := dq_26 (dst 5 rd_prog_16_method_69_code_0 rfl)
theorem dJ9_min_7cf53_6 : decode cJ9_min_7cf53 6 = .ok (.goto 4, 3) := dq_167 (dst 6 rd_prog_16_method_69_code_0 rfl) (by decide +kernel)
theorem dJ9_min_7cf53_9 : decode cJ9_min_7cf53 9 = .ok (.iload_n 1, 1) := dq_27 (dst 9 rd_prog_16_method_69_code_0 rfl)
theorem dJ9_min_7cf53_10 : decode cJ9_min_7cf53 10 = .ok (.ireturn, 1) := dq_172 (dst 10 rd_prog_16_method_69_code_0 rfl)
theorem lf_J0_length_8abf5_1 : ∀ w ∈ ([Cond.fieldLink RJ0 9 "java/lang/String" "value" "[B", Cond.methodLink RJ0 335 yJ0_coder_7d493, Cond.instanceMethod yJ0_coder_7d493, Cond.selects RJ0 yJ0_coder_7d493 yJ0_coder_7d493, Cond.initialized RJ0, Cond.code yJ0_coder_7d493 cJ0_coder_7d493 1 (some .byte), Cond.fieldLink RJ0 38 "java/lang/String" "COMPACT_STRINGS" "Z", Cond.fieldLink RJ0 15 "java/lang/String" "coder" "B"] : List Cond), w ∈ wsJ0_length_8abf5 := fun _ h => (List.mem_cons_of_mem _ h)
set_option maxRecDepth 20000 in
theorem ggJ0_length_8abf5_J0_coder_7d493 : GoodIn wsJ0_length_8abf5 wsJ0_coder_7d493 := (gd_cons (lf_J0_length_8abf5_1 _ (List.mem_of_getElem? (i := 5) rfl)) rfl (gd_cons (lf_J0_length_8abf5_1 _ (List.mem_of_getElem? (i := 6) rfl)) rfl (gd_cons (lf_J0_length_8abf5_1 _ (List.mem_of_getElem? (i := 7) rfl)) rfl (gd_nil _))))
set_option maxRecDepth 20000 in
theorem gJ0_length_8abf5_J0_coder_7d493 : GoodIn wsJ0_length_8abf5 (wsV RJ0 335 RJ0 yJ0_coder_7d493 wsJ0_coder_7d493) := goodIn_app (gd_cons (lf_J0_length_8abf5_1 _ (List.mem_of_getElem? (i := 1) rfl)) rfl (gd_cons (lf_J0_length_8abf5_1 _ (List.mem_of_getElem? (i := 2) rfl)) rfl (gd_cons (lf_J0_length_8abf5_1 _ (List.mem_of_getElem? (i := 3) rfl)) rfl (gd_cons (lf_J0_length_8abf5_1 _ (List.mem_of_getElem? (i := 4) rfl)) rfl (gd_nil _))))) ggJ0_length_8abf5_J0_coder_7d493
theorem dJ0_length_8abf5_0 : decode cJ0_length_8abf5 0 = .ok (.aload_n 0, 1) := dq_42 (dst 0 rd_prog_17_method_54_code_0 rfl)
theorem dJ0_length_8abf5_1 : decode cJ0_length_8abf5 1 = .ok (.getfield 9, 3) := dq_180 (dst 1 rd_prog_17_method_54_code_0 rfl) rfl
theorem dJ0_length_8abf5_4 : decode cJ0_length_8abf5 4 = .ok (.arraylength, 1) := dq_190 (dst 4 rd_prog_17_method_54_code_0 rfl)
theorem dJ0_length_8abf5_5 : decode cJ0_length_8abf5 5 = .ok (.aload_n 0, 1) := dq_42 (dst 5 rd_prog_17_method_54_code_0 rfl)
theorem dJ0_length_8abf5_6 : decode cJ0_length_8abf5 6 = .ok (.invokevirtual 335, 3) := dq_182 (dst 6 rd_prog_17_method_54_code_0 rfl) rfl
theorem dJ0_length_8abf5_9 : decode cJ0_length_8abf5 9 = .ok (.ishr, 1) := dq_122 (dst 9 rd_prog_17_method_54_code_0 rfl)
theorem dJ0_length_8abf5_10 : decode cJ0_length_8abf5 10 = .ok (.ireturn, 1) := dq_172 (dst 10 rd_prog_17_method_54_code_0 rfl)
theorem lf_J0_charAt_5068e_1 : ∀ w ∈ wsJ0_charAt_5068e_r1, w ∈ wsJ0_charAt_5068e := fun _ h => (List.mem_cons_of_mem _ (List.mem_append_left _ h))
theorem lf_J0_charAt_5068e_2 : ∀ w ∈ wsJ0_charAt_5068e_r2, w ∈ wsJ0_charAt_5068e := fun _ h => (List.mem_cons_of_mem _ (List.mem_append_right _ h))
set_option maxRecDepth 20000 in
theorem ggJ0_charAt_5068e_J0_isLatin1_aae02 : GoodIn wsJ0_charAt_5068e wsJ0_isLatin1_aae02 := (gd_cons (lf_J0_charAt_5068e_1 _ (List.mem_of_getElem? (i := 5) rfl)) rfl (gd_cons (lf_J0_charAt_5068e_1 _ (List.mem_of_getElem? (i := 6) rfl)) rfl (gd_cons (lf_J0_charAt_5068e_1 _ (List.mem_of_getElem? (i := 7) rfl)) rfl (gd_nil _))))
set_option maxRecDepth 20000 in
theorem gJ0_charAt_5068e_J0_isLatin1_aae02 : GoodIn wsJ0_charAt_5068e (wsV RJ0 492 RJ0 yJ0_isLatin1_aae02 wsJ0_isLatin1_aae02) := goodIn_app (gd_cons (lf_J0_charAt_5068e_1 _ (List.mem_of_getElem? (i := 1) rfl)) rfl (gd_cons (lf_J0_charAt_5068e_1 _ (List.mem_of_getElem? (i := 2) rfl)) rfl (gd_cons (lf_J0_charAt_5068e_1 _ (List.mem_of_getElem? (i := 3) rfl)) rfl (gd_cons (lf_J0_charAt_5068e_1 _ (List.mem_of_getElem? (i := 4) rfl)) rfl (gd_nil _))))) ggJ0_charAt_5068e_J0_isLatin1_aae02
set_option maxRecDepth 20000 in
theorem ggJ0_charAt_5068e_J1_charAt_3b067 : GoodIn wsJ0_charAt_5068e wsJ1_charAt_3b067 := (gd_cons (lf_J0_charAt_5068e_1 _ (List.mem_of_getElem? (i := 11) rfl)) rfl (gd_cons (lf_J0_charAt_5068e_1 _ (List.mem_of_getElem? (i := 12) rfl)) rfl (gd_cons (lf_J0_charAt_5068e_1 _ (List.mem_of_getElem? (i := 13) rfl)) rfl (gd_cons (lf_J0_charAt_5068e_1 _ (List.mem_of_getElem? (i := 4) rfl)) rfl (gd_cons (lf_J0_charAt_5068e_1 _ (List.mem_of_getElem? (i := 14) rfl)) rfl (gd_cons (lf_J0_charAt_5068e_1 _ (List.mem_of_getElem? (i := 15) rfl)) rfl (gd_cons (lf_J0_charAt_5068e_1 _ (List.mem_of_getElem? (i := 16) rfl)) rfl (gd_cons (lf_J0_charAt_5068e_1 _ (List.mem_of_getElem? (i := 17) rfl)) rfl (gd_cons (lf_J0_charAt_5068e_1 _ (List.mem_of_getElem? (i := 18) rfl)) rfl (gd_cons (lf_J0_charAt_5068e_1 _ (List.mem_of_getElem? (i := 19) rfl)) rfl (gd_nil _)))))))))))
set_option maxRecDepth 20000 in
theorem gJ0_charAt_5068e_J1_charAt_3b067 : GoodIn wsJ0_charAt_5068e (va_wsS RJ0 495 yJ1_charAt_3b067 wsJ1_charAt_3b067) := goodIn_app (gd_cons (lf_J0_charAt_5068e_1 _ (List.mem_of_getElem? (i := 8) rfl)) rfl (gd_cons (lf_J0_charAt_5068e_1 _ (List.mem_of_getElem? (i := 9) rfl)) rfl (gd_cons (lf_J0_charAt_5068e_1 _ (List.mem_of_getElem? (i := 10) rfl)) rfl (gd_nil _)))) ggJ0_charAt_5068e_J1_charAt_3b067
set_option maxRecDepth 20000 in
theorem ggJ0_charAt_5068e_J2_charAt_3b067 : GoodIn wsJ0_charAt_5068e wsJ2_charAt_3b067 := (gd_cons (lf_J0_charAt_5068e_1 _ (List.mem_of_getElem? (i := 23) rfl)) rfl (gd_cons (lf_J0_charAt_5068e_2 _ (List.mem_of_getElem? (i := 0) rfl)) rfl (gd_cons (lf_J0_charAt_5068e_2 _ (List.mem_of_getElem? (i := 1) rfl)) rfl (gd_cons (lf_J0_charAt_5068e_1 _ (List.mem_of_getElem? (i := 22) rfl)) rfl (gd_cons (lf_J0_charAt_5068e_2 _ (List.mem_of_getElem? (i := 2) rfl)) rfl (gd_cons (lf_J0_charAt_5068e_2 _ (List.mem_of_getElem? (i := 3) rfl)) rfl (gd_cons (lf_J0_charAt_5068e_2 _ (List.mem_of_getElem? (i := 4) rfl)) rfl (gd_cons (lf_J0_charAt_5068e_2 _ (List.mem_of_getElem? (i := 5) rfl)) rfl (gd_cons (lf_J0_charAt_5068e_2 _ (List.mem_of_getElem? (i := 6) rfl)) rfl (gd_cons (lf_J0_charAt_5068e_1 _ (List.mem_of_getElem? (i := 13) rfl)) rfl (gd_cons (lf_J0_charAt_5068e_1 _ (List.mem_of_getElem? (i := 4) rfl)) rfl (gd_cons (lf_J0_charAt_5068e_1 _ (List.mem_of_getElem? (i := 14) rfl)) rfl (gd_cons (lf_J0_charAt_5068e_1 _ (List.mem_of_getElem? (i := 15) rfl)) rfl (gd_cons (lf_J0_charAt_5068e_1 _ (List.mem_of_getElem? (i := 16) rfl)) rfl (gd_cons (lf_J0_charAt_5068e_1 _ (List.mem_of_getElem? (i := 17) rfl)) rfl (gd_cons (lf_J0_charAt_5068e_1 _ (List.mem_of_getElem? (i := 18) rfl)) rfl (gd_cons (lf_J0_charAt_5068e_1 _ (List.mem_of_getElem? (i := 19) rfl)) rfl (gd_cons (lf_J0_charAt_5068e_2 _ (List.mem_of_getElem? (i := 7) rfl)) rfl (gd_cons (lf_J0_charAt_5068e_2 _ (List.mem_of_getElem? (i := 8) rfl)) rfl (gd_cons (lf_J0_charAt_5068e_2 _ (List.mem_of_getElem? (i := 9) rfl)) rfl (gd_cons (lf_J0_charAt_5068e_2 _ (List.mem_of_getElem? (i := 10) rfl)) rfl (gd_cons (lf_J0_charAt_5068e_2 _ (List.mem_of_getElem? (i := 11) rfl)) rfl (gd_cons (lf_J0_charAt_5068e_2 _ (List.mem_of_getElem? (i := 12) rfl)) rfl (gd_nil _))))))))))))))))))))))))
set_option maxRecDepth 20000 in
theorem gJ0_charAt_5068e_J2_charAt_3b067 : GoodIn wsJ0_charAt_5068e (va_wsS RJ0 498 yJ2_charAt_3b067 wsJ2_charAt_3b067) := goodIn_app (gd_cons (lf_J0_charAt_5068e_1 _ (List.mem_of_getElem? (i := 20) rfl)) rfl (gd_cons (lf_J0_charAt_5068e_1 _ (List.mem_of_getElem? (i := 21) rfl)) rfl (gd_cons (lf_J0_charAt_5068e_1 _ (List.mem_of_getElem? (i := 22) rfl)) rfl (gd_nil _)))) ggJ0_charAt_5068e_J2_charAt_3b067
theorem dJ0_charAt_5068e_0 : decode cJ0_charAt_5068e 0 = .ok (.aload_n 0, 1) := dq_42 (dst 0 rd_prog_17_method_56_code_0 rfl)
theorem dJ0_charAt_5068e_1 : decode cJ0_charAt_5068e 1 = .ok (.invokevirtual 492, 3) := dq_182 (dst 1 rd_prog_17_method_56_code_0 rfl) rfl
theorem dJ0_charAt_5068e_4 : decode cJ0_charAt_5068e 4 = .ok (.ifCond .eq 12, 3) := dq_153 (dst 4 rd_prog_17_method_56_code_0 rfl) (by decide +kernel)
theorem dJ0_charAt_5068e_7 : decode cJ0_charAt_5068e 7 = .ok (.aload_n 0, 1) := dq_42 (dst 7 rd_prog_17_method_56_code_0 rfl)
theorem dJ0_charAt_5068e_8 : decode cJ0_charAt_5068e 8 = .ok (.getfield 9, 3) := dq_180 (dst 8 rd_prog_17_method_56_code_0 rfl) rfl
theorem dJ0_charAt_5068e_11 : decode cJ0_charAt_5068e 11 = .ok (.iload_n 1, 1) := dq_27 (dst 11 rd_prog_17_method_56_code_0 rfl)
theorem dJ0_charAt_5068e_12 : decode cJ0_charAt_5068e 12 = .ok (.invokestatic 495, 3) := dq_184 (dst 12 rd_prog_17_method_56_code_0 rfl) rfl
theorem dJ0_charAt_5068e_15 : decode cJ0_charAt_5068e 15 = .ok (.ireturn, 1) := dq_172 (dst 15 rd_prog_17_method_56_code_0 rfl)
theorem dJ0_charAt_5068e_16 : decode cJ0_charAt_5068e 16 = .ok (.aload_n 0, 1) := dq_42 (dst 16 rd_prog_17_method_56_code_0 rfl)
theorem dJ0_charAt_5068e_17 : decode cJ0_charAt_5068e 17 = .ok (.getfield 9, 3) := dq_180 (dst 17 rd_prog_17_method_56_code_0 rfl) rfl
theorem dJ0_charAt_5068e_20 : decode cJ0_charAt_5068e 20 = .ok (.iload_n 1, 1) := dq_27 (dst 20 rd_prog_17_method_56_code_0 rfl)
theorem dJ0_charAt_5068e_21 : decode cJ0_charAt_5068e 21 = .ok (.invokestatic 498, 3) := dq_184 (dst 21 rd_prog_17_method_56_code_0 rfl) rfl
theorem dJ0_charAt_5068e_24 : decode cJ0_charAt_5068e 24 = .ok (.ireturn, 1) := dq_172 (dst 24 rd_prog_17_method_56_code_0 rfl)
theorem dJ0_coder_7d493_0 : decode cJ0_coder_7d493 0 = .ok (.getstatic 38, 3) := dq_178 (dst 0 rd_prog_17_method_152_code_0 rfl) rfl
theorem dJ0_coder_7d493_3 : decode cJ0_coder_7d493 3 = .ok (.ifCond .eq 10, 3) := dq_153 (dst 3 rd_prog_17_method_152_code_0 rfl) (by decide +kernel)
theorem dJ0_coder_7d493_6 : decode cJ0_coder_7d493 6 = .ok (.aload_n 0, 1) := dq_42 (dst 6 rd_prog_17_method_152_code_0 rfl)
theorem dJ0_coder_7d493_7 : decode cJ0_coder_7d493 7 = .ok (.getfield 15, 3) := dq_180 (dst 7 rd_prog_17_method_152_code_0 rfl) rfl
theorem dJ0_coder_7d493_10 : decode cJ0_coder_7d493 10 = .ok (.goto 4, 3) := dq_167 (dst 10 rd_prog_17_method_152_code_0 rfl) (by decide +kernel)
theorem dJ0_coder_7d493_13 : decode cJ0_coder_7d493 13 = .ok (.iconst 1, 1) := dq_4 (dst 13 rd_prog_17_method_152_code_0 rfl)
theorem dJ0_coder_7d493_14 : decode cJ0_coder_7d493 14 = .ok (.ireturn, 1) := dq_172 (dst 14 rd_prog_17_method_152_code_0 rfl)
theorem dJ0_isLatin1_aae02_0 : decode cJ0_isLatin1_aae02 0 = .ok (.getstatic 38, 3) := dq_178 (dst 0 rd_prog_17_method_154_code_0 rfl) rfl
theorem dJ0_isLatin1_aae02_3 : decode cJ0_isLatin1_aae02 3 = .ok (.ifCond .eq 14, 3) := dq_153 (dst 3 rd_prog_17_method_154_code_0 rfl) (by decide +kernel)
theorem dJ0_isLatin1_aae02_6 : decode cJ0_isLatin1_aae02 6 = .ok (.aload_n 0, 1) := dq_42 (dst 6 rd_prog_17_method_154_code_0 rfl)
theorem dJ0_isLatin1_aae02_7 : decode cJ0_isLatin1_aae02 7 = .ok (.getfield 15, 3) := dq_180 (dst 7 rd_prog_17_method_154_code_0 rfl) rfl
theorem dJ0_isLatin1_aae02_10 : decode cJ0_isLatin1_aae02 10 = .ok (.ifCond .ne 7, 3) := dq_154 (dst 10 rd_prog_17_method_154_code_0 rfl) (by decide +kernel)
theorem dJ0_isLatin1_aae02_13 : decode cJ0_isLatin1_aae02 13 = .ok (.iconst 1, 1) := dq_4 (dst 13 rd_prog_17_method_154_code_0 rfl)
theorem dJ0_isLatin1_aae02_14 : decode cJ0_isLatin1_aae02 14 = .ok (.goto 4, 3) := dq_167 (dst 14 rd_prog_17_method_154_code_0 rfl) (by decide +kernel)
theorem dJ0_isLatin1_aae02_17 : decode cJ0_isLatin1_aae02 17 = .ok (.iconst 0, 1) := dq_3 (dst 17 rd_prog_17_method_154_code_0 rfl)
theorem dJ0_isLatin1_aae02_18 : decode cJ0_isLatin1_aae02 18 = .ok (.ireturn, 1) := dq_172 (dst 18 rd_prog_17_method_154_code_0 rfl)
theorem lf_J0_checkIndex_df160_1 : ∀ w ∈ ([Cond.fieldLink RJ0 1053 "jdk/internal/util/Preconditions" "SIOOBE_FORMATTER" "Ljava/util/function/BiFunction;", Cond.methodLink RJ0 1059 yJ3_checkIndex_8e157, Cond.static yJ3_checkIndex_8e157, Cond.initialized RJ3, Cond.code yJ3_checkIndex_8e157 cJ3_checkIndex_8e157 3 (some .int)] : List Cond), w ∈ wsJ0_checkIndex_df160 := fun _ h => (List.mem_cons_of_mem _ h)
set_option maxRecDepth 20000 in
theorem ggJ0_checkIndex_df160_J3_checkIndex_8e157 : GoodIn wsJ0_checkIndex_df160 wsJ3_checkIndex_8e157 := (gd_cons (lf_J0_checkIndex_df160_1 _ (List.mem_of_getElem? (i := 4) rfl)) rfl (gd_nil _))
set_option maxRecDepth 20000 in
theorem gJ0_checkIndex_df160_J3_checkIndex_8e157 : GoodIn wsJ0_checkIndex_df160 (va_wsS RJ0 1059 yJ3_checkIndex_8e157 wsJ3_checkIndex_8e157) := goodIn_app (gd_cons (lf_J0_checkIndex_df160_1 _ (List.mem_of_getElem? (i := 1) rfl)) rfl (gd_cons (lf_J0_checkIndex_df160_1 _ (List.mem_of_getElem? (i := 2) rfl)) rfl (gd_cons (lf_J0_checkIndex_df160_1 _ (List.mem_of_getElem? (i := 3) rfl)) rfl (gd_nil _)))) ggJ0_checkIndex_df160_J3_checkIndex_8e157
theorem dJ0_checkIndex_df160_0 : decode cJ0_checkIndex_df160 0 = .ok (.iload_n 0, 1) := dq_26 (dst 0 rd_prog_17_method_155_code_0 rfl)
theorem dJ0_checkIndex_df160_1 : decode cJ0_checkIndex_df160 1 = .ok (.iload_n 1, 1) := dq_27 (dst 1 rd_prog_17_method_155_code_0 rfl)
theorem dJ0_checkIndex_df160_2 : decode cJ0_checkIndex_df160 2 = .ok (.getstatic 1053, 3) := dq_178 (dst 2 rd_prog_17_method_155_code_0 rfl) rfl
theorem dJ0_checkIndex_df160_5 : decode cJ0_checkIndex_df160 5 = .ok (.invokestatic 1059, 3) := dq_184 (dst 5 rd_prog_17_method_155_code_0 rfl) rfl
theorem dJ0_checkIndex_df160_8 : decode cJ0_checkIndex_df160 8 = .ok (.pop, 1) := dq_87 (dst 8 rd_prog_17_method_155_code_0 rfl)
theorem dJ0_checkIndex_df160_9 : decode cJ0_checkIndex_df160 9 = .ok (.return_, 1) := dq_177 (dst 9 rd_prog_17_method_155_code_0 rfl)
theorem lf_J1_charAt_3b067_1 : ∀ w ∈ ([Cond.methodLink RJ1 9 yJ0_checkIndex_df160, Cond.static yJ0_checkIndex_df160, Cond.initialized RJ0, Cond.code yJ0_checkIndex_df160 cJ0_checkIndex_df160 2 none, Cond.fieldLink RJ0 1053 "jdk/internal/util/Preconditions" "SIOOBE_FORMATTER" "Ljava/util/function/BiFunction;", Cond.methodLink RJ0 1059 yJ3_checkIndex_8e157, Cond.static yJ3_checkIndex_8e157, Cond.initialized RJ3, Cond.code yJ3_checkIndex_8e157 cJ3_checkIndex_8e157 3 (some .int)] : List Cond), w ∈ wsJ1_charAt_3b067 := fun _ h => (List.mem_cons_of_mem _ h)
set_option maxRecDepth 20000 in
theorem ggJ1_charAt_3b067_J0_checkIndex_df160 : GoodIn wsJ1_charAt_3b067 wsJ0_checkIndex_df160 := (gd_cons (lf_J1_charAt_3b067_1 _ (List.mem_of_getElem? (i := 3) rfl)) rfl (gd_cons (lf_J1_charAt_3b067_1 _ (List.mem_of_getElem? (i := 4) rfl)) rfl (gd_cons (lf_J1_charAt_3b067_1 _ (List.mem_of_getElem? (i := 5) rfl)) rfl (gd_cons (lf_J1_charAt_3b067_1 _ (List.mem_of_getElem? (i := 6) rfl)) rfl (gd_cons (lf_J1_charAt_3b067_1 _ (List.mem_of_getElem? (i := 7) rfl)) rfl (gd_cons (lf_J1_charAt_3b067_1 _ (List.mem_of_getElem? (i := 8) rfl)) rfl (gd_nil _)))))))
set_option maxRecDepth 20000 in
theorem gJ1_charAt_3b067_J0_checkIndex_df160 : GoodIn wsJ1_charAt_3b067 (va_wsS RJ1 9 yJ0_checkIndex_df160 wsJ0_checkIndex_df160) := goodIn_app (gd_cons (lf_J1_charAt_3b067_1 _ (List.mem_of_getElem? (i := 0) rfl)) rfl (gd_cons (lf_J1_charAt_3b067_1 _ (List.mem_of_getElem? (i := 1) rfl)) rfl (gd_cons (lf_J1_charAt_3b067_1 _ (List.mem_of_getElem? (i := 2) rfl)) rfl (gd_nil _)))) ggJ1_charAt_3b067_J0_checkIndex_df160
theorem dJ1_charAt_3b067_0 : decode cJ1_charAt_3b067 0 = .ok (.iload_n 1, 1) := dq_27 (dst 0 rd_prog_18_method_2_code_0 rfl)
theorem dJ1_charAt_3b067_1 : decode cJ1_charAt_3b067 1 = .ok (.aload_n 0, 1) := dq_42 (dst 1 rd_prog_18_method_2_code_0 rfl)
theorem dJ1_charAt_3b067_2 : decode cJ1_charAt_3b067 2 = .ok (.arraylength, 1) := dq_190 (dst 2 rd_prog_18_method_2_code_0 rfl)
theorem dJ1_charAt_3b067_3 : decode cJ1_charAt_3b067 3 = .ok (.invokestatic 9, 3) := dq_184 (dst 3 rd_prog_18_method_2_code_0 rfl) rfl
theorem dJ1_charAt_3b067_6 : decode cJ1_charAt_3b067 6 = .ok (.aload_n 0, 1) := dq_42 (dst 6 rd_prog_18_method_2_code_0 rfl)
theorem dJ1_charAt_3b067_7 : decode cJ1_charAt_3b067 7 = .ok (.iload_n 1, 1) := dq_27 (dst 7 rd_prog_18_method_2_code_0 rfl)
theorem dJ1_charAt_3b067_8 : decode cJ1_charAt_3b067 8 = .ok (.baload, 1) := dq_51 (dst 8 rd_prog_18_method_2_code_0 rfl)
theorem dJ1_charAt_3b067_9 : decode cJ1_charAt_3b067 9 = .ok (.sipush 255, 3) := dq_17 (dst 9 rd_prog_18_method_2_code_0 rfl) (by decide +kernel)
theorem dJ1_charAt_3b067_12 : decode cJ1_charAt_3b067 12 = .ok (.iand, 1) := dq_126 (dst 12 rd_prog_18_method_2_code_0 rfl)
theorem dJ1_charAt_3b067_13 : decode cJ1_charAt_3b067 13 = .ok (.i2c, 1) := dq_146 (dst 13 rd_prog_18_method_2_code_0 rfl)
theorem dJ1_charAt_3b067_14 : decode cJ1_charAt_3b067 14 = .ok (.ireturn, 1) := dq_172 (dst 14 rd_prog_18_method_2_code_0 rfl)
theorem lf_J2_getChar_3b067_1 : ∀ w ∈ ([Cond.fieldLink RJ2 44 "java/lang/StringUTF16" "$assertionsDisabled" "Z", Cond.fieldLink RJ2 59 "java/lang/StringUTF16" "HI_BYTE_SHIFT" "I", Cond.fieldLink RJ2 63 "java/lang/StringUTF16" "LO_BYTE_SHIFT" "I", Cond.methodLink RJ2 48 yJ2_length_9d52b, Cond.static yJ2_length_9d52b, Cond.initialized RJ2, Cond.code yJ2_length_9d52b cJ2_length_9d52b 1 (some .int)] : List Cond), w ∈ wsJ2_getChar_3b067 := fun _ h => (List.mem_cons_of_mem _ h)
set_option maxRecDepth 20000 in
theorem ggJ2_getChar_3b067_J2_length_9d52b : GoodIn wsJ2_getChar_3b067 wsJ2_length_9d52b := (gd_cons (lf_J2_getChar_3b067_1 _ (List.mem_of_getElem? (i := 6) rfl)) rfl (gd_nil _))
set_option maxRecDepth 20000 in
theorem gJ2_getChar_3b067_J2_length_9d52b : GoodIn wsJ2_getChar_3b067 (va_wsS RJ2 48 yJ2_length_9d52b wsJ2_length_9d52b) := goodIn_app (gd_cons (lf_J2_getChar_3b067_1 _ (List.mem_of_getElem? (i := 3) rfl)) rfl (gd_cons (lf_J2_getChar_3b067_1 _ (List.mem_of_getElem? (i := 4) rfl)) rfl (gd_cons (lf_J2_getChar_3b067_1 _ (List.mem_of_getElem? (i := 5) rfl)) rfl (gd_nil _)))) ggJ2_getChar_3b067_J2_length_9d52b
theorem dJ2_getChar_3b067_0 : decode cJ2_getChar_3b067 0 = .ok (.getstatic 44, 3) := dq_178 (dst 0 rd_prog_19_method_5_code_0 rfl) rfl
theorem dJ2_getChar_3b067_3 : decode cJ2_getChar_3b067 3 = .ok (.ifCond .ne 25, 3) := dq_154 (dst 3 rd_prog_19_method_5_code_0 rfl) (by decide +kernel)
theorem dJ2_getChar_3b067_6 : decode cJ2_getChar_3b067 6 = .ok (.iload_n 1, 1) := dq_27 (dst 6 rd_prog_19_method_5_code_0 rfl)
theorem dJ2_getChar_3b067_7 : decode cJ2_getChar_3b067 7 = .ok (.ifCond .lt 11, 3) := dq_155 (dst 7 rd_prog_19_method_5_code_0 rfl) (by decide +kernel)
theorem dJ2_getChar_3b067_10 : decode cJ2_getChar_3b067 10 = .ok (.iload_n 1, 1) := dq_27 (dst 10 rd_prog_19_method_5_code_0 rfl)
theorem dJ2_getChar_3b067_11 : decode cJ2_getChar_3b067 11 = .ok (.aload_n 0, 1) := dq_42 (dst 11 rd_prog_19_method_5_code_0 rfl)
theorem dJ2_getChar_3b067_12 : decode cJ2_getChar_3b067 12 = .ok (.invokestatic 48, 3) := dq_184 (dst 12 rd_prog_19_method_5_code_0 rfl) rfl
theorem dJ2_getChar_3b067_15 : decode cJ2_getChar_3b067 15 = .ok (.if_icmp .lt 13, 3) := dq_161 (dst 15 rd_prog_19_method_5_code_0 rfl) (by decide +kernel)
theorem dJ2_getChar_3b067_18 : decode cJ2_getChar_3b067 18 = .ok (.new 52, 3) := dq_187 (dst 18 rd_prog_19_method_5_code_0 rfl) rfl
theorem dJ2_getChar_3b067_21 : decode cJ2_getChar_3b067 21 = .ok (.dup, 1) := dq_89 (dst 21 rd_prog_19_method_5_code_0 rfl)
theorem dJ2_getChar_3b067_22 : decode cJ2_getChar_3b067 22 = .ok (.ldc 54, 2) := dq_18 (dst 22 rd_prog_19_method_5_code_0 rfl) rfl
theorem dJ2_getChar_3b067_24 : decode cJ2_getChar_3b067 24 = .ok (.invokespecial 56, 3) := dq_183 (dst 24 rd_prog_19_method_5_code_0 rfl) rfl
theorem dJ2_getChar_3b067_27 : decode cJ2_getChar_3b067 27 = .ok (.athrow, 1) := dq_191 (dst 27 rd_prog_19_method_5_code_0 rfl)
theorem dJ2_getChar_3b067_28 : decode cJ2_getChar_3b067 28 = .ok (.iload_n 1, 1) := dq_27 (dst 28 rd_prog_19_method_5_code_0 rfl)
theorem dJ2_getChar_3b067_29 : decode cJ2_getChar_3b067 29 = .ok (.iconst 1, 1) := dq_4 (dst 29 rd_prog_19_method_5_code_0 rfl)
theorem dJ2_getChar_3b067_30 : decode cJ2_getChar_3b067 30 = .ok (.ishl, 1) := dq_120 (dst 30 rd_prog_19_method_5_code_0 rfl)
theorem dJ2_getChar_3b067_31 : decode cJ2_getChar_3b067 31 = .ok (.istore_n 1, 1) := dq_60 (dst 31 rd_prog_19_method_5_code_0 rfl)
theorem dJ2_getChar_3b067_32 : decode cJ2_getChar_3b067 32 = .ok (.aload_n 0, 1) := dq_42 (dst 0 rd_prog_19_method_5_code_1 rfl)
theorem dJ2_getChar_3b067_33 : decode cJ2_getChar_3b067 33 = .ok (.iload_n 1, 1) := dq_27 (dst 1 rd_prog_19_method_5_code_1 rfl)
theorem dJ2_getChar_3b067_34 : decode cJ2_getChar_3b067 34 = .ok (.iinc 1 1, 3) := dq_132 (dst 2 rd_prog_19_method_5_code_1 rfl) rfl (by decide +kernel)
theorem dJ2_getChar_3b067_37 : decode cJ2_getChar_3b067 37 = .ok (.baload, 1) := dq_51 (dst 5 rd_prog_19_method_5_code_1 rfl)
theorem dJ2_getChar_3b067_38 : decode cJ2_getChar_3b067 38 = .ok (.sipush 255, 3) := dq_17 (dst 6 rd_prog_19_method_5_code_1 rfl) (by decide +kernel)
theorem dJ2_getChar_3b067_41 : decode cJ2_getChar_3b067 41 = .ok (.iand, 1) := dq_126 (dst 9 rd_prog_19_method_5_code_1 rfl)
theorem dJ2_getChar_3b067_42 : decode cJ2_getChar_3b067 42 = .ok (.getstatic 59, 3) := dq_178 (dst 10 rd_prog_19_method_5_code_1 rfl) rfl
theorem dJ2_getChar_3b067_45 : decode cJ2_getChar_3b067 45 = .ok (.ishl, 1) := dq_120 (dst 13 rd_prog_19_method_5_code_1 rfl)
theorem dJ2_getChar_3b067_46 : decode cJ2_getChar_3b067 46 = .ok (.aload_n 0, 1) := dq_42 (dst 14 rd_prog_19_method_5_code_1 rfl)
theorem dJ2_getChar_3b067_47 : decode cJ2_getChar_3b067 47 = .ok (.iload_n 1, 1) := dq_27 (dst 15 rd_prog_19_method_5_code_1 rfl)
theorem dJ2_getChar_3b067_48 : decode cJ2_getChar_3b067 48 = .ok (.baload, 1) := dq_51 (dst 16 rd_prog_19_method_5_code_1 rfl)
theorem dJ2_getChar_3b067_49 : decode cJ2_getChar_3b067 49 = .ok (.sipush 255, 3) := dq_17 (dst 17 rd_prog_19_method_5_code_1 rfl) (by decide +kernel)
theorem dJ2_getChar_3b067_52 : decode cJ2_getChar_3b067 52 = .ok (.iand, 1) := dq_126 (dst 20 rd_prog_19_method_5_code_1 rfl)
theorem dJ2_getChar_3b067_53 : decode cJ2_getChar_3b067 53 = .ok (.getstatic 63, 3) := dq_178 (dst 21 rd_prog_19_method_5_code_1 rfl) rfl
theorem dJ2_getChar_3b067_56 : decode cJ2_getChar_3b067 56 = .ok (.ishl, 1) := dq_120 (dst 24 rd_prog_19_method_5_code_1 rfl)
theorem dJ2_getChar_3b067_57 : decode cJ2_getChar_3b067 57 = .ok (.ior, 1) := dq_128 (dst 25 rd_prog_19_method_5_code_1 rfl)
theorem dJ2_getChar_3b067_58 : decode cJ2_getChar_3b067 58 = .ok (.i2c, 1) := dq_146 (dst 26 rd_prog_19_method_5_code_1 rfl)
theorem dJ2_getChar_3b067_59 : decode cJ2_getChar_3b067 59 = .ok (.ireturn, 1) := dq_172 (dst 27 rd_prog_19_method_5_code_1 rfl)
theorem dJ2_length_9d52b_0 : decode cJ2_length_9d52b 0 = .ok (.aload_n 0, 1) := dq_42 (dst 0 rd_prog_19_method_6_code_0 rfl)
theorem dJ2_length_9d52b_1 : decode cJ2_length_9d52b 1 = .ok (.arraylength, 1) := dq_190 (dst 1 rd_prog_19_method_6_code_0 rfl)
theorem dJ2_length_9d52b_2 : decode cJ2_length_9d52b 2 = .ok (.iconst 1, 1) := dq_4 (dst 2 rd_prog_19_method_6_code_0 rfl)
theorem dJ2_length_9d52b_3 : decode cJ2_length_9d52b 3 = .ok (.ishr, 1) := dq_122 (dst 3 rd_prog_19_method_6_code_0 rfl)
theorem dJ2_length_9d52b_4 : decode cJ2_length_9d52b 4 = .ok (.ireturn, 1) := dq_172 (dst 4 rd_prog_19_method_6_code_0 rfl)
theorem lf_J2_charAt_3b067_1 : ∀ w ∈ ([Cond.methodLink RJ2 67 yJ2_checkIndex_2214a, Cond.static yJ2_checkIndex_2214a, Cond.initialized RJ2, Cond.code yJ2_checkIndex_2214a cJ2_checkIndex_2214a 2 none, Cond.methodLink RJ2 48 yJ2_length_9d52b, Cond.static yJ2_length_9d52b, Cond.code yJ2_length_9d52b cJ2_length_9d52b 1 (some .int), Cond.methodLink RJ2 414 yJ0_checkIndex_df160, Cond.static yJ0_checkIndex_df160, Cond.initialized RJ0, Cond.code yJ0_checkIndex_df160 cJ0_checkIndex_df160 2 none, Cond.fieldLink RJ0 1053 "jdk/internal/util/Preconditions" "SIOOBE_FORMATTER" "Ljava/util/function/BiFunction;", Cond.methodLink RJ0 1059 yJ3_checkIndex_8e157, Cond.static yJ3_checkIndex_8e157, Cond.initialized RJ3, Cond.code yJ3_checkIndex_8e157 cJ3_checkIndex_8e157 3 (some .int), Cond.methodLink RJ2 71 yJ2_getChar_3b067, Cond.static yJ2_getChar_3b067, Cond.code yJ2_getChar_3b067 cJ2_getChar_3b067 2 (some .char), Cond.fieldLink RJ2 44 "java/lang/StringUTF16" "$assertionsDisabled" "Z", Cond.fieldLink RJ2 59 "java/lang/StringUTF16" "HI_BYTE_SHIFT" "I", Cond.fieldLink RJ2 63 "java/lang/StringUTF16" "LO_BYTE_SHIFT" "I"] : List Cond), w ∈ wsJ2_charAt_3b067 := fun _ h => (List.mem_cons_of_mem _ h)
set_option maxRecDepth 20000 in
theorem ggJ2_charAt_3b067_J2_checkIndex_2214a : GoodIn wsJ2_charAt_3b067 wsJ2_checkIndex_2214a := (gd_cons (lf_J2_charAt_3b067_1 _ (List.mem_of_getElem? (i := 3) rfl)) rfl (gd_cons (lf_J2_charAt_3b067_1 _ (List.mem_of_getElem? (i := 4) rfl)) rfl (gd_cons (lf_J2_charAt_3b067_1 _ (List.mem_of_getElem? (i := 5) rfl)) rfl (gd_cons (lf_J2_charAt_3b067_1 _ (List.mem_of_getElem? (i := 2) rfl)) rfl (gd_cons (lf_J2_charAt_3b067_1 _ (List.mem_of_getElem? (i := 6) rfl)) rfl (gd_cons (lf_J2_charAt_3b067_1 _ (List.mem_of_getElem? (i := 7) rfl)) rfl (gd_cons (lf_J2_charAt_3b067_1 _ (List.mem_of_getElem? (i := 8) rfl)) rfl (gd_cons (lf_J2_charAt_3b067_1 _ (List.mem_of_getElem? (i := 9) rfl)) rfl (gd_cons (lf_J2_charAt_3b067_1 _ (List.mem_of_getElem? (i := 10) rfl)) rfl (gd_cons (lf_J2_charAt_3b067_1 _ (List.mem_of_getElem? (i := 11) rfl)) rfl (gd_cons (lf_J2_charAt_3b067_1 _ (List.mem_of_getElem? (i := 12) rfl)) rfl (gd_cons (lf_J2_charAt_3b067_1 _ (List.mem_of_getElem? (i := 13) rfl)) rfl (gd_cons (lf_J2_charAt_3b067_1 _ (List.mem_of_getElem? (i := 14) rfl)) rfl (gd_cons (lf_J2_charAt_3b067_1 _ (List.mem_of_getElem? (i := 15) rfl)) rfl (gd_nil _)))))))))))))))
set_option maxRecDepth 20000 in
theorem gJ2_charAt_3b067_J2_checkIndex_2214a : GoodIn wsJ2_charAt_3b067 (va_wsS RJ2 67 yJ2_checkIndex_2214a wsJ2_checkIndex_2214a) := goodIn_app (gd_cons (lf_J2_charAt_3b067_1 _ (List.mem_of_getElem? (i := 0) rfl)) rfl (gd_cons (lf_J2_charAt_3b067_1 _ (List.mem_of_getElem? (i := 1) rfl)) rfl (gd_cons (lf_J2_charAt_3b067_1 _ (List.mem_of_getElem? (i := 2) rfl)) rfl (gd_nil _)))) ggJ2_charAt_3b067_J2_checkIndex_2214a
set_option maxRecDepth 20000 in
theorem ggJ2_charAt_3b067_J2_getChar_3b067 : GoodIn wsJ2_charAt_3b067 wsJ2_getChar_3b067 := (gd_cons (lf_J2_charAt_3b067_1 _ (List.mem_of_getElem? (i := 18) rfl)) rfl (gd_cons (lf_J2_charAt_3b067_1 _ (List.mem_of_getElem? (i := 19) rfl)) rfl (gd_cons (lf_J2_charAt_3b067_1 _ (List.mem_of_getElem? (i := 20) rfl)) rfl (gd_cons (lf_J2_charAt_3b067_1 _ (List.mem_of_getElem? (i := 21) rfl)) rfl (gd_cons (lf_J2_charAt_3b067_1 _ (List.mem_of_getElem? (i := 4) rfl)) rfl (gd_cons (lf_J2_charAt_3b067_1 _ (List.mem_of_getElem? (i := 5) rfl)) rfl (gd_cons (lf_J2_charAt_3b067_1 _ (List.mem_of_getElem? (i := 2) rfl)) rfl (gd_cons (lf_J2_charAt_3b067_1 _ (List.mem_of_getElem? (i := 6) rfl)) rfl (gd_nil _)))))))))
set_option maxRecDepth 20000 in
theorem gJ2_charAt_3b067_J2_getChar_3b067 : GoodIn wsJ2_charAt_3b067 (va_wsS RJ2 71 yJ2_getChar_3b067 wsJ2_getChar_3b067) := goodIn_app (gd_cons (lf_J2_charAt_3b067_1 _ (List.mem_of_getElem? (i := 16) rfl)) rfl (gd_cons (lf_J2_charAt_3b067_1 _ (List.mem_of_getElem? (i := 17) rfl)) rfl (gd_cons (lf_J2_charAt_3b067_1 _ (List.mem_of_getElem? (i := 2) rfl)) rfl (gd_nil _)))) ggJ2_charAt_3b067_J2_getChar_3b067
theorem dJ2_charAt_3b067_0 : decode cJ2_charAt_3b067 0 = .ok (.iload_n 1, 1) := dq_27 (dst 0 rd_prog_19_method_83_code_0 rfl)
theorem dJ2_charAt_3b067_1 : decode cJ2_charAt_3b067 1 = .ok (.aload_n 0, 1) := dq_42 (dst 1 rd_prog_19_method_83_code_0 rfl)
theorem dJ2_charAt_3b067_2 : decode cJ2_charAt_3b067 2 = .ok (.invokestatic 67, 3) := dq_184 (dst 2 rd_prog_19_method_83_code_0 rfl) rfl
theorem dJ2_charAt_3b067_5 : decode cJ2_charAt_3b067 5 = .ok (.aload_n 0, 1) := dq_42 (dst 5 rd_prog_19_method_83_code_0 rfl)
theorem dJ2_charAt_3b067_6 : decode cJ2_charAt_3b067 6 = .ok (.iload_n 1, 1) := dq_27 (dst 6 rd_prog_19_method_83_code_0 rfl)
theorem dJ2_charAt_3b067_7 : decode cJ2_charAt_3b067 7 = .ok (.invokestatic 71, 3) := dq_184 (dst 7 rd_prog_19_method_83_code_0 rfl) rfl
theorem dJ2_charAt_3b067_10 : decode cJ2_charAt_3b067 10 = .ok (.ireturn, 1) := dq_172 (dst 10 rd_prog_19_method_83_code_0 rfl)
theorem lf_J2_checkIndex_2214a_1 : ∀ w ∈ ([Cond.methodLink RJ2 48 yJ2_length_9d52b, Cond.static yJ2_length_9d52b, Cond.initialized RJ2, Cond.code yJ2_length_9d52b cJ2_length_9d52b 1 (some .int), Cond.methodLink RJ2 414 yJ0_checkIndex_df160, Cond.static yJ0_checkIndex_df160, Cond.initialized RJ0, Cond.code yJ0_checkIndex_df160 cJ0_checkIndex_df160 2 none, Cond.fieldLink RJ0 1053 "jdk/internal/util/Preconditions" "SIOOBE_FORMATTER" "Ljava/util/function/BiFunction;", Cond.methodLink RJ0 1059 yJ3_checkIndex_8e157, Cond.static yJ3_checkIndex_8e157, Cond.initialized RJ3, Cond.code yJ3_checkIndex_8e157 cJ3_checkIndex_8e157 3 (some .int)] : List Cond), w ∈ wsJ2_checkIndex_2214a := fun _ h => (List.mem_cons_of_mem _ h)
set_option maxRecDepth 20000 in
theorem ggJ2_checkIndex_2214a_J2_length_9d52b : GoodIn wsJ2_checkIndex_2214a wsJ2_length_9d52b := (gd_cons (lf_J2_checkIndex_2214a_1 _ (List.mem_of_getElem? (i := 3) rfl)) rfl (gd_nil _))
set_option maxRecDepth 20000 in
theorem gJ2_checkIndex_2214a_J2_length_9d52b : GoodIn wsJ2_checkIndex_2214a (va_wsS RJ2 48 yJ2_length_9d52b wsJ2_length_9d52b) := goodIn_app (gd_cons (lf_J2_checkIndex_2214a_1 _ (List.mem_of_getElem? (i := 0) rfl)) rfl (gd_cons (lf_J2_checkIndex_2214a_1 _ (List.mem_of_getElem? (i := 1) rfl)) rfl (gd_cons (lf_J2_checkIndex_2214a_1 _ (List.mem_of_getElem? (i := 2) rfl)) rfl (gd_nil _)))) ggJ2_checkIndex_2214a_J2_length_9d52b
set_option maxRecDepth 20000 in
theorem ggJ2_checkIndex_2214a_J0_checkIndex_df160 : GoodIn wsJ2_checkIndex_2214a wsJ0_checkIndex_df160 := (gd_cons (lf_J2_checkIndex_2214a_1 _ (List.mem_of_getElem? (i := 7) rfl)) rfl (gd_cons (lf_J2_checkIndex_2214a_1 _ (List.mem_of_getElem? (i := 8) rfl)) rfl (gd_cons (lf_J2_checkIndex_2214a_1 _ (List.mem_of_getElem? (i := 9) rfl)) rfl (gd_cons (lf_J2_checkIndex_2214a_1 _ (List.mem_of_getElem? (i := 10) rfl)) rfl (gd_cons (lf_J2_checkIndex_2214a_1 _ (List.mem_of_getElem? (i := 11) rfl)) rfl (gd_cons (lf_J2_checkIndex_2214a_1 _ (List.mem_of_getElem? (i := 12) rfl)) rfl (gd_nil _)))))))
set_option maxRecDepth 20000 in
theorem gJ2_checkIndex_2214a_J0_checkIndex_df160 : GoodIn wsJ2_checkIndex_2214a (va_wsS RJ2 414 yJ0_checkIndex_df160 wsJ0_checkIndex_df160) := goodIn_app (gd_cons (lf_J2_checkIndex_2214a_1 _ (List.mem_of_getElem? (i := 4) rfl)) rfl (gd_cons (lf_J2_checkIndex_2214a_1 _ (List.mem_of_getElem? (i := 5) rfl)) rfl (gd_cons (lf_J2_checkIndex_2214a_1 _ (List.mem_of_getElem? (i := 6) rfl)) rfl (gd_nil _)))) ggJ2_checkIndex_2214a_J0_checkIndex_df160
theorem dJ2_checkIndex_2214a_0 : decode cJ2_checkIndex_2214a 0 = .ok (.iload_n 0, 1) := dq_26 (dst 0 rd_prog_19_method_91_code_0 rfl)
theorem dJ2_checkIndex_2214a_1 : decode cJ2_checkIndex_2214a 1 = .ok (.aload_n 1, 1) := dq_43 (dst 1 rd_prog_19_method_91_code_0 rfl)
theorem dJ2_checkIndex_2214a_2 : decode cJ2_checkIndex_2214a 2 = .ok (.invokestatic 48, 3) := dq_184 (dst 2 rd_prog_19_method_91_code_0 rfl) rfl
theorem dJ2_checkIndex_2214a_5 : decode cJ2_checkIndex_2214a 5 = .ok (.invokestatic 414, 3) := dq_184 (dst 5 rd_prog_19_method_91_code_0 rfl) rfl
theorem dJ2_checkIndex_2214a_8 : decode cJ2_checkIndex_2214a 8 = .ok (.return_, 1) := dq_177 (dst 8 rd_prog_19_method_91_code_0 rfl)
theorem dJ7_fill_d0a16_0 : decode cJ7_fill_d0a16 0 = .ok (.iconst 0, 1) := dq_3 (dst 0 rd_prog_21_method_101_code_0 rfl)
theorem dJ7_fill_d0a16_1 : decode cJ7_fill_d0a16 1 = .ok (.istore_n 3, 1) := dq_62 (dst 1 rd_prog_21_method_101_code_0 rfl)
theorem dJ7_fill_d0a16_2 : decode cJ7_fill_d0a16 2 = .ok (.aload_n 0, 1) := dq_42 (dst 2 rd_prog_21_method_101_code_0 rfl)
theorem dJ7_fill_d0a16_3 : decode cJ7_fill_d0a16 3 = .ok (.arraylength, 1) := dq_190 (dst 3 rd_prog_21_method_101_code_0 rfl)
theorem dJ7_fill_d0a16_4 : decode cJ7_fill_d0a16 4 = .ok (.istore 4, 2) := dq_54 (dst 4 rd_prog_21_method_101_code_0 rfl) rfl
theorem dJ7_fill_d0a16_6 : decode cJ7_fill_d0a16 6 = .ok (.iload_n 3, 1) := dq_29 (dst 6 rd_prog_21_method_101_code_0 rfl)
theorem dJ7_fill_d0a16_7 : decode cJ7_fill_d0a16 7 = .ok (.iload 4, 2) := dq_21 (dst 7 rd_prog_21_method_101_code_0 rfl) rfl
theorem dJ7_fill_d0a16_9 : decode cJ7_fill_d0a16 9 = .ok (.if_icmp .ge 13, 3) := dq_162 (dst 9 rd_prog_21_method_101_code_0 rfl) (by decide +kernel)
theorem dJ7_fill_d0a16_12 : decode cJ7_fill_d0a16 12 = .ok (.aload_n 0, 1) := dq_42 (dst 12 rd_prog_21_method_101_code_0 rfl)
theorem dJ7_fill_d0a16_13 : decode cJ7_fill_d0a16 13 = .ok (.iload_n 3, 1) := dq_29 (dst 13 rd_prog_21_method_101_code_0 rfl)
theorem dJ7_fill_d0a16_14 : decode cJ7_fill_d0a16 14 = .ok (.lload_n 1, 1) := dq_31 (dst 14 rd_prog_21_method_101_code_0 rfl)
theorem dJ7_fill_d0a16_15 : decode cJ7_fill_d0a16 15 = .ok (.lastore, 1) := dq_80 (dst 15 rd_prog_21_method_101_code_0 rfl)
theorem dJ7_fill_d0a16_16 : decode cJ7_fill_d0a16 16 = .ok (.iinc 3 1, 3) := dq_132 (dst 16 rd_prog_21_method_101_code_0 rfl) rfl (by decide +kernel)
theorem dJ7_fill_d0a16_19 : decode cJ7_fill_d0a16 19 = .ok (.goto (-13), 3) := dq_167 (dst 19 rd_prog_21_method_101_code_0 rfl) (by decide +kernel)
theorem dJ7_fill_d0a16_22 : decode cJ7_fill_d0a16 22 = .ok (.return_, 1) := dq_177 (dst 22 rd_prog_21_method_101_code_0 rfl)
theorem dJ7_fill_53178_0 : decode cJ7_fill_53178 0 = .ok (.iconst 0, 1) := dq_3 (dst 0 rd_prog_21_method_103_code_0 rfl)
theorem dJ7_fill_53178_1 : decode cJ7_fill_53178 1 = .ok (.istore_n 2, 1) := dq_61 (dst 1 rd_prog_21_method_103_code_0 rfl)
theorem dJ7_fill_53178_2 : decode cJ7_fill_53178 2 = .ok (.aload_n 0, 1) := dq_42 (dst 2 rd_prog_21_method_103_code_0 rfl)
theorem dJ7_fill_53178_3 : decode cJ7_fill_53178 3 = .ok (.arraylength, 1) := dq_190 (dst 3 rd_prog_21_method_103_code_0 rfl)
theorem dJ7_fill_53178_4 : decode cJ7_fill_53178 4 = .ok (.istore_n 3, 1) := dq_62 (dst 4 rd_prog_21_method_103_code_0 rfl)
theorem dJ7_fill_53178_5 : decode cJ7_fill_53178 5 = .ok (.iload_n 2, 1) := dq_28 (dst 5 rd_prog_21_method_103_code_0 rfl)
theorem dJ7_fill_53178_6 : decode cJ7_fill_53178 6 = .ok (.iload_n 3, 1) := dq_29 (dst 6 rd_prog_21_method_103_code_0 rfl)
theorem dJ7_fill_53178_7 : decode cJ7_fill_53178 7 = .ok (.if_icmp .ge 13, 3) := dq_162 (dst 7 rd_prog_21_method_103_code_0 rfl) (by decide +kernel)
theorem dJ7_fill_53178_10 : decode cJ7_fill_53178 10 = .ok (.aload_n 0, 1) := dq_42 (dst 10 rd_prog_21_method_103_code_0 rfl)
theorem dJ7_fill_53178_11 : decode cJ7_fill_53178 11 = .ok (.iload_n 2, 1) := dq_28 (dst 11 rd_prog_21_method_103_code_0 rfl)
theorem dJ7_fill_53178_12 : decode cJ7_fill_53178 12 = .ok (.iload_n 1, 1) := dq_27 (dst 12 rd_prog_21_method_103_code_0 rfl)
theorem dJ7_fill_53178_13 : decode cJ7_fill_53178 13 = .ok (.iastore, 1) := dq_79 (dst 13 rd_prog_21_method_103_code_0 rfl)
theorem dJ7_fill_53178_14 : decode cJ7_fill_53178 14 = .ok (.iinc 2 1, 3) := dq_132 (dst 14 rd_prog_21_method_103_code_0 rfl) rfl (by decide +kernel)
theorem dJ7_fill_53178_17 : decode cJ7_fill_53178 17 = .ok (.goto (-12), 3) := dq_167 (dst 17 rd_prog_21_method_103_code_0 rfl) (by decide +kernel)
theorem dJ7_fill_53178_20 : decode cJ7_fill_53178 20 = .ok (.return_, 1) := dq_177 (dst 20 rd_prog_21_method_103_code_0 rfl)
theorem dJ3_checkIndex_8e157_0 : decode cJ3_checkIndex_8e157 0 = .ok (.iload_n 0, 1) := dq_26 (dst 0 rd_prog_22_method_11_code_0 rfl)
theorem dJ3_checkIndex_8e157_1 : decode cJ3_checkIndex_8e157 1 = .ok (.ifCond .lt 8, 3) := dq_155 (dst 1 rd_prog_22_method_11_code_0 rfl) (by decide +kernel)
theorem dJ3_checkIndex_8e157_4 : decode cJ3_checkIndex_8e157 4 = .ok (.iload_n 0, 1) := dq_26 (dst 4 rd_prog_22_method_11_code_0 rfl)
theorem dJ3_checkIndex_8e157_5 : decode cJ3_checkIndex_8e157 5 = .ok (.iload_n 1, 1) := dq_27 (dst 5 rd_prog_22_method_11_code_0 rfl)
theorem dJ3_checkIndex_8e157_6 : decode cJ3_checkIndex_8e157 6 = .ok (.if_icmp .lt 10, 3) := dq_161 (dst 6 rd_prog_22_method_11_code_0 rfl) (by decide +kernel)
theorem dJ3_checkIndex_8e157_9 : decode cJ3_checkIndex_8e157 9 = .ok (.aload_n 2, 1) := dq_44 (dst 9 rd_prog_22_method_11_code_0 rfl)
theorem dJ3_checkIndex_8e157_10 : decode cJ3_checkIndex_8e157 10 = .ok (.iload_n 0, 1) := dq_26 (dst 10 rd_prog_22_method_11_code_0 rfl)
theorem dJ3_checkIndex_8e157_11 : decode cJ3_checkIndex_8e157 11 = .ok (.iload_n 1, 1) := dq_27 (dst 11 rd_prog_22_method_11_code_0 rfl)
theorem dJ3_checkIndex_8e157_12 : decode cJ3_checkIndex_8e157 12 = .ok (.invokestatic 95, 3) := dq_184 (dst 12 rd_prog_22_method_11_code_0 rfl) rfl
theorem dJ3_checkIndex_8e157_15 : decode cJ3_checkIndex_8e157 15 = .ok (.athrow, 1) := dq_191 (dst 15 rd_prog_22_method_11_code_0 rfl)
theorem dJ3_checkIndex_8e157_16 : decode cJ3_checkIndex_8e157 16 = .ok (.iload_n 0, 1) := dq_26 (dst 16 rd_prog_22_method_11_code_0 rfl)
theorem dJ3_checkIndex_8e157_17 : decode cJ3_checkIndex_8e157 17 = .ok (.ireturn, 1) := dq_172 (dst 17 rd_prog_22_method_11_code_0 rfl)
