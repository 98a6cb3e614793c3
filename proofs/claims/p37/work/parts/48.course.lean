theorem fw_X1_start_11 : Cond.fieldLink RX1 11 "StillInAugust$Course" "ahead" "[J" ∈ wsX1_start := by decide +kernel
theorem fw_X1_start_30 : Cond.fieldLink RX1 30 "StillInAugust$Course" "scale" "J" ∈ wsX1_start := by decide +kernel
theorem fw_X1_start_34 : Cond.fieldLink RX1 34 "StillInAugust$Course" "costs" "J" ∈ wsX1_start := by decide +kernel
theorem nd_J7_fill_d0a16 : yJ7_fill_d0a16.cls ≠ "java/lang/invoke/MethodHandle" ∧ yJ7_fill_d0a16.cls ≠ "java/lang/invoke/VarHandle" ∧ (parseMethodDescriptor yJ7_fill_d0a16.desc).map (fun d => d.parameters.length) = some 2 := by decide +kernel
theorem iw_X1_start_X1 : ∀ w ∈ u_ws RX1 TX1 6, w ∈ wsX1_start := fun _ h => List.mem_cons_of_mem _ (List.mem_append_right _ h)
set_option maxHeartbeats 4000000 in
set_option maxRecDepth 100000 in
theorem c_X1_start (l : Launch) (D : va_G) (k : Nat → ClassId) (b : Nat → Nat) (qco : Nat → Nat) (sco : Nat → Nat → Int32) (tco : Nat → Nat → Int64) (sz : Nat) (p0 : Int32) (hv : 0 ≤ p0.toInt ∧ p0.toInt ≤ 400 ∧ tot p0 ≤ 4) : MetV l D k b yX1_start wsX1_start ({ frames := 1, cells := 0, slots := 0, locals := 24 } : Room) [cell84_ qco tco, cell35_ k qco tco, cell34_ k qco tco] sz [.ref (qco 0), .int p0] (fun (u : (Nat → Int64) × Int64 × Int64) => ∀ H : Int, tot p0 ≤ H → CUok (u.1) H) (fun u => [cell194_ qco tco (u.2.1) (u.2.2), cell98_ k qco (u.1), cell34_ k qco tco]) := by
  refine g_enter (cc := cX1_start) (maxL := 2) (ret := none) (by decide) rfl (Nat.le_of_ble_eq_true rfl) ?_
  intro p e s m below meth c A hsz hAe cx hr hP hD hS ls hl
  rw [hAe]
  refine g_q (fun Q hQ => ?_)
  have hx := cx.1.1
  have hb := cx.1.2.1
  have bp0 := i_rng p0
  have hl : lv_has ls 2 [(0, .ref (qco 0)), (1, .int p0)] := hl
  obtain ⟨H, eH⟩ : ∃ H : Heap, H = s.heap := ⟨_, rfl⟩
  obtain ⟨locs, el⟩ : ∃ L : List Loc, L = [] := ⟨_, rfl⟩
  have hP : va_P D vwCl [cell84_ qco tco, cell35_ k qco tco, cell34_ k qco tco] H := by rw [eH]; exact hP
  have hD : va_D A [cell84_ qco tco, cell35_ k qco tco, cell34_ k qco tco] := hD
  have hS : va_S A s.heap H locs := by rw [eH, el]; exact hS
  suffices goal : W p l e ({ frames := 1, cells := 0, slots := 0, locals := 24 } : Room) s m ([.ref (qco 0), .int p0] : List Value).toArray below meth c H locs 0 0 Q (F0 m 0 ls []) by rw [eH, el] at goal; exact goal
  refine lv_aload_n hx hb dX1_start_0 rfl (lv_at hl 0 rfl) ?_
  refine g_get cx hP iw_X1_start_X1 0 rfl rfl 0 (by decide) rfl fw_X1_start_11 rfl dX1_start_1 ?_
  refine lv_lconst (v := 0) hx hb dX1_start_4 (by decide) ?_
  refine g_v (w1 := fun (u : (Nat → Int64)) => [(qco 1, .inl (k 1, 35, .inr (.inl u)))]) (g_runS (wc := [cell35_ k qco tco]) (rest := []) cx hP hD hS [1] rfl (by decide) [.ref (qco 1), .long 0] (c_J7_fill_d0a16_35 l D k b (fun _ => qco 1) (fun _ _ => 0) (fun _ => (tco 1)) H.size 0) gX1_start_J7_fill_d0a16 rfl rfl rfl nd_J7_fill_d0a16 ⟨Nat.le_of_ble_eq_true rfl, Nat.le_of_ble_eq_true rfl⟩ rfl hl.1 rfl (Nat.le_of_ble_eq_true rfl) ⟨Nat.zero_le _, Nat.zero_le _⟩ dX1_start_5) cx.2.2.1 hP hD hS [1] rfl (fun _ => rfl) (fun u2 H locs hw1 hP hD hS => ?_)
  obtain ⟨m3, rfl⟩ : ∃ z, z = u2 := ⟨_, rfl⟩
  have hP : va_P D vwCl [cell84_ qco tco, (qco 1, .inl (k 1, 35, .inr (.inl m3))), cell34_ k qco tco] H := hP
  have hD : va_D A [cell84_ qco tco, (qco 1, .inl (k 1, 35, .inr (.inl m3))), cell34_ k qco tco] := hD
  replace hw1 : (m3 = fillJ 35 (0 : Int64) (tco 1)) ∧ (m3 = J_J7_fill_d0a16_35 (fun _ _ => 0) (fun _ => (tco 1)) (0 : Int64)) := hw1
  obtain ⟨w4, w5⟩ := hw1
  have k7 : m3 = (J_J7_fill_d0a16_35 (fun _ _ => 0) (fun _ => (tco 1)) (0 : Int64)) := congrArg (fun z => z) w5
  have cf : ∀ h : Int, CUok m3 h := fun h => CU_fill w4
  refine lv_aload_n hx hb dX1_start_8 rfl (lv_at hl 0 rfl) ?_
  refine g_get cx hP iw_X1_start_X1 0 rfl rfl 0 (by decide) rfl fw_X1_start_11 rfl dX1_start_9 ?_
  refine lv_iload_n hx hb dX1_start_12 rfl (lv_at hl 1 rfl) ?_
  refine g_ir (g_runS (wc := []) (rest := [.ref (qco 1)]) cx hP hD hS [] rfl (by decide) [.int p0] (c_X3_kind l D k b H.size p0 ⟨by first | decide | omega, by first | decide | omega, (show tot p0 ≤ 4 from by first | decide | omega)⟩) gX1_start_X3_kind rfl rfl rfl nd_X3_kind ⟨Nat.le_of_ble_eq_true rfl, Nat.le_of_ble_eq_true rfl⟩ rfl hl.1 rfl (Nat.le_of_ble_eq_true rfl) ⟨Nat.zero_le _, Nat.zero_le _⟩ dX1_start_13) cx.2.2.1 hP hD hS [] rfl rfl (fun r9 H locs hw8 hP hS => ?_)
  have w10 : r9 = J_X3_kind p0 := hw8
  clear hw8
  have zr9 := kind_t w10 ⟨by first | decide | omega, by first | decide | omega, (show tot p0 ≤ 4 from by first | decide | omega)⟩
  have ka : totN r9.toNatClampNeg = tot p0 := kind_all w10 hv
  refine lv_lconst (v := 1) hx hb dX1_start_16 (by decide) ?_
  have hn11 : vp_in r9 35 := f_in (a := r9.toInt) rfl (by omega) (by omega)
  refine va_last hx hb cx.2.1 hP hD hS 1 1 rfl rfl hn11 dX1_start_17 (fun H locs hP hD hS => ?_)
  obtain ⟨g12, eg12⟩ : ∃ g : Nat → Int64, g = vp_updL m3 (r9).toNatClampNeg 1 := ⟨_, rfl⟩
  rw [← eg12] at hP hD
  have hP : va_P D vwCl [cell84_ qco tco, (qco 1, .inl (k 1, 35, .inr (.inl g12))), cell34_ k qco tco] H := hP
  have hD : va_D A [cell84_ qco tco, (qco 1, .inl (k 1, 35, .inr (.inl g12))), cell34_ k qco tco] := hD
  have cu : ∀ H : Int, tot p0 ≤ H → CUok g12 H := fun H hH => CU_st eg12 (cf H) (Or.inr (by omega))
  refine lv_aload_n hx hb dX1_start_18 rfl (lv_at hl 0 rfl) ?_
  refine lv_lconst (v := 1) hx hb dX1_start_19 (by decide) ?_
  refine g_pt cx hP hD hS iw_X1_start_X1 tyX1 tyX1_ok nmX1 0 rfl rfl 2 (by decide) rfl fw_X1_start_30 (ty := .long) rfl rfl rfl (Nat.le_of_ble_eq_true rfl) dX1_start_20 (fun H locs hP hD hS => ?_)
  have hP : va_P D vwCl [cell203_ qco tco 1, (qco 1, .inl (k 1, 35, .inr (.inl g12))), cell34_ k qco tco] H := hP
  have hD : va_D A [cell203_ qco tco 1, (qco 1, .inl (k 1, 35, .inr (.inl g12))), cell34_ k qco tco] := hD
  refine lv_aload_n hx hb dX1_start_23 rfl (lv_at hl 0 rfl) ?_
  refine lv_lconst (v := 0) hx hb dX1_start_24 (by decide) ?_
  refine g_pt cx hP hD hS iw_X1_start_X1 tyX1 tyX1_ok nmX1 0 rfl rfl 3 (by decide) rfl fw_X1_start_34 (ty := .long) rfl rfl rfl (Nat.le_of_ble_eq_true rfl) dX1_start_25 (fun H locs hP hD hS => ?_)
  have hP : va_P D vwCl [cell194_ qco tco 1 0, (qco 1, .inl (k 1, 35, .inr (.inl g12))), cell34_ k qco tco] H := hP
  have hD : va_D A [cell194_ qco tco 1 0, (qco 1, .inl (k 1, 35, .inr (.inl g12))), cell34_ k qco tco] := hD
  rw [hQ]
  exact x_v cx hr (g12, 1, 0) hP hD hS (show ∀ H : Int, tot p0 ≤ H → CUok g12 H from cu) dX1_start_28
theorem mw_X1_passWeekWith_maxL64 : Cond.methodLink RX1 64 Lib.Math.max.name ∈ wsX1_passWeekWith := by decide +kernel
theorem mw_X1_passWeekWith_maxS : Cond.static Lib.Math.max.name ∈ wsX1_passWeekWith := by decide +kernel
theorem mw_X1_passWeekWith_maxI : Cond.initialized "java/lang/Math" ∈ wsX1_passWeekWith := by decide +kernel
theorem mw_X1_passWeekWith_maxC : Cond.code Lib.Math.max.name Lib.Math.max.code 2 (some .int) ∈ wsX1_passWeekWith := by decide +kernel
theorem fw_X1_passWeekWith_17 : Cond.fieldLink RX1 17 "StillInAugust$Course" "during" "[J" ∈ wsX1_passWeekWith := by decide +kernel
theorem fw_X1_passWeekWith_34 : Cond.fieldLink RX1 34 "StillInAugust$Course" "costs" "J" ∈ wsX1_passWeekWith := by decide +kernel
theorem fw_X1_passWeekWith_37 : Cond.fieldLink RX1 37 "StillInAugust$Course" "shortShare" "J" ∈ wsX1_passWeekWith := by decide +kernel
theorem fw_X1_passWeekWith_40 : Cond.fieldLink RX1 40 "StillInAugust$Course" "idleSum" "J" ∈ wsX1_passWeekWith := by decide +kernel
theorem nd_X4_weekCost : yX4_weekCost.cls = RX4 ∧ yX4_weekCost.cls ≠ "java/lang/invoke/MethodHandle" ∧ yX4_weekCost.cls ≠ "java/lang/invoke/VarHandle" ∧ (parseMethodDescriptor yX4_weekCost.desc).map (fun d => d.parameters.length) = some 4 := by decide +kernel
theorem iw_X1_passWeekWith_X1 : ∀ w ∈ u_ws RX1 TX1 6, w ∈ wsX1_passWeekWith := fun _ h => List.mem_cons_of_mem _ (List.mem_append_left _ (List.mem_append_right _ h))
set_option maxHeartbeats 4000000 in
set_option maxRecDepth 100000 in
theorem c_X1_passWeekWith (l : Launch) (D : va_G) (k : Nat → ClassId) (b : Nat → Nat) (qco : Nat → Nat) (sco : Nat → Nat → Int32) (tco : Nat → Nat → Int64) (qh : Nat → Nat) (sh : Nat → Nat → Int32) (sz : Nat) (p0 : Int32) (p1 : Int32) (p2 : Int32) (p3 : Int64) (hv : 0 ≤ p1.toInt ∧ p1.toInt ≤ 400 ∧ tot p1 ≤ 4) (ht : tot p1 ≤ (sh 0 1).toInt) (h_cu : CUok (tco 2) (sh 0 1).toInt) (hp0 : 0 ≤ p0.toInt ∧ p0.toInt ≤ 4) : MetV l D k b yX1_passWeekWith wsX1_passWeekWith ({ frames := 2, cells := 0, slots := 0, locals := 51 } : Room) [cell84_ qco tco, cell35_ k qco tco, cell34_ k qco tco, cell32_ qh sh, cell0_ k qh sh, cell1_ k qh sh, cell4_ k qh sh, cell3_ k qh sh, cell2_ k qh sh] sz [.ref (qco 0), .ref (qh 0), .int p0, .int p1, .int p2, .long p3] (fun (u : (Nat → Int64) × Int64 × Int64 × Int64) => CUok (u.1) (sh 0 1).toInt) (fun u => [cell137_ qco tco (u.2.1) (u.2.2.1) (u.2.2.2), cell35_ k qco tco, cell99_ k qco (u.1), cell32_ qh sh, cell0_ k qh sh, cell1_ k qh sh, cell4_ k qh sh, cell3_ k qh sh, cell2_ k qh sh]) := by
  refine g_enter (cc := cX1_passWeekWith) (maxL := 8) (ret := none) (by decide) rfl (Nat.le_of_ble_eq_true rfl) ?_
  intro p e s m below meth c A hsz hAe cx hr hP hD hS ls hl
  rw [hAe]
  refine g_q (fun Q hQ => ?_)
  have hx := cx.1.1
  have hb := cx.1.2.1
  have bp0 := i_rng p0
  have bp1 := i_rng p1
  have bp2 := i_rng p2
  have hl : lv_has ls 8 [(0, .ref (qco 0)), (1, .ref (qh 0)), (2, .int p0), (3, .int p1), (4, .int p2), (5, .long p3)] := hl
  obtain ⟨H, eH⟩ : ∃ H : Heap, H = s.heap := ⟨_, rfl⟩
  obtain ⟨locs, el⟩ : ∃ L : List Loc, L = [] := ⟨_, rfl⟩
  have hP : va_P D vwCl [cell84_ qco tco, cell35_ k qco tco, cell34_ k qco tco, cell32_ qh sh, cell0_ k qh sh, cell1_ k qh sh, cell4_ k qh sh, cell3_ k qh sh, cell2_ k qh sh] H := by rw [eH]; exact hP
  have hD : va_D A [cell84_ qco tco, cell35_ k qco tco, cell34_ k qco tco, cell32_ qh sh, cell0_ k qh sh, cell1_ k qh sh, cell4_ k qh sh, cell3_ k qh sh, cell2_ k qh sh] := hD
  have hS : va_S A s.heap H locs := by rw [eH, el]; exact hS
  suffices goal : W p l e ({ frames := 2, cells := 0, slots := 0, locals := 51 } : Room) s m ([.ref (qco 0), .ref (qh 0), .int p0, .int p1, .int p2, .long p3] : List Value).toArray below meth c H locs 0 0 Q (F0 m 0 ls []) by rw [eH, el] at goal; exact goal
  refine lv_aload_n hx hb dX1_passWeekWith_0 rfl (lv_at hl 1 rfl) ?_
  refine lv_iload_n hx hb dX1_passWeekWith_1 rfl (lv_at hl 2 rfl) ?_
  refine lv_iload_n hx hb dX1_passWeekWith_2 rfl (lv_at hl 3 rfl) ?_
  refine lv_iload hx hb dX1_passWeekWith_3 (lv_at hl 4 rfl) ?_
  refine lv_iconst (v := 0) hx hb dX1_passWeekWith_5 (by decide) ?_
  have hlit1 : (0 : Int32).toInt = 0 := by decide
  refine g_ir (g_runV (wc := [cell32_ qh sh, cell0_ k qh sh, cell1_ k qh sh, cell4_ k qh sh, cell3_ k qh sh, cell2_ k qh sh]) (rest := []) cx hP hD hS [3, 4, 5, 6, 7, 8] rfl (by decide) [.int p0, .int p1, .int p2, .int 0] (c_X4_lack l D k b qh sh H.size p0 p1 p2 0 (show 0 ≤ p0.toInt ∧ p0.toInt ≤ 4 from by first | decide | omega)) gX1_passWeekWith_X4_lack rfl rfl rfl nd_X4_lack ⟨Nat.le_of_ble_eq_true rfl, Nat.le_of_ble_eq_true rfl⟩ (ci := 2) (q0 := 0) rfl rfl rfl hl.1 rfl (Nat.le_of_ble_eq_true rfl) ⟨Nat.zero_le _, Nat.zero_le _⟩ dX1_passWeekWith_6) cx.2.2.1 hP hD hS [3, 4, 5, 6, 7, 8] rfl rfl (fun r3 H locs hw2 hP hS => ?_)
  have w4 : r3 = J_X4_lack sh p0 p1 p2 (0 : Int32) := hw2
  clear hw2
  have k6 : r3 = (J_X4_lack sh p0 p1 p2 (0 : Int32)) := congrArg (fun z => z) w4
  refine lv_istore (lv' := [(7, .int r3), (0, .ref (qco 0)), (1, .ref (qh 0)), (2, .int p0), (3, .int p1), (4, .int p2), (5, .long p3)]) hx hb dX1_passWeekWith_9 hl (by decide) rfl (fun ls hl => ?_)
  refine lv_aload_n hx hb dX1_passWeekWith_11 rfl (lv_at hl 1 rfl) ?_
  refine lv_dup hx hb dX1_passWeekWith_12 rfl ?_
  refine g_get cx hP iw_X1_passWeekWith_X1 0 rfl rfl 3 (by decide) rfl fw_X1_passWeekWith_34 rfl dX1_passWeekWith_13 ?_
  refine lv_lload hx hb dX1_passWeekWith_16 (lv_at hl 6 rfl) ?_
  refine lv_aload_n hx hb dX1_passWeekWith_18 rfl (lv_at hl 2 rfl) ?_
  refine lv_iload_n hx hb dX1_passWeekWith_19 rfl (lv_at hl 3 rfl) ?_
  refine lv_iload_n hx hb dX1_passWeekWith_20 rfl (lv_at hl 4 rfl) ?_
  refine lv_iload hx hb dX1_passWeekWith_21 (lv_at hl 5 rfl) ?_
  refine lv_iconst (v := 0) hx hb dX1_passWeekWith_23 (by decide) ?_
  have hlit7 : (0 : Int32).toInt = 0 := by decide
  refine g_ir (g_runV (wc := [cell32_ qh sh, cell0_ k qh sh, cell1_ k qh sh, cell4_ k qh sh, cell3_ k qh sh, cell2_ k qh sh]) (rest := [.long p3, .long (tco 0 3), .ref (qco 0)]) cx hP hD hS [3, 4, 5, 6, 7, 8] rfl (by decide) [.int p0, .int p1, .int p2, .int 0] (c_X4_weekCost l D k b qh sh H.size p0 p1 p2 0 (show 0 ≤ p0.toInt ∧ p0.toInt ≤ 4 from by first | decide | omega)) gX1_passWeekWith_X4_weekCost rfl rfl rfl nd_X4_weekCost ⟨Nat.le_of_ble_eq_true rfl, Nat.le_of_ble_eq_true rfl⟩ (ci := 2) (q0 := 0) rfl rfl rfl hl.1 rfl (Nat.le_of_ble_eq_true rfl) ⟨Nat.zero_le _, Nat.zero_le _⟩ dX1_passWeekWith_24) cx.2.2.1 hP hD hS [3, 4, 5, 6, 7, 8] rfl rfl (fun r9 H locs hw8 hP hS => ?_)
  have w10 : r9 = J_X4_weekCost sh p0 p1 p2 (0 : Int32) := hw8
  clear hw8
  have k12 : r9 = (J_X4_weekCost sh p0 p1 p2 (0 : Int32)) := congrArg (fun z => z) w10
  obtain ⟨v13, e13⟩ : ∃ z : Int64, z = (r9 : Int32).toInt64 := ⟨_, rfl⟩
  refine lv_i2l (v := v13) hx hb dX1_passWeekWith_27 e13.symm ?_
  refine lv_lmul hx hb dX1_passWeekWith_28 (lv_topl (fun v14 e14 => ?_))
  refine lv_ladd hx hb dX1_passWeekWith_29 (lv_topl (fun v15 e15 => ?_))
  refine g_pt cx hP hD hS iw_X1_passWeekWith_X1 tyX1 tyX1_ok nmX1 0 rfl rfl 3 (by decide) rfl fw_X1_passWeekWith_34 (ty := .long) rfl rfl rfl (Nat.le_of_ble_eq_true rfl) dX1_passWeekWith_30 (fun H locs hP hD hS => ?_)
  have hP : va_P D vwCl [cell153_ qco tco v15, cell35_ k qco tco, cell34_ k qco tco, cell32_ qh sh, cell0_ k qh sh, cell1_ k qh sh, cell4_ k qh sh, cell3_ k qh sh, cell2_ k qh sh] H := hP
  have hD : va_D A [cell153_ qco tco v15, cell35_ k qco tco, cell34_ k qco tco, cell32_ qh sh, cell0_ k qh sh, cell1_ k qh sh, cell4_ k qh sh, cell3_ k qh sh, cell2_ k qh sh] := hD
  refine lv_aload_n hx hb dX1_passWeekWith_33 rfl (lv_at hl 1 rfl) ?_
  refine lv_dup hx hb dX1_passWeekWith_34 rfl ?_
  refine g_get cx hP iw_X1_passWeekWith_X1 0 rfl rfl 4 (by decide) rfl fw_X1_passWeekWith_37 rfl dX1_passWeekWith_35 ?_
  refine lv_iload hx hb dX1_passWeekWith_38 (lv_at hl 0 rfl) ?_
  have hJ49 : ∀ (v16 : Int64) (H : Heap) (locs : List Loc) (ls : Array Slot), va_P D vwCl [cell153_ qco tco v15, cell35_ k qco tco, cell34_ k qco tco, cell32_ qh sh, cell0_ k qh sh, cell1_ k qh sh, cell4_ k qh sh, cell3_ k qh sh, cell2_ k qh sh] H → va_D A [cell153_ qco tco v15, cell35_ k qco tco, cell34_ k qco tco, cell32_ qh sh, cell0_ k qh sh, cell1_ k qh sh, cell4_ k qh sh, cell3_ k qh sh, cell2_ k qh sh] → va_S A s.heap H locs → lv_has ls 8 [(7, .int r3), (0, .ref (qco 0)), (3, .int p1), (5, .long p3)] → W p l e ({ frames := 2, cells := 0, slots := 0, locals := 51 } : Room) s m ([.ref (qco 0), .ref (qh 0), .int p0, .int p1, .int p2, .long p3] : List Value).toArray below meth c H locs 0 0 Q (F0 m 49 ls [.long v16, .long (tco 0 4), .ref (qco 0)]) := by
    intro v16 H locs ls  hP hD hS hl
    refine lv_ladd hx hb dX1_passWeekWith_49 (lv_topl (fun v17 e17 => ?_))
    refine g_pt cx hP hD hS iw_X1_passWeekWith_X1 tyX1 tyX1_ok nmX1 0 rfl rfl 4 (by decide) rfl fw_X1_passWeekWith_37 (ty := .long) rfl rfl rfl (Nat.le_of_ble_eq_true rfl) dX1_passWeekWith_50 (fun H locs hP hD hS => ?_)
    have hP : va_P D vwCl [(qco 0, .inr (0, [.ref (qco 1), .ref (qco 2), .long (tco 0 2), .long v15, .long v17, .long (tco 0 5)])), cell35_ k qco tco, cell34_ k qco tco, cell32_ qh sh, cell0_ k qh sh, cell1_ k qh sh, cell4_ k qh sh, cell3_ k qh sh, cell2_ k qh sh] H := hP
    have hD : va_D A [(qco 0, .inr (0, [.ref (qco 1), .ref (qco 2), .long (tco 0 2), .long v15, .long v17, .long (tco 0 5)])), cell35_ k qco tco, cell34_ k qco tco, cell32_ qh sh, cell0_ k qh sh, cell1_ k qh sh, cell4_ k qh sh, cell3_ k qh sh, cell2_ k qh sh] := hD
    refine lv_aload_n hx hb dX1_passWeekWith_53 rfl (lv_at hl 1 rfl) ?_
    refine lv_dup hx hb dX1_passWeekWith_54 rfl ?_
    refine g_get cx hP iw_X1_passWeekWith_X1 0 rfl rfl 5 (by decide) rfl fw_X1_passWeekWith_40 rfl dX1_passWeekWith_55 ?_
    refine lv_lload hx hb dX1_passWeekWith_58 (lv_at hl 3 rfl) ?_
    refine lv_iconst (v := 0) hx hb dX1_passWeekWith_60 (by decide) ?_
    refine lv_iload hx hb dX1_passWeekWith_61 (lv_at hl 0 rfl) ?_
    refine lv_ineg hx hb dX1_passWeekWith_63 (lv_topi (fun v18 e18 => ?_))
    refine va_mmax hx hb (cx.1.2.2.1.trans hl.1.symm) cx.1.2.2.2.1 (cx.1.2.2.2.2 _ mw_X1_passWeekWith_maxL64) (cx.1.2.2.2.2 _ mw_X1_passWeekWith_maxS) (cx.1.2.2.2.2 _ mw_X1_passWeekWith_maxI) (cx.1.2.2.2.2 _ mw_X1_passWeekWith_maxC) (Nat.le_of_ble_eq_true rfl) (Nat.le_of_ble_eq_true rfl) (Nat.zero_le _) (Nat.zero_le _) dX1_passWeekWith_64 (lv_topi (fun v19 e19 => ?_))
    have t19 := i_max (by decide) rfl (a := 0) (b := v18.toInt) e19
    obtain ⟨v20, e20⟩ : ∃ z : Int64, z = (v19 : Int32).toInt64 := ⟨_, rfl⟩
    refine lv_i2l (v := v20) hx hb dX1_passWeekWith_67 e20.symm ?_
    refine lv_lmul hx hb dX1_passWeekWith_68 (lv_topl (fun v21 e21 => ?_))
    refine lv_ladd hx hb dX1_passWeekWith_69 (lv_topl (fun v22 e22 => ?_))
    refine g_pt cx hP hD hS iw_X1_passWeekWith_X1 tyX1 tyX1_ok nmX1 0 rfl rfl 5 (by decide) rfl fw_X1_passWeekWith_40 (ty := .long) rfl rfl rfl (Nat.le_of_ble_eq_true rfl) dX1_passWeekWith_70 (fun H locs hP hD hS => ?_)
    have hP : va_P D vwCl [cell137_ qco tco v15 v17 v22, cell35_ k qco tco, cell34_ k qco tco, cell32_ qh sh, cell0_ k qh sh, cell1_ k qh sh, cell4_ k qh sh, cell3_ k qh sh, cell2_ k qh sh] H := hP
    have hD : va_D A [cell137_ qco tco v15 v17 v22, cell35_ k qco tco, cell34_ k qco tco, cell32_ qh sh, cell0_ k qh sh, cell1_ k qh sh, cell4_ k qh sh, cell3_ k qh sh, cell2_ k qh sh] := hD
    refine lv_aload_n hx hb dX1_passWeekWith_73 rfl (lv_at hl 1 rfl) ?_
    refine g_get cx hP iw_X1_passWeekWith_X1 0 rfl rfl 1 (by decide) rfl fw_X1_passWeekWith_17 rfl dX1_passWeekWith_74 ?_
    refine lv_iload_n hx hb dX1_passWeekWith_77 rfl (lv_at hl 2 rfl) ?_
    refine g_ir (g_runS (wc := []) (rest := [.ref (qco 2)]) cx hP hD hS [] rfl (by decide) [.int p1] (c_X3_kind l D k b H.size p1 ⟨by first | decide | omega, by first | decide | omega, (show tot p1 ≤ 4 from by first | decide | omega)⟩) gX1_passWeekWith_X3_kind rfl rfl rfl nd_X3_kind ⟨Nat.le_of_ble_eq_true rfl, Nat.le_of_ble_eq_true rfl⟩ rfl hl.1 rfl (Nat.le_of_ble_eq_true rfl) ⟨Nat.zero_le _, Nat.zero_le _⟩ dX1_passWeekWith_78) cx.2.2.1 hP hD hS [] rfl rfl (fun r24 H locs hw23 hP hS => ?_)
    have w25 : r24 = J_X3_kind p1 := hw23
    clear hw23
    have zr24 := kind_t w25 ⟨by first | decide | omega, by first | decide | omega, (show tot p1 ≤ 4 from by first | decide | omega)⟩
    have ka : totN r24.toNatClampNeg = tot p1 := kind_all w25 hv
    refine lv_dup2_11 hx hb dX1_passWeekWith_81 rfl rfl ?_
    have hn26 : vp_in r24 35 := f_in (a := r24.toInt) rfl (by omega) (by omega)
    refine va_lald hx hb cx.2.1 hP 2 1 rfl rfl hn26 dX1_passWeekWith_82 (lv_topl (fun v27 e27 => ?_))
    refine lv_lload hx hb dX1_passWeekWith_83 (lv_at hl 3 rfl) ?_
    refine lv_ladd hx hb dX1_passWeekWith_85 (lv_topl (fun v28 e28 => ?_))
    have hn29 : vp_in r24 35 := f_in (a := r24.toInt) rfl (by omega) (by omega)
    refine va_last hx hb cx.2.1 hP hD hS 2 1 rfl rfl hn29 dX1_passWeekWith_86 (fun H locs hP hD hS => ?_)
    obtain ⟨g30, eg30⟩ : ∃ g : Nat → Int64, g = vp_updL (tco 2) (r24).toNatClampNeg v28 := ⟨_, rfl⟩
    rw [← eg30] at hP hD
    have hP : va_P D vwCl [cell137_ qco tco v15 v17 v22, cell35_ k qco tco, (qco 2, .inl (k 1, 35, .inr (.inl g30))), cell32_ qh sh, cell0_ k qh sh, cell1_ k qh sh, cell4_ k qh sh, cell3_ k qh sh, cell2_ k qh sh] H := hP
    have hD : va_D A [cell137_ qco tco v15 v17 v22, cell35_ k qco tco, (qco 2, .inl (k 1, 35, .inr (.inl g30))), cell32_ qh sh, cell0_ k qh sh, cell1_ k qh sh, cell4_ k qh sh, cell3_ k qh sh, cell2_ k qh sh] := hD
    have cu := CU_st eg30 h_cu (Or.inr (by omega))
    rw [hQ]
    exact x_v cx hr (g30, v15, v17, v22) hP hD hS (show CUok g30 (sh 0 1).toInt from cu) dX1_passWeekWith_87
  refine lv_if_le (tgt := 48) hx hb dX1_passWeekWith_40 (by decide) (fun c31 => ?_) (fun c31 => ?_)
  · have f31 : r3.toInt ≤ 0 := f_le rfl (by decide) c31
    refine lv_lconst (v := 0) hx hb dX1_passWeekWith_48 (by decide) ?_
    have hlit32 : (0 : Int32).toInt = 0 := by decide
    exact hJ49 0 _ _ _  hP hD hS (lv_sub hl [0, 1, 4, 6] rfl)
  · have f31 : 0 < r3.toInt := f_nle rfl (by decide) c31
    refine lv_lload hx hb dX1_passWeekWith_43 (lv_at hl 6 rfl) ?_
    refine lv_goto (tgt := 49) hx hb dX1_passWeekWith_45 (by decide) ?_
    exact hJ49 p3 _ _ _  hP hD hS (lv_sub hl [0, 1, 4, 6] rfl)
theorem fw_X1_passWeek_11 : Cond.fieldLink RX1 11 "StillInAugust$Course" "ahead" "[J" ∈ wsX1_passWeek := by decide +kernel
theorem fw_X1_passWeek_17 : Cond.fieldLink RX1 17 "StillInAugust$Course" "during" "[J" ∈ wsX1_passWeek := by decide +kernel
theorem fw_X1_passWeek_37 : Cond.fieldLink RX1 37 "StillInAugust$Course" "shortShare" "J" ∈ wsX1_passWeek := by decide +kernel
theorem fw_X1_passWeek_40 : Cond.fieldLink RX1 40 "StillInAugust$Course" "idleSum" "J" ∈ wsX1_passWeek := by decide +kernel
theorem fw_X1_passWeek_43 : Cond.fieldLink RX1 43 "StillInAugust$Hands" "ALL" "[I" ∈ wsX1_passWeek := by decide +kernel
theorem nd_X1_passWeekWith : yX1_passWeekWith.cls = RX1 ∧ yX1_passWeekWith.cls ≠ "java/lang/invoke/MethodHandle" ∧ yX1_passWeekWith.cls ≠ "java/lang/invoke/VarHandle" ∧ (parseMethodDescriptor yX1_passWeekWith.desc).map (fun d => d.parameters.length) = some 5 := by decide +kernel
theorem nd_X4_takenByLevel : yX4_takenByLevel.cls = RX4 ∧ yX4_takenByLevel.cls ≠ "java/lang/invoke/MethodHandle" ∧ yX4_takenByLevel.cls ≠ "java/lang/invoke/VarHandle" ∧ (parseMethodDescriptor yX4_takenByLevel.desc).map (fun d => d.parameters.length) = some 3 := by decide +kernel
theorem iw_X1_passWeek_X1 : ∀ w ∈ u_ws RX1 TX1 6, w ∈ wsX1_passWeek := fun _ h => List.mem_cons_of_mem _ (List.mem_append_left _ (List.mem_append_right _ h))
set_option maxHeartbeats 4000000 in
set_option maxRecDepth 100000 in
theorem c_X1_passWeek (l : Launch) (D : va_G) (k : Nat → ClassId) (b : Nat → Nat) (qco : Nat → Nat) (sco : Nat → Nat → Int32) (tco : Nat → Nat → Int64) (qh : Nat → Nat) (sh : Nat → Nat → Int32) (sz : Nat) (p0 : Int32) (p1 : Int32) (p2 : Int32) (h_hk : 0 ≤ (sh 0 1).toInt ∧ (sh 0 1).toInt ≤ 4) (h_of : ∀ j, 0 ≤ (sh 2 j).toInt ∧ (sh 2 j).toInt ≤ 4) (h_cu : CUok (tco 1) (sh 0 1).toInt) (hp0 : 0 ≤ p0.toInt ∧ p0.toInt ≤ 4) : MetV l D k b yX1_passWeek wsX1_passWeek ({ frames := 3, cells := 0, slots := 0, locals := 78 } : Room) [cell84_ qco tco, cell35_ k qco tco, cell34_ k qco tco, cell32_ qh sh, cell0_ k qh sh, cell1_ k qh sh, cell4_ k qh sh, cell3_ k qh sh, cell2_ k qh sh] sz [.ref (qco 0), .ref (qh 0), .int p0, .int p1, .int p2] (fun (u : (Nat → Int64) × Int64 × Int64 × Int64) => CUok (u.1) (sh 0 1).toInt) (fun u => [cell137_ qco tco (u.2.1) (u.2.2.1) (u.2.2.2), cell35_ k qco tco, cell99_ k qco (u.1), cell32_ qh sh, cell0_ k qh sh, cell1_ k qh sh, cell4_ k qh sh, cell3_ k qh sh, cell2_ k qh sh]) := by
  refine g_enter (cc := cX1_passWeek) (maxL := 8) (ret := none) (by decide) rfl (Nat.le_of_ble_eq_true rfl) ?_
  intro p e s m below meth c A hsz hAe cx hr hP hD hS ls hl
  rw [hAe]
  refine g_q (fun Q hQ => ?_)
  have hx := cx.1.1
  have hb := cx.1.2.1
  have bp0 := i_rng p0
  have bp1 := i_rng p1
  have bp2 := i_rng p2
  have hl : lv_has ls 8 [(0, .ref (qco 0)), (1, .ref (qh 0)), (2, .int p0), (3, .int p1), (4, .int p2)] := hl
  obtain ⟨H, eH⟩ : ∃ H : Heap, H = s.heap := ⟨_, rfl⟩
  obtain ⟨locs, el⟩ : ∃ L : List Loc, L = [] := ⟨_, rfl⟩
  have hP : va_P D vwCl [cell84_ qco tco, cell35_ k qco tco, cell34_ k qco tco, cell32_ qh sh, cell0_ k qh sh, cell1_ k qh sh, cell4_ k qh sh, cell3_ k qh sh, cell2_ k qh sh] H := by rw [eH]; exact hP
  have hD : va_D A [cell84_ qco tco, cell35_ k qco tco, cell34_ k qco tco, cell32_ qh sh, cell0_ k qh sh, cell1_ k qh sh, cell4_ k qh sh, cell3_ k qh sh, cell2_ k qh sh] := hD
  have hS : va_S A s.heap H locs := by rw [eH, el]; exact hS
  suffices goal : W p l e ({ frames := 3, cells := 0, slots := 0, locals := 78 } : Room) s m ([.ref (qco 0), .ref (qh 0), .int p0, .int p1, .int p2] : List Value).toArray below meth c H locs 0 0 Q (F0 m 0 ls []) by rw [eH, el] at goal; exact goal
  refine lv_aload_n hx hb dX1_passWeek_0 rfl (lv_at hl 0 rfl) ?_
  refine g_get cx hP iw_X1_passWeek_X1 0 rfl rfl 1 (by decide) rfl fw_X1_passWeek_17 rfl dX1_passWeek_1 ?_
  refine lv_lconst (v := 0) hx hb dX1_passWeek_4 (by decide) ?_
  refine g_v (w1 := fun (u : (Nat → Int64)) => [(qco 2, .inl (k 1, 35, .inr (.inl u)))]) (g_runS (wc := [cell34_ k qco tco]) (rest := []) cx hP hD hS [2] rfl (by decide) [.ref (qco 2), .long 0] (c_J7_fill_d0a16_35 l D k b (fun _ => qco 2) (fun _ _ => 0) (fun _ => (tco 2)) H.size 0) gX1_passWeek_J7_fill_d0a16 rfl rfl rfl nd_J7_fill_d0a16 ⟨Nat.le_of_ble_eq_true rfl, Nat.le_of_ble_eq_true rfl⟩ rfl hl.1 rfl (Nat.le_of_ble_eq_true rfl) ⟨Nat.zero_le _, Nat.zero_le _⟩ dX1_passWeek_5) cx.2.2.1 hP hD hS [2] rfl (fun _ => rfl) (fun u2 H locs hw1 hP hD hS => ?_)
  obtain ⟨m3, rfl⟩ : ∃ z, z = u2 := ⟨_, rfl⟩
  have hP : va_P D vwCl [cell84_ qco tco, cell35_ k qco tco, (qco 2, .inl (k 1, 35, .inr (.inl m3))), cell32_ qh sh, cell0_ k qh sh, cell1_ k qh sh, cell4_ k qh sh, cell3_ k qh sh, cell2_ k qh sh] H := hP
  have hD : va_D A [cell84_ qco tco, cell35_ k qco tco, (qco 2, .inl (k 1, 35, .inr (.inl m3))), cell32_ qh sh, cell0_ k qh sh, cell1_ k qh sh, cell4_ k qh sh, cell3_ k qh sh, cell2_ k qh sh] := hD
  replace hw1 : (m3 = fillJ 35 (0 : Int64) (tco 2)) ∧ (m3 = J_J7_fill_d0a16_35 (fun _ _ => 0) (fun _ => (tco 2)) (0 : Int64)) := hw1
  obtain ⟨w4, w5⟩ := hw1
  have k7 : m3 = (J_J7_fill_d0a16_35 (fun _ _ => 0) (fun _ => (tco 2)) (0 : Int64)) := congrArg (fun z => z) w5
  have cu : CUok m3 (sh 0 1).toInt := CU_fill w4
  refine lv_aload_n hx hb dX1_passWeek_8 rfl (lv_at hl 0 rfl) ?_
  refine lv_lconst (v := 0) hx hb dX1_passWeek_9 (by decide) ?_
  refine g_pt cx hP hD hS iw_X1_passWeek_X1 tyX1 tyX1_ok nmX1 0 rfl rfl 4 (by decide) rfl fw_X1_passWeek_37 (ty := .long) rfl rfl rfl (Nat.le_of_ble_eq_true rfl) dX1_passWeek_10 (fun H locs hP hD hS => ?_)
  have hP : va_P D vwCl [(qco 0, .inr (0, [.ref (qco 1), .ref (qco 2), .long (tco 0 2), .long (tco 0 3), .long 0, .long (tco 0 5)])), cell35_ k qco tco, (qco 2, .inl (k 1, 35, .inr (.inl m3))), cell32_ qh sh, cell0_ k qh sh, cell1_ k qh sh, cell4_ k qh sh, cell3_ k qh sh, cell2_ k qh sh] H := hP
  have hD : va_D A [(qco 0, .inr (0, [.ref (qco 1), .ref (qco 2), .long (tco 0 2), .long (tco 0 3), .long 0, .long (tco 0 5)])), cell35_ k qco tco, (qco 2, .inl (k 1, 35, .inr (.inl m3))), cell32_ qh sh, cell0_ k qh sh, cell1_ k qh sh, cell4_ k qh sh, cell3_ k qh sh, cell2_ k qh sh] := hD
  refine lv_aload_n hx hb dX1_passWeek_13 rfl (lv_at hl 0 rfl) ?_
  refine lv_lconst (v := 0) hx hb dX1_passWeek_14 (by decide) ?_
  refine g_pt cx hP hD hS iw_X1_passWeek_X1 tyX1 tyX1_ok nmX1 0 rfl rfl 5 (by decide) rfl fw_X1_passWeek_40 (ty := .long) rfl rfl rfl (Nat.le_of_ble_eq_true rfl) dX1_passWeek_15 (fun H locs hP hD hS => ?_)
  have hP : va_P D vwCl [(qco 0, .inr (0, [.ref (qco 1), .ref (qco 2), .long (tco 0 2), .long (tco 0 3), .long 0, .long 0])), cell35_ k qco tco, (qco 2, .inl (k 1, 35, .inr (.inl m3))), cell32_ qh sh, cell0_ k qh sh, cell1_ k qh sh, cell4_ k qh sh, cell3_ k qh sh, cell2_ k qh sh] H := hP
  have hD : va_D A [(qco 0, .inr (0, [.ref (qco 1), .ref (qco 2), .long (tco 0 2), .long (tco 0 3), .long 0, .long 0])), cell35_ k qco tco, (qco 2, .inl (k 1, 35, .inr (.inl m3))), cell32_ qh sh, cell0_ k qh sh, cell1_ k qh sh, cell4_ k qh sh, cell3_ k qh sh, cell2_ k qh sh] := hD
  refine lv_iconst (v := 0) hx hb dX1_passWeek_18 (by decide) ?_
  refine lv_istore (lv' := [(5, .int 0), (0, .ref (qco 0)), (1, .ref (qh 0)), (2, .int p0), (3, .int p1), (4, .int p2)]) hx hb dX1_passWeek_19 hl (by decide) rfl (fun ls hl => ?_)
  have hL21 : ∀ (n36 : Nat) (v31 : Int32) (x32 : Int64) (x33 : Int64) (x34 : Int64) (g35 : Nat → Int64) (H : Heap) (locs : List Loc) (ls : Array Slot), 35 - v31.toInt < (n36 : Int) → (0 ≤ v31.toInt ∧ v31.toInt ≤ 35) → (CUok g35 (sh 0 1).toInt) → va_P D vwCl [cell137_ qco tco x32 x33 x34, cell35_ k qco tco, (qco 2, .inl (k 1, 35, .inr (.inl g35))), cell32_ qh sh, cell0_ k qh sh, cell1_ k qh sh, cell4_ k qh sh, cell3_ k qh sh, cell2_ k qh sh] H → va_D A [cell137_ qco tco x32 x33 x34, cell35_ k qco tco, (qco 2, .inl (k 1, 35, .inr (.inl g35))), cell32_ qh sh, cell0_ k qh sh, cell1_ k qh sh, cell4_ k qh sh, cell3_ k qh sh, cell2_ k qh sh] → va_S A s.heap H locs → lv_has ls 8 [(5, .int v31), (0, .ref (qco 0)), (1, .ref (qh 0)), (2, .int p0), (3, .int p1), (4, .int p2)] → W p l e ({ frames := 3, cells := 0, slots := 0, locals := 78 } : Room) s m ([.ref (qco 0), .ref (qh 0), .int p0, .int p1, .int p2] : List Value).toArray below meth c H locs 0 0 Q (F0 m 21 ls []) := by
    intro n36
    induction n36 with
    | zero => intro v31 x32 x33 x34 g35 H locs ls hmn36 bv31 cu hP hD hS hl; exact absurd hmn36 (by omega)
    | succ n36 ih21 =>
      intro v31 x32 x33 x34 g35 H locs ls hmn36 bv31 cu hP hD hS hl
      refine lv_iload hx hb dX1_passWeek_21 (lv_at hl 0 rfl) ?_
      refine lv_bipush (v := 35) hx hb dX1_passWeek_23 (by decide) ?_
      refine lv_icmp_ge (tgt := 87) hx hb dX1_passWeek_25 (by decide) (fun c37 => ?_) (fun c37 => ?_)
      · have f37 : 35 ≤ v31.toInt := f_le (by decide) rfl c37
        rw [hQ]
        exact x_v cx hr (g35, x32, x33, x34) hP hD hS (show CUok g35 (sh 0 1).toInt from cu) dX1_passWeek_87
      · have f37 : v31.toInt < 35 := f_nle (by decide) rfl c37
        refine lv_aload_n hx hb dX1_passWeek_28 rfl (lv_at hl 1 rfl) ?_
        refine g_get cx hP iw_X1_passWeek_X1 0 rfl rfl 0 (by decide) rfl fw_X1_passWeek_11 rfl dX1_passWeek_29 ?_
        refine lv_iload hx hb dX1_passWeek_32 (lv_at hl 0 rfl) ?_
        have hn38 : vp_in v31 35 := f_in (a := v31.toInt) rfl (by omega) (by omega)
        refine va_lald hx hb cx.2.1 hP 1 1 rfl rfl hn38 dX1_passWeek_34 (lv_topl (fun v39 e39 => ?_))
        refine lv_lconst (v := 0) hx hb dX1_passWeek_35 (by decide) ?_
        refine W.lcmp hx hb dX1_passWeek_36 (lv_topi (fun v40 e40 => ?_))
        have hJ81 : ∀ (x60 : Int64) (x61 : Int64) (x62 : Int64) (g63 : Nat → Int64) (H : Heap) (locs : List Loc) (ls : Array Slot), (CUok g63 (sh 0 1).toInt) → va_P D vwCl [cell137_ qco tco x60 x61 x62, cell35_ k qco tco, (qco 2, .inl (k 1, 35, .inr (.inl g63))), cell32_ qh sh, cell0_ k qh sh, cell1_ k qh sh, cell4_ k qh sh, cell3_ k qh sh, cell2_ k qh sh] H → va_D A [cell137_ qco tco x60 x61 x62, cell35_ k qco tco, (qco 2, .inl (k 1, 35, .inr (.inl g63))), cell32_ qh sh, cell0_ k qh sh, cell1_ k qh sh, cell4_ k qh sh, cell3_ k qh sh, cell2_ k qh sh] → va_S A s.heap H locs → lv_has ls 8 [(5, .int v31), (0, .ref (qco 0)), (1, .ref (qh 0)), (2, .int p0), (3, .int p1), (4, .int p2)] → W p l e ({ frames := 3, cells := 0, slots := 0, locals := 78 } : Room) s m ([.ref (qco 0), .ref (qh 0), .int p0, .int p1, .int p2] : List Value).toArray below meth c H locs 0 0 Q (F0 m 81 ls []) := by
          intro x60 x61 x62 g63 H locs ls cu hP hD hS hl
          obtain ⟨v64, e64⟩ : ∃ z : Int32, z = v31 + 1 := ⟨_, rfl⟩
          refine lv_iinc (v := v64) (lv' := [(5, .int v64), (0, .ref (qco 0)), (1, .ref (qh 0)), (2, .int p0), (3, .int p1), (4, .int p2)]) hx hb dX1_passWeek_81 hl (k := 0) rfl (by rw [e64]; rfl) (by decide) rfl (fun ls hl => ?_)
          have t64 : v64.toInt = v31.toInt + 1 := by rw [e64]; exact i_add rfl (by decide) (by omega) (by omega)
          refine lv_goto (tgt := 21) hx hb dX1_passWeek_84 (by decide) ?_
          exact ih21 v64 x60 x61 x62 g63 _ _ _ (by omega) (by first | decide | omega) (by assumption) hP hD hS (lv_sub hl [0, 1, 2, 3, 4, 5] rfl)
        refine lv_if_eq (tgt := 81) hx hb dX1_passWeek_37 (by decide) (fun c65 => ?_) (fun c65 => ?_)
        · have f65 : v40.toInt = 0 := f_eq rfl (by decide) c65
          exact hJ81 x32 x33 x34 g35 _ _ _ (by assumption) hP hD hS (lv_sub hl [0, 1, 2, 3, 4, 5] rfl)
        · have f65 : ¬ v40.toInt = 0 := f_ne rfl (by decide) c65
          have nz := lcnz0 e40 c65
          have tc := (CU_get e39 h_cu ⟨by omega, by omega⟩).resolve_left nz
          refine va_gets hx hb cx.2.2.2.t0.1 hS cx.1.2.2.2.1 (cx.1.2.2.2.2 _ fw_X1_passWeek_43) (fun _ h => h) dX1_passWeek_40 ?_
          refine lv_iload hx hb dX1_passWeek_43 (lv_at hl 0 rfl) ?_
          have hn66 : vp_in v31 35 := f_in (a := v31.toInt) rfl (by omega) (by omega)
          refine va_ti hx hb cx.2.2.2.t0.2 hS hn66 rfl dX1_passWeek_45 (lv_topi (fun v67 e67 => ?_))
          have t67 : 0 ≤ v67.toInt ∧ v67.toInt ≤ 400 ∧ tot v67 ≤ 4 := by rw [e67]; exact zALL_v _
          have tk : totN v31.toNatClampNeg = tot v67 := totN_of e67
          refine lv_istore (lv' := [(6, .int v67), (5, .int v31), (0, .ref (qco 0)), (1, .ref (qh 0)), (2, .int p0), (3, .int p1), (4, .int p2)]) hx hb dX1_passWeek_46 hl (by decide) rfl (fun ls hl => ?_)
          refine lv_bipush (v := 100) hx hb dX1_passWeek_48 (by decide) ?_
          refine lv_aload_n hx hb dX1_passWeek_50 rfl (lv_at hl 3 rfl) ?_
          refine lv_iload_n hx hb dX1_passWeek_51 rfl (lv_at hl 4 rfl) ?_
          refine lv_iload hx hb dX1_passWeek_52 (lv_at hl 0 rfl) ?_
          refine lv_iload_n hx hb dX1_passWeek_54 rfl (lv_at hl 5 rfl) ?_
          refine g_ir (g_runV (wc := [cell32_ qh sh, cell0_ k qh sh, cell1_ k qh sh, cell4_ k qh sh, cell3_ k qh sh, cell2_ k qh sh]) (rest := [.int 100]) cx hP hD hS [3, 4, 5, 6, 7, 8] rfl (by decide) [.int p0, .int v67, .int p1] (c_X4_takenByLevel l D k b qh sh H.size p0 v67 p1 (show 0 ≤ (sh 0 1).toInt ∧ (sh 0 1).toInt ≤ 4 from by first | decide | omega) h_of (show 0 ≤ v67.toInt ∧ v67.toInt ≤ 400 ∧ tot v67 ≤ 4 from by first | decide | omega) (show tot v67 ≤ (sh 0 1).toInt from by first | decide | omega) (show 0 ≤ p0.toInt ∧ p0.toInt ≤ 4 from by first | decide | omega)) gX1_passWeek_X4_takenByLevel rfl rfl rfl nd_X4_takenByLevel ⟨Nat.le_of_ble_eq_true rfl, Nat.le_of_ble_eq_true rfl⟩ (ci := 2) (q0 := 0) rfl rfl rfl hl.1 rfl (Nat.le_of_ble_eq_true rfl) ⟨Nat.zero_le _, Nat.zero_le _⟩ dX1_passWeek_55) cx.2.2.1 hP hD hS [3, 4, 5, 6, 7, 8] rfl rfl (fun r69 H locs hw68 hP hS => ?_)
          replace hw68 : (0 ≤ r69.toInt ∧ r69.toInt ≤ 4 ∧ r69.toInt ≤ (sh 0 1).toInt - (tot v67)) ∧ (r69 = J_X4_takenByLevel sh p0 v67 p1) := hw68
          obtain ⟨w70, w71⟩ := hw68
          have k73 : r69 = (J_X4_takenByLevel sh p0 v67 p1) := congrArg (fun z => z) w71
          refine lv_imul hx hb dX1_passWeek_58 (lv_topi (fun v74 e74 => ?_))
          have t74 : v74.toInt = 100 * r69.toInt := by rw [e74]; exact i_mul (by decide) rfl (by omega) (by omega)
          refine lv_istore (lv' := [(7, .int v74), (6, .int v67), (5, .int v31), (0, .ref (qco 0)), (1, .ref (qh 0)), (2, .int p0), (3, .int p1), (4, .int p2)]) hx hb dX1_passWeek_59 hl (by decide) rfl (fun ls hl => ?_)
          refine lv_aload_n hx hb dX1_passWeek_61 rfl (lv_at hl 3 rfl) ?_
          refine lv_aload_n hx hb dX1_passWeek_62 rfl (lv_at hl 4 rfl) ?_
          refine lv_iload_n hx hb dX1_passWeek_63 rfl (lv_at hl 5 rfl) ?_
          refine lv_iload hx hb dX1_passWeek_64 (lv_at hl 1 rfl) ?_
          refine lv_iload hx hb dX1_passWeek_66 (lv_at hl 0 rfl) ?_
          refine lv_iadd hx hb dX1_passWeek_68 (lv_topi (fun v75 e75 => ?_))
          have t75 : v75.toInt = v67.toInt + v74.toInt := by rw [e75]; exact i_add rfl rfl (by omega) (by omega)
          have ta : (0 ≤ v75.toInt ∧ v75.toInt ≤ 400 ∧ tot v75 ≤ 4) ∧ tot v75 ≤ (sh 0 1).toInt := tot_add (h := v67) (t := r69.toInt) ⟨by omega, by omega, by omega⟩ (by omega) (by omega) (by omega) (by omega)
          refine lv_iload hx hb dX1_passWeek_69 (lv_at hl 7 rfl) ?_
          refine lv_aload_n hx hb dX1_passWeek_71 rfl (lv_at hl 3 rfl) ?_
          refine g_get cx hP iw_X1_passWeek_X1 0 rfl rfl 0 (by decide) rfl fw_X1_passWeek_11 rfl dX1_passWeek_72 ?_
          refine lv_iload hx hb dX1_passWeek_75 (lv_at hl 2 rfl) ?_
          have hn76 : vp_in v31 35 := f_in (a := v31.toInt) rfl (by omega) (by omega)
          refine va_lald hx hb cx.2.1 hP 1 1 rfl rfl hn76 dX1_passWeek_77 (lv_topl (fun v77 e77 => ?_))
          obtain rfl : v39 = v77 := e39.trans e77.symm
          refine g_vF (w1 := fun (u : (Nat → Int64) × Int64 × Int64 × Int64) => [cell137_ qco tco (u.2.1) (u.2.2.1) (u.2.2.2), cell35_ k qco tco, cell99_ k qco (u.1), cell32_ qh sh, cell0_ k qh sh, cell1_ k qh sh, cell4_ k qh sh, cell3_ k qh sh, cell2_ k qh sh]) (g_runVF (ws := [cell137_ qco tco x32 x33 x34, cell35_ k qco tco, (qco 2, .inl (k 1, 35, .inr (.inl g35))), cell32_ qh sh, cell0_ k qh sh, cell1_ k qh sh, cell4_ k qh sh, cell3_ k qh sh, cell2_ k qh sh]) (rest := []) cx hP hD hS [.ref (qh 0), .int p0, .int v75, .int p2, .long v39] (c_X1_passWeekWith l D k b qco sco (up2L (up2L tco 0 (vp_updL (vp_updL (vp_updL (tco 0) 3 x32) 4 x33) 5 x34)) 2 g35) qh sh H.size p0 v75 p2 v39 (show 0 ≤ v75.toInt ∧ v75.toInt ≤ 400 ∧ tot v75 ≤ 4 from by first | decide | omega) (show tot v75 ≤ (sh 0 1).toInt from by first | decide | omega) (show CUok g35 (sh 0 1).toInt from by assumption) (show 0 ≤ p0.toInt ∧ p0.toInt ≤ 4 from by first | decide | omega)) gX1_passWeek_X1_passWeekWith rfl rfl rfl nd_X1_passWeekWith ⟨Nat.le_of_ble_eq_true rfl, Nat.le_of_ble_eq_true rfl⟩ (ci := 0) (q0 := 0) rfl rfl rfl hl.1 rfl (Nat.le_of_ble_eq_true rfl) ⟨Nat.zero_le _, Nat.zero_le _⟩ dX1_passWeek_78) cx.2.2.1 hD hS (fun u79 H locs hw78 hP hD hS => ?_)
          obtain ⟨m80, m81, m82, m83⟩ := u79
          have hP : va_P D vwCl [cell137_ qco tco m81 m82 m83, cell35_ k qco tco, (qco 2, .inl (k 1, 35, .inr (.inl m80))), cell32_ qh sh, cell0_ k qh sh, cell1_ k qh sh, cell4_ k qh sh, cell3_ k qh sh, cell2_ k qh sh] H := hP
          have hD : va_D A [cell137_ qco tco m81 m82 m83, cell35_ k qco tco, (qco 2, .inl (k 1, 35, .inr (.inl m80))), cell32_ qh sh, cell0_ k qh sh, cell1_ k qh sh, cell4_ k qh sh, cell3_ k qh sh, cell2_ k qh sh] := hD
          have w84 : CUok m80 (sh 0 1).toInt := hw78
          clear hw78
          exact hJ81 m81 m82 m83 m80 _ _ _ (by assumption) hP hD hS (lv_sub hl [2, 3, 4, 5, 6, 7] rfl)
  have hlit85 : (0 : Int32).toInt = 0 := by decide
  have hlit86 : (0 : Int32).toInt = 0 := by decide
  have hlit87 : (0 : Int32).toInt = 0 := by decide
  exact hL21 (Int.toNat (35 - 0) + 1) 0 (tco 0 3) 0 0 m3 _ _ _ (by omega) (by first | decide | omega) (by assumption) hP hD hS (lv_sub hl [0, 1, 2, 3, 4, 5] rfl)
theorem fw_X1_passSunday_11 : Cond.fieldLink RX1 11 "StillInAugust$Course" "ahead" "[J" ∈ wsX1_passSunday := by decide +kernel
theorem fw_X1_passSunday_17 : Cond.fieldLink RX1 17 "StillInAugust$Course" "during" "[J" ∈ wsX1_passSunday := by decide +kernel
theorem fw_X1_passSunday_30 : Cond.fieldLink RX1 30 "StillInAugust$Course" "scale" "J" ∈ wsX1_passSunday := by decide +kernel
theorem fw_X1_passSunday_34 : Cond.fieldLink RX1 34 "StillInAugust$Course" "costs" "J" ∈ wsX1_passSunday := by decide +kernel
theorem kJ_X1_passSunday_73 : Cond.constantLong RX1 73 (625) ∈ wsX1_passSunday := by decide +kernel
theorem iw_X1_passSunday_X1 : ∀ w ∈ u_ws RX1 TX1 6, w ∈ wsX1_passSunday := fun _ h => List.mem_cons_of_mem _ (List.mem_append_left _ (List.mem_append_right _ h))
set_option maxHeartbeats 4000000 in
set_option maxRecDepth 100000 in
theorem c_X1_passSunday (l : Launch) (D : va_G) (k : Nat → ClassId) (b : Nat → Nat) (qco : Nat → Nat) (sco : Nat → Nat → Int32) (tco : Nat → Nat → Int64) (qh : Nat → Nat) (sh : Nat → Nat → Int32) (sz : Nat) (h_su : SUok (sh 5)) (h_cu : CUok (tco 2) (sh 0 1).toInt) : MetV l D k b yX1_passSunday wsX1_passSunday ({ frames := 1, cells := 0, slots := 0, locals := 24 } : Room) [cell84_ qco tco, cell35_ k qco tco, cell34_ k qco tco, cell32_ qh sh, cell0_ k qh sh, cell1_ k qh sh, cell4_ k qh sh, cell3_ k qh sh, cell2_ k qh sh] sz [.ref (qco 0), .ref (qh 0)] (fun (u : (Nat → Int64) × Int64 × Int64) => CUok (u.1) (sh 0 1).toInt) (fun u => [cell194_ qco tco (u.2.1) (u.2.2), cell98_ k qco (u.1), cell34_ k qco tco, cell32_ qh sh, cell0_ k qh sh, cell1_ k qh sh, cell4_ k qh sh, cell3_ k qh sh, cell2_ k qh sh]) := by
  refine g_enter (cc := cX1_passSunday) (maxL := 4) (ret := none) (by decide) rfl (Nat.le_of_ble_eq_true rfl) ?_
  intro p e s m below meth c A hsz hAe cx hr hP hD hS ls hl
  rw [hAe]
  refine g_q (fun Q hQ => ?_)
  have hx := cx.1.1
  have hb := cx.1.2.1
  have hl : lv_has ls 4 [(0, .ref (qco 0)), (1, .ref (qh 0))] := hl
  obtain ⟨H, eH⟩ : ∃ H : Heap, H = s.heap := ⟨_, rfl⟩
  obtain ⟨locs, el⟩ : ∃ L : List Loc, L = [] := ⟨_, rfl⟩
  have hP : va_P D vwCl [cell84_ qco tco, cell35_ k qco tco, cell34_ k qco tco, cell32_ qh sh, cell0_ k qh sh, cell1_ k qh sh, cell4_ k qh sh, cell3_ k qh sh, cell2_ k qh sh] H := by rw [eH]; exact hP
  have hD : va_D A [cell84_ qco tco, cell35_ k qco tco, cell34_ k qco tco, cell32_ qh sh, cell0_ k qh sh, cell1_ k qh sh, cell4_ k qh sh, cell3_ k qh sh, cell2_ k qh sh] := hD
  have hS : va_S A s.heap H locs := by rw [eH, el]; exact hS
  suffices goal : W p l e ({ frames := 1, cells := 0, slots := 0, locals := 24 } : Room) s m ([.ref (qco 0), .ref (qh 0)] : List Value).toArray below meth c H locs 0 0 Q (F0 m 0 ls []) by rw [eH, el] at goal; exact goal
  refine lv_aload_n hx hb dX1_passSunday_0 rfl (lv_at hl 0 rfl) ?_
  refine g_get cx hP iw_X1_passSunday_X1 0 rfl rfl 0 (by decide) rfl fw_X1_passSunday_11 rfl dX1_passSunday_1 ?_
  refine lv_lconst (v := 0) hx hb dX1_passSunday_4 (by decide) ?_
  refine g_v (w1 := fun (u : (Nat → Int64)) => [(qco 1, .inl (k 1, 35, .inr (.inl u)))]) (g_runS (wc := [cell35_ k qco tco]) (rest := []) cx hP hD hS [1] rfl (by decide) [.ref (qco 1), .long 0] (c_J7_fill_d0a16_35 l D k b (fun _ => qco 1) (fun _ _ => 0) (fun _ => (tco 1)) H.size 0) gX1_passSunday_J7_fill_d0a16 rfl rfl rfl nd_J7_fill_d0a16 ⟨Nat.le_of_ble_eq_true rfl, Nat.le_of_ble_eq_true rfl⟩ rfl hl.1 rfl (Nat.le_of_ble_eq_true rfl) ⟨Nat.zero_le _, Nat.zero_le _⟩ dX1_passSunday_5) cx.2.2.1 hP hD hS [1] rfl (fun _ => rfl) (fun u2 H locs hw1 hP hD hS => ?_)
  obtain ⟨m3, rfl⟩ : ∃ z, z = u2 := ⟨_, rfl⟩
  have hP : va_P D vwCl [cell84_ qco tco, (qco 1, .inl (k 1, 35, .inr (.inl m3))), cell34_ k qco tco, cell32_ qh sh, cell0_ k qh sh, cell1_ k qh sh, cell4_ k qh sh, cell3_ k qh sh, cell2_ k qh sh] H := hP
  have hD : va_D A [cell84_ qco tco, (qco 1, .inl (k 1, 35, .inr (.inl m3))), cell34_ k qco tco, cell32_ qh sh, cell0_ k qh sh, cell1_ k qh sh, cell4_ k qh sh, cell3_ k qh sh, cell2_ k qh sh] := hD
  replace hw1 : (m3 = fillJ 35 (0 : Int64) (tco 1)) ∧ (m3 = J_J7_fill_d0a16_35 (fun _ _ => 0) (fun _ => (tco 1)) (0 : Int64)) := hw1
  obtain ⟨w4, w5⟩ := hw1
  have k7 : m3 = (J_J7_fill_d0a16_35 (fun _ _ => 0) (fun _ => (tco 1)) (0 : Int64)) := congrArg (fun z => z) w5
  have cu : CUok m3 (sh 0 1).toInt := CU_fill w4
  refine lv_iconst (v := 0) hx hb dX1_passSunday_8 (by decide) ?_
  refine lv_istore_n (lv' := [(2, .int 0), (0, .ref (qco 0)), (1, .ref (qh 0))]) hx hb dX1_passSunday_9 rfl hl (by decide) rfl (fun ls hl => ?_)
  have hL10 : ∀ (n29 : Nat) (v27 : Int32) (g28 : Nat → Int64) (H : Heap) (locs : List Loc) (ls : Array Slot), 35 - v27.toInt < (n29 : Int) → (0 ≤ v27.toInt ∧ v27.toInt ≤ 35) → (CUok g28 (sh 0 1).toInt) → va_P D vwCl [cell84_ qco tco, (qco 1, .inl (k 1, 35, .inr (.inl g28))), cell34_ k qco tco, cell32_ qh sh, cell0_ k qh sh, cell1_ k qh sh, cell4_ k qh sh, cell3_ k qh sh, cell2_ k qh sh] H → va_D A [cell84_ qco tco, (qco 1, .inl (k 1, 35, .inr (.inl g28))), cell34_ k qco tco, cell32_ qh sh, cell0_ k qh sh, cell1_ k qh sh, cell4_ k qh sh, cell3_ k qh sh, cell2_ k qh sh] → va_S A s.heap H locs → lv_has ls 4 [(2, .int v27), (0, .ref (qco 0)), (1, .ref (qh 0))] → W p l e ({ frames := 1, cells := 0, slots := 0, locals := 24 } : Room) s m ([.ref (qco 0), .ref (qh 0)] : List Value).toArray below meth c H locs 0 0 Q (F0 m 10 ls []) := by
    intro n29
    induction n29 with
    | zero => intro v27 g28 H locs ls hmn29 bv27 cu hP hD hS hl; exact absurd hmn29 (by omega)
    | succ n29 ih10 =>
      intro v27 g28 H locs ls hmn29 bv27 cu hP hD hS hl
      refine lv_iload_n hx hb dX1_passSunday_10 rfl (lv_at hl 0 rfl) ?_
      refine lv_bipush (v := 35) hx hb dX1_passSunday_11 (by decide) ?_
      refine lv_icmp_ge (tgt := 70) hx hb dX1_passSunday_13 (by decide) (fun c30 => ?_) (fun c30 => ?_)
      · have f30 : 35 ≤ v27.toInt := f_le (by decide) rfl c30
        refine lv_aload_n hx hb dX1_passSunday_70 rfl (lv_at hl 1 rfl) ?_
        refine lv_dup hx hb dX1_passSunday_71 rfl ?_
        refine g_get cx hP iw_X1_passSunday_X1 0 rfl rfl 2 (by decide) rfl fw_X1_passSunday_30 rfl dX1_passSunday_72 ?_
        refine lv_ldc2 (v := 625) hx hb cx.1.2.2.2.1 (cx.1.2.2.2.2 _ kJ_X1_passSunday_73) dX1_passSunday_75 ?_
        refine lv_lmul hx hb dX1_passSunday_78 (lv_topl (fun v31 e31 => ?_))
        refine g_pt cx hP hD hS iw_X1_passSunday_X1 tyX1 tyX1_ok nmX1 0 rfl rfl 2 (by decide) rfl fw_X1_passSunday_30 (ty := .long) rfl rfl rfl (Nat.le_of_ble_eq_true rfl) dX1_passSunday_79 (fun H locs hP hD hS => ?_)
        have hP : va_P D vwCl [cell203_ qco tco v31, (qco 1, .inl (k 1, 35, .inr (.inl g28))), cell34_ k qco tco, cell32_ qh sh, cell0_ k qh sh, cell1_ k qh sh, cell4_ k qh sh, cell3_ k qh sh, cell2_ k qh sh] H := hP
        have hD : va_D A [cell203_ qco tco v31, (qco 1, .inl (k 1, 35, .inr (.inl g28))), cell34_ k qco tco, cell32_ qh sh, cell0_ k qh sh, cell1_ k qh sh, cell4_ k qh sh, cell3_ k qh sh, cell2_ k qh sh] := hD
        refine lv_aload_n hx hb dX1_passSunday_82 rfl (lv_at hl 1 rfl) ?_
        refine lv_dup hx hb dX1_passSunday_83 rfl ?_
        refine g_get cx hP iw_X1_passSunday_X1 0 rfl rfl 3 (by decide) rfl fw_X1_passSunday_34 rfl dX1_passSunday_84 ?_
        refine lv_ldc2 (v := 625) hx hb cx.1.2.2.2.1 (cx.1.2.2.2.2 _ kJ_X1_passSunday_73) dX1_passSunday_87 ?_
        refine lv_lmul hx hb dX1_passSunday_90 (lv_topl (fun v32 e32 => ?_))
        refine g_pt cx hP hD hS iw_X1_passSunday_X1 tyX1 tyX1_ok nmX1 0 rfl rfl 3 (by decide) rfl fw_X1_passSunday_34 (ty := .long) rfl rfl rfl (Nat.le_of_ble_eq_true rfl) dX1_passSunday_91 (fun H locs hP hD hS => ?_)
        have hP : va_P D vwCl [cell194_ qco tco v31 v32, (qco 1, .inl (k 1, 35, .inr (.inl g28))), cell34_ k qco tco, cell32_ qh sh, cell0_ k qh sh, cell1_ k qh sh, cell4_ k qh sh, cell3_ k qh sh, cell2_ k qh sh] H := hP
        have hD : va_D A [cell194_ qco tco v31 v32, (qco 1, .inl (k 1, 35, .inr (.inl g28))), cell34_ k qco tco, cell32_ qh sh, cell0_ k qh sh, cell1_ k qh sh, cell4_ k qh sh, cell3_ k qh sh, cell2_ k qh sh] := hD
        rw [hQ]
        exact x_v cx hr (g28, v31, v32) hP hD hS (show CUok g28 (sh 0 1).toInt from cu) dX1_passSunday_94
      · have f30 : v27.toInt < 35 := f_nle (by decide) rfl c30
        refine lv_aload_n hx hb dX1_passSunday_16 rfl (lv_at hl 1 rfl) ?_
        refine g_get cx hP iw_X1_passSunday_X1 0 rfl rfl 1 (by decide) rfl fw_X1_passSunday_17 rfl dX1_passSunday_17 ?_
        refine lv_iload_n hx hb dX1_passSunday_20 rfl (lv_at hl 0 rfl) ?_
        have hn33 : vp_in v27 35 := f_in (a := v27.toInt) rfl (by omega) (by omega)
        refine va_lald hx hb cx.2.1 hP 2 1 rfl rfl hn33 dX1_passSunday_21 (lv_topl (fun v34 e34 => ?_))
        refine lv_lconst (v := 0) hx hb dX1_passSunday_22 (by decide) ?_
        refine W.lcmp hx hb dX1_passSunday_23 (lv_topi (fun v35 e35 => ?_))
        have hJ64 : ∀ (g64 : Nat → Int64) (H : Heap) (locs : List Loc) (ls : Array Slot), (CUok g64 (sh 0 1).toInt) → va_P D vwCl [cell84_ qco tco, (qco 1, .inl (k 1, 35, .inr (.inl g64))), cell34_ k qco tco, cell32_ qh sh, cell0_ k qh sh, cell1_ k qh sh, cell4_ k qh sh, cell3_ k qh sh, cell2_ k qh sh] H → va_D A [cell84_ qco tco, (qco 1, .inl (k 1, 35, .inr (.inl g64))), cell34_ k qco tco, cell32_ qh sh, cell0_ k qh sh, cell1_ k qh sh, cell4_ k qh sh, cell3_ k qh sh, cell2_ k qh sh] → va_S A s.heap H locs → lv_has ls 4 [(2, .int v27), (0, .ref (qco 0)), (1, .ref (qh 0))] → W p l e ({ frames := 1, cells := 0, slots := 0, locals := 24 } : Room) s m ([.ref (qco 0), .ref (qh 0)] : List Value).toArray below meth c H locs 0 0 Q (F0 m 64 ls []) := by
          intro g64 H locs ls cu hP hD hS hl
          obtain ⟨v65, e65⟩ : ∃ z : Int32, z = v27 + 1 := ⟨_, rfl⟩
          refine lv_iinc (v := v65) (lv' := [(2, .int v65), (0, .ref (qco 0)), (1, .ref (qh 0))]) hx hb dX1_passSunday_64 hl (k := 0) rfl (by rw [e65]; rfl) (by decide) rfl (fun ls hl => ?_)
          have t65 : v65.toInt = v27.toInt + 1 := by rw [e65]; exact i_add rfl (by decide) (by omega) (by omega)
          refine lv_goto (tgt := 10) hx hb dX1_passSunday_67 (by decide) ?_
          exact ih10 v65 g64 _ _ _ (by omega) (by first | decide | omega) (by assumption) hP hD hS (lv_sub hl [0, 1, 2] rfl)
        refine lv_if_eq (tgt := 64) hx hb dX1_passSunday_24 (by decide) (fun c66 => ?_) (fun c66 => ?_)
        · have f66 : v35.toInt = 0 := f_eq rfl (by decide) c66
          exact hJ64 g28 _ _ _ (by assumption) hP hD hS (lv_sub hl [0, 1, 2] rfl)
        · have f66 : ¬ v35.toInt = 0 := f_ne rfl (by decide) c66
          have nz := lcnz0 e35 c66
          have tc := (CU_get e34 h_cu ⟨by omega, by omega⟩).resolve_left nz
          refine lv_iconst (v := 0) hx hb dX1_passSunday_27 (by decide) ?_
          refine lv_istore_n (lv' := [(3, .int 0), (2, .int v27), (0, .ref (qco 0)), (1, .ref (qh 0))]) hx hb dX1_passSunday_28 rfl hl (by decide) rfl (fun ls hl => ?_)
          have hL29 : ∀ (n83 : Nat) (v81 : Int32) (g82 : Nat → Int64) (H : Heap) (locs : List Loc) (ls : Array Slot), 15 - v81.toInt < (n83 : Int) → (0 ≤ v81.toInt ∧ v81.toInt ≤ 15) → (CUok g82 (sh 0 1).toInt) → va_P D vwCl [cell84_ qco tco, (qco 1, .inl (k 1, 35, .inr (.inl g82))), cell34_ k qco tco, cell32_ qh sh, cell0_ k qh sh, cell1_ k qh sh, cell4_ k qh sh, cell3_ k qh sh, cell2_ k qh sh] H → va_D A [cell84_ qco tco, (qco 1, .inl (k 1, 35, .inr (.inl g82))), cell34_ k qco tco, cell32_ qh sh, cell0_ k qh sh, cell1_ k qh sh, cell4_ k qh sh, cell3_ k qh sh, cell2_ k qh sh] → va_S A s.heap H locs → lv_has ls 4 [(3, .int v81), (2, .int v27), (0, .ref (qco 0)), (1, .ref (qh 0))] → W p l e ({ frames := 1, cells := 0, slots := 0, locals := 24 } : Room) s m ([.ref (qco 0), .ref (qh 0)] : List Value).toArray below meth c H locs 0 0 Q (F0 m 29 ls []) := by
            intro n83
            induction n83 with
            | zero => intro v81 g82 H locs ls hmn83 bv81 cu hP hD hS hl; exact absurd hmn83 (by omega)
            | succ n83 ih29 =>
              intro v81 g82 H locs ls hmn83 bv81 cu hP hD hS hl
              refine lv_iload_n hx hb dX1_passSunday_29 rfl (lv_at hl 0 rfl) ?_
              refine lv_bipush (v := 15) hx hb dX1_passSunday_30 (by decide) ?_
              refine lv_icmp_ge (tgt := 64) hx hb dX1_passSunday_32 (by decide) (fun c84 => ?_) (fun c84 => ?_)
              · have f84 : 15 ≤ v81.toInt := f_le (by decide) rfl c84
                exact hJ64 g82 _ _ _ (by assumption) hP hD hS (lv_sub hl [1, 2, 3] rfl)
              · have f84 : v81.toInt < 15 := f_nle (by decide) rfl c84
                refine lv_aload_n hx hb dX1_passSunday_35 rfl (lv_at hl 2 rfl) ?_
                refine g_get cx hP iw_X1_passSunday_X1 0 rfl rfl 0 (by decide) rfl fw_X1_passSunday_11 rfl dX1_passSunday_36 ?_
                refine lv_iload_n hx hb dX1_passSunday_39 rfl (lv_at hl 0 rfl) ?_
                refine lv_dup2_11 hx hb dX1_passSunday_40 rfl rfl ?_
                have hn85 : vp_in v81 35 := f_in (a := v81.toInt) rfl (by omega) (by omega)
                refine va_lald hx hb cx.2.1 hP 1 1 rfl rfl hn85 dX1_passSunday_41 (lv_topl (fun v86 e86 => ?_))
                have oc := CU_get e86 cu ⟨by omega, by omega⟩
                refine lv_aload_n hx hb dX1_passSunday_42 rfl (lv_at hl 2 rfl) ?_
                refine g_get cx hP iw_X1_passSunday_X1 0 rfl rfl 1 (by decide) rfl fw_X1_passSunday_17 rfl dX1_passSunday_43 ?_
                refine lv_iload_n hx hb dX1_passSunday_46 rfl (lv_at hl 1 rfl) ?_
                have hn87 : vp_in v27 35 := f_in (a := v27.toInt) rfl (by omega) (by omega)
                refine va_lald hx hb cx.2.1 hP 2 1 rfl rfl hn87 dX1_passSunday_47 (lv_topl (fun v88 e88 => ?_))
                obtain rfl : v34 = v88 := e34.trans e88.symm
                refine lv_aload_n hx hb dX1_passSunday_48 rfl (lv_at hl 3 rfl) ?_
                refine lv_iload_n hx hb dX1_passSunday_49 rfl (lv_at hl 1 rfl) ?_
                refine lv_iload_n hx hb dX1_passSunday_50 rfl (lv_at hl 0 rfl) ?_
                refine g_ir (g_runV (wc := [cell32_ qh sh, cell0_ k qh sh, cell1_ k qh sh, cell4_ k qh sh, cell3_ k qh sh, cell2_ k qh sh]) (rest := [.long v34, .long v86, .int v81, .ref (qco 1)]) cx hP hD hS [3, 4, 5, 6, 7, 8] rfl (by decide) [.int v27, .int v81] (c_X4_partsTo l D k b qh sh H.size v27 v81 (show SUok (sh 5) from by assumption) (show 0 ≤ v27.toInt ∧ v27.toInt ≤ 34 from by first | decide | omega) (show 0 ≤ v81.toInt ∧ v81.toInt ≤ 14 from by first | decide | omega)) gX1_passSunday_X4_partsTo rfl rfl rfl nd_X4_partsTo ⟨Nat.le_of_ble_eq_true rfl, Nat.le_of_ble_eq_true rfl⟩ (ci := 2) (q0 := 0) rfl rfl rfl hl.1 rfl (Nat.le_of_ble_eq_true rfl) ⟨Nat.zero_le _, Nat.zero_le _⟩ dX1_passSunday_51) cx.2.2.1 hP hD hS [3, 4, 5, 6, 7, 8] rfl rfl (fun r90 H locs hw89 hP hS => ?_)
                have w91 : r90 = 0 ∨ totN v81.toNatClampNeg ≤ totN v27.toNatClampNeg := hw89
                clear hw89
                have ps := w91
                obtain ⟨v92, e92⟩ : ∃ z : Int64, z = (r90 : Int32).toInt64 := ⟨_, rfl⟩
                refine lv_i2l (v := v92) hx hb dX1_passSunday_54 e92.symm ?_
                have pe := e92
                refine lv_lmul hx hb dX1_passSunday_55 (lv_topl (fun v93 e93 => ?_))
                have pm := e93
                refine lv_ladd hx hb dX1_passSunday_56 (lv_topl (fun v94 e94 => ?_))
                have pa := e94
                have hn95 : vp_in v81 35 := f_in (a := v81.toInt) rfl (by omega) (by omega)
                refine va_last hx hb cx.2.1 hP hD hS 1 1 rfl rfl hn95 dX1_passSunday_57 (fun H locs hP hD hS => ?_)
                obtain ⟨g96, eg96⟩ : ∃ g : Nat → Int64, g = vp_updL g82 (v81).toNatClampNeg v94 := ⟨_, rfl⟩
                rw [← eg96] at hP hD
                have hP : va_P D vwCl [cell84_ qco tco, (qco 1, .inl (k 1, 35, .inr (.inl g96))), cell34_ k qco tco, cell32_ qh sh, cell0_ k qh sh, cell1_ k qh sh, cell4_ k qh sh, cell3_ k qh sh, cell2_ k qh sh] H := hP
                have hD : va_D A [cell84_ qco tco, (qco 1, .inl (k 1, 35, .inr (.inl g96))), cell34_ k qco tco, cell32_ qh sh, cell0_ k qh sh, cell1_ k qh sh, cell4_ k qh sh, cell3_ k qh sh, cell2_ k qh sh] := hD
                have cu2 := CU_st eg96 cu (CU_add oc ps tc pe pm pa)
                obtain ⟨v97, e97⟩ : ∃ z : Int32, z = v81 + 1 := ⟨_, rfl⟩
                refine lv_iinc (v := v97) (lv' := [(3, .int v97), (2, .int v27), (0, .ref (qco 0)), (1, .ref (qh 0))]) hx hb dX1_passSunday_58 hl (k := 0) rfl (by rw [e97]; rfl) (by decide) rfl (fun ls hl => ?_)
                have t97 : v97.toInt = v81.toInt + 1 := by rw [e97]; exact i_add rfl (by decide) (by omega) (by omega)
                refine lv_goto (tgt := 29) hx hb dX1_passSunday_61 (by decide) ?_
                exact ih29 v97 g96 _ _ _ (by omega) (by first | decide | omega) (by assumption) hP hD hS (lv_sub hl [0, 1, 2, 3] rfl)
          have hlit98 : (0 : Int32).toInt = 0 := by decide
          exact hL29 (Int.toNat (15 - 0) + 1) 0 g28 _ _ _ (by omega) (by first | decide | omega) (by assumption) hP hD hS (lv_sub hl [0, 1, 2, 3] rfl)
  have hlit99 : (0 : Int32).toInt = 0 := by decide
  exact hL10 (Int.toNat (35 - 0) + 1) 0 m3 _ _ _ (by omega) (by first | decide | omega) (by assumption) hP hD hS (lv_sub hl [0, 1, 2] rfl)
theorem fw_X1_payBonus_11 : Cond.fieldLink RX1 11 "StillInAugust$Course" "ahead" "[J" ∈ wsX1_payBonus := by decide +kernel
theorem fw_X1_payBonus_34 : Cond.fieldLink RX1 34 "StillInAugust$Course" "costs" "J" ∈ wsX1_payBonus := by decide +kernel
theorem fw_X1_payBonus_43 : Cond.fieldLink RX1 43 "StillInAugust$Hands" "ALL" "[I" ∈ wsX1_payBonus := by decide +kernel
theorem nd_X4_bonusFor : yX4_bonusFor.cls = RX4 ∧ yX4_bonusFor.cls ≠ "java/lang/invoke/MethodHandle" ∧ yX4_bonusFor.cls ≠ "java/lang/invoke/VarHandle" ∧ (parseMethodDescriptor yX4_bonusFor.desc).map (fun d => d.parameters.length) = some 1 := by decide +kernel
theorem iw_X1_payBonus_X1 : ∀ w ∈ u_ws RX1 TX1 6, w ∈ wsX1_payBonus := fun _ h => List.mem_cons_of_mem _ (List.mem_append_left _ (List.mem_append_right _ h))
set_option maxHeartbeats 4000000 in
set_option maxRecDepth 100000 in
theorem c_X1_payBonus (l : Launch) (D : va_G) (k : Nat → ClassId) (b : Nat → Nat) (qco : Nat → Nat) (sco : Nat → Nat → Int32) (tco : Nat → Nat → Int64) (qh : Nat → Nat) (sh : Nat → Nat → Int32) (sz : Nat) : MetV l D k b yX1_payBonus wsX1_payBonus ({ frames := 2, cells := 0, slots := 0, locals := 41 } : Room) [cell84_ qco tco, cell35_ k qco tco, cell34_ k qco tco, cell32_ qh sh, cell0_ k qh sh, cell1_ k qh sh, cell4_ k qh sh, cell3_ k qh sh, cell2_ k qh sh] sz [.ref (qco 0), .ref (qh 0)] (fun (u : Int64) => True) (fun u => [cell153_ qco tco u, cell35_ k qco tco, cell34_ k qco tco, cell32_ qh sh, cell0_ k qh sh, cell1_ k qh sh, cell4_ k qh sh, cell3_ k qh sh, cell2_ k qh sh]) := by
  refine g_enter (cc := cX1_payBonus) (maxL := 3) (ret := none) (by decide) rfl (Nat.le_of_ble_eq_true rfl) ?_
  intro p e s m below meth c A hsz hAe cx hr hP hD hS ls hl
  rw [hAe]
  refine g_q (fun Q hQ => ?_)
  have hx := cx.1.1
  have hb := cx.1.2.1
  have hl : lv_has ls 3 [(0, .ref (qco 0)), (1, .ref (qh 0))] := hl
  obtain ⟨H, eH⟩ : ∃ H : Heap, H = s.heap := ⟨_, rfl⟩
  obtain ⟨locs, el⟩ : ∃ L : List Loc, L = [] := ⟨_, rfl⟩
  have hP : va_P D vwCl [cell84_ qco tco, cell35_ k qco tco, cell34_ k qco tco, cell32_ qh sh, cell0_ k qh sh, cell1_ k qh sh, cell4_ k qh sh, cell3_ k qh sh, cell2_ k qh sh] H := by rw [eH]; exact hP
  have hD : va_D A [cell84_ qco tco, cell35_ k qco tco, cell34_ k qco tco, cell32_ qh sh, cell0_ k qh sh, cell1_ k qh sh, cell4_ k qh sh, cell3_ k qh sh, cell2_ k qh sh] := hD
  have hS : va_S A s.heap H locs := by rw [eH, el]; exact hS
  suffices goal : W p l e ({ frames := 2, cells := 0, slots := 0, locals := 41 } : Room) s m ([.ref (qco 0), .ref (qh 0)] : List Value).toArray below meth c H locs 0 0 Q (F0 m 0 ls []) by rw [eH, el] at goal; exact goal
  refine lv_iconst (v := 0) hx hb dX1_payBonus_0 (by decide) ?_
  refine lv_istore_n (lv' := [(2, .int 0), (0, .ref (qco 0)), (1, .ref (qh 0))]) hx hb dX1_payBonus_1 rfl hl (by decide) rfl (fun ls hl => ?_)
  have hL2 : ∀ (n16 : Nat) (v14 : Int32) (x15 : Int64) (H : Heap) (locs : List Loc) (ls : Array Slot), 35 - v14.toInt < (n16 : Int) → (0 ≤ v14.toInt ∧ v14.toInt ≤ 35) → va_P D vwCl [cell153_ qco tco x15, cell35_ k qco tco, cell34_ k qco tco, cell32_ qh sh, cell0_ k qh sh, cell1_ k qh sh, cell4_ k qh sh, cell3_ k qh sh, cell2_ k qh sh] H → va_D A [cell153_ qco tco x15, cell35_ k qco tco, cell34_ k qco tco, cell32_ qh sh, cell0_ k qh sh, cell1_ k qh sh, cell4_ k qh sh, cell3_ k qh sh, cell2_ k qh sh] → va_S A s.heap H locs → lv_has ls 3 [(2, .int v14), (0, .ref (qco 0)), (1, .ref (qh 0))] → W p l e ({ frames := 2, cells := 0, slots := 0, locals := 41 } : Room) s m ([.ref (qco 0), .ref (qh 0)] : List Value).toArray below meth c H locs 0 0 Q (F0 m 2 ls []) := by
    intro n16
    induction n16 with
    | zero => intro v14 x15 H locs ls hmn16 bv14 hP hD hS hl; exact absurd hmn16 (by omega)
    | succ n16 ih2 =>
      intro v14 x15 H locs ls hmn16 bv14 hP hD hS hl
      refine lv_iload_n hx hb dX1_payBonus_2 rfl (lv_at hl 0 rfl) ?_
      refine lv_bipush (v := 35) hx hb dX1_payBonus_3 (by decide) ?_
      refine lv_icmp_ge (tgt := 40) hx hb dX1_payBonus_5 (by decide) (fun c17 => ?_) (fun c17 => ?_)
      · have f17 : 35 ≤ v14.toInt := f_le (by decide) rfl c17
        rw [hQ]
        exact x_v cx hr x15 hP hD hS trivial dX1_payBonus_40
      · have f17 : v14.toInt < 35 := f_nle (by decide) rfl c17
        refine lv_aload_n hx hb dX1_payBonus_8 rfl (lv_at hl 1 rfl) ?_
        refine lv_dup hx hb dX1_payBonus_9 rfl ?_
        refine g_get cx hP iw_X1_payBonus_X1 0 rfl rfl 3 (by decide) rfl fw_X1_payBonus_34 rfl dX1_payBonus_10 ?_
        refine lv_aload_n hx hb dX1_payBonus_13 rfl (lv_at hl 1 rfl) ?_
        refine g_get cx hP iw_X1_payBonus_X1 0 rfl rfl 0 (by decide) rfl fw_X1_payBonus_11 rfl dX1_payBonus_14 ?_
        refine lv_iload_n hx hb dX1_payBonus_17 rfl (lv_at hl 0 rfl) ?_
        have hn18 : vp_in v14 35 := f_in (a := v14.toInt) rfl (by omega) (by omega)
        refine va_lald hx hb cx.2.1 hP 1 1 rfl rfl hn18 dX1_payBonus_18 (lv_topl (fun v19 e19 => ?_))
        refine lv_aload_n hx hb dX1_payBonus_19 rfl (lv_at hl 2 rfl) ?_
        refine va_gets hx hb cx.2.2.2.t0.1 hS cx.1.2.2.2.1 (cx.1.2.2.2.2 _ fw_X1_payBonus_43) (fun _ h => h) dX1_payBonus_20 ?_
        refine lv_iload_n hx hb dX1_payBonus_23 rfl (lv_at hl 0 rfl) ?_
        have hn20 : vp_in v14 35 := f_in (a := v14.toInt) rfl (by omega) (by omega)
        refine va_ti hx hb cx.2.2.2.t0.2 hS hn20 rfl dX1_payBonus_24 (lv_topi (fun v21 e21 => ?_))
        have t21 : 0 ≤ v21.toInt ∧ v21.toInt ≤ 400 ∧ v21.toInt / 100 + v21.toInt / 10 % 10 + v21.toInt % 10 ≤ 4 := by rw [e21]; exact zALL_v _
        refine g_ir (g_runV (wc := [cell32_ qh sh, cell0_ k qh sh, cell1_ k qh sh, cell4_ k qh sh, cell3_ k qh sh, cell2_ k qh sh]) (rest := [.long v19, .long x15, .ref (qco 0)]) cx hP hD hS [3, 4, 5, 6, 7, 8] rfl (by decide) [.int v21] (c_X4_bonusFor l D k b qh sh H.size v21) gX1_payBonus_X4_bonusFor rfl rfl rfl nd_X4_bonusFor ⟨Nat.le_of_ble_eq_true rfl, Nat.le_of_ble_eq_true rfl⟩ (ci := 2) (q0 := 0) rfl rfl rfl hl.1 rfl (Nat.le_of_ble_eq_true rfl) ⟨Nat.zero_le _, Nat.zero_le _⟩ dX1_payBonus_25) cx.2.2.1 hP hD hS [3, 4, 5, 6, 7, 8] rfl rfl (fun r23 H locs hw22 hP hS => ?_)
        have w24 : r23 = J_X4_bonusFor sh v21 := hw22
        clear hw22
        have k26 : r23 = (J_X4_bonusFor sh v21) := congrArg (fun z => z) w24
        obtain ⟨v27, e27⟩ : ∃ z : Int64, z = (r23 : Int32).toInt64 := ⟨_, rfl⟩
        refine lv_i2l (v := v27) hx hb dX1_payBonus_28 e27.symm ?_
        refine lv_lmul hx hb dX1_payBonus_29 (lv_topl (fun v28 e28 => ?_))
        refine lv_ladd hx hb dX1_payBonus_30 (lv_topl (fun v29 e29 => ?_))
        refine g_pt cx hP hD hS iw_X1_payBonus_X1 tyX1 tyX1_ok nmX1 0 rfl rfl 3 (by decide) rfl fw_X1_payBonus_34 (ty := .long) rfl rfl rfl (Nat.le_of_ble_eq_true rfl) dX1_payBonus_31 (fun H locs hP hD hS => ?_)
        have hP : va_P D vwCl [cell153_ qco tco v29, cell35_ k qco tco, cell34_ k qco tco, cell32_ qh sh, cell0_ k qh sh, cell1_ k qh sh, cell4_ k qh sh, cell3_ k qh sh, cell2_ k qh sh] H := hP
        have hD : va_D A [cell153_ qco tco v29, cell35_ k qco tco, cell34_ k qco tco, cell32_ qh sh, cell0_ k qh sh, cell1_ k qh sh, cell4_ k qh sh, cell3_ k qh sh, cell2_ k qh sh] := hD
        obtain ⟨v30, e30⟩ : ∃ z : Int32, z = v14 + 1 := ⟨_, rfl⟩
        refine lv_iinc (v := v30) (lv' := [(2, .int v30), (0, .ref (qco 0)), (1, .ref (qh 0))]) hx hb dX1_payBonus_34 hl (k := 0) rfl (by rw [e30]; rfl) (by decide) rfl (fun ls hl => ?_)
        have t30 : v30.toInt = v14.toInt + 1 := by rw [e30]; exact i_add rfl (by decide) (by omega) (by omega)
        refine lv_goto (tgt := 2) hx hb dX1_payBonus_37 (by decide) ?_
        exact ih2 v30 v29 _ _ _ (by omega) (by first | decide | omega) hP hD hS (lv_sub hl [0, 1, 2] rfl)
  have hlit31 : (0 : Int32).toInt = 0 := by decide
  exact hL2 (Int.toNat (35 - 0) + 1) 0 (tco 0 3) _ _ _ (by omega) (by first | decide | omega) hP hD hS (lv_sub hl [0, 1, 2] rfl)
theorem fw_X1_shareOf_11 : Cond.fieldLink RX1 11 "StillInAugust$Course" "ahead" "[J" ∈ wsX1_shareOf := by decide +kernel
theorem fw_X1_shareOf_43 : Cond.fieldLink RX1 43 "StillInAugust$Hands" "ALL" "[I" ∈ wsX1_shareOf := by decide +kernel
theorem iw_X1_shareOf_X1 : ∀ w ∈ u_ws RX1 TX1 6, w ∈ wsX1_shareOf := fun _ h => List.mem_cons_of_mem _ (List.mem_append_right _ h)
set_option maxHeartbeats 4000000 in
set_option maxRecDepth 100000 in
theorem c_X1_shareOf (l : Launch) (D : va_G) (k : Nat → ClassId) (b : Nat → Nat) (qco : Nat → Nat) (sco : Nat → Nat → Int32) (tco : Nat → Nat → Int64) (sz : Nat) (p0 : Int32) : MetL l D k b yX1_shareOf wsX1_shareOf ({ frames := 1, cells := 0, slots := 0, locals := 20 } : Room) [cell84_ qco tco, cell35_ k qco tco, cell34_ k qco tco] sz [.ref (qco 0), .int p0] (fun (r : Int64) (u : Unit) => True) (fun u => [cell84_ qco tco, cell35_ k qco tco, cell34_ k qco tco]) := by
  refine g_enter (cc := cX1_shareOf) (maxL := 5) (ret := (some .long)) (by decide) rfl (Nat.le_of_ble_eq_true rfl) ?_
  intro p e s m below meth c A hsz hAe cx hr hP hD hS ls hl
  rw [hAe]
  refine g_q (fun Q hQ => ?_)
  have hx := cx.1.1
  have hb := cx.1.2.1
  have bp0 := i_rng p0
  have hl : lv_has ls 5 [(0, .ref (qco 0)), (1, .int p0)] := hl
  obtain ⟨H, eH⟩ : ∃ H : Heap, H = s.heap := ⟨_, rfl⟩
  obtain ⟨locs, el⟩ : ∃ L : List Loc, L = [] := ⟨_, rfl⟩
  have hP : va_P D vwCl [cell84_ qco tco, cell35_ k qco tco, cell34_ k qco tco] H := by rw [eH]; exact hP
  have hD : va_D A [cell84_ qco tco, cell35_ k qco tco, cell34_ k qco tco] := hD
  have hS : va_S A s.heap H locs := by rw [eH, el]; exact hS
  suffices goal : W p l e ({ frames := 1, cells := 0, slots := 0, locals := 20 } : Room) s m ([.ref (qco 0), .int p0] : List Value).toArray below meth c H locs 0 0 Q (F0 m 0 ls []) by rw [eH, el] at goal; exact goal
  refine lv_lconst (v := 0) hx hb dX1_shareOf_0 (by decide) ?_
  refine lv_lstore_n (lv' := [(2, .long 0), (0, .ref (qco 0)), (1, .int p0)]) hx hb dX1_shareOf_1 rfl hl (by decide) rfl (fun ls hl => ?_)
  refine lv_iconst (v := 0) hx hb dX1_shareOf_2 (by decide) ?_
  refine lv_istore (lv' := [(4, .int 0), (2, .long 0), (0, .ref (qco 0)), (1, .int p0)]) hx hb dX1_shareOf_3 hl (by decide) rfl (fun ls hl => ?_)
  have hL5 : ∀ (n12 : Nat) (v10 : Int32) (v11 : Int64) (H : Heap) (locs : List Loc) (ls : Array Slot), 35 - v10.toInt < (n12 : Int) → (0 ≤ v10.toInt ∧ v10.toInt ≤ 35) → va_P D vwCl [cell84_ qco tco, cell35_ k qco tco, cell34_ k qco tco] H → va_D A [cell84_ qco tco, cell35_ k qco tco, cell34_ k qco tco] → va_S A s.heap H locs → lv_has ls 5 [(4, .int v10), (2, .long v11), (0, .ref (qco 0)), (1, .int p0)] → W p l e ({ frames := 1, cells := 0, slots := 0, locals := 20 } : Room) s m ([.ref (qco 0), .int p0] : List Value).toArray below meth c H locs 0 0 Q (F0 m 5 ls []) := by
    intro n12
    induction n12 with
    | zero => intro v10 v11 H locs ls hmn12 bv10 hP hD hS hl; exact absurd hmn12 (by omega)
    | succ n12 ih5 =>
      intro v10 v11 H locs ls hmn12 bv10 hP hD hS hl
      refine lv_iload hx hb dX1_shareOf_5 (lv_at hl 0 rfl) ?_
      refine lv_bipush (v := 35) hx hb dX1_shareOf_7 (by decide) ?_
      refine lv_icmp_ge (tgt := 41) hx hb dX1_shareOf_9 (by decide) (fun c13 => ?_) (fun c13 => ?_)
      · have f13 : 35 ≤ v10.toInt := f_le (by decide) rfl c13
        refine lv_lload_n hx hb dX1_shareOf_41 rfl (lv_at hl 1 rfl) ?_
        rw [hQ]
        exact x_l cx hr () hP hD hS trivial dX1_shareOf_42
      · have f13 : v10.toInt < 35 := f_nle (by decide) rfl c13
        refine va_gets hx hb cx.2.2.2.t0.1 hS cx.1.2.2.2.1 (cx.1.2.2.2.2 _ fw_X1_shareOf_43) (fun _ h => h) dX1_shareOf_12 ?_
        refine lv_iload hx hb dX1_shareOf_15 (lv_at hl 0 rfl) ?_
        have hn14 : vp_in v10 35 := f_in (a := v10.toInt) rfl (by omega) (by omega)
        refine va_ti hx hb cx.2.2.2.t0.2 hS hn14 rfl dX1_shareOf_17 (lv_topi (fun v15 e15 => ?_))
        have t15 : 0 ≤ v15.toInt ∧ v15.toInt ≤ 400 ∧ v15.toInt / 100 + v15.toInt / 10 % 10 + v15.toInt % 10 ≤ 4 := by rw [e15]; exact zALL_v _
        refine g_ir (g_runS (wc := []) (rest := []) cx hP hD hS [] rfl (by decide) [.int v15] (c_X3_total l D k b H.size v15) gX1_shareOf_X3_total rfl rfl rfl nd_X3_total ⟨Nat.le_of_ble_eq_true rfl, Nat.le_of_ble_eq_true rfl⟩ rfl hl.1 rfl (Nat.le_of_ble_eq_true rfl) ⟨Nat.zero_le _, Nat.zero_le _⟩ dX1_shareOf_18) cx.2.2.1 hP hD hS [] rfl rfl (fun r17 H locs hw16 hP hS => ?_)
        have w18 : r17 = J_X3_total v15 := hw16
        clear hw16
        have zr17 : r17.toInt = tot v15 := tot3 w18 (show 0 ≤ v15.toInt from by first | decide | omega)
        have yr17 := tot_0 (x := v15) (by first | decide | omega)
        refine lv_iload_n hx hb dX1_shareOf_21 rfl (lv_at hl 3 rfl) ?_
        have hJ35 : ∀ (v22 : Int64) (H : Heap) (locs : List Loc) (ls : Array Slot), va_P D vwCl [cell84_ qco tco, cell35_ k qco tco, cell34_ k qco tco] H → va_D A [cell84_ qco tco, cell35_ k qco tco, cell34_ k qco tco] → va_S A s.heap H locs → lv_has ls 5 [(4, .int v10), (2, .long v22), (0, .ref (qco 0)), (1, .int p0)] → W p l e ({ frames := 1, cells := 0, slots := 0, locals := 20 } : Room) s m ([.ref (qco 0), .int p0] : List Value).toArray below meth c H locs 0 0 Q (F0 m 35 ls []) := by
          intro v22 H locs ls  hP hD hS hl
          obtain ⟨v23, e23⟩ : ∃ z : Int32, z = v10 + 1 := ⟨_, rfl⟩
          refine lv_iinc (v := v23) (lv' := [(4, .int v23), (2, .long v22), (0, .ref (qco 0)), (1, .int p0)]) hx hb dX1_shareOf_35 hl (k := 0) rfl (by rw [e23]; rfl) (by decide) rfl (fun ls hl => ?_)
          have t23 : v23.toInt = v10.toInt + 1 := by rw [e23]; exact i_add rfl (by decide) (by omega) (by omega)
          refine lv_goto (tgt := 5) hx hb dX1_shareOf_38 (by decide) ?_
          exact ih5 v23 v22 _ _ _ (by omega) (by first | decide | omega) hP hD hS (lv_sub hl [0, 1, 2, 3] rfl)
        refine lv_icmp_ne (tgt := 35) hx hb dX1_shareOf_22 (by decide) (fun c24 => ?_) (fun c24 => ?_)
        · have f24 : ¬ r17.toInt = p0.toInt := f_ne rfl rfl c24
          exact hJ35 v11 _ _ _  hP hD hS (lv_sub hl [0, 1, 2, 3] rfl)
        · have f24 : r17.toInt = p0.toInt := f_eq rfl rfl c24
          refine lv_lload_n hx hb dX1_shareOf_25 rfl (lv_at hl 1 rfl) ?_
          refine lv_aload_n hx hb dX1_shareOf_26 rfl (lv_at hl 2 rfl) ?_
          refine g_get cx hP iw_X1_shareOf_X1 0 rfl rfl 0 (by decide) rfl fw_X1_shareOf_11 rfl dX1_shareOf_27 ?_
          refine lv_iload hx hb dX1_shareOf_30 (lv_at hl 0 rfl) ?_
          have hn25 : vp_in v10 35 := f_in (a := v10.toInt) rfl (by omega) (by omega)
          refine va_lald hx hb cx.2.1 hP 1 1 rfl rfl hn25 dX1_shareOf_32 (lv_topl (fun v26 e26 => ?_))
          refine lv_ladd hx hb dX1_shareOf_33 (lv_topl (fun v27 e27 => ?_))
          refine lv_lstore_n (lv' := [(2, .long v27), (4, .int v10), (0, .ref (qco 0)), (1, .int p0)]) hx hb dX1_shareOf_34 rfl hl (by decide) rfl (fun ls hl => ?_)
          exact hJ35 v27 _ _ _  hP hD hS (lv_sub hl [1, 0, 2, 3] rfl)
  have hlit28 : (0 : Int32).toInt = 0 := by decide
  have hlit29 : (0 : Int32).toInt = 0 := by decide
  exact hL5 (Int.toNat (35 - 0) + 1) 0 0 _ _ _ (by omega) (by first | decide | omega) hP hD hS (lv_sub hl [0, 1, 2, 3] rfl)
