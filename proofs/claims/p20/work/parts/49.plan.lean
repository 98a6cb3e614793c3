theorem fw_X6_leastFrom_13 : Cond.fieldLink RX6 13 "StillInAugust$Plan" "cost" "[J" ∈ wsX6_leastFrom := by decide +kernel
theorem nd_X6_place : yX6_place.cls ≠ "java/lang/invoke/MethodHandle" ∧ yX6_place.cls ≠ "java/lang/invoke/VarHandle" ∧ (parseMethodDescriptor yX6_place.desc).map (fun d => d.parameters.length) = some 3 := by decide +kernel
theorem iw_X6_leastFrom_X6 : ∀ w ∈ u_ws RX6 TX6 5, w ∈ wsX6_leastFrom := fun _ h => List.mem_cons_of_mem _ (List.mem_append_right _ h)
set_option maxHeartbeats 4000000 in
set_option maxRecDepth 100000 in
theorem c_X6_leastFrom (l : Launch) (D : va_G) (k : Nat → ClassId) (b : Nat → Nat) (qpl : Nat → Nat) (spl : Nat → Nat → Int32) (tpl : Nat → Nat → Int64) (sz : Nat) (p0 : Int32) (p1 : Int32) (p2 : Int32) (hv : 0 ≤ p1.toInt ∧ p1.toInt ≤ 400 ∧ tot p1 ≤ 4) (hp0 : 0 ≤ p0.toInt ∧ p0.toInt ≤ 5) (hp2 : 0 ≤ p2.toInt ∧ p2.toInt ≤ 2) : MetL l D k b yX6_leastFrom wsX6_leastFrom ({ frames := 1, cells := 0, slots := 0, locals := 23 } : Room) [cell65_ qpl spl, cell26_ k qpl tpl, cell23_ k qpl spl, cell24_ k qpl tpl, cell25_ k qpl spl] sz [.ref (qpl 0), .int p0, .int p1, .int p2] (fun (r : Int64) (u : Unit) => True) (fun u => [cell65_ qpl spl, cell26_ k qpl tpl, cell23_ k qpl spl, cell24_ k qpl tpl, cell25_ k qpl spl]) := by
  refine g_enter (cc := cX6_leastFrom) (maxL := 4) (ret := (some .long)) (by decide) rfl (Nat.le_of_ble_eq_true rfl) ?_
  intro p e s m below meth c A hsz hAe cx hr hP hD hS ls hl
  rw [hAe]
  refine g_q (fun Q hQ => ?_)
  have hx := cx.1.1
  have hb := cx.1.2.1
  have bp0 := i_rng p0
  have bp1 := i_rng p1
  have bp2 := i_rng p2
  have hl : lv_has ls 4 [(0, .ref (qpl 0)), (1, .int p0), (2, .int p1), (3, .int p2)] := hl
  obtain ⟨H, eH⟩ : ∃ H : Heap, H = s.heap := ⟨_, rfl⟩
  obtain ⟨locs, el⟩ : ∃ L : List Loc, L = [] := ⟨_, rfl⟩
  have hP : va_P D vwCl [cell65_ qpl spl, cell26_ k qpl tpl, cell23_ k qpl spl, cell24_ k qpl tpl, cell25_ k qpl spl] H := by rw [eH]; exact hP
  have hD : va_D A [cell65_ qpl spl, cell26_ k qpl tpl, cell23_ k qpl spl, cell24_ k qpl tpl, cell25_ k qpl spl] := hD
  have hS : va_S A s.heap H locs := by rw [eH, el]; exact hS
  suffices goal : W p l e ({ frames := 1, cells := 0, slots := 0, locals := 23 } : Room) s m ([.ref (qpl 0), .int p0, .int p1, .int p2] : List Value).toArray below meth c H locs 0 0 Q (F0 m 0 ls []) by rw [eH, el] at goal; exact goal
  refine lv_aload_n hx hb dX6_leastFrom_0 rfl (lv_at hl 0 rfl) ?_
  refine g_get cx hP iw_X6_leastFrom_X6 0 rfl rfl 1 (by decide) rfl fw_X6_leastFrom_13 rfl dX6_leastFrom_1 ?_
  refine lv_iload_n hx hb dX6_leastFrom_4 rfl (lv_at hl 1 rfl) ?_
  refine lv_iload_n hx hb dX6_leastFrom_5 rfl (lv_at hl 2 rfl) ?_
  refine g_ir (g_runS (wc := []) (rest := [.int p0, .ref (qpl 1)]) cx hP hD hS [] rfl (by decide) [.int p1] (c_X3_kind l D k b H.size p1 ⟨by first | decide | omega, by first | decide | omega, (show tot p1 ≤ 4 from by first | decide | omega)⟩) gX6_leastFrom_X3_kind rfl rfl rfl nd_X3_kind ⟨Nat.le_of_ble_eq_true rfl, Nat.le_of_ble_eq_true rfl⟩ rfl hl.1 rfl (Nat.le_of_ble_eq_true rfl) ⟨Nat.zero_le _, Nat.zero_le _⟩ dX6_leastFrom_6) cx.2.2.1 hP hD hS [] rfl rfl (fun r2 H locs hw1 hP hS => ?_)
  have w3 : r2 = J_X3_kind p1 := hw1
  clear hw1
  have zr2 := kind_t w3 ⟨by first | decide | omega, by first | decide | omega, (show tot p1 ≤ 4 from by first | decide | omega)⟩
  refine lv_iload_n hx hb dX6_leastFrom_9 rfl (lv_at hl 3 rfl) ?_
  refine g_ir (g_runS (wc := []) (rest := [.ref (qpl 1)]) cx hP hD hS [] rfl (by decide) [.int p0, .int r2, .int p2] (c_X6_place l D k b H.size p0 r2 p2) gX6_leastFrom_X6_place rfl rfl rfl nd_X6_place ⟨Nat.le_of_ble_eq_true rfl, Nat.le_of_ble_eq_true rfl⟩ rfl hl.1 rfl (Nat.le_of_ble_eq_true rfl) ⟨Nat.zero_le _, Nat.zero_le _⟩ dX6_leastFrom_10) cx.2.2.1 hP hD hS [] rfl rfl (fun r5 H locs hw4 hP hS => ?_)
  have w6 : r5 = J_X6_place p0 r2 p2 := hw4
  clear hw4
  have zr5 : r5.toInt = (p0.toInt * 3 + p2.toInt) * 35 + r2.toInt := place_t w6 ⟨by omega, by omega⟩ ⟨by omega, by omega⟩ ⟨by omega, by omega⟩
  have hn7 : vp_in r5 630 := f_in (a := r5.toInt) rfl (by omega) (by omega)
  refine va_lald hx hb cx.2.1 hP 1 1 rfl rfl hn7 dX6_leastFrom_13 (lv_topl (fun v8 e8 => ?_))
  rw [hQ]
  exact x_l cx hr () hP hD hS trivial dX6_leastFrom_14
theorem fw_X6_firstAct_17 : Cond.fieldLink RX6 17 "StillInAugust$Plan" "first" "[I" ∈ wsX6_firstAct := by decide +kernel
theorem iw_X6_firstAct_X6 : ∀ w ∈ u_ws RX6 TX6 5, w ∈ wsX6_firstAct := fun _ h => List.mem_cons_of_mem _ (List.mem_append_right _ h)
set_option maxHeartbeats 4000000 in
set_option maxRecDepth 100000 in
theorem c_X6_firstAct (l : Launch) (D : va_G) (k : Nat → ClassId) (b : Nat → Nat) (qpl : Nat → Nat) (spl : Nat → Nat → Int32) (tpl : Nat → Nat → Int64) (sz : Nat) (p0 : Int32) (p1 : Int32) (p2 : Int32) (hv : 0 ≤ p1.toInt ∧ p1.toInt ≤ 400 ∧ tot p1 ≤ 4) (hp0 : 0 ≤ p0.toInt ∧ p0.toInt ≤ 4) (hp2 : 0 ≤ p2.toInt ∧ p2.toInt ≤ 2) : MetI l D k b yX6_firstAct wsX6_firstAct ({ frames := 1, cells := 0, slots := 0, locals := 23 } : Room) [cell65_ qpl spl, cell26_ k qpl tpl, cell23_ k qpl spl, cell24_ k qpl tpl, cell25_ k qpl spl] sz [.ref (qpl 0), .int p0, .int p1, .int p2] (fun (r : Int32) (u : Unit) => True) (fun u => [cell65_ qpl spl, cell26_ k qpl tpl, cell23_ k qpl spl, cell24_ k qpl tpl, cell25_ k qpl spl]) := by
  refine g_enter (cc := cX6_firstAct) (maxL := 4) (ret := (some .int)) (by decide) rfl (Nat.le_of_ble_eq_true rfl) ?_
  intro p e s m below meth c A hsz hAe cx hr hP hD hS ls hl
  rw [hAe]
  refine g_q (fun Q hQ => ?_)
  have hx := cx.1.1
  have hb := cx.1.2.1
  have bp0 := i_rng p0
  have bp1 := i_rng p1
  have bp2 := i_rng p2
  have hl : lv_has ls 4 [(0, .ref (qpl 0)), (1, .int p0), (2, .int p1), (3, .int p2)] := hl
  obtain ⟨H, eH⟩ : ∃ H : Heap, H = s.heap := ⟨_, rfl⟩
  obtain ⟨locs, el⟩ : ∃ L : List Loc, L = [] := ⟨_, rfl⟩
  have hP : va_P D vwCl [cell65_ qpl spl, cell26_ k qpl tpl, cell23_ k qpl spl, cell24_ k qpl tpl, cell25_ k qpl spl] H := by rw [eH]; exact hP
  have hD : va_D A [cell65_ qpl spl, cell26_ k qpl tpl, cell23_ k qpl spl, cell24_ k qpl tpl, cell25_ k qpl spl] := hD
  have hS : va_S A s.heap H locs := by rw [eH, el]; exact hS
  suffices goal : W p l e ({ frames := 1, cells := 0, slots := 0, locals := 23 } : Room) s m ([.ref (qpl 0), .int p0, .int p1, .int p2] : List Value).toArray below meth c H locs 0 0 Q (F0 m 0 ls []) by rw [eH, el] at goal; exact goal
  refine lv_aload_n hx hb dX6_firstAct_0 rfl (lv_at hl 0 rfl) ?_
  refine g_get cx hP iw_X6_firstAct_X6 0 rfl rfl 2 (by decide) rfl fw_X6_firstAct_17 rfl dX6_firstAct_1 ?_
  refine lv_iload_n hx hb dX6_firstAct_4 rfl (lv_at hl 1 rfl) ?_
  refine lv_iload_n hx hb dX6_firstAct_5 rfl (lv_at hl 2 rfl) ?_
  refine g_ir (g_runS (wc := []) (rest := [.int p0, .ref (qpl 2)]) cx hP hD hS [] rfl (by decide) [.int p1] (c_X3_kind l D k b H.size p1 ⟨by first | decide | omega, by first | decide | omega, (show tot p1 ≤ 4 from by first | decide | omega)⟩) gX6_firstAct_X3_kind rfl rfl rfl nd_X3_kind ⟨Nat.le_of_ble_eq_true rfl, Nat.le_of_ble_eq_true rfl⟩ rfl hl.1 rfl (Nat.le_of_ble_eq_true rfl) ⟨Nat.zero_le _, Nat.zero_le _⟩ dX6_firstAct_6) cx.2.2.1 hP hD hS [] rfl rfl (fun r2 H locs hw1 hP hS => ?_)
  have w3 : r2 = J_X3_kind p1 := hw1
  clear hw1
  have zr2 := kind_t w3 ⟨by first | decide | omega, by first | decide | omega, (show tot p1 ≤ 4 from by first | decide | omega)⟩
  refine lv_iload_n hx hb dX6_firstAct_9 rfl (lv_at hl 3 rfl) ?_
  refine g_ir (g_runS (wc := []) (rest := [.ref (qpl 2)]) cx hP hD hS [] rfl (by decide) [.int p0, .int r2, .int p2] (c_X6_place l D k b H.size p0 r2 p2) gX6_firstAct_X6_place rfl rfl rfl nd_X6_place ⟨Nat.le_of_ble_eq_true rfl, Nat.le_of_ble_eq_true rfl⟩ rfl hl.1 rfl (Nat.le_of_ble_eq_true rfl) ⟨Nat.zero_le _, Nat.zero_le _⟩ dX6_firstAct_10) cx.2.2.1 hP hD hS [] rfl rfl (fun r5 H locs hw4 hP hS => ?_)
  have w6 : r5 = J_X6_place p0 r2 p2 := hw4
  clear hw4
  have zr5 : r5.toInt = (p0.toInt * 3 + p2.toInt) * 35 + r2.toInt := place_t w6 ⟨by omega, by omega⟩ ⟨by omega, by omega⟩ ⟨by omega, by omega⟩
  have hn7 : vp_in r5 525 := f_in (a := r5.toInt) rfl (by omega) (by omega)
  refine va_iald hx hb cx.2.1 hP 2 0 rfl rfl hn7 dX6_firstAct_13 (lv_topi (fun v8 e8 => ?_))
  rw [hQ]
  exact x_i cx hr () hP hD hS trivial dX6_firstAct_14
theorem fw_X6_scale_35 : Cond.fieldLink RX6 35 "StillInAugust$Plan" "SCALES" "[J" ∈ wsX6_scale := by decide +kernel
theorem fw_X6_scale_38 : Cond.fieldLink RX6 38 "StillInAugust$Plan" "weeks" "I" ∈ wsX6_scale := by decide +kernel
theorem iw_X6_scale_X6 : ∀ w ∈ u_ws RX6 TX6 5, w ∈ wsX6_scale := fun _ h => List.mem_cons_of_mem _ (List.mem_append_right _ h)
set_option maxHeartbeats 4000000 in
set_option maxRecDepth 100000 in
theorem c_X6_scale (l : Launch) (D : va_G) (k : Nat → ClassId) (b : Nat → Nat) (qpl : Nat → Nat) (spl : Nat → Nat → Int32) (tpl : Nat → Nat → Int64) (sz : Nat) (p0 : Int32) (h_pw : 0 ≤ (spl 0 0).toInt ∧ (spl 0 0).toInt ≤ 5) (h_pl : p0.toInt ≤ (spl 0 0).toInt) (hp0 : 0 ≤ p0.toInt ∧ p0.toInt ≤ 5) : MetL l D k b yX6_scale wsX6_scale ({ frames := 0, cells := 0, slots := 0, locals := 0 } : Room) [cell65_ qpl spl, cell26_ k qpl tpl, cell23_ k qpl spl, cell24_ k qpl tpl, cell25_ k qpl spl] sz [.ref (qpl 0), .int p0] (fun (r : Int64) (u : Unit) => True) (fun u => [cell65_ qpl spl, cell26_ k qpl tpl, cell23_ k qpl spl, cell24_ k qpl tpl, cell25_ k qpl spl]) := by
  refine g_enter (cc := cX6_scale) (maxL := 2) (ret := (some .long)) (by decide) rfl (Nat.le_of_ble_eq_true rfl) ?_
  intro p e s m below meth c A hsz hAe cx hr hP hD hS ls hl
  rw [hAe]
  refine g_q (fun Q hQ => ?_)
  have hx := cx.1.1
  have hb := cx.1.2.1
  have bp0 := i_rng p0
  have hl : lv_has ls 2 [(0, .ref (qpl 0)), (1, .int p0)] := hl
  obtain ⟨H, eH⟩ : ∃ H : Heap, H = s.heap := ⟨_, rfl⟩
  obtain ⟨locs, el⟩ : ∃ L : List Loc, L = [] := ⟨_, rfl⟩
  have hP : va_P D vwCl [cell65_ qpl spl, cell26_ k qpl tpl, cell23_ k qpl spl, cell24_ k qpl tpl, cell25_ k qpl spl] H := by rw [eH]; exact hP
  have hD : va_D A [cell65_ qpl spl, cell26_ k qpl tpl, cell23_ k qpl spl, cell24_ k qpl tpl, cell25_ k qpl spl] := hD
  have hS : va_S A s.heap H locs := by rw [eH, el]; exact hS
  suffices goal : W p l e ({ frames := 0, cells := 0, slots := 0, locals := 0 } : Room) s m ([.ref (qpl 0), .int p0] : List Value).toArray below meth c H locs 0 0 Q (F0 m 0 ls []) by rw [eH, el] at goal; exact goal
  refine va_gets hx hb cx.2.2.2.t4.1 hS cx.1.2.2.2.1 (cx.1.2.2.2.2 _ fw_X6_scale_35) (fun _ h => h) dX6_scale_0 ?_
  refine lv_aload_n hx hb dX6_scale_3 rfl (lv_at hl 0 rfl) ?_
  refine g_get cx hP iw_X6_scale_X6 0 rfl rfl 0 (by decide) rfl fw_X6_scale_38 rfl dX6_scale_4 ?_
  refine lv_iload_n hx hb dX6_scale_7 rfl (lv_at hl 1 rfl) ?_
  refine lv_isub hx hb dX6_scale_8 (lv_topi (fun v1 e1 => ?_))
  have t1 : v1.toInt = (spl 0 0).toInt - p0.toInt := by rw [e1]; exact i_sub rfl rfl (by omega) (by omega)
  have hn2 : vp_in v1 6 := f_in (a := v1.toInt) rfl (by omega) (by omega)
  refine va_tl hx hb cx.2.2.2.t4.2 hS hn2 rfl dX6_scale_9 (lv_topl (fun v3 e3 => ?_))
  rw [hQ]
  exact x_l cx hr () hP hD hS trivial dX6_scale_10
theorem fw_X6_meanBehind_13 : Cond.fieldLink RX6 13 "StillInAugust$Plan" "cost" "[J" ∈ wsX6_meanBehind := by decide +kernel
theorem iw_X6_meanBehind_X6 : ∀ w ∈ u_ws RX6 TX6 5, w ∈ wsX6_meanBehind := fun _ h => List.mem_cons_of_mem _ (List.mem_append_left _ (List.mem_append_right _ h))
set_option maxHeartbeats 4000000 in
set_option maxRecDepth 100000 in
theorem c_X6_meanBehind (l : Launch) (D : va_G) (k : Nat → ClassId) (b : Nat → Nat) (qpl : Nat → Nat) (spl : Nat → Nat → Int32) (tpl : Nat → Nat → Int64) (qh : Nat → Nat) (sh : Nat → Nat → Int32) (sz : Nat) (p0 : Int32) (p1 : Int32) (p2 : Int32) (h_su : SUok (sh 5)) (hp0 : 0 ≤ p0.toInt ∧ p0.toInt ≤ 34) (hp1 : 0 ≤ p1.toInt ∧ p1.toInt ≤ 5) (hp2 : 0 ≤ p2.toInt ∧ p2.toInt ≤ 2) : MetL l D k b yX6_meanBehind wsX6_meanBehind ({ frames := 1, cells := 0, slots := 0, locals := 22 } : Room) [cell65_ qpl spl, cell26_ k qpl tpl, cell23_ k qpl spl, cell24_ k qpl tpl, cell25_ k qpl spl, cell32_ qh sh, cell0_ k qh sh, cell1_ k qh sh, cell4_ k qh sh, cell3_ k qh sh, cell2_ k qh sh] sz [.ref (qpl 0), .ref (qh 0), .int p0, .int p1, .int p2] (fun (r : Int64) (u : Unit) => True) (fun u => [cell65_ qpl spl, cell26_ k qpl tpl, cell23_ k qpl spl, cell24_ k qpl tpl, cell25_ k qpl spl, cell32_ qh sh, cell0_ k qh sh, cell1_ k qh sh, cell4_ k qh sh, cell3_ k qh sh, cell2_ k qh sh]) := by
  refine g_enter (cc := cX6_meanBehind) (maxL := 8) (ret := (some .long)) (by decide) rfl (Nat.le_of_ble_eq_true rfl) ?_
  intro p e s m below meth c A hsz hAe cx hr hP hD hS ls hl
  rw [hAe]
  refine g_q (fun Q hQ => ?_)
  have hx := cx.1.1
  have hb := cx.1.2.1
  have bp0 := i_rng p0
  have bp1 := i_rng p1
  have bp2 := i_rng p2
  have hl : lv_has ls 8 [(0, .ref (qpl 0)), (1, .ref (qh 0)), (2, .int p0), (3, .int p1), (4, .int p2)] := hl
  obtain ⟨H, eH⟩ : ∃ H : Heap, H = s.heap := ⟨_, rfl⟩
  obtain ⟨locs, el⟩ : ∃ L : List Loc, L = [] := ⟨_, rfl⟩
  have hP : va_P D vwCl [cell65_ qpl spl, cell26_ k qpl tpl, cell23_ k qpl spl, cell24_ k qpl tpl, cell25_ k qpl spl, cell32_ qh sh, cell0_ k qh sh, cell1_ k qh sh, cell4_ k qh sh, cell3_ k qh sh, cell2_ k qh sh] H := by rw [eH]; exact hP
  have hD : va_D A [cell65_ qpl spl, cell26_ k qpl tpl, cell23_ k qpl spl, cell24_ k qpl tpl, cell25_ k qpl spl, cell32_ qh sh, cell0_ k qh sh, cell1_ k qh sh, cell4_ k qh sh, cell3_ k qh sh, cell2_ k qh sh] := hD
  have hS : va_S A s.heap H locs := by rw [eH, el]; exact hS
  suffices goal : W p l e ({ frames := 1, cells := 0, slots := 0, locals := 22 } : Room) s m ([.ref (qpl 0), .ref (qh 0), .int p0, .int p1, .int p2] : List Value).toArray below meth c H locs 0 0 Q (F0 m 0 ls []) by rw [eH, el] at goal; exact goal
  refine lv_lconst (v := 0) hx hb dX6_meanBehind_0 (by decide) ?_
  refine lv_lstore (lv' := [(5, .long 0), (0, .ref (qpl 0)), (1, .ref (qh 0)), (2, .int p0), (3, .int p1), (4, .int p2)]) hx hb dX6_meanBehind_1 hl (by decide) rfl (fun ls hl => ?_)
  refine lv_iconst (v := 0) hx hb dX6_meanBehind_3 (by decide) ?_
  refine lv_istore (lv' := [(7, .int 0), (5, .long 0), (0, .ref (qpl 0)), (1, .ref (qh 0)), (2, .int p0), (3, .int p1), (4, .int p2)]) hx hb dX6_meanBehind_4 hl (by decide) rfl (fun ls hl => ?_)
  have hL6 : ∀ (n20 : Nat) (v18 : Int32) (v19 : Int64) (H : Heap) (locs : List Loc) (ls : Array Slot), 15 - v18.toInt < (n20 : Int) → (0 ≤ v18.toInt ∧ v18.toInt ≤ 15) → va_P D vwCl [cell65_ qpl spl, cell26_ k qpl tpl, cell23_ k qpl spl, cell24_ k qpl tpl, cell25_ k qpl spl, cell32_ qh sh, cell0_ k qh sh, cell1_ k qh sh, cell4_ k qh sh, cell3_ k qh sh, cell2_ k qh sh] H → va_D A [cell65_ qpl spl, cell26_ k qpl tpl, cell23_ k qpl spl, cell24_ k qpl tpl, cell25_ k qpl spl, cell32_ qh sh, cell0_ k qh sh, cell1_ k qh sh, cell4_ k qh sh, cell3_ k qh sh, cell2_ k qh sh] → va_S A s.heap H locs → lv_has ls 8 [(7, .int v18), (5, .long v19), (0, .ref (qpl 0)), (1, .ref (qh 0)), (2, .int p0), (3, .int p1), (4, .int p2)] → W p l e ({ frames := 1, cells := 0, slots := 0, locals := 22 } : Room) s m ([.ref (qpl 0), .ref (qh 0), .int p0, .int p1, .int p2] : List Value).toArray below meth c H locs 0 0 Q (F0 m 6 ls []) := by
    intro n20
    induction n20 with
    | zero => intro v18 v19 H locs ls hmn20 bv18 hP hD hS hl; exact absurd hmn20 (by omega)
    | succ n20 ih6 =>
      intro v18 v19 H locs ls hmn20 bv18 hP hD hS hl
      refine lv_iload hx hb dX6_meanBehind_6 (lv_at hl 0 rfl) ?_
      refine lv_bipush (v := 15) hx hb dX6_meanBehind_8 (by decide) ?_
      refine lv_icmp_ge (tgt := 46) hx hb dX6_meanBehind_10 (by decide) (fun c21 => ?_) (fun c21 => ?_)
      · have f21 : 15 ≤ v18.toInt := f_le (by decide) rfl c21
        refine lv_lload hx hb dX6_meanBehind_46 (lv_at hl 1 rfl) ?_
        rw [hQ]
        exact x_l cx hr () hP hD hS trivial dX6_meanBehind_48
      · have f21 : v18.toInt < 15 := f_nle (by decide) rfl c21
        refine lv_lload hx hb dX6_meanBehind_13 (lv_at hl 1 rfl) ?_
        refine lv_aload_n hx hb dX6_meanBehind_15 rfl (lv_at hl 3 rfl) ?_
        refine lv_iload_n hx hb dX6_meanBehind_16 rfl (lv_at hl 4 rfl) ?_
        refine lv_iload hx hb dX6_meanBehind_17 (lv_at hl 0 rfl) ?_
        refine g_ir (g_runV (wc := [cell32_ qh sh, cell0_ k qh sh, cell1_ k qh sh, cell4_ k qh sh, cell3_ k qh sh, cell2_ k qh sh]) (rest := [.long v19]) cx hP hD hS [5, 6, 7, 8, 9, 10] rfl (by decide) [.int p0, .int v18] (c_X4_partsTo l D k b qh sh H.size p0 v18 (show SUok (sh 5) from by assumption) (show 0 ≤ p0.toInt ∧ p0.toInt ≤ 34 from by first | decide | omega) (show 0 ≤ v18.toInt ∧ v18.toInt ≤ 14 from by first | decide | omega)) gX6_meanBehind_X4_partsTo rfl rfl rfl nd_X4_partsTo ⟨Nat.le_of_ble_eq_true rfl, Nat.le_of_ble_eq_true rfl⟩ (ci := 2) (q0 := 0) rfl rfl rfl hl.1 rfl (Nat.le_of_ble_eq_true rfl) ⟨Nat.zero_le _, Nat.zero_le _⟩ dX6_meanBehind_19) cx.2.2.1 hP hD hS [5, 6, 7, 8, 9, 10] rfl rfl (fun r23 H locs hw22 hP hS => ?_)
        replace hw22 : (r23 = 0 ∨ totN v18.toNatClampNeg ≤ totN p0.toNatClampNeg) ∧ (r23 = J_X4_partsTo sh p0 v18) := hw22
        obtain ⟨w24, w25⟩ := hw22
        have k27 : r23 = (J_X4_partsTo sh p0 v18) := congrArg (fun z => z) w25
        obtain ⟨v28, e28⟩ : ∃ z : Int64, z = (r23 : Int32).toInt64 := ⟨_, rfl⟩
        refine lv_i2l (v := v28) hx hb dX6_meanBehind_22 e28.symm ?_
        refine lv_aload_n hx hb dX6_meanBehind_23 rfl (lv_at hl 2 rfl) ?_
        refine g_get cx hP iw_X6_meanBehind_X6 0 rfl rfl 1 (by decide) rfl fw_X6_meanBehind_13 rfl dX6_meanBehind_24 ?_
        refine lv_iload_n hx hb dX6_meanBehind_27 rfl (lv_at hl 5 rfl) ?_
        refine lv_iload hx hb dX6_meanBehind_28 (lv_at hl 0 rfl) ?_
        refine lv_iload hx hb dX6_meanBehind_30 (lv_at hl 6 rfl) ?_
        refine g_ir (g_runS (wc := []) (rest := [.ref (qpl 1), .long v28, .long v19]) cx hP hD hS [] rfl (by decide) [.int p1, .int v18, .int p2] (c_X6_place l D k b H.size p1 v18 p2) gX6_meanBehind_X6_place rfl rfl rfl nd_X6_place ⟨Nat.le_of_ble_eq_true rfl, Nat.le_of_ble_eq_true rfl⟩ rfl hl.1 rfl (Nat.le_of_ble_eq_true rfl) ⟨Nat.zero_le _, Nat.zero_le _⟩ dX6_meanBehind_32) cx.2.2.1 hP hD hS [] rfl rfl (fun r30 H locs hw29 hP hS => ?_)
        have w31 : r30 = J_X6_place p1 v18 p2 := hw29
        clear hw29
        have zr30 : r30.toInt = (p1.toInt * 3 + p2.toInt) * 35 + v18.toInt := place_t w31 ⟨by omega, by omega⟩ ⟨by omega, by omega⟩ ⟨by omega, by omega⟩
        have hn32 : vp_in r30 630 := f_in (a := r30.toInt) rfl (by omega) (by omega)
        refine va_lald hx hb cx.2.1 hP 1 1 rfl rfl hn32 dX6_meanBehind_35 (lv_topl (fun v33 e33 => ?_))
        refine lv_lmul hx hb dX6_meanBehind_36 (lv_topl (fun v34 e34 => ?_))
        refine lv_ladd hx hb dX6_meanBehind_37 (lv_topl (fun v35 e35 => ?_))
        refine lv_lstore (lv' := [(5, .long v35), (7, .int v18), (0, .ref (qpl 0)), (1, .ref (qh 0)), (2, .int p0), (3, .int p1), (4, .int p2)]) hx hb dX6_meanBehind_38 hl (by decide) rfl (fun ls hl => ?_)
        obtain ⟨v36, e36⟩ : ∃ z : Int32, z = v18 + 1 := ⟨_, rfl⟩
        refine lv_iinc (v := v36) (lv' := [(7, .int v36), (5, .long v35), (0, .ref (qpl 0)), (1, .ref (qh 0)), (2, .int p0), (3, .int p1), (4, .int p2)]) hx hb dX6_meanBehind_40 hl (k := 1) rfl (by rw [e36]; rfl) (by decide) rfl (fun ls hl => ?_)
        have t36 : v36.toInt = v18.toInt + 1 := by rw [e36]; exact i_add rfl (by decide) (by omega) (by omega)
        refine lv_goto (tgt := 6) hx hb dX6_meanBehind_43 (by decide) ?_
        exact ih6 v36 v35 _ _ _ (by omega) (by first | decide | omega) hP hD hS (lv_sub hl [0, 1, 2, 3, 4, 5, 6] rfl)
  have hlit37 : (0 : Int32).toInt = 0 := by decide
  have hlit38 : (0 : Int32).toInt = 0 := by decide
  exact hL6 (Int.toNat (15 - 0) + 1) 0 0 _ _ _ (by omega) (by first | decide | omega) hP hD hS (lv_sub hl [0, 1, 2, 3, 4, 5, 6] rfl)
theorem fw_X6_chooseOrders_21 : Cond.fieldLink RX6 21 "StillInAugust$Plan" "later" "[J" ∈ wsX6_chooseOrders := by decide +kernel
theorem fw_X6_chooseOrders_24 : Cond.fieldLink RX6 24 "StillInAugust$Plan" "order" "[I" ∈ wsX6_chooseOrders := by decide +kernel
theorem fw_X6_chooseOrders_45 : Cond.fieldLink RX6 45 "StillInAugust$Hands" "ALL" "[I" ∈ wsX6_chooseOrders := by decide +kernel
theorem fw_X6_chooseOrders_64 : Cond.fieldLink RX6 64 "StillInAugust$House" "hooks" "I" ∈ wsX6_chooseOrders := by decide +kernel
theorem nd_X6_meanBehind : yX6_meanBehind.cls = RX6 ∧ yX6_meanBehind.cls ≠ "java/lang/invoke/MethodHandle" ∧ yX6_meanBehind.cls ≠ "java/lang/invoke/VarHandle" ∧ (parseMethodDescriptor yX6_meanBehind.desc).map (fun d => d.parameters.length) = some 4 := by decide +kernel
theorem iw_X6_chooseOrders_X4 : ∀ w ∈ u_ws RX4 TX4 14, w ∈ wsX6_chooseOrders := fun _ h => List.mem_cons_of_mem _ (List.mem_append_left _ (List.mem_append_right _ h))
theorem iw_X6_chooseOrders_X6 : ∀ w ∈ u_ws RX6 TX6 5, w ∈ wsX6_chooseOrders := fun _ h => List.mem_cons_of_mem _ (List.mem_append_right _ h)
set_option maxHeartbeats 4000000 in
set_option maxRecDepth 100000 in
theorem c_X6_chooseOrders (l : Launch) (D : va_G) (k : Nat → ClassId) (b : Nat → Nat) (qpl : Nat → Nat) (spl : Nat → Nat → Int32) (tpl : Nat → Nat → Int64) (qh : Nat → Nat) (sh : Nat → Nat → Int32) (sz : Nat) (p0 : Int32) (h_su : SUok (sh 5)) (h_wk : 0 ≤ (sh 0 0).toInt ∧ (sh 0 0).toInt ≤ 5) (hp0 : 0 ≤ p0.toInt ∧ p0.toInt ≤ 4) : MetV l D k b yX6_chooseOrders wsX6_chooseOrders ({ frames := 2, cells := 0, slots := 0, locals := 49 } : Room) [cell65_ qpl spl, cell26_ k qpl tpl, cell23_ k qpl spl, cell24_ k qpl tpl, cell25_ k qpl spl, cell32_ qh sh, cell0_ k qh sh, cell1_ k qh sh, cell4_ k qh sh, cell3_ k qh sh, cell2_ k qh sh] sz [.ref (qpl 0), .ref (qh 0), .int p0] (fun (u : (Nat → Int64) × (Nat → Int32)) => True) (fun u => [cell65_ qpl spl, cell26_ k qpl tpl, cell23_ k qpl spl, cell115_ k qpl (u.1), cell116_ k qpl (u.2), cell32_ qh sh, cell0_ k qh sh, cell1_ k qh sh, cell4_ k qh sh, cell3_ k qh sh, cell2_ k qh sh]) := by
  refine g_enter (cc := cX6_chooseOrders) (maxL := 8) (ret := none) (by decide) rfl (Nat.le_of_ble_eq_true rfl) ?_
  intro p e s m below meth c A hsz hAe cx hr hP hD hS ls hl
  rw [hAe]
  refine g_q (fun Q hQ => ?_)
  have hx := cx.1.1
  have hb := cx.1.2.1
  have bp0 := i_rng p0
  have hl : lv_has ls 8 [(0, .ref (qpl 0)), (1, .ref (qh 0)), (2, .int p0)] := hl
  obtain ⟨H, eH⟩ : ∃ H : Heap, H = s.heap := ⟨_, rfl⟩
  obtain ⟨locs, el⟩ : ∃ L : List Loc, L = [] := ⟨_, rfl⟩
  have hP : va_P D vwCl [cell65_ qpl spl, cell26_ k qpl tpl, cell23_ k qpl spl, cell24_ k qpl tpl, cell25_ k qpl spl, cell32_ qh sh, cell0_ k qh sh, cell1_ k qh sh, cell4_ k qh sh, cell3_ k qh sh, cell2_ k qh sh] H := by rw [eH]; exact hP
  have hD : va_D A [cell65_ qpl spl, cell26_ k qpl tpl, cell23_ k qpl spl, cell24_ k qpl tpl, cell25_ k qpl spl, cell32_ qh sh, cell0_ k qh sh, cell1_ k qh sh, cell4_ k qh sh, cell3_ k qh sh, cell2_ k qh sh] := hD
  have hS : va_S A s.heap H locs := by rw [eH, el]; exact hS
  suffices goal : W p l e ({ frames := 2, cells := 0, slots := 0, locals := 49 } : Room) s m ([.ref (qpl 0), .ref (qh 0), .int p0] : List Value).toArray below meth c H locs 0 0 Q (F0 m 0 ls []) by rw [eH, el] at goal; exact goal
  refine lv_aload_n hx hb dX6_chooseOrders_0 rfl (lv_at hl 1 rfl) ?_
  refine lv_iload_n hx hb dX6_chooseOrders_1 rfl (lv_at hl 2 rfl) ?_
  refine g_ir (g_runV (wc := [cell32_ qh sh, cell0_ k qh sh, cell1_ k qh sh, cell4_ k qh sh, cell3_ k qh sh, cell2_ k qh sh]) (rest := []) cx hP hD hS [5, 6, 7, 8, 9, 10] rfl (by decide) [.int p0] (c_X4_mostOrdered l D k b qh sh H.size p0 (show 0 ≤ (sh 0 0).toInt ∧ (sh 0 0).toInt ≤ 5 from by first | decide | omega)) gX6_chooseOrders_X4_mostOrdered rfl rfl rfl nd_X4_mostOrdered ⟨Nat.le_of_ble_eq_true rfl, Nat.le_of_ble_eq_true rfl⟩ (ci := 2) (q0 := 0) rfl rfl rfl hl.1 rfl (Nat.le_of_ble_eq_true rfl) ⟨Nat.zero_le _, Nat.zero_le _⟩ dX6_chooseOrders_2) cx.2.2.1 hP hD hS [5, 6, 7, 8, 9, 10] rfl rfl (fun r2 H locs hw1 hP hS => ?_)
  replace hw1 : (0 ≤ r2.toInt ∧ r2.toInt ≤ 2) ∧ (r2 = J_X4_mostOrdered sh p0) := hw1
  obtain ⟨w3, w4⟩ := hw1
  have k6 : r2 = (J_X4_mostOrdered sh p0) := congrArg (fun z => z) w4
  refine lv_istore_n (lv' := [(3, .int r2), (0, .ref (qpl 0)), (1, .ref (qh 0)), (2, .int p0)]) hx hb dX6_chooseOrders_5 rfl hl (by decide) rfl (fun ls hl => ?_)
  refine lv_iconst (v := 0) hx hb dX6_chooseOrders_6 (by decide) ?_
  refine lv_istore (lv' := [(4, .int 0), (3, .int r2), (0, .ref (qpl 0)), (1, .ref (qh 0)), (2, .int p0)]) hx hb dX6_chooseOrders_7 hl (by decide) rfl (fun ls hl => ?_)
  have hL9 : ∀ (n29 : Nat) (v26 : Int32) (g27 : Nat → Int64) (g28 : Nat → Int32) (H : Heap) (locs : List Loc) (ls : Array Slot), 35 - v26.toInt < (n29 : Int) → (0 ≤ v26.toInt ∧ v26.toInt ≤ 35) → va_P D vwCl [cell65_ qpl spl, cell26_ k qpl tpl, cell23_ k qpl spl, (qpl 3, .inl (k 1, 35, .inr (.inl g27))), (qpl 4, .inl (k 0, 35, .inl g28)), cell32_ qh sh, cell0_ k qh sh, cell1_ k qh sh, cell4_ k qh sh, cell3_ k qh sh, cell2_ k qh sh] H → va_D A [cell65_ qpl spl, cell26_ k qpl tpl, cell23_ k qpl spl, (qpl 3, .inl (k 1, 35, .inr (.inl g27))), (qpl 4, .inl (k 0, 35, .inl g28)), cell32_ qh sh, cell0_ k qh sh, cell1_ k qh sh, cell4_ k qh sh, cell3_ k qh sh, cell2_ k qh sh] → va_S A s.heap H locs → lv_has ls 8 [(4, .int v26), (3, .int r2), (0, .ref (qpl 0)), (1, .ref (qh 0)), (2, .int p0)] → W p l e ({ frames := 2, cells := 0, slots := 0, locals := 49 } : Room) s m ([.ref (qpl 0), .ref (qh 0), .int p0] : List Value).toArray below meth c H locs 0 0 Q (F0 m 9 ls []) := by
    intro n29
    induction n29 with
    | zero => intro v26 g27 g28 H locs ls hmn29 bv26 hP hD hS hl; exact absurd hmn29 (by omega)
    | succ n29 ih9 =>
      intro v26 g27 g28 H locs ls hmn29 bv26 hP hD hS hl
      refine lv_iload hx hb dX6_chooseOrders_9 (lv_at hl 0 rfl) ?_
      refine lv_bipush (v := 35) hx hb dX6_chooseOrders_11 (by decide) ?_
      refine lv_icmp_ge (tgt := 106) hx hb dX6_chooseOrders_13 (by decide) (fun c30 => ?_) (fun c30 => ?_)
      · have f30 : 35 ≤ v26.toInt := f_le (by decide) rfl c30
        rw [hQ]
        exact x_v cx hr (g27, g28) hP hD hS trivial dX6_chooseOrders_106
      · have f30 : v26.toInt < 35 := f_nle (by decide) rfl c30
        refine va_gets hx hb cx.2.2.2.t0.1 hS cx.1.2.2.2.1 (cx.1.2.2.2.2 _ fw_X6_chooseOrders_45) (fun _ h => h) dX6_chooseOrders_16 ?_
        refine lv_iload hx hb dX6_chooseOrders_19 (lv_at hl 0 rfl) ?_
        have hn31 : vp_in v26 35 := f_in (a := v26.toInt) rfl (by omega) (by omega)
        refine va_ti hx hb cx.2.2.2.t0.2 hS hn31 rfl dX6_chooseOrders_21 (lv_topi (fun v32 e32 => ?_))
        have t32 : 0 ≤ v32.toInt ∧ v32.toInt ≤ 400 ∧ v32.toInt / 100 + v32.toInt / 10 % 10 + v32.toInt % 10 ≤ 4 := by rw [e32]; exact zALL_v _
        refine g_ir (g_runS (wc := []) (rest := []) cx hP hD hS [] rfl (by decide) [.int v32] (c_X3_total l D k b H.size v32) gX6_chooseOrders_X3_total rfl rfl rfl nd_X3_total ⟨Nat.le_of_ble_eq_true rfl, Nat.le_of_ble_eq_true rfl⟩ rfl hl.1 rfl (Nat.le_of_ble_eq_true rfl) ⟨Nat.zero_le _, Nat.zero_le _⟩ dX6_chooseOrders_22) cx.2.2.1 hP hD hS [] rfl rfl (fun r34 H locs hw33 hP hS => ?_)
        have w35 : r34 = J_X3_total v32 := hw33
        clear hw33
        have zr34 : r34.toInt = tot v32 := tot3 w35 (show 0 ≤ v32.toInt from by first | decide | omega)
        have yr34 := tot_0 (x := v32) (by first | decide | omega)
        refine lv_aload_n hx hb dX6_chooseOrders_25 rfl (lv_at hl 3 rfl) ?_
        refine g_get cx hP iw_X6_chooseOrders_X4 5 rfl rfl 1 (by decide) rfl fw_X6_chooseOrders_64 rfl dX6_chooseOrders_26 ?_
        have hJ100 : ∀ (g66 : Nat → Int64) (g67 : Nat → Int32) (H : Heap) (locs : List Loc) (ls : Array Slot), va_P D vwCl [cell65_ qpl spl, cell26_ k qpl tpl, cell23_ k qpl spl, (qpl 3, .inl (k 1, 35, .inr (.inl g66))), (qpl 4, .inl (k 0, 35, .inl g67)), cell32_ qh sh, cell0_ k qh sh, cell1_ k qh sh, cell4_ k qh sh, cell3_ k qh sh, cell2_ k qh sh] H → va_D A [cell65_ qpl spl, cell26_ k qpl tpl, cell23_ k qpl spl, (qpl 3, .inl (k 1, 35, .inr (.inl g66))), (qpl 4, .inl (k 0, 35, .inl g67)), cell32_ qh sh, cell0_ k qh sh, cell1_ k qh sh, cell4_ k qh sh, cell3_ k qh sh, cell2_ k qh sh] → va_S A s.heap H locs → lv_has ls 8 [(4, .int v26), (3, .int r2), (0, .ref (qpl 0)), (1, .ref (qh 0)), (2, .int p0)] → W p l e ({ frames := 2, cells := 0, slots := 0, locals := 49 } : Room) s m ([.ref (qpl 0), .ref (qh 0), .int p0] : List Value).toArray below meth c H locs 0 0 Q (F0 m 100 ls []) := by
          intro g66 g67 H locs ls  hP hD hS hl
          obtain ⟨v68, e68⟩ : ∃ z : Int32, z = v26 + 1 := ⟨_, rfl⟩
          refine lv_iinc (v := v68) (lv' := [(4, .int v68), (3, .int r2), (0, .ref (qpl 0)), (1, .ref (qh 0)), (2, .int p0)]) hx hb dX6_chooseOrders_100 hl (k := 0) rfl (by rw [e68]; rfl) (by decide) rfl (fun ls hl => ?_)
          have t68 : v68.toInt = v26.toInt + 1 := by rw [e68]; exact i_add rfl (by decide) (by omega) (by omega)
          refine lv_goto (tgt := 9) hx hb dX6_chooseOrders_103 (by decide) ?_
          exact ih9 v68 g66 g67 _ _ _ (by omega) (by first | decide | omega) hP hD hS (lv_sub hl [0, 1, 2, 3, 4] rfl)
        refine lv_icmp_le (tgt := 35) hx hb dX6_chooseOrders_29 (by decide) (fun c69 => ?_) (fun c69 => ?_)
        · have f69 : r34.toInt ≤ (sh 0 1).toInt := f_le rfl rfl c69
          refine lv_iconst (v := 0) hx hb dX6_chooseOrders_35 (by decide) ?_
          refine lv_istore (lv' := [(5, .int 0), (4, .int v26), (3, .int r2), (0, .ref (qpl 0)), (1, .ref (qh 0)), (2, .int p0)]) hx hb dX6_chooseOrders_36 hl (by decide) rfl (fun ls hl => ?_)
          have hL38 : ∀ (n85 : Nat) (v82 : Int32) (g83 : Nat → Int64) (g84 : Nat → Int32) (H : Heap) (locs : List Loc) (ls : Array Slot), 3 - v82.toInt < (n85 : Int) → (0 ≤ v82.toInt ∧ v82.toInt ≤ 3) → va_P D vwCl [cell65_ qpl spl, cell26_ k qpl tpl, cell23_ k qpl spl, (qpl 3, .inl (k 1, 35, .inr (.inl g83))), (qpl 4, .inl (k 0, 35, .inl g84)), cell32_ qh sh, cell0_ k qh sh, cell1_ k qh sh, cell4_ k qh sh, cell3_ k qh sh, cell2_ k qh sh] H → va_D A [cell65_ qpl spl, cell26_ k qpl tpl, cell23_ k qpl spl, (qpl 3, .inl (k 1, 35, .inr (.inl g83))), (qpl 4, .inl (k 0, 35, .inl g84)), cell32_ qh sh, cell0_ k qh sh, cell1_ k qh sh, cell4_ k qh sh, cell3_ k qh sh, cell2_ k qh sh] → va_S A s.heap H locs → lv_has ls 8 [(5, .int v82), (4, .int v26), (3, .int r2), (0, .ref (qpl 0)), (1, .ref (qh 0)), (2, .int p0)] → W p l e ({ frames := 2, cells := 0, slots := 0, locals := 49 } : Room) s m ([.ref (qpl 0), .ref (qh 0), .int p0] : List Value).toArray below meth c H locs 0 0 Q (F0 m 38 ls []) := by
            intro n85
            induction n85 with
            | zero => intro v82 g83 g84 H locs ls hmn85 bv82 hP hD hS hl; exact absurd hmn85 (by omega)
            | succ n85 ih38 =>
              intro v82 g83 g84 H locs ls hmn85 bv82 hP hD hS hl
              refine lv_iload hx hb dX6_chooseOrders_38 (lv_at hl 0 rfl) ?_
              refine lv_iload_n hx hb dX6_chooseOrders_40 rfl (lv_at hl 2 rfl) ?_
              refine lv_icmp_gt (tgt := 100) hx hb dX6_chooseOrders_41 (by decide) (fun c86 => ?_) (fun c86 => ?_)
              · have f86 : r2.toInt < v82.toInt := f_lt rfl rfl c86
                exact hJ100 g83 g84 _ _ _  hP hD hS (lv_sub hl [1, 2, 3, 4, 5] rfl)
              · have f86 : v82.toInt ≤ r2.toInt := f_nlt rfl rfl c86
                refine lv_aload_n hx hb dX6_chooseOrders_44 rfl (lv_at hl 3 rfl) ?_
                refine lv_aload_n hx hb dX6_chooseOrders_45 rfl (lv_at hl 4 rfl) ?_
                refine lv_iload hx hb dX6_chooseOrders_46 (lv_at hl 1 rfl) ?_
                refine lv_iload_n hx hb dX6_chooseOrders_48 rfl (lv_at hl 5 rfl) ?_
                refine lv_iconst (v := 1) hx hb dX6_chooseOrders_49 (by decide) ?_
                refine lv_iadd hx hb dX6_chooseOrders_50 (lv_topi (fun v87 e87 => ?_))
                have t87 : v87.toInt = p0.toInt + 1 := by rw [e87]; exact i_add rfl (by decide) (by omega) (by omega)
                refine lv_iload hx hb dX6_chooseOrders_51 (lv_at hl 0 rfl) ?_
                refine g_lF (w1 := fun (_ : Unit) => [cell65_ qpl spl, cell26_ k qpl tpl, cell23_ k qpl spl, (qpl 3, .inl (k 1, 35, .inr (.inl g83))), (qpl 4, .inl (k 0, 35, .inl g84)), cell32_ qh sh, cell0_ k qh sh, cell1_ k qh sh, cell4_ k qh sh, cell3_ k qh sh, cell2_ k qh sh]) (g_runVF (ws := [cell65_ qpl spl, cell26_ k qpl tpl, cell23_ k qpl spl, (qpl 3, .inl (k 1, 35, .inr (.inl g83))), (qpl 4, .inl (k 0, 35, .inl g84)), cell32_ qh sh, cell0_ k qh sh, cell1_ k qh sh, cell4_ k qh sh, cell3_ k qh sh, cell2_ k qh sh]) (rest := []) cx hP hD hS [.ref (qh 0), .int v26, .int v87, .int v82] (c_X6_meanBehind l D k b qpl (up2 spl 4 g84) (up2L tpl 3 g83) qh sh H.size v26 v87 v82 (show SUok (sh 5) from by assumption) (show 0 ≤ v26.toInt ∧ v26.toInt ≤ 34 from by first | decide | omega) (show 0 ≤ v87.toInt ∧ v87.toInt ≤ 5 from by first | decide | omega) (show 0 ≤ v82.toInt ∧ v82.toInt ≤ 2 from by first | decide | omega)) gX6_chooseOrders_X6_meanBehind rfl rfl rfl nd_X6_meanBehind ⟨Nat.le_of_ble_eq_true rfl, Nat.le_of_ble_eq_true rfl⟩ (ci := 4) (q0 := 0) rfl rfl rfl hl.1 rfl (Nat.le_of_ble_eq_true rfl) ⟨Nat.zero_le _, Nat.zero_le _⟩ dX6_chooseOrders_53) cx.2.2.1 hD hS (fun r89 _ H locs hw88 hP hD hS => ?_)
                clear hw88
                refine lv_lstore (lv' := [(6, .long r89), (5, .int v82), (4, .int v26), (3, .int r2), (0, .ref (qpl 0)), (1, .ref (qh 0)), (2, .int p0)]) hx hb dX6_chooseOrders_56 hl (by decide) rfl (fun ls hl => ?_)
                refine lv_iload hx hb dX6_chooseOrders_58 (lv_at hl 1 rfl) ?_
                have hJ94 : ∀ (g101 : Nat → Int64) (g102 : Nat → Int32) (H : Heap) (locs : List Loc) (ls : Array Slot), va_P D vwCl [cell65_ qpl spl, cell26_ k qpl tpl, cell23_ k qpl spl, (qpl 3, .inl (k 1, 35, .inr (.inl g101))), (qpl 4, .inl (k 0, 35, .inl g102)), cell32_ qh sh, cell0_ k qh sh, cell1_ k qh sh, cell4_ k qh sh, cell3_ k qh sh, cell2_ k qh sh] H → va_D A [cell65_ qpl spl, cell26_ k qpl tpl, cell23_ k qpl spl, (qpl 3, .inl (k 1, 35, .inr (.inl g101))), (qpl 4, .inl (k 0, 35, .inl g102)), cell32_ qh sh, cell0_ k qh sh, cell1_ k qh sh, cell4_ k qh sh, cell3_ k qh sh, cell2_ k qh sh] → va_S A s.heap H locs → lv_has ls 8 [(5, .int v82), (4, .int v26), (3, .int r2), (0, .ref (qpl 0)), (1, .ref (qh 0)), (2, .int p0)] → W p l e ({ frames := 2, cells := 0, slots := 0, locals := 49 } : Room) s m ([.ref (qpl 0), .ref (qh 0), .int p0] : List Value).toArray below meth c H locs 0 0 Q (F0 m 94 ls []) := by
                  intro g101 g102 H locs ls  hP hD hS hl
                  obtain ⟨v103, e103⟩ : ∃ z : Int32, z = v82 + 1 := ⟨_, rfl⟩
                  refine lv_iinc (v := v103) (lv' := [(5, .int v103), (4, .int v26), (3, .int r2), (0, .ref (qpl 0)), (1, .ref (qh 0)), (2, .int p0)]) hx hb dX6_chooseOrders_94 hl (k := 0) rfl (by rw [e103]; rfl) (by decide) rfl (fun ls hl => ?_)
                  have t103 : v103.toInt = v82.toInt + 1 := by rw [e103]; exact i_add rfl (by decide) (by omega) (by omega)
                  refine lv_goto (tgt := 38) hx hb dX6_chooseOrders_97 (by decide) ?_
                  exact ih38 v103 g101 g102 _ _ _ (by omega) (by first | decide | omega) hP hD hS (lv_sub hl [0, 1, 2, 3, 4, 5] rfl)
                have hJ76 : ∀  (H : Heap) (locs : List Loc) (ls : Array Slot), va_P D vwCl [cell65_ qpl spl, cell26_ k qpl tpl, cell23_ k qpl spl, (qpl 3, .inl (k 1, 35, .inr (.inl g83))), (qpl 4, .inl (k 0, 35, .inl g84)), cell32_ qh sh, cell0_ k qh sh, cell1_ k qh sh, cell4_ k qh sh, cell3_ k qh sh, cell2_ k qh sh] H → va_D A [cell65_ qpl spl, cell26_ k qpl tpl, cell23_ k qpl spl, (qpl 3, .inl (k 1, 35, .inr (.inl g83))), (qpl 4, .inl (k 0, 35, .inl g84)), cell32_ qh sh, cell0_ k qh sh, cell1_ k qh sh, cell4_ k qh sh, cell3_ k qh sh, cell2_ k qh sh] → va_S A s.heap H locs → lv_has ls 8 [(6, .long r89), (5, .int v82), (4, .int v26), (3, .int r2), (0, .ref (qpl 0)), (1, .ref (qh 0)), (2, .int p0)] → W p l e ({ frames := 2, cells := 0, slots := 0, locals := 49 } : Room) s m ([.ref (qpl 0), .ref (qh 0), .int p0] : List Value).toArray below meth c H locs 0 0 Q (F0 m 76 ls []) := by
                  intro  H locs ls  hP hD hS hl
                  refine lv_aload_n hx hb dX6_chooseOrders_76 rfl (lv_at hl 4 rfl) ?_
                  refine g_get cx hP iw_X6_chooseOrders_X6 0 rfl rfl 3 (by decide) rfl fw_X6_chooseOrders_21 rfl dX6_chooseOrders_77 ?_
                  refine lv_iload hx hb dX6_chooseOrders_80 (lv_at hl 2 rfl) ?_
                  refine lv_lload hx hb dX6_chooseOrders_82 (lv_at hl 0 rfl) ?_
                  have hn107 : vp_in v26 35 := f_in (a := v26.toInt) rfl (by omega) (by omega)
                  refine va_last hx hb cx.2.1 hP hD hS 3 1 rfl rfl hn107 dX6_chooseOrders_84 (fun H locs hP hD hS => ?_)
                  obtain ⟨g108, eg108⟩ : ∃ g : Nat → Int64, g = vp_updL g83 (v26).toNatClampNeg r89 := ⟨_, rfl⟩
                  rw [← eg108] at hP hD
                  have hP : va_P D vwCl [cell65_ qpl spl, cell26_ k qpl tpl, cell23_ k qpl spl, (qpl 3, .inl (k 1, 35, .inr (.inl g108))), (qpl 4, .inl (k 0, 35, .inl g84)), cell32_ qh sh, cell0_ k qh sh, cell1_ k qh sh, cell4_ k qh sh, cell3_ k qh sh, cell2_ k qh sh] H := hP
                  have hD : va_D A [cell65_ qpl spl, cell26_ k qpl tpl, cell23_ k qpl spl, (qpl 3, .inl (k 1, 35, .inr (.inl g108))), (qpl 4, .inl (k 0, 35, .inl g84)), cell32_ qh sh, cell0_ k qh sh, cell1_ k qh sh, cell4_ k qh sh, cell3_ k qh sh, cell2_ k qh sh] := hD
                  refine lv_aload_n hx hb dX6_chooseOrders_85 rfl (lv_at hl 4 rfl) ?_
                  refine g_get cx hP iw_X6_chooseOrders_X6 0 rfl rfl 4 (by decide) rfl fw_X6_chooseOrders_24 rfl dX6_chooseOrders_86 ?_
                  refine lv_iload hx hb dX6_chooseOrders_89 (lv_at hl 2 rfl) ?_
                  refine lv_iload hx hb dX6_chooseOrders_91 (lv_at hl 1 rfl) ?_
                  have hn109 : vp_in v26 35 := f_in (a := v26.toInt) rfl (by omega) (by omega)
                  refine va_iast hx hb cx.2.1 hP hD hS 4 0 rfl rfl hn109 dX6_chooseOrders_93 (fun H locs hP hD hS => ?_)
                  obtain ⟨g110, eg110⟩ : ∃ g : Nat → Int32, g = upd g84 (v26).toNatClampNeg v82 := ⟨_, rfl⟩
                  rw [← eg110] at hP hD
                  have hP : va_P D vwCl [cell65_ qpl spl, cell26_ k qpl tpl, cell23_ k qpl spl, (qpl 3, .inl (k 1, 35, .inr (.inl g108))), (qpl 4, .inl (k 0, 35, .inl g110)), cell32_ qh sh, cell0_ k qh sh, cell1_ k qh sh, cell4_ k qh sh, cell3_ k qh sh, cell2_ k qh sh] H := hP
                  have hD : va_D A [cell65_ qpl spl, cell26_ k qpl tpl, cell23_ k qpl spl, (qpl 3, .inl (k 1, 35, .inr (.inl g108))), (qpl 4, .inl (k 0, 35, .inl g110)), cell32_ qh sh, cell0_ k qh sh, cell1_ k qh sh, cell4_ k qh sh, cell3_ k qh sh, cell2_ k qh sh] := hD
                  exact hJ94 g108 g110 _ _ _  hP hD hS (lv_sub hl [1, 2, 3, 4, 5, 6] rfl)
                refine lv_if_eq (tgt := 76) hx hb dX6_chooseOrders_60 (by decide) (fun c111 => ?_) (fun c111 => ?_)
                · have f111 : v82.toInt = 0 := f_eq rfl (by decide) c111
                  exact hJ76  _ _ _  hP hD hS (lv_sub hl [0, 1, 2, 3, 4, 5, 6] rfl)
                · have f111 : ¬ v82.toInt = 0 := f_ne rfl (by decide) c111
                  refine lv_lload hx hb dX6_chooseOrders_63 (lv_at hl 0 rfl) ?_
                  refine lv_aload_n hx hb dX6_chooseOrders_65 rfl (lv_at hl 4 rfl) ?_
                  refine g_get cx hP iw_X6_chooseOrders_X6 0 rfl rfl 3 (by decide) rfl fw_X6_chooseOrders_21 rfl dX6_chooseOrders_66 ?_
                  refine lv_iload hx hb dX6_chooseOrders_69 (lv_at hl 2 rfl) ?_
                  have hn112 : vp_in v26 35 := f_in (a := v26.toInt) rfl (by omega) (by omega)
                  refine va_lald hx hb cx.2.1 hP 3 1 rfl rfl hn112 dX6_chooseOrders_71 (lv_topl (fun v113 e113 => ?_))
                  refine W.lcmp hx hb dX6_chooseOrders_72 (lv_topi (fun v114 e114 => ?_))
                  refine lv_if_ge (tgt := 94) hx hb dX6_chooseOrders_73 (by decide) (fun c115 => ?_) (fun c115 => ?_)
                  · have f115 : 0 ≤ v114.toInt := f_le (by decide) rfl c115
                    exact hJ94 g83 g84 _ _ _  hP hD hS (lv_sub hl [1, 2, 3, 4, 5, 6] rfl)
                  · have f115 : v114.toInt < 0 := f_nle (by decide) rfl c115
                    exact hJ76  _ _ _  hP hD hS (lv_sub hl [0, 1, 2, 3, 4, 5, 6] rfl)
          have hlit116 : (0 : Int32).toInt = 0 := by decide
          exact hL38 (Int.toNat (3 - 0) + 1) 0 g27 g28 _ _ _ (by omega) (by first | decide | omega) hP hD hS (lv_sub hl [0, 1, 2, 3, 4, 5] rfl)
        · have f69 : (sh 0 1).toInt < r34.toInt := f_nle rfl rfl c69
          refine lv_goto (tgt := 100) hx hb dX6_chooseOrders_32 (by decide) ?_
          exact hJ100 g27 g28 _ _ _  hP hD hS (lv_sub hl [0, 1, 2, 3, 4] rfl)
  have hlit117 : (0 : Int32).toInt = 0 := by decide
  exact hL9 (Int.toNat (35 - 0) + 1) 0 (tpl 3) (spl 4) _ _ _ (by omega) (by first | decide | omega) hP hD hS (lv_sub hl [0, 1, 2, 3, 4] rfl)
theorem fw_X6_chooseAct_13 : Cond.fieldLink RX6 13 "StillInAugust$Plan" "cost" "[J" ∈ wsX6_chooseAct := by decide +kernel
theorem fw_X6_chooseAct_17 : Cond.fieldLink RX6 17 "StillInAugust$Plan" "first" "[I" ∈ wsX6_chooseAct := by decide +kernel
theorem fw_X6_chooseAct_21 : Cond.fieldLink RX6 21 "StillInAugust$Plan" "later" "[J" ∈ wsX6_chooseAct := by decide +kernel
theorem fw_X6_chooseAct_24 : Cond.fieldLink RX6 24 "StillInAugust$Plan" "order" "[I" ∈ wsX6_chooseAct := by decide +kernel
theorem kJ_X6_chooseAct_85 : Cond.constantLong RX6 85 (9223372036854775807) ∈ wsX6_chooseAct := by decide +kernel
theorem nd_X0_done : yX0_done.cls ≠ "java/lang/invoke/MethodHandle" ∧ yX0_done.cls ≠ "java/lang/invoke/VarHandle" ∧ (parseMethodDescriptor yX0_done.desc).map (fun d => d.parameters.length) = some 2 := by decide +kernel
theorem nd_X6_scale : yX6_scale.cls = RX6 ∧ yX6_scale.cls ≠ "java/lang/invoke/MethodHandle" ∧ yX6_scale.cls ≠ "java/lang/invoke/VarHandle" ∧ (parseMethodDescriptor yX6_scale.desc).map (fun d => d.parameters.length) = some 1 := by decide +kernel
theorem iw_X6_chooseAct_X6 : ∀ w ∈ u_ws RX6 TX6 5, w ∈ wsX6_chooseAct := fun _ h => List.mem_cons_of_mem _ (List.mem_append_left _ (List.mem_append_right _ h))
set_option maxHeartbeats 4000000 in
set_option maxRecDepth 100000 in
theorem c_X6_chooseAct (l : Launch) (D : va_G) (k : Nat → ClassId) (b : Nat → Nat) (qpl : Nat → Nat) (spl : Nat → Nat → Int32) (tpl : Nat → Nat → Int64) (qh : Nat → Nat) (sh : Nat → Nat → Int32) (sz : Nat) (p0 : Int32) (p1 : Int32) (p2 : Int32) (h_pw : 0 ≤ (spl 0 0).toInt ∧ (spl 0 0).toInt ≤ 5) (h_pl : p0.toInt ≤ (spl 0 0).toInt) (h_hk : 0 ≤ (sh 0 1).toInt ∧ (sh 0 1).toInt ≤ 4) (h_of : ∀ j, 0 ≤ (sh 2 j).toInt ∧ (sh 2 j).toInt ≤ 4) (hv : 0 ≤ p1.toInt ∧ p1.toInt ≤ 400 ∧ tot p1 ≤ 4) (hp0 : 0 ≤ p0.toInt ∧ p0.toInt ≤ 4) (hp2 : 0 ≤ p2.toInt ∧ p2.toInt ≤ 2) : MetV l D k b yX6_chooseAct wsX6_chooseAct ({ frames := 3, cells := 0, slots := 0, locals := 65 } : Room) [cell65_ qpl spl, cell26_ k qpl tpl, cell23_ k qpl spl, cell24_ k qpl tpl, cell25_ k qpl spl, cell32_ qh sh, cell0_ k qh sh, cell1_ k qh sh, cell4_ k qh sh, cell3_ k qh sh, cell2_ k qh sh] sz [.ref (qpl 0), .ref (qh 0), .int p0, .int p1, .int p2] (fun (u : (Nat → Int64) × (Nat → Int32)) => True) (fun u => [cell65_ qpl spl, cell108_ k qpl (u.1), cell109_ k qpl (u.2), cell24_ k qpl tpl, cell25_ k qpl spl, cell32_ qh sh, cell0_ k qh sh, cell1_ k qh sh, cell4_ k qh sh, cell3_ k qh sh, cell2_ k qh sh]) := by
  refine g_enter (cc := cX6_chooseAct) (maxL := 22) (ret := none) (by decide) rfl (Nat.le_of_ble_eq_true rfl) ?_
  intro p e s m below meth c A hsz hAe cx hr hP hD hS ls hl
  rw [hAe]
  refine g_q (fun Q hQ => ?_)
  have hx := cx.1.1
  have hb := cx.1.2.1
  have bp0 := i_rng p0
  have bp1 := i_rng p1
  have bp2 := i_rng p2
  have hl : lv_has ls 22 [(0, .ref (qpl 0)), (1, .ref (qh 0)), (2, .int p0), (3, .int p1), (4, .int p2)] := hl
  obtain ⟨H, eH⟩ : ∃ H : Heap, H = s.heap := ⟨_, rfl⟩
  obtain ⟨locs, el⟩ : ∃ L : List Loc, L = [] := ⟨_, rfl⟩
  have hP : va_P D vwCl [cell65_ qpl spl, cell26_ k qpl tpl, cell23_ k qpl spl, cell24_ k qpl tpl, cell25_ k qpl spl, cell32_ qh sh, cell0_ k qh sh, cell1_ k qh sh, cell4_ k qh sh, cell3_ k qh sh, cell2_ k qh sh] H := by rw [eH]; exact hP
  have hD : va_D A [cell65_ qpl spl, cell26_ k qpl tpl, cell23_ k qpl spl, cell24_ k qpl tpl, cell25_ k qpl spl, cell32_ qh sh, cell0_ k qh sh, cell1_ k qh sh, cell4_ k qh sh, cell3_ k qh sh, cell2_ k qh sh] := hD
  have hS : va_S A s.heap H locs := by rw [eH, el]; exact hS
  suffices goal : W p l e ({ frames := 3, cells := 0, slots := 0, locals := 65 } : Room) s m ([.ref (qpl 0), .ref (qh 0), .int p0, .int p1, .int p2] : List Value).toArray below meth c H locs 0 0 Q (F0 m 0 ls []) by rw [eH, el] at goal; exact goal
  refine lv_ldc2 (v := 9223372036854775807) hx hb cx.1.2.2.2.1 (cx.1.2.2.2.2 _ kJ_X6_chooseAct_85) dX6_chooseAct_0 ?_
  refine lv_lstore (lv' := [(5, .long 9223372036854775807), (0, .ref (qpl 0)), (1, .ref (qh 0)), (2, .int p0), (3, .int p1), (4, .int p2)]) hx hb dX6_chooseAct_3 hl (by decide) rfl (fun ls hl => ?_)
  refine lv_iconst (v := 0) hx hb dX6_chooseAct_5 (by decide) ?_
  refine lv_istore (lv' := [(7, .int 0), (5, .long 9223372036854775807), (0, .ref (qpl 0)), (1, .ref (qh 0)), (2, .int p0), (3, .int p1), (4, .int p2)]) hx hb dX6_chooseAct_6 hl (by decide) rfl (fun ls hl => ?_)
  refine lv_aload_n hx hb dX6_chooseAct_8 rfl (lv_at hl 2 rfl) ?_
  refine lv_iload_n hx hb dX6_chooseAct_9 rfl (lv_at hl 4 rfl) ?_
  refine g_lr (g_runV (wc := [cell65_ qpl spl, cell26_ k qpl tpl, cell23_ k qpl spl, cell24_ k qpl tpl, cell25_ k qpl spl]) (rest := []) cx hP hD hS [0, 1, 2, 3, 4] rfl (by decide) [.int p0] (c_X6_scale l D k b qpl spl tpl H.size p0 (show 0 ≤ (spl 0 0).toInt ∧ (spl 0 0).toInt ≤ 5 from by first | decide | omega) (show p0.toInt ≤ (spl 0 0).toInt from by first | decide | omega) (show 0 ≤ p0.toInt ∧ p0.toInt ≤ 5 from by first | decide | omega)) gX6_chooseAct_X6_scale rfl rfl rfl nd_X6_scale ⟨Nat.le_of_ble_eq_true rfl, Nat.le_of_ble_eq_true rfl⟩ (ci := 4) (q0 := 0) rfl rfl rfl hl.1 rfl (Nat.le_of_ble_eq_true rfl) ⟨Nat.zero_le _, Nat.zero_le _⟩ dX6_chooseAct_10) cx.2.2.1 hP hD hS [0, 1, 2, 3, 4] rfl rfl (fun r2 H locs hw1 hP hS => ?_)
  clear hw1
  refine lv_lstore (lv' := [(8, .long r2), (7, .int 0), (5, .long 9223372036854775807), (0, .ref (qpl 0)), (1, .ref (qh 0)), (2, .int p0), (3, .int p1), (4, .int p2)]) hx hb dX6_chooseAct_13 hl (by decide) rfl (fun ls hl => ?_)
  refine lv_aload_n hx hb dX6_chooseAct_15 rfl (lv_at hl 4 rfl) ?_
  refine lv_iload_n hx hb dX6_chooseAct_16 rfl (lv_at hl 6 rfl) ?_
  refine g_ir (g_runV (wc := [cell32_ qh sh, cell0_ k qh sh, cell1_ k qh sh, cell4_ k qh sh, cell3_ k qh sh, cell2_ k qh sh]) (rest := []) cx hP hD hS [5, 6, 7, 8, 9, 10] rfl (by decide) [.int p1] (c_X4_mostLetGo l D k b qh sh H.size p1 (show 0 ≤ p1.toInt ∧ p1.toInt ≤ 400 ∧ tot p1 ≤ 4 from by first | decide | omega)) gX6_chooseAct_X4_mostLetGo rfl rfl rfl nd_X4_mostLetGo ⟨Nat.le_of_ble_eq_true rfl, Nat.le_of_ble_eq_true rfl⟩ (ci := 2) (q0 := 0) rfl rfl rfl hl.1 rfl (Nat.le_of_ble_eq_true rfl) ⟨Nat.zero_le _, Nat.zero_le _⟩ dX6_chooseAct_17) cx.2.2.1 hP hD hS [5, 6, 7, 8, 9, 10] rfl rfl (fun r4 H locs hw3 hP hS => ?_)
  replace hw3 : (0 ≤ r4.toInt ∧ r4.toInt ≤ tot p1) ∧ (r4 = J_X4_mostLetGo sh p1) := hw3
  obtain ⟨w5, w6⟩ := hw3
  have k8 : r4 = (J_X4_mostLetGo sh p1) := congrArg (fun z => z) w6
  refine lv_istore (lv' := [(10, .int r4), (8, .long r2), (7, .int 0), (5, .long 9223372036854775807), (0, .ref (qpl 0)), (1, .ref (qh 0)), (2, .int p0), (3, .int p1), (4, .int p2)]) hx hb dX6_chooseAct_20 hl (by decide) rfl (fun ls hl => ?_)
  refine lv_iconst (v := 0) hx hb dX6_chooseAct_22 (by decide) ?_
  refine lv_istore (lv' := [(11, .int 0), (10, .int r4), (8, .long r2), (7, .int 0), (5, .long 9223372036854775807), (0, .ref (qpl 0)), (1, .ref (qh 0)), (2, .int p0), (3, .int p1), (4, .int p2)]) hx hb dX6_chooseAct_23 hl (by decide) rfl (fun ls hl => ?_)
  have hL25 : ∀ (n59 : Nat) (v56 : Int32) (v57 : Int32) (v58 : Int64) (H : Heap) (locs : List Loc) (ls : Array Slot), 5 - v56.toInt < (n59 : Int) → (0 ≤ v56.toInt ∧ v56.toInt ≤ 5) → va_P D vwCl [cell65_ qpl spl, cell26_ k qpl tpl, cell23_ k qpl spl, cell24_ k qpl tpl, cell25_ k qpl spl, cell32_ qh sh, cell0_ k qh sh, cell1_ k qh sh, cell4_ k qh sh, cell3_ k qh sh, cell2_ k qh sh] H → va_D A [cell65_ qpl spl, cell26_ k qpl tpl, cell23_ k qpl spl, cell24_ k qpl tpl, cell25_ k qpl spl, cell32_ qh sh, cell0_ k qh sh, cell1_ k qh sh, cell4_ k qh sh, cell3_ k qh sh, cell2_ k qh sh] → va_S A s.heap H locs → lv_has ls 22 [(11, .int v56), (10, .int r4), (8, .long r2), (7, .int v57), (5, .long v58), (0, .ref (qpl 0)), (1, .ref (qh 0)), (2, .int p0), (3, .int p1), (4, .int p2)] → W p l e ({ frames := 3, cells := 0, slots := 0, locals := 65 } : Room) s m ([.ref (qpl 0), .ref (qh 0), .int p0, .int p1, .int p2] : List Value).toArray below meth c H locs 0 0 Q (F0 m 25 ls []) := by
    intro n59
    induction n59 with
    | zero => intro v56 v57 v58 H locs ls hmn59 bv56 hP hD hS hl; exact absurd hmn59 (by omega)
    | succ n59 ih25 =>
      intro v56 v57 v58 H locs ls hmn59 bv56 hP hD hS hl
      refine lv_iload hx hb dX6_chooseAct_25 (lv_at hl 0 rfl) ?_
      refine lv_iload hx hb dX6_chooseAct_27 (lv_at hl 1 rfl) ?_
      refine lv_icmp_gt (tgt := 185) hx hb dX6_chooseAct_29 (by decide) (fun c60 => ?_) (fun c60 => ?_)
      · have f60 : r4.toInt < v56.toInt := f_lt rfl rfl c60
        refine lv_iload_n hx hb dX6_chooseAct_185 rfl (lv_at hl 7 rfl) ?_
        refine lv_iload_n hx hb dX6_chooseAct_186 rfl (lv_at hl 8 rfl) ?_
        refine g_ir (g_runS (wc := []) (rest := [.int p0]) cx hP hD hS [] rfl (by decide) [.int p1] (c_X3_kind l D k b H.size p1 ⟨by first | decide | omega, by first | decide | omega, (show tot p1 ≤ 4 from by first | decide | omega)⟩) gX6_chooseAct_X3_kind rfl rfl rfl nd_X3_kind ⟨Nat.le_of_ble_eq_true rfl, Nat.le_of_ble_eq_true rfl⟩ rfl hl.1 rfl (Nat.le_of_ble_eq_true rfl) ⟨Nat.zero_le _, Nat.zero_le _⟩ dX6_chooseAct_187) cx.2.2.1 hP hD hS [] rfl rfl (fun r62 H locs hw61 hP hS => ?_)
        have w63 : r62 = J_X3_kind p1 := hw61
        clear hw61
        have zr62 := kind_t w63 ⟨by first | decide | omega, by first | decide | omega, (show tot p1 ≤ 4 from by first | decide | omega)⟩
        refine lv_iload hx hb dX6_chooseAct_190 (lv_at hl 9 rfl) ?_
        refine g_ir (g_runS (wc := []) (rest := []) cx hP hD hS [] rfl (by decide) [.int p0, .int r62, .int p2] (c_X6_place l D k b H.size p0 r62 p2) gX6_chooseAct_X6_place rfl rfl rfl nd_X6_place ⟨Nat.le_of_ble_eq_true rfl, Nat.le_of_ble_eq_true rfl⟩ rfl hl.1 rfl (Nat.le_of_ble_eq_true rfl) ⟨Nat.zero_le _, Nat.zero_le _⟩ dX6_chooseAct_192) cx.2.2.1 hP hD hS [] rfl rfl (fun r65 H locs hw64 hP hS => ?_)
        have w66 : r65 = J_X6_place p0 r62 p2 := hw64
        clear hw64
        have zr65 : r65.toInt = (p0.toInt * 3 + p2.toInt) * 35 + r62.toInt := place_t w66 ⟨by omega, by omega⟩ ⟨by omega, by omega⟩ ⟨by omega, by omega⟩
        refine lv_istore (lv' := [(11, .int r65), (10, .int r4), (8, .long r2), (7, .int v57), (5, .long v58), (0, .ref (qpl 0)), (1, .ref (qh 0)), (2, .int p0), (3, .int p1), (4, .int p2)]) hx hb dX6_chooseAct_195 hl (by decide) rfl (fun ls hl => ?_)
        refine lv_aload_n hx hb dX6_chooseAct_197 rfl (lv_at hl 5 rfl) ?_
        refine g_get cx hP iw_X6_chooseAct_X6 0 rfl rfl 1 (by decide) rfl fw_X6_chooseAct_13 rfl dX6_chooseAct_198 ?_
        refine lv_iload hx hb dX6_chooseAct_201 (lv_at hl 0 rfl) ?_
        refine lv_lload hx hb dX6_chooseAct_203 (lv_at hl 4 rfl) ?_
        have hn67 : vp_in r65 630 := f_in (a := r65.toInt) rfl (by omega) (by omega)
        refine va_last hx hb cx.2.1 hP hD hS 1 1 rfl rfl hn67 dX6_chooseAct_205 (fun H locs hP hD hS => ?_)
        obtain ⟨g68, eg68⟩ : ∃ g : Nat → Int64, g = vp_updL (tpl 1) (r65).toNatClampNeg v58 := ⟨_, rfl⟩
        rw [← eg68] at hP hD
        have hP : va_P D vwCl [cell65_ qpl spl, (qpl 1, .inl (k 1, 630, .inr (.inl g68))), cell23_ k qpl spl, cell24_ k qpl tpl, cell25_ k qpl spl, cell32_ qh sh, cell0_ k qh sh, cell1_ k qh sh, cell4_ k qh sh, cell3_ k qh sh, cell2_ k qh sh] H := hP
        have hD : va_D A [cell65_ qpl spl, (qpl 1, .inl (k 1, 630, .inr (.inl g68))), cell23_ k qpl spl, cell24_ k qpl tpl, cell25_ k qpl spl, cell32_ qh sh, cell0_ k qh sh, cell1_ k qh sh, cell4_ k qh sh, cell3_ k qh sh, cell2_ k qh sh] := hD
        refine lv_aload_n hx hb dX6_chooseAct_206 rfl (lv_at hl 5 rfl) ?_
        refine g_get cx hP iw_X6_chooseAct_X6 0 rfl rfl 2 (by decide) rfl fw_X6_chooseAct_17 rfl dX6_chooseAct_207 ?_
        refine lv_iload hx hb dX6_chooseAct_210 (lv_at hl 0 rfl) ?_
        refine lv_iload hx hb dX6_chooseAct_212 (lv_at hl 3 rfl) ?_
        have hn69 : vp_in r65 525 := f_in (a := r65.toInt) rfl (by omega) (by omega)
        refine va_iast hx hb cx.2.1 hP hD hS 2 0 rfl rfl hn69 dX6_chooseAct_214 (fun H locs hP hD hS => ?_)
        obtain ⟨g70, eg70⟩ : ∃ g : Nat → Int32, g = upd (spl 2) (r65).toNatClampNeg v57 := ⟨_, rfl⟩
        rw [← eg70] at hP hD
        have hP : va_P D vwCl [cell65_ qpl spl, (qpl 1, .inl (k 1, 630, .inr (.inl g68))), (qpl 2, .inl (k 0, 525, .inl g70)), cell24_ k qpl tpl, cell25_ k qpl spl, cell32_ qh sh, cell0_ k qh sh, cell1_ k qh sh, cell4_ k qh sh, cell3_ k qh sh, cell2_ k qh sh] H := hP
        have hD : va_D A [cell65_ qpl spl, (qpl 1, .inl (k 1, 630, .inr (.inl g68))), (qpl 2, .inl (k 0, 525, .inl g70)), cell24_ k qpl tpl, cell25_ k qpl spl, cell32_ qh sh, cell0_ k qh sh, cell1_ k qh sh, cell4_ k qh sh, cell3_ k qh sh, cell2_ k qh sh] := hD
        rw [hQ]
        exact x_v cx hr (g68, g70) hP hD hS trivial dX6_chooseAct_215
      · have f60 : v56.toInt ≤ r4.toInt := f_nlt rfl rfl c60
        refine lv_iload_n hx hb dX6_chooseAct_32 rfl (lv_at hl 8 rfl) ?_
        refine lv_iload hx hb dX6_chooseAct_33 (lv_at hl 0 rfl) ?_
        refine g_ir (g_runS (wc := []) (rest := []) cx hP hD hS [] rfl (by decide) [.int p1, .int v56] (c_X3_lessYoungestFirst l D k b H.size p1 v56) gX6_chooseAct_X3_lessYoungestFirst rfl rfl rfl nd_X3_lessYoungestFirst ⟨Nat.le_of_ble_eq_true rfl, Nat.le_of_ble_eq_true rfl⟩ rfl hl.1 rfl (Nat.le_of_ble_eq_true rfl) ⟨Nat.zero_le _, Nat.zero_le _⟩ dX6_chooseAct_35) cx.2.2.1 hP hD hS [] rfl rfl (fun r72 H locs hw71 hP hS => ?_)
        have w73 : r72 = J_X3_lessYoungestFirst p1 v56 := hw71
        clear hw71
        have lw := w73
        have lt := less_t w73 hv ⟨by omega, by omega⟩
        refine lv_istore (lv' := [(12, .int r72), (11, .int v56), (10, .int r4), (8, .long r2), (7, .int v57), (5, .long v58), (0, .ref (qpl 0)), (1, .ref (qh 0)), (2, .int p0), (3, .int p1), (4, .int p2)]) hx hb dX6_chooseAct_38 hl (by decide) rfl (fun ls hl => ?_)
        refine lv_aload_n hx hb dX6_chooseAct_40 rfl (lv_at hl 7 rfl) ?_
        refine lv_iload_n hx hb dX6_chooseAct_41 rfl (lv_at hl 8 rfl) ?_
        refine lv_iload hx hb dX6_chooseAct_42 (lv_at hl 0 rfl) ?_
        refine g_ir (g_runV (wc := [cell32_ qh sh, cell0_ k qh sh, cell1_ k qh sh, cell4_ k qh sh, cell3_ k qh sh, cell2_ k qh sh]) (rest := []) cx hP hD hS [5, 6, 7, 8, 9, 10] rfl (by decide) [.int p0, .int r72] (c_X4_mostTaken l D k b qh sh H.size p0 r72 (show 0 ≤ (sh 0 1).toInt ∧ (sh 0 1).toInt ≤ 4 from by first | decide | omega) h_of (show 0 ≤ r72.toInt ∧ r72.toInt ≤ 400 ∧ tot r72 ≤ 4 from by first | decide | omega) (show 0 ≤ p0.toInt ∧ p0.toInt ≤ 4 from by first | decide | omega)) gX6_chooseAct_X4_mostTaken rfl rfl rfl nd_X4_mostTaken ⟨Nat.le_of_ble_eq_true rfl, Nat.le_of_ble_eq_true rfl⟩ (ci := 2) (q0 := 0) rfl rfl rfl hl.1 rfl (Nat.le_of_ble_eq_true rfl) ⟨Nat.zero_le _, Nat.zero_le _⟩ dX6_chooseAct_44) cx.2.2.1 hP hD hS [5, 6, 7, 8, 9, 10] rfl rfl (fun r75 H locs hw74 hP hS => ?_)
        replace hw74 : (-4 ≤ r75.toInt ∧ r75.toInt ≤ 4 ∧ r75.toInt ≤ (sh 0 1).toInt - (tot r72)) ∧ ((sh 0 1).toInt < tot r72 ∨ 0 ≤ r75.toInt) ∧ (r75 = J_X4_mostTaken sh p0 r72) := hw74
        obtain ⟨w76, w77, w78⟩ := hw74
        have k80 : r75 = (J_X4_mostTaken sh p0 r72) := congrArg (fun z => z) w78
        refine lv_istore (lv' := [(13, .int r75), (12, .int r72), (11, .int v56), (10, .int r4), (8, .long r2), (7, .int v57), (5, .long v58), (0, .ref (qpl 0)), (1, .ref (qh 0)), (2, .int p0), (3, .int p1), (4, .int p2)]) hx hb dX6_chooseAct_47 hl (by decide) rfl (fun ls hl => ?_)
        refine lv_iconst (v := 0) hx hb dX6_chooseAct_49 (by decide) ?_
        refine lv_istore (lv' := [(14, .int 0), (13, .int r75), (12, .int r72), (11, .int v56), (10, .int r4), (8, .long r2), (7, .int v57), (5, .long v58), (0, .ref (qpl 0)), (1, .ref (qh 0)), (2, .int p0), (3, .int p1), (4, .int p2)]) hx hb dX6_chooseAct_50 hl (by decide) rfl (fun ls hl => ?_)
        have hL52 : ∀ (n119 : Nat) (v116 : Int32) (v117 : Int32) (v118 : Int64) (H : Heap) (locs : List Loc) (ls : Array Slot), 5 - v116.toInt < (n119 : Int) → (0 ≤ v116.toInt ∧ v116.toInt ≤ 5) → va_P D vwCl [cell65_ qpl spl, cell26_ k qpl tpl, cell23_ k qpl spl, cell24_ k qpl tpl, cell25_ k qpl spl, cell32_ qh sh, cell0_ k qh sh, cell1_ k qh sh, cell4_ k qh sh, cell3_ k qh sh, cell2_ k qh sh] H → va_D A [cell65_ qpl spl, cell26_ k qpl tpl, cell23_ k qpl spl, cell24_ k qpl tpl, cell25_ k qpl spl, cell32_ qh sh, cell0_ k qh sh, cell1_ k qh sh, cell4_ k qh sh, cell3_ k qh sh, cell2_ k qh sh] → va_S A s.heap H locs → lv_has ls 22 [(14, .int v116), (13, .int r75), (12, .int r72), (11, .int v56), (10, .int r4), (8, .long r2), (7, .int v117), (5, .long v118), (0, .ref (qpl 0)), (1, .ref (qh 0)), (2, .int p0), (3, .int p1), (4, .int p2)] → W p l e ({ frames := 3, cells := 0, slots := 0, locals := 65 } : Room) s m ([.ref (qpl 0), .ref (qh 0), .int p0, .int p1, .int p2] : List Value).toArray below meth c H locs 0 0 Q (F0 m 52 ls []) := by
          intro n119
          induction n119 with
          | zero => intro v116 v117 v118 H locs ls hmn119 bv116 hP hD hS hl; exact absurd hmn119 (by omega)
          | succ n119 ih52 =>
            intro v116 v117 v118 H locs ls hmn119 bv116 hP hD hS hl
            refine lv_iload hx hb dX6_chooseAct_52 (lv_at hl 0 rfl) ?_
            refine lv_iload hx hb dX6_chooseAct_54 (lv_at hl 1 rfl) ?_
            refine lv_icmp_gt (tgt := 179) hx hb dX6_chooseAct_56 (by decide) (fun c120 => ?_) (fun c120 => ?_)
            · have f120 : r75.toInt < v116.toInt := f_lt rfl rfl c120
              obtain ⟨v121, e121⟩ : ∃ z : Int32, z = v56 + 1 := ⟨_, rfl⟩
              refine lv_iinc (v := v121) (lv' := [(11, .int v121), (14, .int v116), (13, .int r75), (12, .int r72), (10, .int r4), (8, .long r2), (7, .int v117), (5, .long v118), (0, .ref (qpl 0)), (1, .ref (qh 0)), (2, .int p0), (3, .int p1), (4, .int p2)]) hx hb dX6_chooseAct_179 hl (k := 3) rfl (by rw [e121]; rfl) (by decide) rfl (fun ls hl => ?_)
              have t121 : v121.toInt = v56.toInt + 1 := by rw [e121]; exact i_add rfl (by decide) (by omega) (by omega)
              refine lv_goto (tgt := 25) hx hb dX6_chooseAct_182 (by decide) ?_
              exact ih25 v121 v117 v118 _ _ _ (by omega) (by first | decide | omega) hP hD hS (lv_sub hl [0, 4, 5, 6, 7, 8, 9, 10, 11, 12] rfl)
            · have f120 : v116.toInt ≤ r75.toInt := f_nlt rfl rfl c120
              refine lv_aload_n hx hb dX6_chooseAct_59 rfl (lv_at hl 9 rfl) ?_
              refine lv_iload hx hb dX6_chooseAct_60 (lv_at hl 2 rfl) ?_
              refine lv_bipush (v := 100) hx hb dX6_chooseAct_62 (by decide) ?_
              refine lv_iload hx hb dX6_chooseAct_64 (lv_at hl 0 rfl) ?_
              refine lv_imul hx hb dX6_chooseAct_66 (lv_topi (fun v122 e122 => ?_))
              have t122 : v122.toInt = 100 * v116.toInt := by rw [e122]; exact i_mul (by decide) rfl (by omega) (by omega)
              refine lv_iadd hx hb dX6_chooseAct_67 (lv_topi (fun v123 e123 => ?_))
              have t123 : v123.toInt = r72.toInt + v122.toInt := by rw [e123]; exact i_add rfl rfl (by omega) (by omega)
              refine g_ir (g_runV (wc := [cell32_ qh sh, cell0_ k qh sh, cell1_ k qh sh, cell4_ k qh sh, cell3_ k qh sh, cell2_ k qh sh]) (rest := []) cx hP hD hS [5, 6, 7, 8, 9, 10] rfl (by decide) [.int v123] (c_X4_mostTaught l D k b qh sh H.size v123 (show 0 ≤ v123.toInt ∧ v123.toInt ≤ 9999 from by first | decide | omega)) gX6_chooseAct_X4_mostTaught rfl rfl rfl nd_X4_mostTaught ⟨Nat.le_of_ble_eq_true rfl, Nat.le_of_ble_eq_true rfl⟩ (ci := 2) (q0 := 0) rfl rfl rfl hl.1 rfl (Nat.le_of_ble_eq_true rfl) ⟨Nat.zero_le _, Nat.zero_le _⟩ dX6_chooseAct_68) cx.2.2.1 hP hD hS [5, 6, 7, 8, 9, 10] rfl rfl (fun r125 H locs hw124 hP hS => ?_)
              replace hw124 : (r125.toInt = 0 ∨ (r125.toInt = 1 ∧ 0 < v123.toInt / 100)) ∧ (r125 = J_X4_mostTaught sh v123) := hw124
              obtain ⟨w126, w127⟩ := hw124
              have k129 : r125 = (J_X4_mostTaught sh v123) := congrArg (fun z => z) w127
              refine lv_istore (lv' := [(15, .int r125), (14, .int v116), (13, .int r75), (12, .int r72), (11, .int v56), (10, .int r4), (8, .long r2), (7, .int v117), (5, .long v118), (0, .ref (qpl 0)), (1, .ref (qh 0)), (2, .int p0), (3, .int p1), (4, .int p2)]) hx hb dX6_chooseAct_71 hl (by decide) rfl (fun ls hl => ?_)
              refine lv_iconst (v := 0) hx hb dX6_chooseAct_73 (by decide) ?_
              refine lv_istore (lv' := [(16, .int 0), (15, .int r125), (14, .int v116), (13, .int r75), (12, .int r72), (11, .int v56), (10, .int r4), (8, .long r2), (7, .int v117), (5, .long v118), (0, .ref (qpl 0)), (1, .ref (qh 0)), (2, .int p0), (3, .int p1), (4, .int p2)]) hx hb dX6_chooseAct_74 hl (by decide) rfl (fun ls hl => ?_)
              have hL76 : ∀ (n159 : Nat) (v156 : Int32) (v157 : Int32) (v158 : Int64) (H : Heap) (locs : List Loc) (ls : Array Slot), 2 - v156.toInt < (n159 : Int) → (0 ≤ v156.toInt ∧ v156.toInt ≤ 2) → va_P D vwCl [cell65_ qpl spl, cell26_ k qpl tpl, cell23_ k qpl spl, cell24_ k qpl tpl, cell25_ k qpl spl, cell32_ qh sh, cell0_ k qh sh, cell1_ k qh sh, cell4_ k qh sh, cell3_ k qh sh, cell2_ k qh sh] H → va_D A [cell65_ qpl spl, cell26_ k qpl tpl, cell23_ k qpl spl, cell24_ k qpl tpl, cell25_ k qpl spl, cell32_ qh sh, cell0_ k qh sh, cell1_ k qh sh, cell4_ k qh sh, cell3_ k qh sh, cell2_ k qh sh] → va_S A s.heap H locs → lv_has ls 22 [(16, .int v156), (15, .int r125), (14, .int v116), (13, .int r75), (12, .int r72), (11, .int v56), (10, .int r4), (8, .long r2), (7, .int v157), (5, .long v158), (0, .ref (qpl 0)), (1, .ref (qh 0)), (2, .int p0), (3, .int p1), (4, .int p2)] → W p l e ({ frames := 3, cells := 0, slots := 0, locals := 65 } : Room) s m ([.ref (qpl 0), .ref (qh 0), .int p0, .int p1, .int p2] : List Value).toArray below meth c H locs 0 0 Q (F0 m 76 ls []) := by
                intro n159
                induction n159 with
                | zero => intro v156 v157 v158 H locs ls hmn159 bv156 hP hD hS hl; exact absurd hmn159 (by omega)
                | succ n159 ih76 =>
                  intro v156 v157 v158 H locs ls hmn159 bv156 hP hD hS hl
                  refine lv_iload hx hb dX6_chooseAct_76 (lv_at hl 0 rfl) ?_
                  refine lv_iload hx hb dX6_chooseAct_78 (lv_at hl 1 rfl) ?_
                  refine lv_icmp_gt (tgt := 173) hx hb dX6_chooseAct_80 (by decide) (fun c160 => ?_) (fun c160 => ?_)
                  · have f160 : r125.toInt < v156.toInt := f_lt rfl rfl c160
                    obtain ⟨v161, e161⟩ : ∃ z : Int32, z = v116 + 1 := ⟨_, rfl⟩
                    refine lv_iinc (v := v161) (lv' := [(14, .int v161), (16, .int v156), (15, .int r125), (13, .int r75), (12, .int r72), (11, .int v56), (10, .int r4), (8, .long r2), (7, .int v157), (5, .long v158), (0, .ref (qpl 0)), (1, .ref (qh 0)), (2, .int p0), (3, .int p1), (4, .int p2)]) hx hb dX6_chooseAct_173 hl (k := 2) rfl (by rw [e161]; rfl) (by decide) rfl (fun ls hl => ?_)
                    have t161 : v161.toInt = v116.toInt + 1 := by rw [e161]; exact i_add rfl (by decide) (by omega) (by omega)
                    refine lv_goto (tgt := 52) hx hb dX6_chooseAct_176 (by decide) ?_
                    exact ih52 v161 v157 v158 _ _ _ (by omega) (by first | decide | omega) hP hD hS (lv_sub hl [0, 3, 4, 5, 6, 7, 8, 9, 10, 11, 12, 13, 14] rfl)
                  · have f160 : v156.toInt ≤ r125.toInt := f_nlt rfl rfl c160
                    refine lv_sipush (v := 1000) hx hb dX6_chooseAct_83 (by decide) ?_
                    refine lv_iload hx hb dX6_chooseAct_86 (lv_at hl 5 rfl) ?_
                    refine lv_imul hx hb dX6_chooseAct_88 (lv_topi (fun v162 e162 => ?_))
                    have t162 : v162.toInt = 1000 * v56.toInt := by rw [e162]; exact i_mul (by decide) rfl (by omega) (by omega)
                    refine lv_bipush (v := 100) hx hb dX6_chooseAct_89 (by decide) ?_
                    refine lv_iload hx hb dX6_chooseAct_91 (lv_at hl 2 rfl) ?_
                    refine lv_imul hx hb dX6_chooseAct_93 (lv_topi (fun v163 e163 => ?_))
                    have t163 : v163.toInt = 100 * v116.toInt := by rw [e163]; exact i_mul (by decide) rfl (by omega) (by omega)
                    refine lv_iadd hx hb dX6_chooseAct_94 (lv_topi (fun v164 e164 => ?_))
                    have t164 : v164.toInt = v162.toInt + v163.toInt := by rw [e164]; exact i_add rfl rfl (by omega) (by omega)
                    refine lv_bipush (v := 10) hx hb dX6_chooseAct_95 (by decide) ?_
                    refine lv_iload hx hb dX6_chooseAct_97 (lv_at hl 0 rfl) ?_
                    refine lv_imul hx hb dX6_chooseAct_99 (lv_topi (fun v165 e165 => ?_))
                    have t165 : v165.toInt = 10 * v156.toInt := by rw [e165]; exact i_mul (by decide) rfl (by omega) (by omega)
                    refine lv_iadd hx hb dX6_chooseAct_100 (lv_topi (fun v166 e166 => ?_))
                    have t166 : v166.toInt = v164.toInt + v165.toInt := by rw [e166]; exact i_add rfl rfl (by omega) (by omega)
                    refine lv_istore (lv' := [(17, .int v166), (16, .int v156), (15, .int r125), (14, .int v116), (13, .int r75), (12, .int r72), (11, .int v56), (10, .int r4), (8, .long r2), (7, .int v157), (5, .long v158), (0, .ref (qpl 0)), (1, .ref (qh 0)), (2, .int p0), (3, .int p1), (4, .int p2)]) hx hb dX6_chooseAct_101 hl (by decide) rfl (fun ls hl => ?_)
                    refine lv_iload_n hx hb dX6_chooseAct_103 rfl (lv_at hl 14 rfl) ?_
                    refine lv_iload hx hb dX6_chooseAct_104 (lv_at hl 0 rfl) ?_
                    refine g_ir (g_runS (wc := []) (rest := []) cx hP hD hS [] rfl (by decide) [.int p1, .int v166] (c_X0_done l D k b H.size p1 v166) gX6_chooseAct_X0_done rfl rfl rfl nd_X0_done ⟨Nat.le_of_ble_eq_true rfl, Nat.le_of_ble_eq_true rfl⟩ rfl hl.1 rfl (Nat.le_of_ble_eq_true rfl) ⟨Nat.zero_le _, Nat.zero_le _⟩ dX6_chooseAct_106) cx.2.2.1 hP hD hS [] rfl rfl (fun r168 H locs hw167 hP hS => ?_)
                    have w169 : r168 = J_X0_done p1 v166 := hw167
                    clear hw167
                    have ao := act_of (a := v166) (l := v56) (t := v116) (e := v156) (by omega) (by omega) ⟨by omega, by omega⟩ ⟨by omega, by omega⟩
                    have dn := done_t (X := v123.toInt) (hook := (sh 0 1).toInt) hv ao.1 ao.2.1 ao.2.2 lw (by omega) (by omega) (by omega) (by omega) (by omega) (by omega) (by omega) w169
                    refine lv_istore (lv' := [(18, .int r168), (17, .int v166), (16, .int v156), (15, .int r125), (14, .int v116), (13, .int r75), (12, .int r72), (11, .int v56), (10, .int r4), (8, .long r2), (7, .int v157), (5, .long v158), (0, .ref (qpl 0)), (1, .ref (qh 0)), (2, .int p0), (3, .int p1), (4, .int p2)]) hx hb dX6_chooseAct_109 hl (by decide) rfl (fun ls hl => ?_)
                    refine lv_iload hx hb dX6_chooseAct_111 (lv_at hl 0 rfl) ?_
                    refine g_ir (g_runS (wc := []) (rest := []) cx hP hD hS [] rfl (by decide) [.int r168] (c_X3_kind l D k b H.size r168 ⟨by first | decide | omega, by first | decide | omega, (show tot r168 ≤ 4 from by first | decide | omega)⟩) gX6_chooseAct_X3_kind rfl rfl rfl nd_X3_kind ⟨Nat.le_of_ble_eq_true rfl, Nat.le_of_ble_eq_true rfl⟩ rfl hl.1 rfl (Nat.le_of_ble_eq_true rfl) ⟨Nat.zero_le _, Nat.zero_le _⟩ dX6_chooseAct_113) cx.2.2.1 hP hD hS [] rfl rfl (fun r171 H locs hw170 hP hS => ?_)
                    have w172 : r171 = J_X3_kind r168 := hw170
                    clear hw170
                    have zr171 := kind_t w172 ⟨by first | decide | omega, by first | decide | omega, (show tot r168 ≤ 4 from by first | decide | omega)⟩
                    refine lv_istore (lv' := [(19, .int r171), (18, .int r168), (17, .int v166), (16, .int v156), (15, .int r125), (14, .int v116), (13, .int r75), (12, .int r72), (11, .int v56), (10, .int r4), (8, .long r2), (7, .int v157), (5, .long v158), (0, .ref (qpl 0)), (1, .ref (qh 0)), (2, .int p0), (3, .int p1), (4, .int p2)]) hx hb dX6_chooseAct_116 hl (by decide) rfl (fun ls hl => ?_)
                    refine lv_aload_n hx hb dX6_chooseAct_118 rfl (lv_at hl 14 rfl) ?_
                    refine lv_iload_n hx hb dX6_chooseAct_119 rfl (lv_at hl 15 rfl) ?_
                    refine lv_iload hx hb dX6_chooseAct_120 (lv_at hl 1 rfl) ?_
                    refine lv_iload hx hb dX6_chooseAct_122 (lv_at hl 17 rfl) ?_
                    refine lv_iload hx hb dX6_chooseAct_124 (lv_at hl 2 rfl) ?_
                    refine g_ir (g_runV (wc := [cell32_ qh sh, cell0_ k qh sh, cell1_ k qh sh, cell4_ k qh sh, cell3_ k qh sh, cell2_ k qh sh]) (rest := []) cx hP hD hS [5, 6, 7, 8, 9, 10] rfl (by decide) [.int p0, .int r168, .int p2, .int v166] (c_X4_weekCost l D k b qh sh H.size p0 r168 p2 v166 (show 0 ≤ p0.toInt ∧ p0.toInt ≤ 4 from by first | decide | omega)) gX6_chooseAct_X4_weekCost rfl rfl rfl nd_X4_weekCost ⟨Nat.le_of_ble_eq_true rfl, Nat.le_of_ble_eq_true rfl⟩ (ci := 2) (q0 := 0) rfl rfl rfl hl.1 rfl (Nat.le_of_ble_eq_true rfl) ⟨Nat.zero_le _, Nat.zero_le _⟩ dX6_chooseAct_126) cx.2.2.1 hP hD hS [5, 6, 7, 8, 9, 10] rfl rfl (fun r174 H locs hw173 hP hS => ?_)
                    have w175 : r174 = J_X4_weekCost sh p0 r168 p2 v166 := hw173
                    clear hw173
                    have k177 : r174 = (J_X4_weekCost sh p0 r168 p2 v166) := congrArg (fun z => z) w175
                    obtain ⟨v178, e178⟩ : ∃ z : Int64, z = (r174 : Int32).toInt64 := ⟨_, rfl⟩
                    refine lv_i2l (v := v178) hx hb dX6_chooseAct_129 e178.symm ?_
                    refine lv_lload hx hb dX6_chooseAct_130 (lv_at hl 10 rfl) ?_
                    refine lv_lmul hx hb dX6_chooseAct_132 (lv_topl (fun v179 e179 => ?_))
                    refine lv_aload_n hx hb dX6_chooseAct_133 rfl (lv_at hl 13 rfl) ?_
                    refine g_get cx hP iw_X6_chooseAct_X6 0 rfl rfl 3 (by decide) rfl fw_X6_chooseAct_21 rfl dX6_chooseAct_134 ?_
                    refine lv_iload hx hb dX6_chooseAct_137 (lv_at hl 0 rfl) ?_
                    have hn180 : vp_in r171 35 := f_in (a := r171.toInt) rfl (by omega) (by omega)
                    refine va_lald hx hb cx.2.1 hP 3 1 rfl rfl hn180 dX6_chooseAct_139 (lv_topl (fun v181 e181 => ?_))
                    refine lv_ladd hx hb dX6_chooseAct_140 (lv_topl (fun v182 e182 => ?_))
                    refine lv_lstore (lv' := [(20, .long v182), (19, .int r171), (18, .int r168), (17, .int v166), (16, .int v156), (15, .int r125), (14, .int v116), (13, .int r75), (12, .int r72), (11, .int v56), (10, .int r4), (8, .long r2), (7, .int v157), (5, .long v158), (0, .ref (qpl 0)), (1, .ref (qh 0)), (2, .int p0), (3, .int p1), (4, .int p2)]) hx hb dX6_chooseAct_141 hl (by decide) rfl (fun ls hl => ?_)
                    refine lv_lload hx hb dX6_chooseAct_143 (lv_at hl 0 rfl) ?_
                    refine lv_lload hx hb dX6_chooseAct_145 (lv_at hl 13 rfl) ?_
                    refine W.lcmp hx hb dX6_chooseAct_147 (lv_topi (fun v183 e183 => ?_))
                    have hJ167 : ∀ (v187 : Int32) (v188 : Int64) (H : Heap) (locs : List Loc) (ls : Array Slot), va_P D vwCl [cell65_ qpl spl, cell26_ k qpl tpl, cell23_ k qpl spl, cell24_ k qpl tpl, cell25_ k qpl spl, cell32_ qh sh, cell0_ k qh sh, cell1_ k qh sh, cell4_ k qh sh, cell3_ k qh sh, cell2_ k qh sh] H → va_D A [cell65_ qpl spl, cell26_ k qpl tpl, cell23_ k qpl spl, cell24_ k qpl tpl, cell25_ k qpl spl, cell32_ qh sh, cell0_ k qh sh, cell1_ k qh sh, cell4_ k qh sh, cell3_ k qh sh, cell2_ k qh sh] → va_S A s.heap H locs → lv_has ls 22 [(16, .int v156), (15, .int r125), (14, .int v116), (13, .int r75), (12, .int r72), (11, .int v56), (10, .int r4), (8, .long r2), (7, .int v187), (5, .long v188), (0, .ref (qpl 0)), (1, .ref (qh 0)), (2, .int p0), (3, .int p1), (4, .int p2)] → W p l e ({ frames := 3, cells := 0, slots := 0, locals := 65 } : Room) s m ([.ref (qpl 0), .ref (qh 0), .int p0, .int p1, .int p2] : List Value).toArray below meth c H locs 0 0 Q (F0 m 167 ls []) := by
                      intro v187 v188 H locs ls  hP hD hS hl
                      obtain ⟨v189, e189⟩ : ∃ z : Int32, z = v156 + 1 := ⟨_, rfl⟩
                      refine lv_iinc (v := v189) (lv' := [(16, .int v189), (15, .int r125), (14, .int v116), (13, .int r75), (12, .int r72), (11, .int v56), (10, .int r4), (8, .long r2), (7, .int v187), (5, .long v188), (0, .ref (qpl 0)), (1, .ref (qh 0)), (2, .int p0), (3, .int p1), (4, .int p2)]) hx hb dX6_chooseAct_167 hl (k := 0) rfl (by rw [e189]; rfl) (by decide) rfl (fun ls hl => ?_)
                      have t189 : v189.toInt = v156.toInt + 1 := by rw [e189]; exact i_add rfl (by decide) (by omega) (by omega)
                      refine lv_goto (tgt := 76) hx hb dX6_chooseAct_170 (by decide) ?_
                      exact ih76 v189 v187 v188 _ _ _ (by omega) (by first | decide | omega) hP hD hS (lv_sub hl [0, 1, 2, 3, 4, 5, 6, 7, 8, 9, 10, 11, 12, 13, 14] rfl)
                    refine lv_if_ge (tgt := 167) hx hb dX6_chooseAct_148 (by decide) (fun c190 => ?_) (fun c190 => ?_)
                    · have f190 : 0 ≤ v183.toInt := f_le (by decide) rfl c190
                      exact hJ167 v157 v158 _ _ _  hP hD hS (lv_sub hl [4, 5, 6, 7, 8, 9, 10, 11, 12, 13, 14, 15, 16, 17, 18] rfl)
                    · have f190 : v183.toInt < 0 := f_nle (by decide) rfl c190
                      refine lv_lload hx hb dX6_chooseAct_151 (lv_at hl 0 rfl) ?_
                      refine lv_lstore (lv' := [(5, .long v182), (20, .long v182), (19, .int r171), (18, .int r168), (17, .int v166), (16, .int v156), (15, .int r125), (14, .int v116), (13, .int r75), (12, .int r72), (11, .int v56), (10, .int r4), (8, .long r2), (7, .int v157), (0, .ref (qpl 0)), (1, .ref (qh 0)), (2, .int p0), (3, .int p1), (4, .int p2)]) hx hb dX6_chooseAct_153 hl (by decide) rfl (fun ls hl => ?_)
                      refine lv_iload hx hb dX6_chooseAct_155 (lv_at hl 4 rfl) ?_
                      refine lv_aload_n hx hb dX6_chooseAct_157 rfl (lv_at hl 14 rfl) ?_
                      refine g_get cx hP iw_X6_chooseAct_X6 0 rfl rfl 4 (by decide) rfl fw_X6_chooseAct_24 rfl dX6_chooseAct_158 ?_
                      refine lv_iload hx hb dX6_chooseAct_161 (lv_at hl 2 rfl) ?_
                      have hn191 : vp_in r171 35 := f_in (a := r171.toInt) rfl (by omega) (by omega)
                      refine va_iald hx hb cx.2.1 hP 4 0 rfl rfl hn191 dX6_chooseAct_163 (lv_topi (fun v192 e192 => ?_))
                      refine lv_iadd hx hb dX6_chooseAct_164 (lv_topi (fun v193 e193 => ?_))
                      refine lv_istore (lv' := [(7, .int v193), (5, .long v182), (20, .long v182), (19, .int r171), (18, .int r168), (17, .int v166), (16, .int v156), (15, .int r125), (14, .int v116), (13, .int r75), (12, .int r72), (11, .int v56), (10, .int r4), (8, .long r2), (0, .ref (qpl 0)), (1, .ref (qh 0)), (2, .int p0), (3, .int p1), (4, .int p2)]) hx hb dX6_chooseAct_165 hl (by decide) rfl (fun ls hl => ?_)
                      exact hJ167 v193 v182 _ _ _  hP hD hS (lv_sub hl [6, 7, 8, 9, 10, 11, 12, 13, 0, 1, 14, 15, 16, 17, 18] rfl)
              have hlit194 : (0 : Int32).toInt = 0 := by decide
              exact hL76 (Int.toNat (2 - 0) + 1) 0 v117 v118 _ _ _ (by omega) (by first | decide | omega) hP hD hS (lv_sub hl [0, 1, 2, 3, 4, 5, 6, 7, 8, 9, 10, 11, 12, 13, 14] rfl)
        have hlit195 : (0 : Int32).toInt = 0 := by decide
        exact hL52 (Int.toNat (5 - 0) + 1) 0 v57 v58 _ _ _ (by omega) (by first | decide | omega) hP hD hS (lv_sub hl [0, 1, 2, 3, 4, 5, 6, 7, 8, 9, 10, 11, 12] rfl)
  have hlit196 : (0 : Int32).toInt = 0 := by decide
  have hlit197 : (0 : Int32).toInt = 0 := by decide
  exact hL25 (Int.toNat (5 - 0) + 1) 0 0 9223372036854775807 _ _ _ (by omega) (by first | decide | omega) hP hD hS (lv_sub hl [0, 1, 2, 3, 4, 5, 6, 7, 8, 9] rfl)
theorem fw_X6_chooseActs_45 : Cond.fieldLink RX6 45 "StillInAugust$Hands" "ALL" "[I" ∈ wsX6_chooseActs := by decide +kernel
theorem fw_X6_chooseActs_64 : Cond.fieldLink RX6 64 "StillInAugust$House" "hooks" "I" ∈ wsX6_chooseActs := by decide +kernel
theorem nd_X6_chooseAct : yX6_chooseAct.cls = RX6 ∧ yX6_chooseAct.cls ≠ "java/lang/invoke/MethodHandle" ∧ yX6_chooseAct.cls ≠ "java/lang/invoke/VarHandle" ∧ (parseMethodDescriptor yX6_chooseAct.desc).map (fun d => d.parameters.length) = some 4 := by decide +kernel
theorem iw_X6_chooseActs_X4 : ∀ w ∈ u_ws RX4 TX4 14, w ∈ wsX6_chooseActs := fun _ h => List.mem_cons_of_mem _ (List.mem_append_left _ (List.mem_append_right _ h))
set_option maxHeartbeats 4000000 in
set_option maxRecDepth 100000 in
theorem c_X6_chooseActs (l : Launch) (D : va_G) (k : Nat → ClassId) (b : Nat → Nat) (qpl : Nat → Nat) (spl : Nat → Nat → Int32) (tpl : Nat → Nat → Int64) (qh : Nat → Nat) (sh : Nat → Nat → Int32) (sz : Nat) (p0 : Int32) (h_pw : 0 ≤ (spl 0 0).toInt ∧ (spl 0 0).toInt ≤ 5) (h_pl : p0.toInt ≤ (spl 0 0).toInt) (h_hk : 0 ≤ (sh 0 1).toInt ∧ (sh 0 1).toInt ≤ 4) (h_of : ∀ j, 0 ≤ (sh 2 j).toInt ∧ (sh 2 j).toInt ≤ 4) (hp0 : 0 ≤ p0.toInt ∧ p0.toInt ≤ 4) : MetV l D k b yX6_chooseActs wsX6_chooseActs ({ frames := 4, cells := 0, slots := 0, locals := 106 } : Room) [cell65_ qpl spl, cell26_ k qpl tpl, cell23_ k qpl spl, cell24_ k qpl tpl, cell25_ k qpl spl, cell32_ qh sh, cell0_ k qh sh, cell1_ k qh sh, cell4_ k qh sh, cell3_ k qh sh, cell2_ k qh sh] sz [.ref (qpl 0), .ref (qh 0), .int p0] (fun (u : (Nat → Int64) × (Nat → Int32)) => True) (fun u => [cell65_ qpl spl, cell108_ k qpl (u.1), cell109_ k qpl (u.2), cell24_ k qpl tpl, cell25_ k qpl spl, cell32_ qh sh, cell0_ k qh sh, cell1_ k qh sh, cell4_ k qh sh, cell3_ k qh sh, cell2_ k qh sh]) := by
  refine g_enter (cc := cX6_chooseActs) (maxL := 9) (ret := none) (by decide) rfl (Nat.le_of_ble_eq_true rfl) ?_
  intro p e s m below meth c A hsz hAe cx hr hP hD hS ls hl
  rw [hAe]
  refine g_q (fun Q hQ => ?_)
  have hx := cx.1.1
  have hb := cx.1.2.1
  have bp0 := i_rng p0
  have hl : lv_has ls 9 [(0, .ref (qpl 0)), (1, .ref (qh 0)), (2, .int p0)] := hl
  obtain ⟨H, eH⟩ : ∃ H : Heap, H = s.heap := ⟨_, rfl⟩
  obtain ⟨locs, el⟩ : ∃ L : List Loc, L = [] := ⟨_, rfl⟩
  have hP : va_P D vwCl [cell65_ qpl spl, cell26_ k qpl tpl, cell23_ k qpl spl, cell24_ k qpl tpl, cell25_ k qpl spl, cell32_ qh sh, cell0_ k qh sh, cell1_ k qh sh, cell4_ k qh sh, cell3_ k qh sh, cell2_ k qh sh] H := by rw [eH]; exact hP
  have hD : va_D A [cell65_ qpl spl, cell26_ k qpl tpl, cell23_ k qpl spl, cell24_ k qpl tpl, cell25_ k qpl spl, cell32_ qh sh, cell0_ k qh sh, cell1_ k qh sh, cell4_ k qh sh, cell3_ k qh sh, cell2_ k qh sh] := hD
  have hS : va_S A s.heap H locs := by rw [eH, el]; exact hS
  suffices goal : W p l e ({ frames := 4, cells := 0, slots := 0, locals := 106 } : Room) s m ([.ref (qpl 0), .ref (qh 0), .int p0] : List Value).toArray below meth c H locs 0 0 Q (F0 m 0 ls []) by rw [eH, el] at goal; exact goal
  refine lv_aload_n hx hb dX6_chooseActs_0 rfl (lv_at hl 1 rfl) ?_
  refine g_ir (g_runV (wc := [cell32_ qh sh, cell0_ k qh sh, cell1_ k qh sh, cell4_ k qh sh, cell3_ k qh sh, cell2_ k qh sh]) (rest := []) cx hP hD hS [5, 6, 7, 8, 9, 10] rfl (by decide) [] (c_X4_mostComing l D k b qh sh H.size) gX6_chooseActs_X4_mostComing rfl rfl rfl nd_X4_mostComing ⟨Nat.le_of_ble_eq_true rfl, Nat.le_of_ble_eq_true rfl⟩ (ci := 2) (q0 := 0) rfl rfl rfl hl.1 rfl (Nat.le_of_ble_eq_true rfl) ⟨Nat.zero_le _, Nat.zero_le _⟩ dX6_chooseActs_1) cx.2.2.1 hP hD hS [5, 6, 7, 8, 9, 10] rfl rfl (fun r2 H locs hw1 hP hS => ?_)
  replace hw1 : (r2.toInt = 0 ∨ r2.toInt = 2) ∧ (r2 = J_X4_mostComing sh) := hw1
  obtain ⟨w3, w4⟩ := hw1
  have k6 : r2 = (J_X4_mostComing sh) := congrArg (fun z => z) w4
  refine lv_istore_n (lv' := [(3, .int r2), (0, .ref (qpl 0)), (1, .ref (qh 0)), (2, .int p0)]) hx hb dX6_chooseActs_4 rfl hl (by decide) rfl (fun ls hl => ?_)
  refine va_gets hx hb cx.2.2.2.t0.1 hS cx.1.2.2.2.1 (cx.1.2.2.2.2 _ fw_X6_chooseActs_45) (fun _ h => h) dX6_chooseActs_5 ?_
  refine lv_astore (lv' := [(4, .ref (b 0)), (3, .int r2), (0, .ref (qpl 0)), (1, .ref (qh 0)), (2, .int p0)]) hx hb dX6_chooseActs_8 hl (by decide) rfl (fun ls hl => ?_)
  refine lv_aload hx hb dX6_chooseActs_10 (lv_at hl 0 rfl) ?_
  refine va_tlen hx hb cx.2.2.2.t0.2 hS (v := 35) (by decide) dX6_chooseActs_12 ?_
  refine lv_istore (lv' := [(5, .int 35), (4, .ref (b 0)), (3, .int r2), (0, .ref (qpl 0)), (1, .ref (qh 0)), (2, .int p0)]) hx hb dX6_chooseActs_13 hl (by decide) rfl (fun ls hl => ?_)
  refine lv_iconst (v := 0) hx hb dX6_chooseActs_15 (by decide) ?_
  refine lv_istore (lv' := [(6, .int 0), (5, .int 35), (4, .ref (b 0)), (3, .int r2), (0, .ref (qpl 0)), (1, .ref (qh 0)), (2, .int p0)]) hx hb dX6_chooseActs_16 hl (by decide) rfl (fun ls hl => ?_)
  have hL18 : ∀ (n22 : Nat) (v19 : Int32) (g20 : Nat → Int64) (g21 : Nat → Int32) (H : Heap) (locs : List Loc) (ls : Array Slot), 35 - v19.toInt < (n22 : Int) → (0 ≤ v19.toInt ∧ v19.toInt ≤ 35) → va_P D vwCl [cell65_ qpl spl, (qpl 1, .inl (k 1, 630, .inr (.inl g20))), (qpl 2, .inl (k 0, 525, .inl g21)), cell24_ k qpl tpl, cell25_ k qpl spl, cell32_ qh sh, cell0_ k qh sh, cell1_ k qh sh, cell4_ k qh sh, cell3_ k qh sh, cell2_ k qh sh] H → va_D A [cell65_ qpl spl, (qpl 1, .inl (k 1, 630, .inr (.inl g20))), (qpl 2, .inl (k 0, 525, .inl g21)), cell24_ k qpl tpl, cell25_ k qpl spl, cell32_ qh sh, cell0_ k qh sh, cell1_ k qh sh, cell4_ k qh sh, cell3_ k qh sh, cell2_ k qh sh] → va_S A s.heap H locs → lv_has ls 9 [(6, .int v19), (5, .int 35), (4, .ref (b 0)), (3, .int r2), (0, .ref (qpl 0)), (1, .ref (qh 0)), (2, .int p0)] → W p l e ({ frames := 4, cells := 0, slots := 0, locals := 106 } : Room) s m ([.ref (qpl 0), .ref (qh 0), .int p0] : List Value).toArray below meth c H locs 0 0 Q (F0 m 18 ls []) := by
    intro n22
    induction n22 with
    | zero => intro v19 g20 g21 H locs ls hmn22 bv19 hP hD hS hl; exact absurd hmn22 (by omega)
    | succ n22 ih18 =>
      intro v19 g20 g21 H locs ls hmn22 bv19 hP hD hS hl
      refine lv_iload hx hb dX6_chooseActs_18 (lv_at hl 0 rfl) ?_
      refine lv_iload hx hb dX6_chooseActs_20 (lv_at hl 1 rfl) ?_
      refine lv_icmp_ge (tgt := 78) hx hb dX6_chooseActs_22 (by decide) (fun c23 => ?_) (fun c23 => ?_)
      · have f23 : 35 ≤ v19.toInt := f_le (by decide) rfl c23
        rw [hQ]
        exact x_v cx hr (g20, g21) hP hD hS trivial dX6_chooseActs_78
      · have f23 : v19.toInt < 35 := f_nle (by decide) rfl c23
        refine lv_aload hx hb dX6_chooseActs_25 (lv_at hl 2 rfl) ?_
        refine lv_iload hx hb dX6_chooseActs_27 (lv_at hl 0 rfl) ?_
        have hn24 : vp_in v19 35 := f_in (a := v19.toInt) rfl (by omega) (by omega)
        refine va_ti hx hb cx.2.2.2.t0.2 hS hn24 rfl dX6_chooseActs_29 (lv_topi (fun v25 e25 => ?_))
        have t25 : 0 ≤ v25.toInt ∧ v25.toInt ≤ 400 ∧ v25.toInt / 100 + v25.toInt / 10 % 10 + v25.toInt % 10 ≤ 4 := by rw [e25]; exact zALL_v _
        refine lv_istore (lv' := [(7, .int v25), (6, .int v19), (5, .int 35), (4, .ref (b 0)), (3, .int r2), (0, .ref (qpl 0)), (1, .ref (qh 0)), (2, .int p0)]) hx hb dX6_chooseActs_30 hl (by decide) rfl (fun ls hl => ?_)
        refine lv_iload hx hb dX6_chooseActs_32 (lv_at hl 0 rfl) ?_
        refine g_ir (g_runS (wc := []) (rest := []) cx hP hD hS [] rfl (by decide) [.int v25] (c_X3_total l D k b H.size v25) gX6_chooseActs_X3_total rfl rfl rfl nd_X3_total ⟨Nat.le_of_ble_eq_true rfl, Nat.le_of_ble_eq_true rfl⟩ rfl hl.1 rfl (Nat.le_of_ble_eq_true rfl) ⟨Nat.zero_le _, Nat.zero_le _⟩ dX6_chooseActs_34) cx.2.2.1 hP hD hS [] rfl rfl (fun r27 H locs hw26 hP hS => ?_)
        have w28 : r27 = J_X3_total v25 := hw26
        clear hw26
        have zr27 : r27.toInt = tot v25 := tot3 w28 (show 0 ≤ v25.toInt from by first | decide | omega)
        have yr27 := tot_0 (x := v25) (by first | decide | omega)
        refine lv_aload_n hx hb dX6_chooseActs_37 rfl (lv_at hl 6 rfl) ?_
        refine g_get cx hP iw_X6_chooseActs_X4 5 rfl rfl 1 (by decide) rfl fw_X6_chooseActs_64 rfl dX6_chooseActs_38 ?_
        have hJ72 : ∀ (g41 : Nat → Int64) (g42 : Nat → Int32) (H : Heap) (locs : List Loc) (ls : Array Slot), va_P D vwCl [cell65_ qpl spl, (qpl 1, .inl (k 1, 630, .inr (.inl g41))), (qpl 2, .inl (k 0, 525, .inl g42)), cell24_ k qpl tpl, cell25_ k qpl spl, cell32_ qh sh, cell0_ k qh sh, cell1_ k qh sh, cell4_ k qh sh, cell3_ k qh sh, cell2_ k qh sh] H → va_D A [cell65_ qpl spl, (qpl 1, .inl (k 1, 630, .inr (.inl g41))), (qpl 2, .inl (k 0, 525, .inl g42)), cell24_ k qpl tpl, cell25_ k qpl spl, cell32_ qh sh, cell0_ k qh sh, cell1_ k qh sh, cell4_ k qh sh, cell3_ k qh sh, cell2_ k qh sh] → va_S A s.heap H locs → lv_has ls 9 [(6, .int v19), (5, .int 35), (4, .ref (b 0)), (3, .int r2), (0, .ref (qpl 0)), (1, .ref (qh 0)), (2, .int p0)] → W p l e ({ frames := 4, cells := 0, slots := 0, locals := 106 } : Room) s m ([.ref (qpl 0), .ref (qh 0), .int p0] : List Value).toArray below meth c H locs 0 0 Q (F0 m 72 ls []) := by
          intro g41 g42 H locs ls  hP hD hS hl
          obtain ⟨v43, e43⟩ : ∃ z : Int32, z = v19 + 1 := ⟨_, rfl⟩
          refine lv_iinc (v := v43) (lv' := [(6, .int v43), (5, .int 35), (4, .ref (b 0)), (3, .int r2), (0, .ref (qpl 0)), (1, .ref (qh 0)), (2, .int p0)]) hx hb dX6_chooseActs_72 hl (k := 0) rfl (by rw [e43]; rfl) (by decide) rfl (fun ls hl => ?_)
          have t43 : v43.toInt = v19.toInt + 1 := by rw [e43]; exact i_add rfl (by decide) (by omega) (by omega)
          refine lv_goto (tgt := 18) hx hb dX6_chooseActs_75 (by decide) ?_
          exact ih18 v43 g41 g42 _ _ _ (by omega) (by first | decide | omega) hP hD hS (lv_sub hl [0, 1, 2, 3, 4, 5, 6] rfl)
        refine lv_icmp_le (tgt := 47) hx hb dX6_chooseActs_41 (by decide) (fun c44 => ?_) (fun c44 => ?_)
        · have f44 : r27.toInt ≤ (sh 0 1).toInt := f_le rfl rfl c44
          refine lv_iconst (v := 0) hx hb dX6_chooseActs_47 (by decide) ?_
          refine lv_istore (lv' := [(8, .int 0), (7, .int v25), (6, .int v19), (5, .int 35), (4, .ref (b 0)), (3, .int r2), (0, .ref (qpl 0)), (1, .ref (qh 0)), (2, .int p0)]) hx hb dX6_chooseActs_48 hl (by decide) rfl (fun ls hl => ?_)
          have hL50 : ∀ (n54 : Nat) (v51 : Int32) (g52 : Nat → Int64) (g53 : Nat → Int32) (H : Heap) (locs : List Loc) (ls : Array Slot), 3 - v51.toInt < (n54 : Int) → (0 ≤ v51.toInt ∧ v51.toInt ≤ 3) → va_P D vwCl [cell65_ qpl spl, (qpl 1, .inl (k 1, 630, .inr (.inl g52))), (qpl 2, .inl (k 0, 525, .inl g53)), cell24_ k qpl tpl, cell25_ k qpl spl, cell32_ qh sh, cell0_ k qh sh, cell1_ k qh sh, cell4_ k qh sh, cell3_ k qh sh, cell2_ k qh sh] H → va_D A [cell65_ qpl spl, (qpl 1, .inl (k 1, 630, .inr (.inl g52))), (qpl 2, .inl (k 0, 525, .inl g53)), cell24_ k qpl tpl, cell25_ k qpl spl, cell32_ qh sh, cell0_ k qh sh, cell1_ k qh sh, cell4_ k qh sh, cell3_ k qh sh, cell2_ k qh sh] → va_S A s.heap H locs → lv_has ls 9 [(8, .int v51), (7, .int v25), (6, .int v19), (5, .int 35), (4, .ref (b 0)), (3, .int r2), (0, .ref (qpl 0)), (1, .ref (qh 0)), (2, .int p0)] → W p l e ({ frames := 4, cells := 0, slots := 0, locals := 106 } : Room) s m ([.ref (qpl 0), .ref (qh 0), .int p0] : List Value).toArray below meth c H locs 0 0 Q (F0 m 50 ls []) := by
            intro n54
            induction n54 with
            | zero => intro v51 g52 g53 H locs ls hmn54 bv51 hP hD hS hl; exact absurd hmn54 (by omega)
            | succ n54 ih50 =>
              intro v51 g52 g53 H locs ls hmn54 bv51 hP hD hS hl
              refine lv_iload hx hb dX6_chooseActs_50 (lv_at hl 0 rfl) ?_
              refine lv_iload_n hx hb dX6_chooseActs_52 rfl (lv_at hl 5 rfl) ?_
              refine lv_icmp_gt (tgt := 72) hx hb dX6_chooseActs_53 (by decide) (fun c55 => ?_) (fun c55 => ?_)
              · have f55 : r2.toInt < v51.toInt := f_lt rfl rfl c55
                exact hJ72 g52 g53 _ _ _  hP hD hS (lv_sub hl [2, 3, 4, 5, 6, 7, 8] rfl)
              · have f55 : v51.toInt ≤ r2.toInt := f_nlt rfl rfl c55
                refine lv_aload_n hx hb dX6_chooseActs_56 rfl (lv_at hl 6 rfl) ?_
                refine lv_aload_n hx hb dX6_chooseActs_57 rfl (lv_at hl 7 rfl) ?_
                refine lv_iload_n hx hb dX6_chooseActs_58 rfl (lv_at hl 8 rfl) ?_
                refine lv_iload hx hb dX6_chooseActs_59 (lv_at hl 1 rfl) ?_
                refine lv_iload hx hb dX6_chooseActs_61 (lv_at hl 0 rfl) ?_
                refine g_vF (w1 := fun (u : (Nat → Int64) × (Nat → Int32)) => [cell65_ qpl spl, cell108_ k qpl (u.1), cell109_ k qpl (u.2), cell24_ k qpl tpl, cell25_ k qpl spl, cell32_ qh sh, cell0_ k qh sh, cell1_ k qh sh, cell4_ k qh sh, cell3_ k qh sh, cell2_ k qh sh]) (g_runVF (ws := [cell65_ qpl spl, (qpl 1, .inl (k 1, 630, .inr (.inl g52))), (qpl 2, .inl (k 0, 525, .inl g53)), cell24_ k qpl tpl, cell25_ k qpl spl, cell32_ qh sh, cell0_ k qh sh, cell1_ k qh sh, cell4_ k qh sh, cell3_ k qh sh, cell2_ k qh sh]) (rest := []) cx hP hD hS [.ref (qh 0), .int p0, .int v25, .int v51] (c_X6_chooseAct l D k b qpl (up2 spl 2 g53) (up2L tpl 1 g52) qh sh H.size p0 v25 v51 (show 0 ≤ (spl 0 0).toInt ∧ (spl 0 0).toInt ≤ 5 from by first | decide | omega) (show p0.toInt ≤ (spl 0 0).toInt from by first | decide | omega) (show 0 ≤ (sh 0 1).toInt ∧ (sh 0 1).toInt ≤ 4 from by first | decide | omega) h_of (show 0 ≤ v25.toInt ∧ v25.toInt ≤ 400 ∧ tot v25 ≤ 4 from by first | decide | omega) (show 0 ≤ p0.toInt ∧ p0.toInt ≤ 4 from by first | decide | omega) (show 0 ≤ v51.toInt ∧ v51.toInt ≤ 2 from by first | decide | omega)) gX6_chooseActs_X6_chooseAct rfl rfl rfl nd_X6_chooseAct ⟨Nat.le_of_ble_eq_true rfl, Nat.le_of_ble_eq_true rfl⟩ (ci := 4) (q0 := 0) rfl rfl rfl hl.1 rfl (Nat.le_of_ble_eq_true rfl) ⟨Nat.zero_le _, Nat.zero_le _⟩ dX6_chooseActs_63) cx.2.2.1 hD hS (fun u57 H locs hw56 hP hD hS => ?_)
                obtain ⟨m58, m59⟩ := u57
                have hP : va_P D vwCl [cell65_ qpl spl, (qpl 1, .inl (k 1, 630, .inr (.inl m58))), (qpl 2, .inl (k 0, 525, .inl m59)), cell24_ k qpl tpl, cell25_ k qpl spl, cell32_ qh sh, cell0_ k qh sh, cell1_ k qh sh, cell4_ k qh sh, cell3_ k qh sh, cell2_ k qh sh] H := hP
                have hD : va_D A [cell65_ qpl spl, (qpl 1, .inl (k 1, 630, .inr (.inl m58))), (qpl 2, .inl (k 0, 525, .inl m59)), cell24_ k qpl tpl, cell25_ k qpl spl, cell32_ qh sh, cell0_ k qh sh, cell1_ k qh sh, cell4_ k qh sh, cell3_ k qh sh, cell2_ k qh sh] := hD
                clear hw56
                obtain ⟨v60, e60⟩ : ∃ z : Int32, z = v51 + 1 := ⟨_, rfl⟩
                refine lv_iinc (v := v60) (lv' := [(8, .int v60), (7, .int v25), (6, .int v19), (5, .int 35), (4, .ref (b 0)), (3, .int r2), (0, .ref (qpl 0)), (1, .ref (qh 0)), (2, .int p0)]) hx hb dX6_chooseActs_66 hl (k := 0) rfl (by rw [e60]; rfl) (by decide) rfl (fun ls hl => ?_)
                have t60 : v60.toInt = v51.toInt + 1 := by rw [e60]; exact i_add rfl (by decide) (by omega) (by omega)
                refine lv_goto (tgt := 50) hx hb dX6_chooseActs_69 (by decide) ?_
                exact ih50 v60 m58 m59 _ _ _ (by omega) (by first | decide | omega) hP hD hS (lv_sub hl [0, 1, 2, 3, 4, 5, 6, 7, 8] rfl)
          have hlit61 : (0 : Int32).toInt = 0 := by decide
          exact hL50 (Int.toNat (3 - 0) + 1) 0 g20 g21 _ _ _ (by omega) (by first | decide | omega) hP hD hS (lv_sub hl [0, 1, 2, 3, 4, 5, 6, 7, 8] rfl)
        · have f44 : (sh 0 1).toInt < r27.toInt := f_nle rfl rfl c44
          refine lv_goto (tgt := 72) hx hb dX6_chooseActs_44 (by decide) ?_
          exact hJ72 g20 g21 _ _ _  hP hD hS (lv_sub hl [1, 2, 3, 4, 5, 6, 7] rfl)
  have hlit62 : (0 : Int32).toInt = 0 := by decide
  exact hL18 (Int.toNat (35 - 0) + 1) 0 (tpl 1) (spl 2) _ _ _ (by omega) (by first | decide | omega) hP hD hS (lv_sub hl [0, 1, 2, 3, 4, 5, 6] rfl)
theorem fw_X6_solve_13 : Cond.fieldLink RX6 13 "StillInAugust$Plan" "cost" "[J" ∈ wsX6_solve := by decide +kernel
theorem fw_X6_solve_38 : Cond.fieldLink RX6 38 "StillInAugust$Plan" "weeks" "I" ∈ wsX6_solve := by decide +kernel
theorem fw_X6_solve_42 : Cond.fieldLink RX6 42 "StillInAugust$House" "weeks" "I" ∈ wsX6_solve := by decide +kernel
theorem fw_X6_solve_45 : Cond.fieldLink RX6 45 "StillInAugust$Hands" "ALL" "[I" ∈ wsX6_solve := by decide +kernel
theorem nd_X6_chooseActs : yX6_chooseActs.cls = RX6 ∧ yX6_chooseActs.cls ≠ "java/lang/invoke/MethodHandle" ∧ yX6_chooseActs.cls ≠ "java/lang/invoke/VarHandle" ∧ (parseMethodDescriptor yX6_chooseActs.desc).map (fun d => d.parameters.length) = some 2 := by decide +kernel
theorem nd_X6_chooseOrders : yX6_chooseOrders.cls = RX6 ∧ yX6_chooseOrders.cls ≠ "java/lang/invoke/MethodHandle" ∧ yX6_chooseOrders.cls ≠ "java/lang/invoke/VarHandle" ∧ (parseMethodDescriptor yX6_chooseOrders.desc).map (fun d => d.parameters.length) = some 2 := by decide +kernel
theorem iw_X6_solve_X4 : ∀ w ∈ u_ws RX4 TX4 14, w ∈ wsX6_solve := fun _ h => List.mem_cons_of_mem _ (List.mem_append_left _ (List.mem_append_right _ h))
theorem iw_X6_solve_X6 : ∀ w ∈ u_ws RX6 TX6 5, w ∈ wsX6_solve := fun _ h => List.mem_cons_of_mem _ (List.mem_append_right _ h)
set_option maxHeartbeats 4000000 in
set_option maxRecDepth 100000 in
theorem c_X6_solve (l : Launch) (D : va_G) (k : Nat → ClassId) (b : Nat → Nat) (qpl : Nat → Nat) (spl : Nat → Nat → Int32) (tpl : Nat → Nat → Int64) (qh : Nat → Nat) (sh : Nat → Nat → Int32) (sz : Nat) (h_su : SUok (sh 5)) (h_wk : 0 ≤ (sh 0 0).toInt ∧ (sh 0 0).toInt ≤ 5) (h_hk : 0 ≤ (sh 0 1).toInt ∧ (sh 0 1).toInt ≤ 4) (h_of : ∀ j, 0 ≤ (sh 2 j).toInt ∧ (sh 2 j).toInt ≤ 4) : MetV l D k b yX6_solve wsX6_solve ({ frames := 5, cells := 0, slots := 0, locals := 134 } : Room) [cell65_ qpl spl, cell26_ k qpl tpl, cell23_ k qpl spl, cell24_ k qpl tpl, cell25_ k qpl spl, cell32_ qh sh, cell0_ k qh sh, cell1_ k qh sh, cell4_ k qh sh, cell3_ k qh sh, cell2_ k qh sh] sz [.ref (qpl 0), .ref (qh 0)] (fun (u : Int32 × (Nat → Int64) × (Nat → Int32) × (Nat → Int64) × (Nat → Int32)) => (u.1).toInt = (sh 0 0).toInt) (fun u => [(qpl 0, .inr (4, [.int (u.1), .ref (qpl 1), .ref (qpl 2), .ref (qpl 3), .ref (qpl 4)])), cell108_ k qpl (u.2.1), cell109_ k qpl (u.2.2.1), cell115_ k qpl (u.2.2.2.1), cell116_ k qpl (u.2.2.2.2), cell32_ qh sh, cell0_ k qh sh, cell1_ k qh sh, cell4_ k qh sh, cell3_ k qh sh, cell2_ k qh sh]) := by
  refine g_enter (cc := cX6_solve) (maxL := 3) (ret := none) (by decide) rfl (Nat.le_of_ble_eq_true rfl) ?_
  intro p e s m below meth c A hsz hAe cx hr hP hD hS ls hl
  rw [hAe]
  refine g_q (fun Q hQ => ?_)
  have hx := cx.1.1
  have hb := cx.1.2.1
  have hl : lv_has ls 3 [(0, .ref (qpl 0)), (1, .ref (qh 0))] := hl
  obtain ⟨H, eH⟩ : ∃ H : Heap, H = s.heap := ⟨_, rfl⟩
  obtain ⟨locs, el⟩ : ∃ L : List Loc, L = [] := ⟨_, rfl⟩
  have hP : va_P D vwCl [cell65_ qpl spl, cell26_ k qpl tpl, cell23_ k qpl spl, cell24_ k qpl tpl, cell25_ k qpl spl, cell32_ qh sh, cell0_ k qh sh, cell1_ k qh sh, cell4_ k qh sh, cell3_ k qh sh, cell2_ k qh sh] H := by rw [eH]; exact hP
  have hD : va_D A [cell65_ qpl spl, cell26_ k qpl tpl, cell23_ k qpl spl, cell24_ k qpl tpl, cell25_ k qpl spl, cell32_ qh sh, cell0_ k qh sh, cell1_ k qh sh, cell4_ k qh sh, cell3_ k qh sh, cell2_ k qh sh] := hD
  have hS : va_S A s.heap H locs := by rw [eH, el]; exact hS
  suffices goal : W p l e ({ frames := 5, cells := 0, slots := 0, locals := 134 } : Room) s m ([.ref (qpl 0), .ref (qh 0)] : List Value).toArray below meth c H locs 0 0 Q (F0 m 0 ls []) by rw [eH, el] at goal; exact goal
  refine lv_aload_n hx hb dX6_solve_0 rfl (lv_at hl 0 rfl) ?_
  refine lv_aload_n hx hb dX6_solve_1 rfl (lv_at hl 1 rfl) ?_
  refine g_get cx hP iw_X6_solve_X4 5 rfl rfl 0 (by decide) rfl fw_X6_solve_42 rfl dX6_solve_2 ?_
  refine g_pt cx hP hD hS iw_X6_solve_X6 tyX6 tyX6_ok nmX6 0 rfl rfl 0 (by decide) rfl fw_X6_solve_38 (ty := .int) rfl rfl rfl (Nat.le_of_ble_eq_true rfl) dX6_solve_5 (fun H locs hP hD hS => ?_)
  have hP : va_P D vwCl [cell65_ qpl sh, cell26_ k qpl tpl, cell23_ k qpl spl, cell24_ k qpl tpl, cell25_ k qpl spl, cell32_ qh sh, cell0_ k qh sh, cell1_ k qh sh, cell4_ k qh sh, cell3_ k qh sh, cell2_ k qh sh] H := hP
  have hD : va_D A [cell65_ qpl sh, cell26_ k qpl tpl, cell23_ k qpl spl, cell24_ k qpl tpl, cell25_ k qpl spl, cell32_ qh sh, cell0_ k qh sh, cell1_ k qh sh, cell4_ k qh sh, cell3_ k qh sh, cell2_ k qh sh] := hD
  refine lv_iconst (v := 0) hx hb dX6_solve_8 (by decide) ?_
  refine lv_istore_n (lv' := [(2, .int 0), (0, .ref (qpl 0)), (1, .ref (qh 0))]) hx hb dX6_solve_9 rfl hl (by decide) rfl (fun ls hl => ?_)
  have hL10 : ∀ (n19 : Nat) (v17 : Int32) (g18 : Nat → Int64) (H : Heap) (locs : List Loc) (ls : Array Slot), 35 - v17.toInt < (n19 : Int) → (0 ≤ v17.toInt ∧ v17.toInt ≤ 35) → va_P D vwCl [cell65_ qpl sh, (qpl 1, .inl (k 1, 630, .inr (.inl g18))), cell23_ k qpl spl, cell24_ k qpl tpl, cell25_ k qpl spl, cell32_ qh sh, cell0_ k qh sh, cell1_ k qh sh, cell4_ k qh sh, cell3_ k qh sh, cell2_ k qh sh] H → va_D A [cell65_ qpl sh, (qpl 1, .inl (k 1, 630, .inr (.inl g18))), cell23_ k qpl spl, cell24_ k qpl tpl, cell25_ k qpl spl, cell32_ qh sh, cell0_ k qh sh, cell1_ k qh sh, cell4_ k qh sh, cell3_ k qh sh, cell2_ k qh sh] → va_S A s.heap H locs → lv_has ls 3 [(2, .int v17), (0, .ref (qpl 0)), (1, .ref (qh 0))] → W p l e ({ frames := 5, cells := 0, slots := 0, locals := 134 } : Room) s m ([.ref (qpl 0), .ref (qh 0)] : List Value).toArray below meth c H locs 0 0 Q (F0 m 10 ls []) := by
    intro n19
    induction n19 with
    | zero => intro v17 g18 H locs ls hmn19 bv17 hP hD hS hl; exact absurd hmn19 (by omega)
    | succ n19 ih10 =>
      intro v17 g18 H locs ls hmn19 bv17 hP hD hS hl
      refine lv_iload_n hx hb dX6_solve_10 rfl (lv_at hl 0 rfl) ?_
      refine lv_bipush (v := 35) hx hb dX6_solve_11 (by decide) ?_
      refine lv_icmp_ge (tgt := 46) hx hb dX6_solve_13 (by decide) (fun c20 => ?_) (fun c20 => ?_)
      · have f20 : 35 ≤ v17.toInt := f_le (by decide) rfl c20
        refine lv_aload_n hx hb dX6_solve_46 rfl (lv_at hl 1 rfl) ?_
        refine g_get cx hP iw_X6_solve_X6 0 rfl rfl 0 (by decide) rfl fw_X6_solve_38 rfl dX6_solve_47 ?_
        refine lv_iconst (v := 1) hx hb dX6_solve_50 (by decide) ?_
        refine lv_isub hx hb dX6_solve_51 (lv_topi (fun v21 e21 => ?_))
        have t21 : v21.toInt = (sh 0 0).toInt - 1 := by rw [e21]; exact i_sub rfl (by decide) (by omega) (by omega)
        refine lv_istore_n (lv' := [(2, .int v21), (0, .ref (qpl 0)), (1, .ref (qh 0))]) hx hb dX6_solve_52 rfl hl (by decide) rfl (fun ls hl => ?_)
        have hL53 : ∀ (n36 : Nat) (v31 : Int32) (g32 : Nat → Int64) (g33 : Nat → Int32) (g34 : Nat → Int64) (g35 : Nat → Int32) (H : Heap) (locs : List Loc) (ls : Array Slot), v31.toInt + 1 < (n36 : Int) → (-1 ≤ v31.toInt ∧ v31.toInt ≤ 4) → (v31.toInt < (sh 0 0).toInt) → va_P D vwCl [cell65_ qpl sh, (qpl 1, .inl (k 1, 630, .inr (.inl g32))), (qpl 2, .inl (k 0, 525, .inl g33)), (qpl 3, .inl (k 1, 35, .inr (.inl g34))), (qpl 4, .inl (k 0, 35, .inl g35)), cell32_ qh sh, cell0_ k qh sh, cell1_ k qh sh, cell4_ k qh sh, cell3_ k qh sh, cell2_ k qh sh] H → va_D A [cell65_ qpl sh, (qpl 1, .inl (k 1, 630, .inr (.inl g32))), (qpl 2, .inl (k 0, 525, .inl g33)), (qpl 3, .inl (k 1, 35, .inr (.inl g34))), (qpl 4, .inl (k 0, 35, .inl g35)), cell32_ qh sh, cell0_ k qh sh, cell1_ k qh sh, cell4_ k qh sh, cell3_ k qh sh, cell2_ k qh sh] → va_S A s.heap H locs → lv_has ls 3 [(2, .int v31), (0, .ref (qpl 0)), (1, .ref (qh 0))] → W p l e ({ frames := 5, cells := 0, slots := 0, locals := 134 } : Room) s m ([.ref (qpl 0), .ref (qh 0)] : List Value).toArray below meth c H locs 0 0 Q (F0 m 53 ls []) := by
          intro n36
          induction n36 with
          | zero => intro v31 g32 g33 g34 g35 H locs ls hmn36 bv31 lw hP hD hS hl; exact absurd hmn36 (by omega)
          | succ n36 ih53 =>
            intro v31 g32 g33 g34 g35 H locs ls hmn36 bv31 lw hP hD hS hl
            refine lv_iload_n hx hb dX6_solve_53 rfl (lv_at hl 0 rfl) ?_
            refine lv_if_lt (tgt := 75) hx hb dX6_solve_54 (by decide) (fun c37 => ?_) (fun c37 => ?_)
            · have f37 : v31.toInt < 0 := f_lt rfl (by decide) c37
              rw [hQ]
              exact x_v cx hr ((sh 0 0), g32, g33, g34, g35) hP hD hS (show (sh 0 0).toInt = (sh 0 0).toInt from by omega) dX6_solve_75
            · have f37 : 0 ≤ v31.toInt := f_nlt rfl (by decide) c37
              refine lv_aload_n hx hb dX6_solve_57 rfl (lv_at hl 1 rfl) ?_
              refine lv_aload_n hx hb dX6_solve_58 rfl (lv_at hl 2 rfl) ?_
              refine lv_iload_n hx hb dX6_solve_59 rfl (lv_at hl 0 rfl) ?_
              refine g_vF (w1 := fun (u : (Nat → Int64) × (Nat → Int32)) => [cell65_ qpl sh, (qpl 1, .inl (k 1, 630, .inr (.inl g32))), (qpl 2, .inl (k 0, 525, .inl g33)), cell115_ k qpl (u.1), cell116_ k qpl (u.2), cell32_ qh sh, cell0_ k qh sh, cell1_ k qh sh, cell4_ k qh sh, cell3_ k qh sh, cell2_ k qh sh]) (g_runVF (ws := [cell65_ qpl sh, (qpl 1, .inl (k 1, 630, .inr (.inl g32))), (qpl 2, .inl (k 0, 525, .inl g33)), (qpl 3, .inl (k 1, 35, .inr (.inl g34))), (qpl 4, .inl (k 0, 35, .inl g35)), cell32_ qh sh, cell0_ k qh sh, cell1_ k qh sh, cell4_ k qh sh, cell3_ k qh sh, cell2_ k qh sh]) (rest := []) cx hP hD hS [.ref (qh 0), .int v31] (c_X6_chooseOrders l D k b qpl (up2 (up2 (up2 spl 0 (upd (spl 0) 0 (sh 0 0))) 2 g33) 4 g35) (up2L (up2L tpl 1 g32) 3 g34) qh sh H.size v31 (show SUok (sh 5) from by assumption) (show 0 ≤ (sh 0 0).toInt ∧ (sh 0 0).toInt ≤ 5 from by first | decide | omega) (show 0 ≤ v31.toInt ∧ v31.toInt ≤ 4 from by first | decide | omega)) gX6_solve_X6_chooseOrders rfl rfl rfl nd_X6_chooseOrders ⟨Nat.le_of_ble_eq_true rfl, Nat.le_of_ble_eq_true rfl⟩ (ci := 4) (q0 := 0) rfl rfl rfl hl.1 rfl (Nat.le_of_ble_eq_true rfl) ⟨Nat.zero_le _, Nat.zero_le _⟩ dX6_solve_60) cx.2.2.1 hD hS (fun u39 H locs hw38 hP hD hS => ?_)
              obtain ⟨m40, m41⟩ := u39
              have hP : va_P D vwCl [cell65_ qpl sh, (qpl 1, .inl (k 1, 630, .inr (.inl g32))), (qpl 2, .inl (k 0, 525, .inl g33)), (qpl 3, .inl (k 1, 35, .inr (.inl m40))), (qpl 4, .inl (k 0, 35, .inl m41)), cell32_ qh sh, cell0_ k qh sh, cell1_ k qh sh, cell4_ k qh sh, cell3_ k qh sh, cell2_ k qh sh] H := hP
              have hD : va_D A [cell65_ qpl sh, (qpl 1, .inl (k 1, 630, .inr (.inl g32))), (qpl 2, .inl (k 0, 525, .inl g33)), (qpl 3, .inl (k 1, 35, .inr (.inl m40))), (qpl 4, .inl (k 0, 35, .inl m41)), cell32_ qh sh, cell0_ k qh sh, cell1_ k qh sh, cell4_ k qh sh, cell3_ k qh sh, cell2_ k qh sh] := hD
              clear hw38
              refine lv_aload_n hx hb dX6_solve_63 rfl (lv_at hl 1 rfl) ?_
              refine lv_aload_n hx hb dX6_solve_64 rfl (lv_at hl 2 rfl) ?_
              refine lv_iload_n hx hb dX6_solve_65 rfl (lv_at hl 0 rfl) ?_
              refine g_vF (w1 := fun (u : (Nat → Int64) × (Nat → Int32)) => [cell65_ qpl sh, cell108_ k qpl (u.1), cell109_ k qpl (u.2), (qpl 3, .inl (k 1, 35, .inr (.inl m40))), (qpl 4, .inl (k 0, 35, .inl m41)), cell32_ qh sh, cell0_ k qh sh, cell1_ k qh sh, cell4_ k qh sh, cell3_ k qh sh, cell2_ k qh sh]) (g_runVF (ws := [cell65_ qpl sh, (qpl 1, .inl (k 1, 630, .inr (.inl g32))), (qpl 2, .inl (k 0, 525, .inl g33)), (qpl 3, .inl (k 1, 35, .inr (.inl m40))), (qpl 4, .inl (k 0, 35, .inl m41)), cell32_ qh sh, cell0_ k qh sh, cell1_ k qh sh, cell4_ k qh sh, cell3_ k qh sh, cell2_ k qh sh]) (rest := []) cx hP hD hS [.ref (qh 0), .int v31] (c_X6_chooseActs l D k b qpl (up2 (up2 (up2 spl 0 (upd (spl 0) 0 (sh 0 0))) 2 g33) 4 m41) (up2L (up2L tpl 1 g32) 3 m40) qh sh H.size v31 (show 0 ≤ (sh 0 0).toInt ∧ (sh 0 0).toInt ≤ 5 from by first | decide | omega) (show v31.toInt ≤ (sh 0 0).toInt from by first | decide | omega) (show 0 ≤ (sh 0 1).toInt ∧ (sh 0 1).toInt ≤ 4 from by first | decide | omega) h_of (show 0 ≤ v31.toInt ∧ v31.toInt ≤ 4 from by first | decide | omega)) gX6_solve_X6_chooseActs rfl rfl rfl nd_X6_chooseActs ⟨Nat.le_of_ble_eq_true rfl, Nat.le_of_ble_eq_true rfl⟩ (ci := 4) (q0 := 0) rfl rfl rfl hl.1 rfl (Nat.le_of_ble_eq_true rfl) ⟨Nat.zero_le _, Nat.zero_le _⟩ dX6_solve_66) cx.2.2.1 hD hS (fun u43 H locs hw42 hP hD hS => ?_)
              obtain ⟨m44, m45⟩ := u43
              have hP : va_P D vwCl [cell65_ qpl sh, (qpl 1, .inl (k 1, 630, .inr (.inl m44))), (qpl 2, .inl (k 0, 525, .inl m45)), (qpl 3, .inl (k 1, 35, .inr (.inl m40))), (qpl 4, .inl (k 0, 35, .inl m41)), cell32_ qh sh, cell0_ k qh sh, cell1_ k qh sh, cell4_ k qh sh, cell3_ k qh sh, cell2_ k qh sh] H := hP
              have hD : va_D A [cell65_ qpl sh, (qpl 1, .inl (k 1, 630, .inr (.inl m44))), (qpl 2, .inl (k 0, 525, .inl m45)), (qpl 3, .inl (k 1, 35, .inr (.inl m40))), (qpl 4, .inl (k 0, 35, .inl m41)), cell32_ qh sh, cell0_ k qh sh, cell1_ k qh sh, cell4_ k qh sh, cell3_ k qh sh, cell2_ k qh sh] := hD
              clear hw42
              obtain ⟨v46, e46⟩ : ∃ z : Int32, z = v31 + (-1) := ⟨_, rfl⟩
              refine lv_iinc (v := v46) (lv' := [(2, .int v46), (0, .ref (qpl 0)), (1, .ref (qh 0))]) hx hb dX6_solve_69 hl (k := 0) rfl (by rw [e46]; rfl) (by decide) rfl (fun ls hl => ?_)
              have t46 : v46.toInt = v31.toInt + (-1) := by rw [e46]; exact i_add rfl (by decide) (by omega) (by omega)
              refine lv_goto (tgt := 53) hx hb dX6_solve_72 (by decide) ?_
              exact ih53 v46 m44 m45 m40 m41 _ _ _ (by omega) (by first | decide | omega) (by first | decide | omega) hP hD hS (lv_sub hl [0, 1, 2] rfl)
        exact hL53 (Int.toNat (v21.toInt + 1) + 1) v21 g18 (spl 2) (tpl 3) (spl 4) _ _ _ (by omega) (by first | decide | omega) (by first | decide | omega) hP hD hS (lv_sub hl [0, 1, 2] rfl)
      · have f20 : v17.toInt < 35 := f_nle (by decide) rfl c20
        refine lv_aload_n hx hb dX6_solve_16 rfl (lv_at hl 1 rfl) ?_
        refine g_get cx hP iw_X6_solve_X6 0 rfl rfl 1 (by decide) rfl fw_X6_solve_13 rfl dX6_solve_17 ?_
        refine lv_aload_n hx hb dX6_solve_20 rfl (lv_at hl 1 rfl) ?_
        refine g_get cx hP iw_X6_solve_X6 0 rfl rfl 0 (by decide) rfl fw_X6_solve_38 rfl dX6_solve_21 ?_
        refine lv_iload_n hx hb dX6_solve_24 rfl (lv_at hl 0 rfl) ?_
        refine lv_iconst (v := 0) hx hb dX6_solve_25 (by decide) ?_
        have hlit47 : (0 : Int32).toInt = 0 := by decide
        refine g_ir (g_runS (wc := []) (rest := [.ref (qpl 1)]) cx hP hD hS [] rfl (by decide) [.int (sh 0 0), .int v17, .int 0] (c_X6_place l D k b H.size (sh 0 0) v17 0) gX6_solve_X6_place rfl rfl rfl nd_X6_place ⟨Nat.le_of_ble_eq_true rfl, Nat.le_of_ble_eq_true rfl⟩ rfl hl.1 rfl (Nat.le_of_ble_eq_true rfl) ⟨Nat.zero_le _, Nat.zero_le _⟩ dX6_solve_26) cx.2.2.1 hP hD hS [] rfl rfl (fun r49 H locs hw48 hP hS => ?_)
        have w50 : r49 = J_X6_place (sh 0 0) v17 (0 : Int32) := hw48
        clear hw48
        have zr49 : r49.toInt = ((sh 0 0).toInt * 3 + 0) * 35 + v17.toInt := place_t w50 ⟨by omega, by omega⟩ ⟨by omega, by omega⟩ ⟨by decide, by decide⟩
        refine lv_aload_n hx hb dX6_solve_29 rfl (lv_at hl 2 rfl) ?_
        refine va_gets hx hb cx.2.2.2.t0.1 hS cx.1.2.2.2.1 (cx.1.2.2.2.2 _ fw_X6_solve_45) (fun _ h => h) dX6_solve_30 ?_
        refine lv_iload_n hx hb dX6_solve_33 rfl (lv_at hl 0 rfl) ?_
        have hn51 : vp_in v17 35 := f_in (a := v17.toInt) rfl (by omega) (by omega)
        refine va_ti hx hb cx.2.2.2.t0.2 hS hn51 rfl dX6_solve_34 (lv_topi (fun v52 e52 => ?_))
        have t52 : 0 ≤ v52.toInt ∧ v52.toInt ≤ 400 ∧ v52.toInt / 100 + v52.toInt / 10 % 10 + v52.toInt % 10 ≤ 4 := by rw [e52]; exact zALL_v _
        refine g_ir (g_runV (wc := [cell32_ qh sh, cell0_ k qh sh, cell1_ k qh sh, cell4_ k qh sh, cell3_ k qh sh, cell2_ k qh sh]) (rest := [.int r49, .ref (qpl 1)]) cx hP hD hS [5, 6, 7, 8, 9, 10] rfl (by decide) [.int v52] (c_X4_bonusFor l D k b qh sh H.size v52) gX6_solve_X4_bonusFor rfl rfl rfl nd_X4_bonusFor ⟨Nat.le_of_ble_eq_true rfl, Nat.le_of_ble_eq_true rfl⟩ (ci := 2) (q0 := 0) rfl rfl rfl hl.1 rfl (Nat.le_of_ble_eq_true rfl) ⟨Nat.zero_le _, Nat.zero_le _⟩ dX6_solve_35) cx.2.2.1 hP hD hS [5, 6, 7, 8, 9, 10] rfl rfl (fun r54 H locs hw53 hP hS => ?_)
        have w55 : r54 = J_X4_bonusFor sh v52 := hw53
        clear hw53
        have k57 : r54 = (J_X4_bonusFor sh v52) := congrArg (fun z => z) w55
        obtain ⟨v58, e58⟩ : ∃ z : Int64, z = (r54 : Int32).toInt64 := ⟨_, rfl⟩
        refine lv_i2l (v := v58) hx hb dX6_solve_38 e58.symm ?_
        have hn59 : vp_in r49 630 := f_in (a := r49.toInt) rfl (by omega) (by omega)
        refine va_last hx hb cx.2.1 hP hD hS 1 1 rfl rfl hn59 dX6_solve_39 (fun H locs hP hD hS => ?_)
        obtain ⟨g60, eg60⟩ : ∃ g : Nat → Int64, g = vp_updL g18 (r49).toNatClampNeg v58 := ⟨_, rfl⟩
        rw [← eg60] at hP hD
        have hP : va_P D vwCl [cell65_ qpl sh, (qpl 1, .inl (k 1, 630, .inr (.inl g60))), cell23_ k qpl spl, cell24_ k qpl tpl, cell25_ k qpl spl, cell32_ qh sh, cell0_ k qh sh, cell1_ k qh sh, cell4_ k qh sh, cell3_ k qh sh, cell2_ k qh sh] H := hP
        have hD : va_D A [cell65_ qpl sh, (qpl 1, .inl (k 1, 630, .inr (.inl g60))), cell23_ k qpl spl, cell24_ k qpl tpl, cell25_ k qpl spl, cell32_ qh sh, cell0_ k qh sh, cell1_ k qh sh, cell4_ k qh sh, cell3_ k qh sh, cell2_ k qh sh] := hD
        obtain ⟨v61, e61⟩ : ∃ z : Int32, z = v17 + 1 := ⟨_, rfl⟩
        refine lv_iinc (v := v61) (lv' := [(2, .int v61), (0, .ref (qpl 0)), (1, .ref (qh 0))]) hx hb dX6_solve_40 hl (k := 0) rfl (by rw [e61]; rfl) (by decide) rfl (fun ls hl => ?_)
        have t61 : v61.toInt = v17.toInt + 1 := by rw [e61]; exact i_add rfl (by decide) (by omega) (by omega)
        refine lv_goto (tgt := 10) hx hb dX6_solve_43 (by decide) ?_
        exact ih10 v61 g60 _ _ _ (by omega) (by first | decide | omega) hP hD hS (lv_sub hl [0, 1, 2] rfl)
  have hlit62 : (0 : Int32).toInt = 0 := by decide
  exact hL10 (Int.toNat (35 - 0) + 1) 0 (tpl 1) _ _ _ (by omega) (by first | decide | omega) hP hD hS (lv_sub hl [0, 1, 2] rfl)
