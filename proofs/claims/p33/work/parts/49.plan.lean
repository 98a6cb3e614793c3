theorem fw_X6_leastFrom_13 : Cond.fieldLink RX6 13 "StillInAugust$Plan" "cost" "[J" ∈ wsX6_leastFrom := by decide +kernel
theorem nd_X6_place : yX6_place.cls ≠ "java/lang/invoke/MethodHandle" ∧ yX6_place.cls ≠ "java/lang/invoke/VarHandle" ∧ (parseMethodDescriptor yX6_place.desc).map (fun d => d.parameters.length) = some 3 := by decide +kernel
theorem iw_X6_leastFrom_X6 : ∀ w ∈ u_ws RX6 TX6 5, w ∈ wsX6_leastFrom := fun _ h => List.mem_cons_of_mem _ (List.mem_append_right _ h)
set_option maxHeartbeats 4000000 in
set_option maxRecDepth 100000 in
theorem c_X6_leastFrom (l : Launch) (D : va_G) (k : Nat → ClassId) (b : Nat → Nat) (qpl : Nat → Nat) (spl : Nat → Nat → Int32) (tpl : Nat → Nat → Int64) (sz : Nat) (p0 : Int32) (p1 : Int32) (p2 : Int32) (hv : 0 ≤ p1.toInt ∧ p1.toInt ≤ 400 ∧ tot p1 ≤ 4) (hp0 : 0 ≤ p0.toInt ∧ p0.toInt ≤ 5) (hp2 : 0 ≤ p2.toInt ∧ p2.toInt ≤ 2) : MetL l D k b yX6_leastFrom wsX6_leastFrom ({ frames := 1, cells := 0, slots := 0, locals := 23 } : Room) [(qpl 0, .inr (4, [.int (spl 0 0), .ref (qpl 1), .ref (qpl 2), .ref (qpl 3), .ref (qpl 4)])), (qpl 1, .inl (k 1, 630, .inr (.inl (tpl 1)))), (qpl 2, .inl (k 0, 525, .inl (spl 2))), (qpl 3, .inl (k 1, 35, .inr (.inl (tpl 3)))), (qpl 4, .inl (k 0, 35, .inl (spl 4)))] sz [.ref (qpl 0), .int p0, .int p1, .int p2] (fun (r : Int64) (u : Unit) => True) (fun u => [(qpl 0, .inr (4, [.int (spl 0 0), .ref (qpl 1), .ref (qpl 2), .ref (qpl 3), .ref (qpl 4)])), (qpl 1, .inl (k 1, 630, .inr (.inl (tpl 1)))), (qpl 2, .inl (k 0, 525, .inl (spl 2))), (qpl 3, .inl (k 1, 35, .inr (.inl (tpl 3)))), (qpl 4, .inl (k 0, 35, .inl (spl 4)))]) := by
  refine g_enter (cc := cX6_leastFrom) (maxL := 4) (ret := (some .long)) (by decide) rfl (Nat.le_of_ble_eq_true rfl) ?_
  intro p e s m below meth c A hsz hAe cx hr hP hD hS ls hl
  rw [hAe]
  refine g_q (fun Q hQ => ?_)
  have hx := cx.1.1
  have hb := cx.1.2.1
  have bp0 := i_rng p0
  have bp1 := i_rng p1
  have bp2 := i_rng p2
  have hl : lv_has ls 4 [(0, .ref (qpl 0)), (1, .int p0), (2, .int p1), (3, .int p2)] := hl
  obtain ⟨H, eH⟩ : ∃ H : Heap, H = s.heap := ⟨_, rfl⟩
  obtain ⟨locs, el⟩ : ∃ L : List Loc, L = [] := ⟨_, rfl⟩
  have hP : va_P D vwCl [(qpl 0, .inr (4, [.int (spl 0 0), .ref (qpl 1), .ref (qpl 2), .ref (qpl 3), .ref (qpl 4)])), (qpl 1, .inl (k 1, 630, .inr (.inl (tpl 1)))), (qpl 2, .inl (k 0, 525, .inl (spl 2))), (qpl 3, .inl (k 1, 35, .inr (.inl (tpl 3)))), (qpl 4, .inl (k 0, 35, .inl (spl 4)))] H := by rw [eH]; exact hP
  have hD : va_D A [(qpl 0, .inr (4, [.int (spl 0 0), .ref (qpl 1), .ref (qpl 2), .ref (qpl 3), .ref (qpl 4)])), (qpl 1, .inl (k 1, 630, .inr (.inl (tpl 1)))), (qpl 2, .inl (k 0, 525, .inl (spl 2))), (qpl 3, .inl (k 1, 35, .inr (.inl (tpl 3)))), (qpl 4, .inl (k 0, 35, .inl (spl 4)))] := hD
  have hS : va_S A s.heap H locs := by rw [eH, el]; exact hS
  suffices goal : W p l e ({ frames := 1, cells := 0, slots := 0, locals := 23 } : Room) s m ([.ref (qpl 0), .int p0, .int p1, .int p2] : List Value).toArray below meth c H locs 0 0 Q (F0 m 0 ls []) by rw [eH, el] at goal; exact goal
  refine lv_aload_n hx hb dX6_leastFrom_0 rfl (lv_at hl 0 rfl) ?_
  refine g_get cx hP iw_X6_leastFrom_X6 0 rfl rfl 1 (by decide) rfl fw_X6_leastFrom_13 rfl dX6_leastFrom_1 ?_
  refine lv_iload_n hx hb dX6_leastFrom_4 rfl (lv_at hl 1 rfl) ?_
  refine lv_iload_n hx hb dX6_leastFrom_5 rfl (lv_at hl 2 rfl) ?_
  refine g_ir (g_runS (wc := []) (rest := [.int p0, .ref (qpl 1)]) cx hP hD hS [] rfl (by decide) [.int p1] (c_X3_kind l D k b H.size p1 ⟨by first | decide | omega, by first | decide | omega, (show tot p1 ≤ 4 from by first | decide | omega)⟩) gX6_leastFrom_X3_kind rfl rfl rfl nd_X3_kind ⟨Nat.le_of_ble_eq_true rfl, Nat.le_of_ble_eq_true rfl⟩ rfl hl.1 rfl (Nat.le_of_ble_eq_true rfl) ⟨Nat.zero_le _, Nat.zero_le _⟩ dX6_leastFrom_6) cx.2.2.1 hP hD hS [] rfl rfl (fun r2 H locs hw1 hP hS => ?_)
  have w3 : r2 = J_X3_kind p1 := hw1
  clear hw1
  have zr2 := kind_t w3 ⟨by first | decide | omega, by first | decide | omega, (show tot p1 ≤ 4 from by first | decide | omega)⟩
  refine lv_iload_n hx hb dX6_leastFrom_9 rfl (lv_at hl 3 rfl) ?_
  refine g_ir (g_runS (wc := []) (rest := [.ref (qpl 1)]) cx hP hD hS [] rfl (by decide) [.int p0, .int r2, .int p2] (c_X6_place l D k b H.size p0 r2 p2) gX6_leastFrom_X6_place rfl rfl rfl nd_X6_place ⟨Nat.le_of_ble_eq_true rfl, Nat.le_of_ble_eq_true rfl⟩ rfl hl.1 rfl (Nat.le_of_ble_eq_true rfl) ⟨Nat.zero_le _, Nat.zero_le _⟩ dX6_leastFrom_10) cx.2.2.1 hP hD hS [] rfl rfl (fun r5 H locs hw4 hP hS => ?_)
  have w6 : r5 = J_X6_place p0 r2 p2 := hw4
  clear hw4
  have zr5 : r5.toInt = (p0.toInt * 3 + p2.toInt) * 35 + r2.toInt := place_t w6 ⟨by omega, by omega⟩ ⟨by omega, by omega⟩ ⟨by omega, by omega⟩
  have hn7 : vp_in r5 630 := f_in (a := r5.toInt) rfl (by omega) (by omega)
  refine va_lald hx hb cx.2.1 hP 1 1 rfl rfl hn7 dX6_leastFrom_13 (lv_topl (fun v8 e8 => ?_))
  rw [hQ]
  exact x_l cx hr () hP hD hS trivial dX6_leastFrom_14
theorem fw_X6_firstAct_17 : Cond.fieldLink RX6 17 "StillInAugust$Plan" "first" "[I" ∈ wsX6_firstAct := by decide +kernel
theorem iw_X6_firstAct_X6 : ∀ w ∈ u_ws RX6 TX6 5, w ∈ wsX6_firstAct := fun _ h => List.mem_cons_of_mem _ (List.mem_append_right _ h)
set_option maxHeartbeats 4000000 in
set_option maxRecDepth 100000 in
theorem c_X6_firstAct (l : Launch) (D : va_G) (k : Nat → ClassId) (b : Nat → Nat) (qpl : Nat → Nat) (spl : Nat → Nat → Int32) (tpl : Nat → Nat → Int64) (sz : Nat) (p0 : Int32) (p1 : Int32) (p2 : Int32) (hv : 0 ≤ p1.toInt ∧ p1.toInt ≤ 400 ∧ tot p1 ≤ 4) (hp0 : 0 ≤ p0.toInt ∧ p0.toInt ≤ 4) (hp2 : 0 ≤ p2.toInt ∧ p2.toInt ≤ 2) : MetI l D k b yX6_firstAct wsX6_firstAct ({ frames := 1, cells := 0, slots := 0, locals := 23 } : Room) [(qpl 0, .inr (4, [.int (spl 0 0), .ref (qpl 1), .ref (qpl 2), .ref (qpl 3), .ref (qpl 4)])), (qpl 1, .inl (k 1, 630, .inr (.inl (tpl 1)))), (qpl 2, .inl (k 0, 525, .inl (spl 2))), (qpl 3, .inl (k 1, 35, .inr (.inl (tpl 3)))), (qpl 4, .inl (k 0, 35, .inl (spl 4)))] sz [.ref (qpl 0), .int p0, .int p1, .int p2] (fun (r : Int32) (u : Unit) => True) (fun u => [(qpl 0, .inr (4, [.int (spl 0 0), .ref (qpl 1), .ref (qpl 2), .ref (qpl 3), .ref (qpl 4)])), (qpl 1, .inl (k 1, 630, .inr (.inl (tpl 1)))), (qpl 2, .inl (k 0, 525, .inl (spl 2))), (qpl 3, .inl (k 1, 35, .inr (.inl (tpl 3)))), (qpl 4, .inl (k 0, 35, .inl (spl 4)))]) := by
  refine g_enter (cc := cX6_firstAct) (maxL := 4) (ret := (some .int)) (by decide) rfl (Nat.le_of_ble_eq_true rfl) ?_
  intro p e s m below meth c A hsz hAe cx hr hP hD hS ls hl
  rw [hAe]
  refine g_q (fun Q hQ => ?_)
  have hx := cx.1.1
  have hb := cx.1.2.1
  have bp0 := i_rng p0
  have bp1 := i_rng p1
  have bp2 := i_rng p2
  have hl : lv_has ls 4 [(0, .ref (qpl 0)), (1, .int p0), (2, .int p1), (3, .int p2)] := hl
  obtain ⟨H, eH⟩ : ∃ H : Heap, H = s.heap := ⟨_, rfl⟩
  obtain ⟨locs, el⟩ : ∃ L : List Loc, L = [] := ⟨_, rfl⟩
  have hP : va_P D vwCl [(qpl 0, .inr (4, [.int (spl 0 0), .ref (qpl 1), .ref (qpl 2), .ref (qpl 3), .ref (qpl 4)])), (qpl 1, .inl (k 1, 630, .inr (.inl (tpl 1)))), (qpl 2, .inl (k 0, 525, .inl (spl 2))), (qpl 3, .inl (k 1, 35, .inr (.inl (tpl 3)))), (qpl 4, .inl (k 0, 35, .inl (spl 4)))] H := by rw [eH]; exact hP
  have hD : va_D A [(qpl 0, .inr (4, [.int (spl 0 0), .ref (qpl 1), .ref (qpl 2), .ref (qpl 3), .ref (qpl 4)])), (qpl 1, .inl (k 1, 630, .inr (.inl (tpl 1)))), (qpl 2, .inl (k 0, 525, .inl (spl 2))), (qpl 3, .inl (k 1, 35, .inr (.inl (tpl 3)))), (qpl 4, .inl (k 0, 35, .inl (spl 4)))] := hD
  have hS : va_S A s.heap H locs := by rw [eH, el]; exact hS
  suffices goal : W p l e ({ frames := 1, cells := 0, slots := 0, locals := 23 } : Room) s m ([.ref (qpl 0), .int p0, .int p1, .int p2] : List Value).toArray below meth c H locs 0 0 Q (F0 m 0 ls []) by rw [eH, el] at goal; exact goal
  refine lv_aload_n hx hb dX6_firstAct_0 rfl (lv_at hl 0 rfl) ?_
  refine g_get cx hP iw_X6_firstAct_X6 0 rfl rfl 2 (by decide) rfl fw_X6_firstAct_17 rfl dX6_firstAct_1 ?_
  refine lv_iload_n hx hb dX6_firstAct_4 rfl (lv_at hl 1 rfl) ?_
  refine lv_iload_n hx hb dX6_firstAct_5 rfl (lv_at hl 2 rfl) ?_
  refine g_ir (g_runS (wc := []) (rest := [.int p0, .ref (qpl 2)]) cx hP hD hS [] rfl (by decide) [.int p1] (c_X3_kind l D k b H.size p1 ⟨by first | decide | omega, by first | decide | omega, (show tot p1 ≤ 4 from by first | decide | omega)⟩) gX6_firstAct_X3_kind rfl rfl rfl nd_X3_kind ⟨Nat.le_of_ble_eq_true rfl, Nat.le_of_ble_eq_true rfl⟩ rfl hl.1 rfl (Nat.le_of_ble_eq_true rfl) ⟨Nat.zero_le _, Nat.zero_le _⟩ dX6_firstAct_6) cx.2.2.1 hP hD hS [] rfl rfl (fun r2 H locs hw1 hP hS => ?_)
  have w3 : r2 = J_X3_kind p1 := hw1
  clear hw1
  have zr2 := kind_t w3 ⟨by first | decide | omega, by first | decide | omega, (show tot p1 ≤ 4 from by first | decide | omega)⟩
  refine lv_iload_n hx hb dX6_firstAct_9 rfl (lv_at hl 3 rfl) ?_
  refine g_ir (g_runS (wc := []) (rest := [.ref (qpl 2)]) cx hP hD hS [] rfl (by decide) [.int p0, .int r2, .int p2] (c_X6_place l D k b H.size p0 r2 p2) gX6_firstAct_X6_place rfl rfl rfl nd_X6_place ⟨Nat.le_of_ble_eq_true rfl, Nat.le_of_ble_eq_true rfl⟩ rfl hl.1 rfl (Nat.le_of_ble_eq_true rfl) ⟨Nat.zero_le _, Nat.zero_le _⟩ dX6_firstAct_10) cx.2.2.1 hP hD hS [] rfl rfl (fun r5 H locs hw4 hP hS => ?_)
  have w6 : r5 = J_X6_place p0 r2 p2 := hw4
  clear hw4
  have zr5 : r5.toInt = (p0.toInt * 3 + p2.toInt) * 35 + r2.toInt := place_t w6 ⟨by omega, by omega⟩ ⟨by omega, by omega⟩ ⟨by omega, by omega⟩
  have hn7 : vp_in r5 525 := f_in (a := r5.toInt) rfl (by omega) (by omega)
  refine va_iald hx hb cx.2.1 hP 2 0 rfl rfl hn7 dX6_firstAct_13 (lv_topi (fun v8 e8 => ?_))
  rw [hQ]
  exact x_i cx hr () hP hD hS trivial dX6_firstAct_14
theorem fw_X6_scale_35 : Cond.fieldLink RX6 35 "StillInAugust$Plan" "SCALES" "[J" ∈ wsX6_scale := by decide +kernel
theorem fw_X6_scale_38 : Cond.fieldLink RX6 38 "StillInAugust$Plan" "weeks" "I" ∈ wsX6_scale := by decide +kernel
theorem iw_X6_scale_X6 : ∀ w ∈ u_ws RX6 TX6 5, w ∈ wsX6_scale := fun _ h => List.mem_cons_of_mem _ (List.mem_append_right _ h)
set_option maxHeartbeats 4000000 in
set_option maxRecDepth 100000 in
theorem c_X6_scale (l : Launch) (D : va_G) (k : Nat → ClassId) (b : Nat → Nat) (qpl : Nat → Nat) (spl : Nat → Nat → Int32) (tpl : Nat → Nat → Int64) (sz : Nat) (p0 : Int32) (h_pw : 0 ≤ (spl 0 0).toInt ∧ (spl 0 0).toInt ≤ 5) (h_pl : p0.toInt ≤ (spl 0 0).toInt) (hp0 : 0 ≤ p0.toInt ∧ p0.toInt ≤ 5) : MetL l D k b yX6_scale wsX6_scale ({ frames := 0, cells := 0, slots := 0, locals := 0 } : Room) [(qpl 0, .inr (4, [.int (spl 0 0), .ref (qpl 1), .ref (qpl 2), .ref (qpl 3), .ref (qpl 4)])), (qpl 1, .inl (k 1, 630, .inr (.inl (tpl 1)))), (qpl 2, .inl (k 0, 525, .inl (spl 2))), (qpl 3, .inl (k 1, 35, .inr (.inl (tpl 3)))), (qpl 4, .inl (k 0, 35, .inl (spl 4)))] sz [.ref (qpl 0), .int p0] (fun (r : Int64) (u : Unit) => True) (fun u => [(qpl 0, .inr (4, [.int (spl 0 0), .ref (qpl 1), .ref (qpl 2), .ref (qpl 3), .ref (qpl 4)])), (qpl 1, .inl (k 1, 630, .inr (.inl (tpl 1)))), (qpl 2, .inl (k 0, 525, .inl (spl 2))), (qpl 3, .inl (k 1, 35, .inr (.inl (tpl 3)))), (qpl 4, .inl (k 0, 35, .inl (spl 4)))]) := by
  refine g_enter (cc := cX6_scale) (maxL := 2) (ret := (some .long)) (by decide) rfl (Nat.le_of_ble_eq_true rfl) ?_
  intro p e s m below meth c A hsz hAe cx hr hP hD hS ls hl
  rw [hAe]
  refine g_q (fun Q hQ => ?_)
  have hx := cx.1.1
  have hb := cx.1.2.1
  have bp0 := i_rng p0
  have hl : lv_has ls 2 [(0, .ref (qpl 0)), (1, .int p0)] := hl
  obtain ⟨H, eH⟩ : ∃ H : Heap, H = s.heap := ⟨_, rfl⟩
  obtain ⟨locs, el⟩ : ∃ L : List Loc, L = [] := ⟨_, rfl⟩
  have hP : va_P D vwCl [(qpl 0, .inr (4, [.int (spl 0 0), .ref (qpl 1), .ref (qpl 2), .ref (qpl 3), .ref (qpl 4)])), (qpl 1, .inl (k 1, 630, .inr (.inl (tpl 1)))), (qpl 2, .inl (k 0, 525, .inl (spl 2))), (qpl 3, .inl (k 1, 35, .inr (.inl (tpl 3)))), (qpl 4, .inl (k 0, 35, .inl (spl 4)))] H := by rw [eH]; exact hP
  have hD : va_D A [(qpl 0, .inr (4, [.int (spl 0 0), .ref (qpl 1), .ref (qpl 2), .ref (qpl 3), .ref (qpl 4)])), (qpl 1, .inl (k 1, 630, .inr (.inl (tpl 1)))), (qpl 2, .inl (k 0, 525, .inl (spl 2))), (qpl 3, .inl (k 1, 35, .inr (.inl (tpl 3)))), (qpl 4, .inl (k 0, 35, .inl (spl 4)))] := hD
  have hS : va_S A s.heap H locs := by rw [eH, el]; exact hS
  suffices goal : W p l e ({ frames := 0, cells := 0, slots := 0, locals := 0 } : Room) s m ([.ref (qpl 0), .int p0] : List Value).toArray below meth c H locs 0 0 Q (F0 m 0 ls []) by rw [eH, el] at goal; exact goal
  refine va_gets hx hb cx.2.2.2.t4.1 hS cx.1.2.2.2.1 (cx.1.2.2.2.2 _ fw_X6_scale_35) (fun _ h => h) dX6_scale_0 ?_
  refine lv_aload_n hx hb dX6_scale_3 rfl (lv_at hl 0 rfl) ?_
  refine g_get cx hP iw_X6_scale_X6 0 rfl rfl 0 (by decide) rfl fw_X6_scale_38 rfl dX6_scale_4 ?_
  refine lv_iload_n hx hb dX6_scale_7 rfl (lv_at hl 1 rfl) ?_
  refine lv_isub hx hb dX6_scale_8 (lv_topi (fun v1 e1 => ?_))
  have t1 : v1.toInt = (spl 0 0).toInt - p0.toInt := by rw [e1]; exact i_sub rfl rfl (by omega) (by omega)
  have hn2 : vp_in v1 6 := f_in (a := v1.toInt) rfl (by omega) (by omega)
  refine va_tl hx hb cx.2.2.2.t4.2 hS hn2 rfl dX6_scale_9 (lv_topl (fun v3 e3 => ?_))
  rw [hQ]
  exact x_l cx hr () hP hD hS trivial dX6_scale_10
theorem fw_X6_meanBehind_13 : Cond.fieldLink RX6 13 "StillInAugust$Plan" "cost" "[J" ∈ wsX6_meanBehind := by decide +kernel
theorem iw_X6_meanBehind_X6 : ∀ w ∈ u_ws RX6 TX6 5, w ∈ wsX6_meanBehind := fun _ h => List.mem_cons_of_mem _ (List.mem_append_left _ (List.mem_append_right _ h))
set_option maxHeartbeats 4000000 in
set_option maxRecDepth 100000 in
theorem c_X6_meanBehind (l : Launch) (D : va_G) (k : Nat → ClassId) (b : Nat → Nat) (qpl : Nat → Nat) (spl : Nat → Nat → Int32) (tpl : Nat → Nat → Int64) (qh : Nat → Nat) (sh : Nat → Nat → Int32) (sz : Nat) (p0 : Int32) (p1 : Int32) (p2 : Int32) (h_su : SUok (sh 5)) (hp0 : 0 ≤ p0.toInt ∧ p0.toInt ≤ 34) (hp1 : 0 ≤ p1.toInt ∧ p1.toInt ≤ 5) (hp2 : 0 ≤ p2.toInt ∧ p2.toInt ≤ 2) : MetL l D k b yX6_meanBehind wsX6_meanBehind ({ frames := 1, cells := 0, slots := 0, locals := 22 } : Room) [(qpl 0, .inr (4, [.int (spl 0 0), .ref (qpl 1), .ref (qpl 2), .ref (qpl 3), .ref (qpl 4)])), (qpl 1, .inl (k 1, 630, .inr (.inl (tpl 1)))), (qpl 2, .inl (k 0, 525, .inl (spl 2))), (qpl 3, .inl (k 1, 35, .inr (.inl (tpl 3)))), (qpl 4, .inl (k 0, 35, .inl (spl 4))), (qh 0, .inr (2, [.int (sh 0 0), .int (sh 0 1), .ref (qh 1), .ref (qh 2), .ref (qh 3), .ref (qh 4), .int (sh 0 6), .int (sh 0 7), .int (sh 0 8), .int (sh 0 9), .int (sh 0 10), .int (sh 0 11), .int (sh 0 12), .ref (qh 5)])), (qh 1, .inl (k 0, 5, .inl (sh 1))), (qh 2, .inl (k 0, 5, .inl (sh 2))), (qh 3, .inl (k 0, 3, .inl (sh 3))), (qh 4, .inl (k 0, 3, .inl (sh 4))), (qh 5, .inl (k 0, 525, .inl (sh 5)))] sz [.ref (qpl 0), .ref (qh 0), .int p0, .int p1, .int p2] (fun (r : Int64) (u : Unit) => True) (fun u => [(qpl 0, .inr (4, [.int (spl 0 0), .ref (qpl 1), .ref (qpl 2), .ref (qpl 3), .ref (qpl 4)])), (qpl 1, .inl (k 1, 630, .inr (.inl (tpl 1)))), (qpl 2, .inl (k 0, 525, .inl (spl 2))), (qpl 3, .inl (k 1, 35, .inr (.inl (tpl 3)))), (qpl 4, .inl (k 0, 35, .inl (spl 4))), (qh 0, .inr (2, [.int (sh 0 0), .int (sh 0 1), .ref (qh 1), .ref (qh 2), .ref (qh 3), .ref (qh 4), .int (sh 0 6), .int (sh 0 7), .int (sh 0 8), .int (sh 0 9), .int (sh 0 10), .int (sh 0 11), .int (sh 0 12), .ref (qh 5)])), (qh 1, .inl (k 0, 5, .inl (sh 1))), (qh 2, .inl (k 0, 5, .inl (sh 2))), (qh 3, .inl (k 0, 3, .inl (sh 3))), (qh 4, .inl (k 0, 3, .inl (sh 4))), (qh 5, .inl (k 0, 525, .inl (sh 5)))]) := by
  refine g_enter (cc := cX6_meanBehind) (maxL := 8) (ret := (some .long)) (by decide) rfl (Nat.le_of_ble_eq_true rfl) ?_
  intro p e s m below meth c A hsz hAe cx hr hP hD hS ls hl
  rw [hAe]
  refine g_q (fun Q hQ => ?_)
  have hx := cx.1.1
  have hb := cx.1.2.1
  have bp0 := i_rng p0
  have bp1 := i_rng p1
  have bp2 := i_rng p2
  have hl : lv_has ls 8 [(0, .ref (qpl 0)), (1, .ref (qh 0)), (2, .int p0), (3, .int p1), (4, .int p2)] := hl
  obtain ⟨H, eH⟩ : ∃ H : Heap, H = s.heap := ⟨_, rfl⟩
  obtain ⟨locs, el⟩ : ∃ L : List Loc, L = [] := ⟨_, rfl⟩
  have hP : va_P D vwCl [(qpl 0, .inr (4, [.int (spl 0 0), .ref (qpl 1), .ref (qpl 2), .ref (qpl 3), .ref (qpl 4)])), (qpl 1, .inl (k 1, 630, .inr (.inl (tpl 1)))), (qpl 2, .inl (k 0, 525, .inl (spl 2))), (qpl 3, .inl (k 1, 35, .inr (.inl (tpl 3)))), (qpl 4, .inl (k 0, 35, .inl (spl 4))), (qh 0, .inr (2, [.int (sh 0 0), .int (sh 0 1), .ref (qh 1), .ref (qh 2), .ref (qh 3), .ref (qh 4), .int (sh 0 6), .int (sh 0 7), .int (sh 0 8), .int (sh 0 9), .int (sh 0 10), .int (sh 0 11), .int (sh 0 12), .ref (qh 5)])), (qh 1, .inl (k 0, 5, .inl (sh 1))), (qh 2, .inl (k 0, 5, .inl (sh 2))), (qh 3, .inl (k 0, 3, .inl (sh 3))), (qh 4, .inl (k 0, 3, .inl (sh 4))), (qh 5, .inl (k 0, 525, .inl (sh 5)))] H := by rw [eH]; exact hP
  have hD : va_D A [(qpl 0, .inr (4, [.int (spl 0 0), .ref (qpl 1), .ref (qpl 2), .ref (qpl 3), .ref (qpl 4)])), (qpl 1, .inl (k 1, 630, .inr (.inl (tpl 1)))), (qpl 2, .inl (k 0, 525, .inl (spl 2))), (qpl 3, .inl (k 1, 35, .inr (.inl (tpl 3)))), (qpl 4, .inl (k 0, 35, .inl (spl 4))), (qh 0, .inr (2, [.int (sh 0 0), .int (sh 0 1), .ref (qh 1), .ref (qh 2), .ref (qh 3), .ref (qh 4), .int (sh 0 6), .int (sh 0 7), .int (sh 0 8), .int (sh 0 9), .int (sh 0 10), .int (sh 0 11), .int (sh 0 12), .ref (qh 5)])), (qh 1, .inl (k 0, 5, .inl (sh 1))), (qh 2, .inl (k 0, 5, .inl (sh 2))), (qh 3, .inl (k 0, 3, .inl (sh 3))), (qh 4, .inl (k 0, 3, .inl (sh 4))), (qh 5, .inl (k 0, 525, .inl (sh 5)))] := hD
  have hS : va_S A s.heap H locs := by rw [eH, el]; exact hS
  suffices goal : W p l e ({ frames := 1, cells := 0, slots := 0, locals := 22 } : Room) s m ([.ref (qpl 0), .ref (qh 0), .int p0, .int p1, .int p2] : List Value).toArray below meth c H locs 0 0 Q (F0 m 0 ls []) by rw [eH, el] at goal; exact goal
  refine lv_lconst (v := 0) hx hb dX6_meanBehind_0 (by decide) ?_
  refine lv_lstore (lv' := [(5, .long 0), (0, .ref (qpl 0)), (1, .ref (qh 0)), (2, .int p0), (3, .int p1), (4, .int p2)]) hx hb dX6_meanBehind_1 hl (by decide) rfl (fun ls hl => ?_)
  refine lv_iconst (v := 0) hx hb dX6_meanBehind_3 (by decide) ?_
  refine lv_istore (lv' := [(7, .int 0), (5, .long 0), (0, .ref (qpl 0)), (1, .ref (qh 0)), (2, .int p0), (3, .int p1), (4, .int p2)]) hx hb dX6_meanBehind_4 hl (by decide) rfl (fun ls hl => ?_)
  have hL6 : ∀ (n17 : Nat) (v15 : Int32) (v16 : Int64) (H : Heap) (locs : List Loc) (ls : Array Slot), 15 - v15.toInt < (n17 : Int) → (0 ≤ v15.toInt ∧ v15.toInt ≤ 15) → va_P D vwCl [(qpl 0, .inr (4, [.int (spl 0 0), .ref (qpl 1), .ref (qpl 2), .ref (qpl 3), .ref (qpl 4)])), (qpl 1, .inl (k 1, 630, .inr (.inl (tpl 1)))), (qpl 2, .inl (k 0, 525, .inl (spl 2))), (qpl 3, .inl (k 1, 35, .inr (.inl (tpl 3)))), (qpl 4, .inl (k 0, 35, .inl (spl 4))), (qh 0, .inr (2, [.int (sh 0 0), .int (sh 0 1), .ref (qh 1), .ref (qh 2), .ref (qh 3), .ref (qh 4), .int (sh 0 6), .int (sh 0 7), .int (sh 0 8), .int (sh 0 9), .int (sh 0 10), .int (sh 0 11), .int (sh 0 12), .ref (qh 5)])), (qh 1, .inl (k 0, 5, .inl (sh 1))), (qh 2, .inl (k 0, 5, .inl (sh 2))), (qh 3, .inl (k 0, 3, .inl (sh 3))), (qh 4, .inl (k 0, 3, .inl (sh 4))), (qh 5, .inl (k 0, 525, .inl (sh 5)))] H → va_D A [(qpl 0, .inr (4, [.int (spl 0 0), .ref (qpl 1), .ref (qpl 2), .ref (qpl 3), .ref (qpl 4)])), (qpl 1, .inl (k 1, 630, .inr (.inl (tpl 1)))), (qpl 2, .inl (k 0, 525, .inl (spl 2))), (qpl 3, .inl (k 1, 35, .inr (.inl (tpl 3)))), (qpl 4, .inl (k 0, 35, .inl (spl 4))), (qh 0, .inr (2, [.int (sh 0 0), .int (sh 0 1), .ref (qh 1), .ref (qh 2), .ref (qh 3), .ref (qh 4), .int (sh 0 6), .int (sh 0 7), .int (sh 0 8), .int (sh 0 9), .int (sh 0 10), .int (sh 0 11), .int (sh 0 12), .ref (qh 5)])), (qh 1, .inl (k 0, 5, .inl (sh 1))), (qh 2, .inl (k 0, 5, .inl (sh 2))), (qh 3, .inl (k 0, 3, .inl (sh 3))), (qh 4, .inl (k 0, 3, .inl (sh 4))), (qh 5, .inl (k 0, 525, .inl (sh 5)))] → va_S A s.heap H locs → lv_has ls 8 [(7, .int v15), (5, .long v16), (0, .ref (qpl 0)), (1, .ref (qh 0)), (2, .int p0), (3, .int p1), (4, .int p2)] → W p l e ({ frames := 1, cells := 0, slots := 0, locals := 22 } : Room) s m ([.ref (qpl 0), .ref (qh 0), .int p0, .int p1, .int p2] : List Value).toArray below meth c H locs 0 0 Q (F0 m 6 ls []) := by
    intro n17
    induction n17 with
    | zero => intro v15 v16 H locs ls hmn17 bv15 hP hD hS hl; exact absurd hmn17 (by omega)
    | succ n17 ih6 =>
      intro v15 v16 H locs ls hmn17 bv15 hP hD hS hl
      refine lv_iload hx hb dX6_meanBehind_6 (lv_at hl 0 rfl) ?_
      refine lv_bipush (v := 15) hx hb dX6_meanBehind_8 (by decide) ?_
      refine lv_icmp_ge (tgt := 46) hx hb dX6_meanBehind_10 (by decide) (fun c18 => ?_) (fun c18 => ?_)
      · have f18 : 15 ≤ v15.toInt := f_le (by decide) rfl c18
        refine lv_lload hx hb dX6_meanBehind_46 (lv_at hl 1 rfl) ?_
        rw [hQ]
        exact x_l cx hr () hP hD hS trivial dX6_meanBehind_48
      · have f18 : v15.toInt < 15 := f_nle (by decide) rfl c18
        refine lv_lload hx hb dX6_meanBehind_13 (lv_at hl 1 rfl) ?_
        refine lv_aload_n hx hb dX6_meanBehind_15 rfl (lv_at hl 3 rfl) ?_
        refine lv_iload_n hx hb dX6_meanBehind_16 rfl (lv_at hl 4 rfl) ?_
        refine lv_iload hx hb dX6_meanBehind_17 (lv_at hl 0 rfl) ?_
        refine g_ir (g_runV (wc := [(qh 0, .inr (2, [.int (sh 0 0), .int (sh 0 1), .ref (qh 1), .ref (qh 2), .ref (qh 3), .ref (qh 4), .int (sh 0 6), .int (sh 0 7), .int (sh 0 8), .int (sh 0 9), .int (sh 0 10), .int (sh 0 11), .int (sh 0 12), .ref (qh 5)])), (qh 1, .inl (k 0, 5, .inl (sh 1))), (qh 2, .inl (k 0, 5, .inl (sh 2))), (qh 3, .inl (k 0, 3, .inl (sh 3))), (qh 4, .inl (k 0, 3, .inl (sh 4))), (qh 5, .inl (k 0, 525, .inl (sh 5)))]) (rest := [.long v16]) cx hP hD hS [5, 6, 7, 8, 9, 10] rfl (by decide) [.int p0, .int v15] (c_X4_partsTo l D k b qh sh H.size p0 v15 (show SUok (sh 5) from by assumption) (show 0 ≤ p0.toInt ∧ p0.toInt ≤ 34 from by first | decide | omega) (show 0 ≤ v15.toInt ∧ v15.toInt ≤ 14 from by first | decide | omega)) gX6_meanBehind_X4_partsTo rfl rfl rfl nd_X4_partsTo ⟨Nat.le_of_ble_eq_true rfl, Nat.le_of_ble_eq_true rfl⟩ (ci := 2) (q0 := 0) rfl rfl rfl hl.1 rfl (Nat.le_of_ble_eq_true rfl) ⟨Nat.zero_le _, Nat.zero_le _⟩ dX6_meanBehind_19) cx.2.2.1 hP hD hS [5, 6, 7, 8, 9, 10] rfl rfl (fun r20 H locs hw19 hP hS => ?_)
        have w21 : r20 = 0 ∨ totN v15.toNatClampNeg ≤ totN p0.toNatClampNeg := hw19
        clear hw19
        obtain ⟨v22, e22⟩ : ∃ z : Int64, z = (r20 : Int32).toInt64 := ⟨_, rfl⟩
        refine lv_i2l (v := v22) hx hb dX6_meanBehind_22 e22.symm ?_
        refine lv_aload_n hx hb dX6_meanBehind_23 rfl (lv_at hl 2 rfl) ?_
        refine g_get cx hP iw_X6_meanBehind_X6 0 rfl rfl 1 (by decide) rfl fw_X6_meanBehind_13 rfl dX6_meanBehind_24 ?_
        refine lv_iload_n hx hb dX6_meanBehind_27 rfl (lv_at hl 5 rfl) ?_
        refine lv_iload hx hb dX6_meanBehind_28 (lv_at hl 0 rfl) ?_
        refine lv_iload hx hb dX6_meanBehind_30 (lv_at hl 6 rfl) ?_
        refine g_ir (g_runS (wc := []) (rest := [.ref (qpl 1), .long v22, .long v16]) cx hP hD hS [] rfl (by decide) [.int p1, .int v15, .int p2] (c_X6_place l D k b H.size p1 v15 p2) gX6_meanBehind_X6_place rfl rfl rfl nd_X6_place ⟨Nat.le_of_ble_eq_true rfl, Nat.le_of_ble_eq_true rfl⟩ rfl hl.1 rfl (Nat.le_of_ble_eq_true rfl) ⟨Nat.zero_le _, Nat.zero_le _⟩ dX6_meanBehind_32) cx.2.2.1 hP hD hS [] rfl rfl (fun r24 H locs hw23 hP hS => ?_)
        have w25 : r24 = J_X6_place p1 v15 p2 := hw23
        clear hw23
        have zr24 : r24.toInt = (p1.toInt * 3 + p2.toInt) * 35 + v15.toInt := place_t w25 ⟨by omega, by omega⟩ ⟨by omega, by omega⟩ ⟨by omega, by omega⟩
        have hn26 : vp_in r24 630 := f_in (a := r24.toInt) rfl (by omega) (by omega)
        refine va_lald hx hb cx.2.1 hP 1 1 rfl rfl hn26 dX6_meanBehind_35 (lv_topl (fun v27 e27 => ?_))
        refine lv_lmul hx hb dX6_meanBehind_36 (lv_topl (fun v28 e28 => ?_))
        refine lv_ladd hx hb dX6_meanBehind_37 (lv_topl (fun v29 e29 => ?_))
        refine lv_lstore (lv' := [(5, .long v29), (7, .int v15), (0, .ref (qpl 0)), (1, .ref (qh 0)), (2, .int p0), (3, .int p1), (4, .int p2)]) hx hb dX6_meanBehind_38 hl (by decide) rfl (fun ls hl => ?_)
        obtain ⟨v30, e30⟩ : ∃ z : Int32, z = v15 + 1 := ⟨_, rfl⟩
        refine lv_iinc (v := v30) (lv' := [(7, .int v30), (5, .long v29), (0, .ref (qpl 0)), (1, .ref (qh 0)), (2, .int p0), (3, .int p1), (4, .int p2)]) hx hb dX6_meanBehind_40 hl (k := 1) rfl (by rw [e30]; rfl) (by decide) rfl (fun ls hl => ?_)
        have t30 : v30.toInt = v15.toInt + 1 := by rw [e30]; exact i_add rfl (by decide) (by omega) (by omega)
        refine lv_goto (tgt := 6) hx hb dX6_meanBehind_43 (by decide) ?_
        exact ih6 v30 v29 _ _ _ (by omega) (by first | decide | omega) hP hD hS (lv_sub hl [0, 1, 2, 3, 4, 5, 6] rfl)
  have hlit31 : (0 : Int32).toInt = 0 := by decide
  have hlit32 : (0 : Int32).toInt = 0 := by decide
  exact hL6 (Int.toNat (15 - 0) + 1) 0 0 _ _ _ (by omega) (by first | decide | omega) hP hD hS (lv_sub hl [0, 1, 2, 3, 4, 5, 6] rfl)
theorem fw_X6_chooseOrders_21 : Cond.fieldLink RX6 21 "StillInAugust$Plan" "later" "[J" ∈ wsX6_chooseOrders := by decide +kernel
theorem fw_X6_chooseOrders_24 : Cond.fieldLink RX6 24 "StillInAugust$Plan" "order" "[I" ∈ wsX6_chooseOrders := by decide +kernel
theorem fw_X6_chooseOrders_45 : Cond.fieldLink RX6 45 "StillInAugust$Hands" "ALL" "[I" ∈ wsX6_chooseOrders := by decide +kernel
theorem fw_X6_chooseOrders_64 : Cond.fieldLink RX6 64 "StillInAugust$House" "hooks" "I" ∈ wsX6_chooseOrders := by decide +kernel
theorem nd_X6_meanBehind : yX6_meanBehind.cls = RX6 ∧ yX6_meanBehind.cls ≠ "java/lang/invoke/MethodHandle" ∧ yX6_meanBehind.cls ≠ "java/lang/invoke/VarHandle" ∧ (parseMethodDescriptor yX6_meanBehind.desc).map (fun d => d.parameters.length) = some 4 := by decide +kernel
theorem iw_X6_chooseOrders_X4 : ∀ w ∈ u_ws RX4 TX4 14, w ∈ wsX6_chooseOrders := fun _ h => List.mem_cons_of_mem _ (List.mem_append_left _ (List.mem_append_right _ h))
theorem iw_X6_chooseOrders_X6 : ∀ w ∈ u_ws RX6 TX6 5, w ∈ wsX6_chooseOrders := fun _ h => List.mem_cons_of_mem _ (List.mem_append_right _ h)
set_option maxHeartbeats 4000000 in
set_option maxRecDepth 100000 in
theorem c_X6_chooseOrders (l : Launch) (D : va_G) (k : Nat → ClassId) (b : Nat → Nat) (qpl : Nat → Nat) (spl : Nat → Nat → Int32) (tpl : Nat → Nat → Int64) (qh : Nat → Nat) (sh : Nat → Nat → Int32) (sz : Nat) (p0 : Int32) (h_su : SUok (sh 5)) (h_wk : 0 ≤ (sh 0 0).toInt ∧ (sh 0 0).toInt ≤ 5) (hp0 : 0 ≤ p0.toInt ∧ p0.toInt ≤ 4) : MetV l D k b yX6_chooseOrders wsX6_chooseOrders ({ frames := 2, cells := 0, slots := 0, locals := 49 } : Room) [(qpl 0, .inr (4, [.int (spl 0 0), .ref (qpl 1), .ref (qpl 2), .ref (qpl 3), .ref (qpl 4)])), (qpl 1, .inl (k 1, 630, .inr (.inl (tpl 1)))), (qpl 2, .inl (k 0, 525, .inl (spl 2))), (qpl 3, .inl (k 1, 35, .inr (.inl (tpl 3)))), (qpl 4, .inl (k 0, 35, .inl (spl 4))), (qh 0, .inr (2, [.int (sh 0 0), .int (sh 0 1), .ref (qh 1), .ref (qh 2), .ref (qh 3), .ref (qh 4), .int (sh 0 6), .int (sh 0 7), .int (sh 0 8), .int (sh 0 9), .int (sh 0 10), .int (sh 0 11), .int (sh 0 12), .ref (qh 5)])), (qh 1, .inl (k 0, 5, .inl (sh 1))), (qh 2, .inl (k 0, 5, .inl (sh 2))), (qh 3, .inl (k 0, 3, .inl (sh 3))), (qh 4, .inl (k 0, 3, .inl (sh 4))), (qh 5, .inl (k 0, 525, .inl (sh 5)))] sz [.ref (qpl 0), .ref (qh 0), .int p0] (fun (u : (Nat → Int64) × (Nat → Int32)) => True) (fun u => [(qpl 0, .inr (4, [.int (spl 0 0), .ref (qpl 1), .ref (qpl 2), .ref (qpl 3), .ref (qpl 4)])), (qpl 1, .inl (k 1, 630, .inr (.inl (tpl 1)))), (qpl 2, .inl (k 0, 525, .inl (spl 2))), (qpl 3, .inl (k 1, 35, .inr (.inl (u.1)))), (qpl 4, .inl (k 0, 35, .inl (u.2))), (qh 0, .inr (2, [.int (sh 0 0), .int (sh 0 1), .ref (qh 1), .ref (qh 2), .ref (qh 3), .ref (qh 4), .int (sh 0 6), .int (sh 0 7), .int (sh 0 8), .int (sh 0 9), .int (sh 0 10), .int (sh 0 11), .int (sh 0 12), .ref (qh 5)])), (qh 1, .inl (k 0, 5, .inl (sh 1))), (qh 2, .inl (k 0, 5, .inl (sh 2))), (qh 3, .inl (k 0, 3, .inl (sh 3))), (qh 4, .inl (k 0, 3, .inl (sh 4))), (qh 5, .inl (k 0, 525, .inl (sh 5)))]) := by
  refine g_enter (cc := cX6_chooseOrders) (maxL := 8) (ret := none) (by decide) rfl (Nat.le_of_ble_eq_true rfl) ?_
  intro p e s m below meth c A hsz hAe cx hr hP hD hS ls hl
  rw [hAe]
  refine g_q (fun Q hQ => ?_)
  have hx := cx.1.1
  have hb := cx.1.2.1
  have bp0 := i_rng p0
  have hl : lv_has ls 8 [(0, .ref (qpl 0)), (1, .ref (qh 0)), (2, .int p0)] := hl
  obtain ⟨H, eH⟩ : ∃ H : Heap, H = s.heap := ⟨_, rfl⟩
  obtain ⟨locs, el⟩ : ∃ L : List Loc, L = [] := ⟨_, rfl⟩
  have hP : va_P D vwCl [(qpl 0, .inr (4, [.int (spl 0 0), .ref (qpl 1), .ref (qpl 2), .ref (qpl 3), .ref (qpl 4)])), (qpl 1, .inl (k 1, 630, .inr (.inl (tpl 1)))), (qpl 2, .inl (k 0, 525, .inl (spl 2))), (qpl 3, .inl (k 1, 35, .inr (.inl (tpl 3)))), (qpl 4, .inl (k 0, 35, .inl (spl 4))), (qh 0, .inr (2, [.int (sh 0 0), .int (sh 0 1), .ref (qh 1), .ref (qh 2), .ref (qh 3), .ref (qh 4), .int (sh 0 6), .int (sh 0 7), .int (sh 0 8), .int (sh 0 9), .int (sh 0 10), .int (sh 0 11), .int (sh 0 12), .ref (qh 5)])), (qh 1, .inl (k 0, 5, .inl (sh 1))), (qh 2, .inl (k 0, 5, .inl (sh 2))), (qh 3, .inl (k 0, 3, .inl (sh 3))), (qh 4, .inl (k 0, 3, .inl (sh 4))), (qh 5, .inl (k 0, 525, .inl (sh 5)))] H := by rw [eH]; exact hP
  have hD : va_D A [(qpl 0, .inr (4, [.int (spl 0 0), .ref (qpl 1), .ref (qpl 2), .ref (qpl 3), .ref (qpl 4)])), (qpl 1, .inl (k 1, 630, .inr (.inl (tpl 1)))), (qpl 2, .inl (k 0, 525, .inl (spl 2))), (qpl 3, .inl (k 1, 35, .inr (.inl (tpl 3)))), (qpl 4, .inl (k 0, 35, .inl (spl 4))), (qh 0, .inr (2, [.int (sh 0 0), .int (sh 0 1), .ref (qh 1), .ref (qh 2), .ref (qh 3), .ref (qh 4), .int (sh 0 6), .int (sh 0 7), .int (sh 0 8), .int (sh 0 9), .int (sh 0 10), .int (sh 0 11), .int (sh 0 12), .ref (qh 5)])), (qh 1, .inl (k 0, 5, .inl (sh 1))), (qh 2, .inl (k 0, 5, .inl (sh 2))), (qh 3, .inl (k 0, 3, .inl (sh 3))), (qh 4, .inl (k 0, 3, .inl (sh 4))), (qh 5, .inl (k 0, 525, .inl (sh 5)))] := hD
  have hS : va_S A s.heap H locs := by rw [eH, el]; exact hS
  suffices goal : W p l e ({ frames := 2, cells := 0, slots := 0, locals := 49 } : Room) s m ([.ref (qpl 0), .ref (qh 0), .int p0] : List Value).toArray below meth c H locs 0 0 Q (F0 m 0 ls []) by rw [eH, el] at goal; exact goal
  refine lv_aload_n hx hb dX6_chooseOrders_0 rfl (lv_at hl 1 rfl) ?_
  refine lv_iload_n hx hb dX6_chooseOrders_1 rfl (lv_at hl 2 rfl) ?_
  refine g_ir (g_runV (wc := [(qh 0, .inr (2, [.int (sh 0 0), .int (sh 0 1), .ref (qh 1), .ref (qh 2), .ref (qh 3), .ref (qh 4), .int (sh 0 6), .int (sh 0 7), .int (sh 0 8), .int (sh 0 9), .int (sh 0 10), .int (sh 0 11), .int (sh 0 12), .ref (qh 5)])), (qh 1, .inl (k 0, 5, .inl (sh 1))), (qh 2, .inl (k 0, 5, .inl (sh 2))), (qh 3, .inl (k 0, 3, .inl (sh 3))), (qh 4, .inl (k 0, 3, .inl (sh 4))), (qh 5, .inl (k 0, 525, .inl (sh 5)))]) (rest := []) cx hP hD hS [5, 6, 7, 8, 9, 10] rfl (by decide) [.int p0] (c_X4_mostOrdered l D k b qh sh H.size p0 (show 0 ≤ (sh 0 0).toInt ∧ (sh 0 0).toInt ≤ 5 from by first | decide | omega)) gX6_chooseOrders_X4_mostOrdered rfl rfl rfl nd_X4_mostOrdered ⟨Nat.le_of_ble_eq_true rfl, Nat.le_of_ble_eq_true rfl⟩ (ci := 2) (q0 := 0) rfl rfl rfl hl.1 rfl (Nat.le_of_ble_eq_true rfl) ⟨Nat.zero_le _, Nat.zero_le _⟩ dX6_chooseOrders_2) cx.2.2.1 hP hD hS [5, 6, 7, 8, 9, 10] rfl rfl (fun r2 H locs hw1 hP hS => ?_)
  have w3 : 0 ≤ r2.toInt ∧ r2.toInt ≤ 2 := hw1
  clear hw1
  refine lv_istore_n (lv' := [(3, .int r2), (0, .ref (qpl 0)), (1, .ref (qh 0)), (2, .int p0)]) hx hb dX6_chooseOrders_5 rfl hl (by decide) rfl (fun ls hl => ?_)
  refine lv_iconst (v := 0) hx hb dX6_chooseOrders_6 (by decide) ?_
  refine lv_istore (lv' := [(4, .int 0), (3, .int r2), (0, .ref (qpl 0)), (1, .ref (qh 0)), (2, .int p0)]) hx hb dX6_chooseOrders_7 hl (by decide) rfl (fun ls hl => ?_)
  have hL9 : ∀ (n26 : Nat) (v23 : Int32) (g24 : Nat → Int64) (g25 : Nat → Int32) (H : Heap) (locs : List Loc) (ls : Array Slot), 35 - v23.toInt < (n26 : Int) → (0 ≤ v23.toInt ∧ v23.toInt ≤ 35) → va_P D vwCl [(qpl 0, .inr (4, [.int (spl 0 0), .ref (qpl 1), .ref (qpl 2), .ref (qpl 3), .ref (qpl 4)])), (qpl 1, .inl (k 1, 630, .inr (.inl (tpl 1)))), (qpl 2, .inl (k 0, 525, .inl (spl 2))), (qpl 3, .inl (k 1, 35, .inr (.inl g24))), (qpl 4, .inl (k 0, 35, .inl g25)), (qh 0, .inr (2, [.int (sh 0 0), .int (sh 0 1), .ref (qh 1), .ref (qh 2), .ref (qh 3), .ref (qh 4), .int (sh 0 6), .int (sh 0 7), .int (sh 0 8), .int (sh 0 9), .int (sh 0 10), .int (sh 0 11), .int (sh 0 12), .ref (qh 5)])), (qh 1, .inl (k 0, 5, .inl (sh 1))), (qh 2, .inl (k 0, 5, .inl (sh 2))), (qh 3, .inl (k 0, 3, .inl (sh 3))), (qh 4, .inl (k 0, 3, .inl (sh 4))), (qh 5, .inl (k 0, 525, .inl (sh 5)))] H → va_D A [(qpl 0, .inr (4, [.int (spl 0 0), .ref (qpl 1), .ref (qpl 2), .ref (qpl 3), .ref (qpl 4)])), (qpl 1, .inl (k 1, 630, .inr (.inl (tpl 1)))), (qpl 2, .inl (k 0, 525, .inl (spl 2))), (qpl 3, .inl (k 1, 35, .inr (.inl g24))), (qpl 4, .inl (k 0, 35, .inl g25)), (qh 0, .inr (2, [.int (sh 0 0), .int (sh 0 1), .ref (qh 1), .ref (qh 2), .ref (qh 3), .ref (qh 4), .int (sh 0 6), .int (sh 0 7), .int (sh 0 8), .int (sh 0 9), .int (sh 0 10), .int (sh 0 11), .int (sh 0 12), .ref (qh 5)])), (qh 1, .inl (k 0, 5, .inl (sh 1))), (qh 2, .inl (k 0, 5, .inl (sh 2))), (qh 3, .inl (k 0, 3, .inl (sh 3))), (qh 4, .inl (k 0, 3, .inl (sh 4))), (qh 5, .inl (k 0, 525, .inl (sh 5)))] → va_S A s.heap H locs → lv_has ls 8 [(4, .int v23), (3, .int r2), (0, .ref (qpl 0)), (1, .ref (qh 0)), (2, .int p0)] → W p l e ({ frames := 2, cells := 0, slots := 0, locals := 49 } : Room) s m ([.ref (qpl 0), .ref (qh 0), .int p0] : List Value).toArray below meth c H locs 0 0 Q (F0 m 9 ls []) := by
    intro n26
    induction n26 with
    | zero => intro v23 g24 g25 H locs ls hmn26 bv23 hP hD hS hl; exact absurd hmn26 (by omega)
    | succ n26 ih9 =>
      intro v23 g24 g25 H locs ls hmn26 bv23 hP hD hS hl
      refine lv_iload hx hb dX6_chooseOrders_9 (lv_at hl 0 rfl) ?_
      refine lv_bipush (v := 35) hx hb dX6_chooseOrders_11 (by decide) ?_
      refine lv_icmp_ge (tgt := 106) hx hb dX6_chooseOrders_13 (by decide) (fun c27 => ?_) (fun c27 => ?_)
      · have f27 : 35 ≤ v23.toInt := f_le (by decide) rfl c27
        rw [hQ]
        exact x_v cx hr (g24, g25) hP hD hS trivial dX6_chooseOrders_106
      · have f27 : v23.toInt < 35 := f_nle (by decide) rfl c27
        refine va_gets hx hb cx.2.2.2.t0.1 hS cx.1.2.2.2.1 (cx.1.2.2.2.2 _ fw_X6_chooseOrders_45) (fun _ h => h) dX6_chooseOrders_16 ?_
        refine lv_iload hx hb dX6_chooseOrders_19 (lv_at hl 0 rfl) ?_
        have hn28 : vp_in v23 35 := f_in (a := v23.toInt) rfl (by omega) (by omega)
        refine va_ti hx hb cx.2.2.2.t0.2 hS hn28 rfl dX6_chooseOrders_21 (lv_topi (fun v29 e29 => ?_))
        have t29 : 0 ≤ v29.toInt ∧ v29.toInt ≤ 400 ∧ v29.toInt / 100 + v29.toInt / 10 % 10 + v29.toInt % 10 ≤ 4 := by rw [e29]; exact zALL_v _
        refine g_ir (g_runS (wc := []) (rest := []) cx hP hD hS [] rfl (by decide) [.int v29] (c_X3_total l D k b H.size v29) gX6_chooseOrders_X3_total rfl rfl rfl nd_X3_total ⟨Nat.le_of_ble_eq_true rfl, Nat.le_of_ble_eq_true rfl⟩ rfl hl.1 rfl (Nat.le_of_ble_eq_true rfl) ⟨Nat.zero_le _, Nat.zero_le _⟩ dX6_chooseOrders_22) cx.2.2.1 hP hD hS [] rfl rfl (fun r31 H locs hw30 hP hS => ?_)
        have w32 : r31 = J_X3_total v29 := hw30
        clear hw30
        have zr31 : r31.toInt = tot v29 := tot3 w32 (show 0 ≤ v29.toInt from by first | decide | omega)
        have yr31 := tot_0 (x := v29) (by first | decide | omega)
        refine lv_aload_n hx hb dX6_chooseOrders_25 rfl (lv_at hl 3 rfl) ?_
        refine g_get cx hP iw_X6_chooseOrders_X4 5 rfl rfl 1 (by decide) rfl fw_X6_chooseOrders_64 rfl dX6_chooseOrders_26 ?_
        have hJ100 : ∀ (g63 : Nat → Int64) (g64 : Nat → Int32) (H : Heap) (locs : List Loc) (ls : Array Slot), va_P D vwCl [(qpl 0, .inr (4, [.int (spl 0 0), .ref (qpl 1), .ref (qpl 2), .ref (qpl 3), .ref (qpl 4)])), (qpl 1, .inl (k 1, 630, .inr (.inl (tpl 1)))), (qpl 2, .inl (k 0, 525, .inl (spl 2))), (qpl 3, .inl (k 1, 35, .inr (.inl g63))), (qpl 4, .inl (k 0, 35, .inl g64)), (qh 0, .inr (2, [.int (sh 0 0), .int (sh 0 1), .ref (qh 1), .ref (qh 2), .ref (qh 3), .ref (qh 4), .int (sh 0 6), .int (sh 0 7), .int (sh 0 8), .int (sh 0 9), .int (sh 0 10), .int (sh 0 11), .int (sh 0 12), .ref (qh 5)])), (qh 1, .inl (k 0, 5, .inl (sh 1))), (qh 2, .inl (k 0, 5, .inl (sh 2))), (qh 3, .inl (k 0, 3, .inl (sh 3))), (qh 4, .inl (k 0, 3, .inl (sh 4))), (qh 5, .inl (k 0, 525, .inl (sh 5)))] H → va_D A [(qpl 0, .inr (4, [.int (spl 0 0), .ref (qpl 1), .ref (qpl 2), .ref (qpl 3), .ref (qpl 4)])), (qpl 1, .inl (k 1, 630, .inr (.inl (tpl 1)))), (qpl 2, .inl (k 0, 525, .inl (spl 2))), (qpl 3, .inl (k 1, 35, .inr (.inl g63))), (qpl 4, .inl (k 0, 35, .inl g64)), (qh 0, .inr (2, [.int (sh 0 0), .int (sh 0 1), .ref (qh 1), .ref (qh 2), .ref (qh 3), .ref (qh 4), .int (sh 0 6), .int (sh 0 7), .int (sh 0 8), .int (sh 0 9), .int (sh 0 10), .int (sh 0 11), .int (sh 0 12), .ref (qh 5)])), (qh 1, .inl (k 0, 5, .inl (sh 1))), (qh 2, .inl (k 0, 5, .inl (sh 2))), (qh 3, .inl (k 0, 3, .inl (sh 3))), (qh 4, .inl (k 0, 3, .inl (sh 4))), (qh 5, .inl (k 0, 525, .inl (sh 5)))] → va_S A s.heap H locs → lv_has ls 8 [(4, .int v23), (3, .int r2), (0, .ref (qpl 0)), (1, .ref (qh 0)), (2, .int p0)] → W p l e ({ frames := 2, cells := 0, slots := 0, locals := 49 } : Room) s m ([.ref (qpl 0), .ref (qh 0), .int p0] : List Value).toArray below meth c H locs 0 0 Q (F0 m 100 ls []) := by
          intro g63 g64 H locs ls  hP hD hS hl
          obtain ⟨v65, e65⟩ : ∃ z : Int32, z = v23 + 1 := ⟨_, rfl⟩
          refine lv_iinc (v := v65) (lv' := [(4, .int v65), (3, .int r2), (0, .ref (qpl 0)), (1, .ref (qh 0)), (2, .int p0)]) hx hb dX6_chooseOrders_100 hl (k := 0) rfl (by rw [e65]; rfl) (by decide) rfl (fun ls hl => ?_)
          have t65 : v65.toInt = v23.toInt + 1 := by rw [e65]; exact i_add rfl (by decide) (by omega) (by omega)
          refine lv_goto (tgt := 9) hx hb dX6_chooseOrders_103 (by decide) ?_
          exact ih9 v65 g63 g64 _ _ _ (by omega) (by first | decide | omega) hP hD hS (lv_sub hl [0, 1, 2, 3, 4] rfl)
        refine lv_icmp_le (tgt := 35) hx hb dX6_chooseOrders_29 (by decide) (fun c66 => ?_) (fun c66 => ?_)
        · have f66 : r31.toInt ≤ (sh 0 1).toInt := f_le rfl rfl c66
          refine lv_iconst (v := 0) hx hb dX6_chooseOrders_35 (by decide) ?_
          refine lv_istore (lv' := [(5, .int 0), (4, .int v23), (3, .int r2), (0, .ref (qpl 0)), (1, .ref (qh 0)), (2, .int p0)]) hx hb dX6_chooseOrders_36 hl (by decide) rfl (fun ls hl => ?_)
          have hL38 : ∀ (n82 : Nat) (v79 : Int32) (g80 : Nat → Int64) (g81 : Nat → Int32) (H : Heap) (locs : List Loc) (ls : Array Slot), 3 - v79.toInt < (n82 : Int) → (0 ≤ v79.toInt ∧ v79.toInt ≤ 3) → va_P D vwCl [(qpl 0, .inr (4, [.int (spl 0 0), .ref (qpl 1), .ref (qpl 2), .ref (qpl 3), .ref (qpl 4)])), (qpl 1, .inl (k 1, 630, .inr (.inl (tpl 1)))), (qpl 2, .inl (k 0, 525, .inl (spl 2))), (qpl 3, .inl (k 1, 35, .inr (.inl g80))), (qpl 4, .inl (k 0, 35, .inl g81)), (qh 0, .inr (2, [.int (sh 0 0), .int (sh 0 1), .ref (qh 1), .ref (qh 2), .ref (qh 3), .ref (qh 4), .int (sh 0 6), .int (sh 0 7), .int (sh 0 8), .int (sh 0 9), .int (sh 0 10), .int (sh 0 11), .int (sh 0 12), .ref (qh 5)])), (qh 1, .inl (k 0, 5, .inl (sh 1))), (qh 2, .inl (k 0, 5, .inl (sh 2))), (qh 3, .inl (k 0, 3, .inl (sh 3))), (qh 4, .inl (k 0, 3, .inl (sh 4))), (qh 5, .inl (k 0, 525, .inl (sh 5)))] H → va_D A [(qpl 0, .inr (4, [.int (spl 0 0), .ref (qpl 1), .ref (qpl 2), .ref (qpl 3), .ref (qpl 4)])), (qpl 1, .inl (k 1, 630, .inr (.inl (tpl 1)))), (qpl 2, .inl (k 0, 525, .inl (spl 2))), (qpl 3, .inl (k 1, 35, .inr (.inl g80))), (qpl 4, .inl (k 0, 35, .inl g81)), (qh 0, .inr (2, [.int (sh 0 0), .int (sh 0 1), .ref (qh 1), .ref (qh 2), .ref (qh 3), .ref (qh 4), .int (sh 0 6), .int (sh 0 7), .int (sh 0 8), .int (sh 0 9), .int (sh 0 10), .int (sh 0 11), .int (sh 0 12), .ref (qh 5)])), (qh 1, .inl (k 0, 5, .inl (sh 1))), (qh 2, .inl (k 0, 5, .inl (sh 2))), (qh 3, .inl (k 0, 3, .inl (sh 3))), (qh 4, .inl (k 0, 3, .inl (sh 4))), (qh 5, .inl (k 0, 525, .inl (sh 5)))] → va_S A s.heap H locs → lv_has ls 8 [(5, .int v79), (4, .int v23), (3, .int r2), (0, .ref (qpl 0)), (1, .ref (qh 0)), (2, .int p0)] → W p l e ({ frames := 2, cells := 0, slots := 0, locals := 49 } : Room) s m ([.ref (qpl 0), .ref (qh 0), .int p0] : List Value).toArray below meth c H locs 0 0 Q (F0 m 38 ls []) := by
            intro n82
            induction n82 with
            | zero => intro v79 g80 g81 H locs ls hmn82 bv79 hP hD hS hl; exact absurd hmn82 (by omega)
            | succ n82 ih38 =>
              intro v79 g80 g81 H locs ls hmn82 bv79 hP hD hS hl
              refine lv_iload hx hb dX6_chooseOrders_38 (lv_at hl 0 rfl) ?_
              refine lv_iload_n hx hb dX6_chooseOrders_40 rfl (lv_at hl 2 rfl) ?_
              refine lv_icmp_gt (tgt := 100) hx hb dX6_chooseOrders_41 (by decide) (fun c83 => ?_) (fun c83 => ?_)
              · have f83 : r2.toInt < v79.toInt := f_lt rfl rfl c83
                exact hJ100 g80 g81 _ _ _  hP hD hS (lv_sub hl [1, 2, 3, 4, 5] rfl)
              · have f83 : v79.toInt ≤ r2.toInt := f_nlt rfl rfl c83
                refine lv_aload_n hx hb dX6_chooseOrders_44 rfl (lv_at hl 3 rfl) ?_
                refine lv_aload_n hx hb dX6_chooseOrders_45 rfl (lv_at hl 4 rfl) ?_
                refine lv_iload hx hb dX6_chooseOrders_46 (lv_at hl 1 rfl) ?_
                refine lv_iload_n hx hb dX6_chooseOrders_48 rfl (lv_at hl 5 rfl) ?_
                refine lv_iconst (v := 1) hx hb dX6_chooseOrders_49 (by decide) ?_
                refine lv_iadd hx hb dX6_chooseOrders_50 (lv_topi (fun v84 e84 => ?_))
                have t84 : v84.toInt = p0.toInt + 1 := by rw [e84]; exact i_add rfl (by decide) (by omega) (by omega)
                refine lv_iload hx hb dX6_chooseOrders_51 (lv_at hl 0 rfl) ?_
                refine g_lF (w1 := fun (_ : Unit) => [(qpl 0, .inr (4, [.int (spl 0 0), .ref (qpl 1), .ref (qpl 2), .ref (qpl 3), .ref (qpl 4)])), (qpl 1, .inl (k 1, 630, .inr (.inl (tpl 1)))), (qpl 2, .inl (k 0, 525, .inl (spl 2))), (qpl 3, .inl (k 1, 35, .inr (.inl g80))), (qpl 4, .inl (k 0, 35, .inl g81)), (qh 0, .inr (2, [.int (sh 0 0), .int (sh 0 1), .ref (qh 1), .ref (qh 2), .ref (qh 3), .ref (qh 4), .int (sh 0 6), .int (sh 0 7), .int (sh 0 8), .int (sh 0 9), .int (sh 0 10), .int (sh 0 11), .int (sh 0 12), .ref (qh 5)])), (qh 1, .inl (k 0, 5, .inl (sh 1))), (qh 2, .inl (k 0, 5, .inl (sh 2))), (qh 3, .inl (k 0, 3, .inl (sh 3))), (qh 4, .inl (k 0, 3, .inl (sh 4))), (qh 5, .inl (k 0, 525, .inl (sh 5)))]) (g_runVF (ws := [(qpl 0, .inr (4, [.int (spl 0 0), .ref (qpl 1), .ref (qpl 2), .ref (qpl 3), .ref (qpl 4)])), (qpl 1, .inl (k 1, 630, .inr (.inl (tpl 1)))), (qpl 2, .inl (k 0, 525, .inl (spl 2))), (qpl 3, .inl (k 1, 35, .inr (.inl g80))), (qpl 4, .inl (k 0, 35, .inl g81)), (qh 0, .inr (2, [.int (sh 0 0), .int (sh 0 1), .ref (qh 1), .ref (qh 2), .ref (qh 3), .ref (qh 4), .int (sh 0 6), .int (sh 0 7), .int (sh 0 8), .int (sh 0 9), .int (sh 0 10), .int (sh 0 11), .int (sh 0 12), .ref (qh 5)])), (qh 1, .inl (k 0, 5, .inl (sh 1))), (qh 2, .inl (k 0, 5, .inl (sh 2))), (qh 3, .inl (k 0, 3, .inl (sh 3))), (qh 4, .inl (k 0, 3, .inl (sh 4))), (qh 5, .inl (k 0, 525, .inl (sh 5)))]) (rest := []) cx hP hD hS [.ref (qh 0), .int v23, .int v84, .int v79] (c_X6_meanBehind l D k b qpl (up2 spl 4 g81) (up2L tpl 3 g80) qh sh H.size v23 v84 v79 (show SUok (sh 5) from by assumption) (show 0 ≤ v23.toInt ∧ v23.toInt ≤ 34 from by first | decide | omega) (show 0 ≤ v84.toInt ∧ v84.toInt ≤ 5 from by first | decide | omega) (show 0 ≤ v79.toInt ∧ v79.toInt ≤ 2 from by first | decide | omega)) gX6_chooseOrders_X6_meanBehind rfl rfl rfl nd_X6_meanBehind ⟨Nat.le_of_ble_eq_true rfl, Nat.le_of_ble_eq_true rfl⟩ (ci := 4) (q0 := 0) rfl rfl rfl hl.1 rfl (Nat.le_of_ble_eq_true rfl) ⟨Nat.zero_le _, Nat.zero_le _⟩ dX6_chooseOrders_53) cx.2.2.1 hD hS (fun r86 _ H locs hw85 hP hD hS => ?_)
                clear hw85
                refine lv_lstore (lv' := [(6, .long r86), (5, .int v79), (4, .int v23), (3, .int r2), (0, .ref (qpl 0)), (1, .ref (qh 0)), (2, .int p0)]) hx hb dX6_chooseOrders_56 hl (by decide) rfl (fun ls hl => ?_)
                refine lv_iload hx hb dX6_chooseOrders_58 (lv_at hl 1 rfl) ?_
                have hJ94 : ∀ (g98 : Nat → Int64) (g99 : Nat → Int32) (H : Heap) (locs : List Loc) (ls : Array Slot), va_P D vwCl [(qpl 0, .inr (4, [.int (spl 0 0), .ref (qpl 1), .ref (qpl 2), .ref (qpl 3), .ref (qpl 4)])), (qpl 1, .inl (k 1, 630, .inr (.inl (tpl 1)))), (qpl 2, .inl (k 0, 525, .inl (spl 2))), (qpl 3, .inl (k 1, 35, .inr (.inl g98))), (qpl 4, .inl (k 0, 35, .inl g99)), (qh 0, .inr (2, [.int (sh 0 0), .int (sh 0 1), .ref (qh 1), .ref (qh 2), .ref (qh 3), .ref (qh 4), .int (sh 0 6), .int (sh 0 7), .int (sh 0 8), .int (sh 0 9), .int (sh 0 10), .int (sh 0 11), .int (sh 0 12), .ref (qh 5)])), (qh 1, .inl (k 0, 5, .inl (sh 1))), (qh 2, .inl (k 0, 5, .inl (sh 2))), (qh 3, .inl (k 0, 3, .inl (sh 3))), (qh 4, .inl (k 0, 3, .inl (sh 4))), (qh 5, .inl (k 0, 525, .inl (sh 5)))] H → va_D A [(qpl 0, .inr (4, [.int (spl 0 0), .ref (qpl 1), .ref (qpl 2), .ref (qpl 3), .ref (qpl 4)])), (qpl 1, .inl (k 1, 630, .inr (.inl (tpl 1)))), (qpl 2, .inl (k 0, 525, .inl (spl 2))), (qpl 3, .inl (k 1, 35, .inr (.inl g98))), (qpl 4, .inl (k 0, 35, .inl g99)), (qh 0, .inr (2, [.int (sh 0 0), .int (sh 0 1), .ref (qh 1), .ref (qh 2), .ref (qh 3), .ref (qh 4), .int (sh 0 6), .int (sh 0 7), .int (sh 0 8), .int (sh 0 9), .int (sh 0 10), .int (sh 0 11), .int (sh 0 12), .ref (qh 5)])), (qh 1, .inl (k 0, 5, .inl (sh 1))), (qh 2, .inl (k 0, 5, .inl (sh 2))), (qh 3, .inl (k 0, 3, .inl (sh 3))), (qh 4, .inl (k 0, 3, .inl (sh 4))), (qh 5, .inl (k 0, 525, .inl (sh 5)))] → va_S A s.heap H locs → lv_has ls 8 [(5, .int v79), (4, .int v23), (3, .int r2), (0, .ref (qpl 0)), (1, .ref (qh 0)), (2, .int p0)] → W p l e ({ frames := 2, cells := 0, slots := 0, locals := 49 } : Room) s m ([.ref (qpl 0), .ref (qh 0), .int p0] : List Value).toArray below meth c H locs 0 0 Q (F0 m 94 ls []) := by
                  intro g98 g99 H locs ls  hP hD hS hl
                  obtain ⟨v100, e100⟩ : ∃ z : Int32, z = v79 + 1 := ⟨_, rfl⟩
                  refine lv_iinc (v := v100) (lv' := [(5, .int v100), (4, .int v23), (3, .int r2), (0, .ref (qpl 0)), (1, .ref (qh 0)), (2, .int p0)]) hx hb dX6_chooseOrders_94 hl (k := 0) rfl (by rw [e100]; rfl) (by decide) rfl (fun ls hl => ?_)
                  have t100 : v100.toInt = v79.toInt + 1 := by rw [e100]; exact i_add rfl (by decide) (by omega) (by omega)
                  refine lv_goto (tgt := 38) hx hb dX6_chooseOrders_97 (by decide) ?_
                  exact ih38 v100 g98 g99 _ _ _ (by omega) (by first | decide | omega) hP hD hS (lv_sub hl [0, 1, 2, 3, 4, 5] rfl)
                have hJ76 : ∀  (H : Heap) (locs : List Loc) (ls : Array Slot), va_P D vwCl [(qpl 0, .inr (4, [.int (spl 0 0), .ref (qpl 1), .ref (qpl 2), .ref (qpl 3), .ref (qpl 4)])), (qpl 1, .inl (k 1, 630, .inr (.inl (tpl 1)))), (qpl 2, .inl (k 0, 525, .inl (spl 2))), (qpl 3, .inl (k 1, 35, .inr (.inl g80))), (qpl 4, .inl (k 0, 35, .inl g81)), (qh 0, .inr (2, [.int (sh 0 0), .int (sh 0 1), .ref (qh 1), .ref (qh 2), .ref (qh 3), .ref (qh 4), .int (sh 0 6), .int (sh 0 7), .int (sh 0 8), .int (sh 0 9), .int (sh 0 10), .int (sh 0 11), .int (sh 0 12), .ref (qh 5)])), (qh 1, .inl (k 0, 5, .inl (sh 1))), (qh 2, .inl (k 0, 5, .inl (sh 2))), (qh 3, .inl (k 0, 3, .inl (sh 3))), (qh 4, .inl (k 0, 3, .inl (sh 4))), (qh 5, .inl (k 0, 525, .inl (sh 5)))] H → va_D A [(qpl 0, .inr (4, [.int (spl 0 0), .ref (qpl 1), .ref (qpl 2), .ref (qpl 3), .ref (qpl 4)])), (qpl 1, .inl (k 1, 630, .inr (.inl (tpl 1)))), (qpl 2, .inl (k 0, 525, .inl (spl 2))), (qpl 3, .inl (k 1, 35, .inr (.inl g80))), (qpl 4, .inl (k 0, 35, .inl g81)), (qh 0, .inr (2, [.int (sh 0 0), .int (sh 0 1), .ref (qh 1), .ref (qh 2), .ref (qh 3), .ref (qh 4), .int (sh 0 6), .int (sh 0 7), .int (sh 0 8), .int (sh 0 9), .int (sh 0 10), .int (sh 0 11), .int (sh 0 12), .ref (qh 5)])), (qh 1, .inl (k 0, 5, .inl (sh 1))), (qh 2, .inl (k 0, 5, .inl (sh 2))), (qh 3, .inl (k 0, 3, .inl (sh 3))), (qh 4, .inl (k 0, 3, .inl (sh 4))), (qh 5, .inl (k 0, 525, .inl (sh 5)))] → va_S A s.heap H locs → lv_has ls 8 [(6, .long r86), (5, .int v79), (4, .int v23), (3, .int r2), (0, .ref (qpl 0)), (1, .ref (qh 0)), (2, .int p0)] → W p l e ({ frames := 2, cells := 0, slots := 0, locals := 49 } : Room) s m ([.ref (qpl 0), .ref (qh 0), .int p0] : List Value).toArray below meth c H locs 0 0 Q (F0 m 76 ls []) := by
                  intro  H locs ls  hP hD hS hl
                  refine lv_aload_n hx hb dX6_chooseOrders_76 rfl (lv_at hl 4 rfl) ?_
                  refine g_get cx hP iw_X6_chooseOrders_X6 0 rfl rfl 3 (by decide) rfl fw_X6_chooseOrders_21 rfl dX6_chooseOrders_77 ?_
                  refine lv_iload hx hb dX6_chooseOrders_80 (lv_at hl 2 rfl) ?_
                  refine lv_lload hx hb dX6_chooseOrders_82 (lv_at hl 0 rfl) ?_
                  have hn104 : vp_in v23 35 := f_in (a := v23.toInt) rfl (by omega) (by omega)
                  refine va_last hx hb cx.2.1 hP hD hS 3 1 rfl rfl hn104 dX6_chooseOrders_84 (fun H locs hP hD hS => ?_)
                  obtain ⟨g105, eg105⟩ : ∃ g : Nat → Int64, g = vp_updL g80 (v23).toNatClampNeg r86 := ⟨_, rfl⟩
                  rw [← eg105] at hP hD
                  have hP : va_P D vwCl [(qpl 0, .inr (4, [.int (spl 0 0), .ref (qpl 1), .ref (qpl 2), .ref (qpl 3), .ref (qpl 4)])), (qpl 1, .inl (k 1, 630, .inr (.inl (tpl 1)))), (qpl 2, .inl (k 0, 525, .inl (spl 2))), (qpl 3, .inl (k 1, 35, .inr (.inl g105))), (qpl 4, .inl (k 0, 35, .inl g81)), (qh 0, .inr (2, [.int (sh 0 0), .int (sh 0 1), .ref (qh 1), .ref (qh 2), .ref (qh 3), .ref (qh 4), .int (sh 0 6), .int (sh 0 7), .int (sh 0 8), .int (sh 0 9), .int (sh 0 10), .int (sh 0 11), .int (sh 0 12), .ref (qh 5)])), (qh 1, .inl (k 0, 5, .inl (sh 1))), (qh 2, .inl (k 0, 5, .inl (sh 2))), (qh 3, .inl (k 0, 3, .inl (sh 3))), (qh 4, .inl (k 0, 3, .inl (sh 4))), (qh 5, .inl (k 0, 525, .inl (sh 5)))] H := hP
                  have hD : va_D A [(qpl 0, .inr (4, [.int (spl 0 0), .ref (qpl 1), .ref (qpl 2), .ref (qpl 3), .ref (qpl 4)])), (qpl 1, .inl (k 1, 630, .inr (.inl (tpl 1)))), (qpl 2, .inl (k 0, 525, .inl (spl 2))), (qpl 3, .inl (k 1, 35, .inr (.inl g105))), (qpl 4, .inl (k 0, 35, .inl g81)), (qh 0, .inr (2, [.int (sh 0 0), .int (sh 0 1), .ref (qh 1), .ref (qh 2), .ref (qh 3), .ref (qh 4), .int (sh 0 6), .int (sh 0 7), .int (sh 0 8), .int (sh 0 9), .int (sh 0 10), .int (sh 0 11), .int (sh 0 12), .ref (qh 5)])), (qh 1, .inl (k 0, 5, .inl (sh 1))), (qh 2, .inl (k 0, 5, .inl (sh 2))), (qh 3, .inl (k 0, 3, .inl (sh 3))), (qh 4, .inl (k 0, 3, .inl (sh 4))), (qh 5, .inl (k 0, 525, .inl (sh 5)))] := hD
                  refine lv_aload_n hx hb dX6_chooseOrders_85 rfl (lv_at hl 4 rfl) ?_
                  refine g_get cx hP iw_X6_chooseOrders_X6 0 rfl rfl 4 (by decide) rfl fw_X6_chooseOrders_24 rfl dX6_chooseOrders_86 ?_
                  refine lv_iload hx hb dX6_chooseOrders_89 (lv_at hl 2 rfl) ?_
                  refine lv_iload hx hb dX6_chooseOrders_91 (lv_at hl 1 rfl) ?_
                  have hn106 : vp_in v23 35 := f_in (a := v23.toInt) rfl (by omega) (by omega)
                  refine va_iast hx hb cx.2.1 hP hD hS 4 0 rfl rfl hn106 dX6_chooseOrders_93 (fun H locs hP hD hS => ?_)
                  obtain ⟨g107, eg107⟩ : ∃ g : Nat → Int32, g = upd g81 (v23).toNatClampNeg v79 := ⟨_, rfl⟩
                  rw [← eg107] at hP hD
                  have hP : va_P D vwCl [(qpl 0, .inr (4, [.int (spl 0 0), .ref (qpl 1), .ref (qpl 2), .ref (qpl 3), .ref (qpl 4)])), (qpl 1, .inl (k 1, 630, .inr (.inl (tpl 1)))), (qpl 2, .inl (k 0, 525, .inl (spl 2))), (qpl 3, .inl (k 1, 35, .inr (.inl g105))), (qpl 4, .inl (k 0, 35, .inl g107)), (qh 0, .inr (2, [.int (sh 0 0), .int (sh 0 1), .ref (qh 1), .ref (qh 2), .ref (qh 3), .ref (qh 4), .int (sh 0 6), .int (sh 0 7), .int (sh 0 8), .int (sh 0 9), .int (sh 0 10), .int (sh 0 11), .int (sh 0 12), .ref (qh 5)])), (qh 1, .inl (k 0, 5, .inl (sh 1))), (qh 2, .inl (k 0, 5, .inl (sh 2))), (qh 3, .inl (k 0, 3, .inl (sh 3))), (qh 4, .inl (k 0, 3, .inl (sh 4))), (qh 5, .inl (k 0, 525, .inl (sh 5)))] H := hP
                  have hD : va_D A [(qpl 0, .inr (4, [.int (spl 0 0), .ref (qpl 1), .ref (qpl 2), .ref (qpl 3), .ref (qpl 4)])), (qpl 1, .inl (k 1, 630, .inr (.inl (tpl 1)))), (qpl 2, .inl (k 0, 525, .inl (spl 2))), (qpl 3, .inl (k 1, 35, .inr (.inl g105))), (qpl 4, .inl (k 0, 35, .inl g107)), (qh 0, .inr (2, [.int (sh 0 0), .int (sh 0 1), .ref (qh 1), .ref (qh 2), .ref (qh 3), .ref (qh 4), .int (sh 0 6), .int (sh 0 7), .int (sh 0 8), .int (sh 0 9), .int (sh 0 10), .int (sh 0 11), .int (sh 0 12), .ref (qh 5)])), (qh 1, .inl (k 0, 5, .inl (sh 1))), (qh 2, .inl (k 0, 5, .inl (sh 2))), (qh 3, .inl (k 0, 3, .inl (sh 3))), (qh 4, .inl (k 0, 3, .inl (sh 4))), (qh 5, .inl (k 0, 525, .inl (sh 5)))] := hD
                  exact hJ94 g105 g107 _ _ _  hP hD hS (lv_sub hl [1, 2, 3, 4, 5, 6] rfl)
                refine lv_if_eq (tgt := 76) hx hb dX6_chooseOrders_60 (by decide) (fun c108 => ?_) (fun c108 => ?_)
                · have f108 : v79.toInt = 0 := f_eq rfl (by decide) c108
                  exact hJ76  _ _ _  hP hD hS (lv_sub hl [0, 1, 2, 3, 4, 5, 6] rfl)
                · have f108 : ¬ v79.toInt = 0 := f_ne rfl (by decide) c108
                  refine lv_lload hx hb dX6_chooseOrders_63 (lv_at hl 0 rfl) ?_
                  refine lv_aload_n hx hb dX6_chooseOrders_65 rfl (lv_at hl 4 rfl) ?_
                  refine g_get cx hP iw_X6_chooseOrders_X6 0 rfl rfl 3 (by decide) rfl fw_X6_chooseOrders_21 rfl dX6_chooseOrders_66 ?_
                  refine lv_iload hx hb dX6_chooseOrders_69 (lv_at hl 2 rfl) ?_
                  have hn109 : vp_in v23 35 := f_in (a := v23.toInt) rfl (by omega) (by omega)
                  refine va_lald hx hb cx.2.1 hP 3 1 rfl rfl hn109 dX6_chooseOrders_71 (lv_topl (fun v110 e110 => ?_))
                  refine W.lcmp hx hb dX6_chooseOrders_72 (lv_topi (fun v111 e111 => ?_))
                  refine lv_if_ge (tgt := 94) hx hb dX6_chooseOrders_73 (by decide) (fun c112 => ?_) (fun c112 => ?_)
                  · have f112 : 0 ≤ v111.toInt := f_le (by decide) rfl c112
                    exact hJ94 g80 g81 _ _ _  hP hD hS (lv_sub hl [1, 2, 3, 4, 5, 6] rfl)
                  · have f112 : v111.toInt < 0 := f_nle (by decide) rfl c112
                    exact hJ76  _ _ _  hP hD hS (lv_sub hl [0, 1, 2, 3, 4, 5, 6] rfl)
          have hlit113 : (0 : Int32).toInt = 0 := by decide
          exact hL38 (Int.toNat (3 - 0) + 1) 0 g24 g25 _ _ _ (by omega) (by first | decide | omega) hP hD hS (lv_sub hl [0, 1, 2, 3, 4, 5] rfl)
        · have f66 : (sh 0 1).toInt < r31.toInt := f_nle rfl rfl c66
          refine lv_goto (tgt := 100) hx hb dX6_chooseOrders_32 (by decide) ?_
          exact hJ100 g24 g25 _ _ _  hP hD hS (lv_sub hl [0, 1, 2, 3, 4] rfl)
  have hlit114 : (0 : Int32).toInt = 0 := by decide
  exact hL9 (Int.toNat (35 - 0) + 1) 0 (tpl 3) (spl 4) _ _ _ (by omega) (by first | decide | omega) hP hD hS (lv_sub hl [0, 1, 2, 3, 4] rfl)
theorem fw_X6_chooseAct_13 : Cond.fieldLink RX6 13 "StillInAugust$Plan" "cost" "[J" ∈ wsX6_chooseAct := by decide +kernel
theorem fw_X6_chooseAct_17 : Cond.fieldLink RX6 17 "StillInAugust$Plan" "first" "[I" ∈ wsX6_chooseAct := by decide +kernel
theorem fw_X6_chooseAct_21 : Cond.fieldLink RX6 21 "StillInAugust$Plan" "later" "[J" ∈ wsX6_chooseAct := by decide +kernel
theorem fw_X6_chooseAct_24 : Cond.fieldLink RX6 24 "StillInAugust$Plan" "order" "[I" ∈ wsX6_chooseAct := by decide +kernel
theorem kJ_X6_chooseAct_85 : Cond.constantLong RX6 85 (9223372036854775807) ∈ wsX6_chooseAct := by decide +kernel
theorem nd_X0_done : yX0_done.cls ≠ "java/lang/invoke/MethodHandle" ∧ yX0_done.cls ≠ "java/lang/invoke/VarHandle" ∧ (parseMethodDescriptor yX0_done.desc).map (fun d => d.parameters.length) = some 2 := by decide +kernel
theorem nd_X6_scale : yX6_scale.cls = RX6 ∧ yX6_scale.cls ≠ "java/lang/invoke/MethodHandle" ∧ yX6_scale.cls ≠ "java/lang/invoke/VarHandle" ∧ (parseMethodDescriptor yX6_scale.desc).map (fun d => d.parameters.length) = some 1 := by decide +kernel
theorem iw_X6_chooseAct_X6 : ∀ w ∈ u_ws RX6 TX6 5, w ∈ wsX6_chooseAct := fun _ h => List.mem_cons_of_mem _ (List.mem_append_left _ (List.mem_append_right _ h))
set_option maxHeartbeats 4000000 in
set_option maxRecDepth 100000 in
theorem c_X6_chooseAct (l : Launch) (D : va_G) (k : Nat → ClassId) (b : Nat → Nat) (qpl : Nat → Nat) (spl : Nat → Nat → Int32) (tpl : Nat → Nat → Int64) (qh : Nat → Nat) (sh : Nat → Nat → Int32) (sz : Nat) (p0 : Int32) (p1 : Int32) (p2 : Int32) (h_pw : 0 ≤ (spl 0 0).toInt ∧ (spl 0 0).toInt ≤ 5) (h_pl : p0.toInt ≤ (spl 0 0).toInt) (h_hk : 0 ≤ (sh 0 1).toInt ∧ (sh 0 1).toInt ≤ 4) (h_of : ∀ j, 0 ≤ (sh 2 j).toInt ∧ (sh 2 j).toInt ≤ 4) (hv : 0 ≤ p1.toInt ∧ p1.toInt ≤ 400 ∧ tot p1 ≤ 4) (hp0 : 0 ≤ p0.toInt ∧ p0.toInt ≤ 4) (hp2 : 0 ≤ p2.toInt ∧ p2.toInt ≤ 2) : MetV l D k b yX6_chooseAct wsX6_chooseAct ({ frames := 3, cells := 0, slots := 0, locals := 65 } : Room) [(qpl 0, .inr (4, [.int (spl 0 0), .ref (qpl 1), .ref (qpl 2), .ref (qpl 3), .ref (qpl 4)])), (qpl 1, .inl (k 1, 630, .inr (.inl (tpl 1)))), (qpl 2, .inl (k 0, 525, .inl (spl 2))), (qpl 3, .inl (k 1, 35, .inr (.inl (tpl 3)))), (qpl 4, .inl (k 0, 35, .inl (spl 4))), (qh 0, .inr (2, [.int (sh 0 0), .int (sh 0 1), .ref (qh 1), .ref (qh 2), .ref (qh 3), .ref (qh 4), .int (sh 0 6), .int (sh 0 7), .int (sh 0 8), .int (sh 0 9), .int (sh 0 10), .int (sh 0 11), .int (sh 0 12), .ref (qh 5)])), (qh 1, .inl (k 0, 5, .inl (sh 1))), (qh 2, .inl (k 0, 5, .inl (sh 2))), (qh 3, .inl (k 0, 3, .inl (sh 3))), (qh 4, .inl (k 0, 3, .inl (sh 4))), (qh 5, .inl (k 0, 525, .inl (sh 5)))] sz [.ref (qpl 0), .ref (qh 0), .int p0, .int p1, .int p2] (fun (u : (Nat → Int64) × (Nat → Int32)) => True) (fun u => [(qpl 0, .inr (4, [.int (spl 0 0), .ref (qpl 1), .ref (qpl 2), .ref (qpl 3), .ref (qpl 4)])), (qpl 1, .inl (k 1, 630, .inr (.inl (u.1)))), (qpl 2, .inl (k 0, 525, .inl (u.2))), (qpl 3, .inl (k 1, 35, .inr (.inl (tpl 3)))), (qpl 4, .inl (k 0, 35, .inl (spl 4))), (qh 0, .inr (2, [.int (sh 0 0), .int (sh 0 1), .ref (qh 1), .ref (qh 2), .ref (qh 3), .ref (qh 4), .int (sh 0 6), .int (sh 0 7), .int (sh 0 8), .int (sh 0 9), .int (sh 0 10), .int (sh 0 11), .int (sh 0 12), .ref (qh 5)])), (qh 1, .inl (k 0, 5, .inl (sh 1))), (qh 2, .inl (k 0, 5, .inl (sh 2))), (qh 3, .inl (k 0, 3, .inl (sh 3))), (qh 4, .inl (k 0, 3, .inl (sh 4))), (qh 5, .inl (k 0, 525, .inl (sh 5)))]) := by
  refine g_enter (cc := cX6_chooseAct) (maxL := 22) (ret := none) (by decide) rfl (Nat.le_of_ble_eq_true rfl) ?_
  intro p e s m below meth c A hsz hAe cx hr hP hD hS ls hl
  rw [hAe]
  refine g_q (fun Q hQ => ?_)
  have hx := cx.1.1
  have hb := cx.1.2.1
  have bp0 := i_rng p0
  have bp1 := i_rng p1
  have bp2 := i_rng p2
  have hl : lv_has ls 22 [(0, .ref (qpl 0)), (1, .ref (qh 0)), (2, .int p0), (3, .int p1), (4, .int p2)] := hl
  obtain ⟨H, eH⟩ : ∃ H : Heap, H = s.heap := ⟨_, rfl⟩
  obtain ⟨locs, el⟩ : ∃ L : List Loc, L = [] := ⟨_, rfl⟩
  have hP : va_P D vwCl [(qpl 0, .inr (4, [.int (spl 0 0), .ref (qpl 1), .ref (qpl 2), .ref (qpl 3), .ref (qpl 4)])), (qpl 1, .inl (k 1, 630, .inr (.inl (tpl 1)))), (qpl 2, .inl (k 0, 525, .inl (spl 2))), (qpl 3, .inl (k 1, 35, .inr (.inl (tpl 3)))), (qpl 4, .inl (k 0, 35, .inl (spl 4))), (qh 0, .inr (2, [.int (sh 0 0), .int (sh 0 1), .ref (qh 1), .ref (qh 2), .ref (qh 3), .ref (qh 4), .int (sh 0 6), .int (sh 0 7), .int (sh 0 8), .int (sh 0 9), .int (sh 0 10), .int (sh 0 11), .int (sh 0 12), .ref (qh 5)])), (qh 1, .inl (k 0, 5, .inl (sh 1))), (qh 2, .inl (k 0, 5, .inl (sh 2))), (qh 3, .inl (k 0, 3, .inl (sh 3))), (qh 4, .inl (k 0, 3, .inl (sh 4))), (qh 5, .inl (k 0, 525, .inl (sh 5)))] H := by rw [eH]; exact hP
  have hD : va_D A [(qpl 0, .inr (4, [.int (spl 0 0), .ref (qpl 1), .ref (qpl 2), .ref (qpl 3), .ref (qpl 4)])), (qpl 1, .inl (k 1, 630, .inr (.inl (tpl 1)))), (qpl 2, .inl (k 0, 525, .inl (spl 2))), (qpl 3, .inl (k 1, 35, .inr (.inl (tpl 3)))), (qpl 4, .inl (k 0, 35, .inl (spl 4))), (qh 0, .inr (2, [.int (sh 0 0), .int (sh 0 1), .ref (qh 1), .ref (qh 2), .ref (qh 3), .ref (qh 4), .int (sh 0 6), .int (sh 0 7), .int (sh 0 8), .int (sh 0 9), .int (sh 0 10), .int (sh 0 11), .int (sh 0 12), .ref (qh 5)])), (qh 1, .inl (k 0, 5, .inl (sh 1))), (qh 2, .inl (k 0, 5, .inl (sh 2))), (qh 3, .inl (k 0, 3, .inl (sh 3))), (qh 4, .inl (k 0, 3, .inl (sh 4))), (qh 5, .inl (k 0, 525, .inl (sh 5)))] := hD
  have hS : va_S A s.heap H locs := by rw [eH, el]; exact hS
  suffices goal : W p l e ({ frames := 3, cells := 0, slots := 0, locals := 65 } : Room) s m ([.ref (qpl 0), .ref (qh 0), .int p0, .int p1, .int p2] : List Value).toArray below meth c H locs 0 0 Q (F0 m 0 ls []) by rw [eH, el] at goal; exact goal
  refine lv_ldc2 (v := 9223372036854775807) hx hb cx.1.2.2.2.1 (cx.1.2.2.2.2 _ kJ_X6_chooseAct_85) dX6_chooseAct_0 ?_
  refine lv_lstore (lv' := [(5, .long 9223372036854775807), (0, .ref (qpl 0)), (1, .ref (qh 0)), (2, .int p0), (3, .int p1), (4, .int p2)]) hx hb dX6_chooseAct_3 hl (by decide) rfl (fun ls hl => ?_)
  refine lv_iconst (v := 0) hx hb dX6_chooseAct_5 (by decide) ?_
  refine lv_istore (lv' := [(7, .int 0), (5, .long 9223372036854775807), (0, .ref (qpl 0)), (1, .ref (qh 0)), (2, .int p0), (3, .int p1), (4, .int p2)]) hx hb dX6_chooseAct_6 hl (by decide) rfl (fun ls hl => ?_)
  refine lv_aload_n hx hb dX6_chooseAct_8 rfl (lv_at hl 2 rfl) ?_
  refine lv_iload_n hx hb dX6_chooseAct_9 rfl (lv_at hl 4 rfl) ?_
  refine g_lr (g_runV (wc := [(qpl 0, .inr (4, [.int (spl 0 0), .ref (qpl 1), .ref (qpl 2), .ref (qpl 3), .ref (qpl 4)])), (qpl 1, .inl (k 1, 630, .inr (.inl (tpl 1)))), (qpl 2, .inl (k 0, 525, .inl (spl 2))), (qpl 3, .inl (k 1, 35, .inr (.inl (tpl 3)))), (qpl 4, .inl (k 0, 35, .inl (spl 4)))]) (rest := []) cx hP hD hS [0, 1, 2, 3, 4] rfl (by decide) [.int p0] (c_X6_scale l D k b qpl spl tpl H.size p0 (show 0 ≤ (spl 0 0).toInt ∧ (spl 0 0).toInt ≤ 5 from by first | decide | omega) (show p0.toInt ≤ (spl 0 0).toInt from by first | decide | omega) (show 0 ≤ p0.toInt ∧ p0.toInt ≤ 5 from by first | decide | omega)) gX6_chooseAct_X6_scale rfl rfl rfl nd_X6_scale ⟨Nat.le_of_ble_eq_true rfl, Nat.le_of_ble_eq_true rfl⟩ (ci := 4) (q0 := 0) rfl rfl rfl hl.1 rfl (Nat.le_of_ble_eq_true rfl) ⟨Nat.zero_le _, Nat.zero_le _⟩ dX6_chooseAct_10) cx.2.2.1 hP hD hS [0, 1, 2, 3, 4] rfl rfl (fun r2 H locs hw1 hP hS => ?_)
  clear hw1
  refine lv_lstore (lv' := [(8, .long r2), (7, .int 0), (5, .long 9223372036854775807), (0, .ref (qpl 0)), (1, .ref (qh 0)), (2, .int p0), (3, .int p1), (4, .int p2)]) hx hb dX6_chooseAct_13 hl (by decide) rfl (fun ls hl => ?_)
  refine lv_aload_n hx hb dX6_chooseAct_15 rfl (lv_at hl 4 rfl) ?_
  refine lv_iload_n hx hb dX6_chooseAct_16 rfl (lv_at hl 6 rfl) ?_
  refine g_ir (g_runV (wc := [(qh 0, .inr (2, [.int (sh 0 0), .int (sh 0 1), .ref (qh 1), .ref (qh 2), .ref (qh 3), .ref (qh 4), .int (sh 0 6), .int (sh 0 7), .int (sh 0 8), .int (sh 0 9), .int (sh 0 10), .int (sh 0 11), .int (sh 0 12), .ref (qh 5)])), (qh 1, .inl (k 0, 5, .inl (sh 1))), (qh 2, .inl (k 0, 5, .inl (sh 2))), (qh 3, .inl (k 0, 3, .inl (sh 3))), (qh 4, .inl (k 0, 3, .inl (sh 4))), (qh 5, .inl (k 0, 525, .inl (sh 5)))]) (rest := []) cx hP hD hS [5, 6, 7, 8, 9, 10] rfl (by decide) [.int p1] (c_X4_mostLetGo l D k b qh sh H.size p1 (show 0 ≤ p1.toInt ∧ p1.toInt ≤ 400 ∧ tot p1 ≤ 4 from by first | decide | omega)) gX6_chooseAct_X4_mostLetGo rfl rfl rfl nd_X4_mostLetGo ⟨Nat.le_of_ble_eq_true rfl, Nat.le_of_ble_eq_true rfl⟩ (ci := 2) (q0 := 0) rfl rfl rfl hl.1 rfl (Nat.le_of_ble_eq_true rfl) ⟨Nat.zero_le _, Nat.zero_le _⟩ dX6_chooseAct_17) cx.2.2.1 hP hD hS [5, 6, 7, 8, 9, 10] rfl rfl (fun r4 H locs hw3 hP hS => ?_)
  have w5 : 0 ≤ r4.toInt ∧ r4.toInt ≤ tot p1 := hw3
  clear hw3
  refine lv_istore (lv' := [(10, .int r4), (8, .long r2), (7, .int 0), (5, .long 9223372036854775807), (0, .ref (qpl 0)), (1, .ref (qh 0)), (2, .int p0), (3, .int p1), (4, .int p2)]) hx hb dX6_chooseAct_20 hl (by decide) rfl (fun ls hl => ?_)
  refine lv_iconst (v := 0) hx hb dX6_chooseAct_22 (by decide) ?_
  refine lv_istore (lv' := [(11, .int 0), (10, .int r4), (8, .long r2), (7, .int 0), (5, .long 9223372036854775807), (0, .ref (qpl 0)), (1, .ref (qh 0)), (2, .int p0), (3, .int p1), (4, .int p2)]) hx hb dX6_chooseAct_23 hl (by decide) rfl (fun ls hl => ?_)
  have hL25 : ∀ (n47 : Nat) (v44 : Int32) (v45 : Int32) (v46 : Int64) (H : Heap) (locs : List Loc) (ls : Array Slot), 5 - v44.toInt < (n47 : Int) → (0 ≤ v44.toInt ∧ v44.toInt ≤ 5) → va_P D vwCl [(qpl 0, .inr (4, [.int (spl 0 0), .ref (qpl 1), .ref (qpl 2), .ref (qpl 3), .ref (qpl 4)])), (qpl 1, .inl (k 1, 630, .inr (.inl (tpl 1)))), (qpl 2, .inl (k 0, 525, .inl (spl 2))), (qpl 3, .inl (k 1, 35, .inr (.inl (tpl 3)))), (qpl 4, .inl (k 0, 35, .inl (spl 4))), (qh 0, .inr (2, [.int (sh 0 0), .int (sh 0 1), .ref (qh 1), .ref (qh 2), .ref (qh 3), .ref (qh 4), .int (sh 0 6), .int (sh 0 7), .int (sh 0 8), .int (sh 0 9), .int (sh 0 10), .int (sh 0 11), .int (sh 0 12), .ref (qh 5)])), (qh 1, .inl (k 0, 5, .inl (sh 1))), (qh 2, .inl (k 0, 5, .inl (sh 2))), (qh 3, .inl (k 0, 3, .inl (sh 3))), (qh 4, .inl (k 0, 3, .inl (sh 4))), (qh 5, .inl (k 0, 525, .inl (sh 5)))] H → va_D A [(qpl 0, .inr (4, [.int (spl 0 0), .ref (qpl 1), .ref (qpl 2), .ref (qpl 3), .ref (qpl 4)])), (qpl 1, .inl (k 1, 630, .inr (.inl (tpl 1)))), (qpl 2, .inl (k 0, 525, .inl (spl 2))), (qpl 3, .inl (k 1, 35, .inr (.inl (tpl 3)))), (qpl 4, .inl (k 0, 35, .inl (spl 4))), (qh 0, .inr (2, [.int (sh 0 0), .int (sh 0 1), .ref (qh 1), .ref (qh 2), .ref (qh 3), .ref (qh 4), .int (sh 0 6), .int (sh 0 7), .int (sh 0 8), .int (sh 0 9), .int (sh 0 10), .int (sh 0 11), .int (sh 0 12), .ref (qh 5)])), (qh 1, .inl (k 0, 5, .inl (sh 1))), (qh 2, .inl (k 0, 5, .inl (sh 2))), (qh 3, .inl (k 0, 3, .inl (sh 3))), (qh 4, .inl (k 0, 3, .inl (sh 4))), (qh 5, .inl (k 0, 525, .inl (sh 5)))] → va_S A s.heap H locs → lv_has ls 22 [(11, .int v44), (10, .int r4), (8, .long r2), (7, .int v45), (5, .long v46), (0, .ref (qpl 0)), (1, .ref (qh 0)), (2, .int p0), (3, .int p1), (4, .int p2)] → W p l e ({ frames := 3, cells := 0, slots := 0, locals := 65 } : Room) s m ([.ref (qpl 0), .ref (qh 0), .int p0, .int p1, .int p2] : List Value).toArray below meth c H locs 0 0 Q (F0 m 25 ls []) := by
    intro n47
    induction n47 with
    | zero => intro v44 v45 v46 H locs ls hmn47 bv44 hP hD hS hl; exact absurd hmn47 (by omega)
    | succ n47 ih25 =>
      intro v44 v45 v46 H locs ls hmn47 bv44 hP hD hS hl
      refine lv_iload hx hb dX6_chooseAct_25 (lv_at hl 0 rfl) ?_
      refine lv_iload hx hb dX6_chooseAct_27 (lv_at hl 1 rfl) ?_
      refine lv_icmp_gt (tgt := 185) hx hb dX6_chooseAct_29 (by decide) (fun c48 => ?_) (fun c48 => ?_)
      · have f48 : r4.toInt < v44.toInt := f_lt rfl rfl c48
        refine lv_iload_n hx hb dX6_chooseAct_185 rfl (lv_at hl 7 rfl) ?_
        refine lv_iload_n hx hb dX6_chooseAct_186 rfl (lv_at hl 8 rfl) ?_
        refine g_ir (g_runS (wc := []) (rest := [.int p0]) cx hP hD hS [] rfl (by decide) [.int p1] (c_X3_kind l D k b H.size p1 ⟨by first | decide | omega, by first | decide | omega, (show tot p1 ≤ 4 from by first | decide | omega)⟩) gX6_chooseAct_X3_kind rfl rfl rfl nd_X3_kind ⟨Nat.le_of_ble_eq_true rfl, Nat.le_of_ble_eq_true rfl⟩ rfl hl.1 rfl (Nat.le_of_ble_eq_true rfl) ⟨Nat.zero_le _, Nat.zero_le _⟩ dX6_chooseAct_187) cx.2.2.1 hP hD hS [] rfl rfl (fun r50 H locs hw49 hP hS => ?_)
        have w51 : r50 = J_X3_kind p1 := hw49
        clear hw49
        have zr50 := kind_t w51 ⟨by first | decide | omega, by first | decide | omega, (show tot p1 ≤ 4 from by first | decide | omega)⟩
        refine lv_iload hx hb dX6_chooseAct_190 (lv_at hl 9 rfl) ?_
        refine g_ir (g_runS (wc := []) (rest := []) cx hP hD hS [] rfl (by decide) [.int p0, .int r50, .int p2] (c_X6_place l D k b H.size p0 r50 p2) gX6_chooseAct_X6_place rfl rfl rfl nd_X6_place ⟨Nat.le_of_ble_eq_true rfl, Nat.le_of_ble_eq_true rfl⟩ rfl hl.1 rfl (Nat.le_of_ble_eq_true rfl) ⟨Nat.zero_le _, Nat.zero_le _⟩ dX6_chooseAct_192) cx.2.2.1 hP hD hS [] rfl rfl (fun r53 H locs hw52 hP hS => ?_)
        have w54 : r53 = J_X6_place p0 r50 p2 := hw52
        clear hw52
        have zr53 : r53.toInt = (p0.toInt * 3 + p2.toInt) * 35 + r50.toInt := place_t w54 ⟨by omega, by omega⟩ ⟨by omega, by omega⟩ ⟨by omega, by omega⟩
        refine lv_istore (lv' := [(11, .int r53), (10, .int r4), (8, .long r2), (7, .int v45), (5, .long v46), (0, .ref (qpl 0)), (1, .ref (qh 0)), (2, .int p0), (3, .int p1), (4, .int p2)]) hx hb dX6_chooseAct_195 hl (by decide) rfl (fun ls hl => ?_)
        refine lv_aload_n hx hb dX6_chooseAct_197 rfl (lv_at hl 5 rfl) ?_
        refine g_get cx hP iw_X6_chooseAct_X6 0 rfl rfl 1 (by decide) rfl fw_X6_chooseAct_13 rfl dX6_chooseAct_198 ?_
        refine lv_iload hx hb dX6_chooseAct_201 (lv_at hl 0 rfl) ?_
        refine lv_lload hx hb dX6_chooseAct_203 (lv_at hl 4 rfl) ?_
        have hn55 : vp_in r53 630 := f_in (a := r53.toInt) rfl (by omega) (by omega)
        refine va_last hx hb cx.2.1 hP hD hS 1 1 rfl rfl hn55 dX6_chooseAct_205 (fun H locs hP hD hS => ?_)
        obtain ⟨g56, eg56⟩ : ∃ g : Nat → Int64, g = vp_updL (tpl 1) (r53).toNatClampNeg v46 := ⟨_, rfl⟩
        rw [← eg56] at hP hD
        have hP : va_P D vwCl [(qpl 0, .inr (4, [.int (spl 0 0), .ref (qpl 1), .ref (qpl 2), .ref (qpl 3), .ref (qpl 4)])), (qpl 1, .inl (k 1, 630, .inr (.inl g56))), (qpl 2, .inl (k 0, 525, .inl (spl 2))), (qpl 3, .inl (k 1, 35, .inr (.inl (tpl 3)))), (qpl 4, .inl (k 0, 35, .inl (spl 4))), (qh 0, .inr (2, [.int (sh 0 0), .int (sh 0 1), .ref (qh 1), .ref (qh 2), .ref (qh 3), .ref (qh 4), .int (sh 0 6), .int (sh 0 7), .int (sh 0 8), .int (sh 0 9), .int (sh 0 10), .int (sh 0 11), .int (sh 0 12), .ref (qh 5)])), (qh 1, .inl (k 0, 5, .inl (sh 1))), (qh 2, .inl (k 0, 5, .inl (sh 2))), (qh 3, .inl (k 0, 3, .inl (sh 3))), (qh 4, .inl (k 0, 3, .inl (sh 4))), (qh 5, .inl (k 0, 525, .inl (sh 5)))] H := hP
        have hD : va_D A [(qpl 0, .inr (4, [.int (spl 0 0), .ref (qpl 1), .ref (qpl 2), .ref (qpl 3), .ref (qpl 4)])), (qpl 1, .inl (k 1, 630, .inr (.inl g56))), (qpl 2, .inl (k 0, 525, .inl (spl 2))), (qpl 3, .inl (k 1, 35, .inr (.inl (tpl 3)))), (qpl 4, .inl (k 0, 35, .inl (spl 4))), (qh 0, .inr (2, [.int (sh 0 0), .int (sh 0 1), .ref (qh 1), .ref (qh 2), .ref (qh 3), .ref (qh 4), .int (sh 0 6), .int (sh 0 7), .int (sh 0 8), .int (sh 0 9), .int (sh 0 10), .int (sh 0 11), .int (sh 0 12), .ref (qh 5)])), (qh 1, .inl (k 0, 5, .inl (sh 1))), (qh 2, .inl (k 0, 5, .inl (sh 2))), (qh 3, .inl (k 0, 3, .inl (sh 3))), (qh 4, .inl (k 0, 3, .inl (sh 4))), (qh 5, .inl (k 0, 525, .inl (sh 5)))] := hD
        refine lv_aload_n hx hb dX6_chooseAct_206 rfl (lv_at hl 5 rfl) ?_
        refine g_get cx hP iw_X6_chooseAct_X6 0 rfl rfl 2 (by decide) rfl fw_X6_chooseAct_17 rfl dX6_chooseAct_207 ?_
        refine lv_iload hx hb dX6_chooseAct_210 (lv_at hl 0 rfl) ?_
        refine lv_iload hx hb dX6_chooseAct_212 (lv_at hl 3 rfl) ?_
        have hn57 : vp_in r53 525 := f_in (a := r53.toInt) rfl (by omega) (by omega)
        refine va_iast hx hb cx.2.1 hP hD hS 2 0 rfl rfl hn57 dX6_chooseAct_214 (fun H locs hP hD hS => ?_)
        obtain ⟨g58, eg58⟩ : ∃ g : Nat → Int32, g = upd (spl 2) (r53).toNatClampNeg v45 := ⟨_, rfl⟩
        rw [← eg58] at hP hD
        have hP : va_P D vwCl [(qpl 0, .inr (4, [.int (spl 0 0), .ref (qpl 1), .ref (qpl 2), .ref (qpl 3), .ref (qpl 4)])), (qpl 1, .inl (k 1, 630, .inr (.inl g56))), (qpl 2, .inl (k 0, 525, .inl g58)), (qpl 3, .inl (k 1, 35, .inr (.inl (tpl 3)))), (qpl 4, .inl (k 0, 35, .inl (spl 4))), (qh 0, .inr (2, [.int (sh 0 0), .int (sh 0 1), .ref (qh 1), .ref (qh 2), .ref (qh 3), .ref (qh 4), .int (sh 0 6), .int (sh 0 7), .int (sh 0 8), .int (sh 0 9), .int (sh 0 10), .int (sh 0 11), .int (sh 0 12), .ref (qh 5)])), (qh 1, .inl (k 0, 5, .inl (sh 1))), (qh 2, .inl (k 0, 5, .inl (sh 2))), (qh 3, .inl (k 0, 3, .inl (sh 3))), (qh 4, .inl (k 0, 3, .inl (sh 4))), (qh 5, .inl (k 0, 525, .inl (sh 5)))] H := hP
        have hD : va_D A [(qpl 0, .inr (4, [.int (spl 0 0), .ref (qpl 1), .ref (qpl 2), .ref (qpl 3), .ref (qpl 4)])), (qpl 1, .inl (k 1, 630, .inr (.inl g56))), (qpl 2, .inl (k 0, 525, .inl g58)), (qpl 3, .inl (k 1, 35, .inr (.inl (tpl 3)))), (qpl 4, .inl (k 0, 35, .inl (spl 4))), (qh 0, .inr (2, [.int (sh 0 0), .int (sh 0 1), .ref (qh 1), .ref (qh 2), .ref (qh 3), .ref (qh 4), .int (sh 0 6), .int (sh 0 7), .int (sh 0 8), .int (sh 0 9), .int (sh 0 10), .int (sh 0 11), .int (sh 0 12), .ref (qh 5)])), (qh 1, .inl (k 0, 5, .inl (sh 1))), (qh 2, .inl (k 0, 5, .inl (sh 2))), (qh 3, .inl (k 0, 3, .inl (sh 3))), (qh 4, .inl (k 0, 3, .inl (sh 4))), (qh 5, .inl (k 0, 525, .inl (sh 5)))] := hD
        rw [hQ]
        exact x_v cx hr (g56, g58) hP hD hS trivial dX6_chooseAct_215
      · have f48 : v44.toInt ≤ r4.toInt := f_nlt rfl rfl c48
        refine lv_iload_n hx hb dX6_chooseAct_32 rfl (lv_at hl 8 rfl) ?_
        refine lv_iload hx hb dX6_chooseAct_33 (lv_at hl 0 rfl) ?_
        refine g_ir (g_runS (wc := []) (rest := []) cx hP hD hS [] rfl (by decide) [.int p1, .int v44] (c_X3_lessYoungestFirst l D k b H.size p1 v44) gX6_chooseAct_X3_lessYoungestFirst rfl rfl rfl nd_X3_lessYoungestFirst ⟨Nat.le_of_ble_eq_true rfl, Nat.le_of_ble_eq_true rfl⟩ rfl hl.1 rfl (Nat.le_of_ble_eq_true rfl) ⟨Nat.zero_le _, Nat.zero_le _⟩ dX6_chooseAct_35) cx.2.2.1 hP hD hS [] rfl rfl (fun r60 H locs hw59 hP hS => ?_)
        have w61 : r60 = J_X3_lessYoungestFirst p1 v44 := hw59
        clear hw59
        have lw := w61
        have lt := less_t w61 hv ⟨by omega, by omega⟩
        refine lv_istore (lv' := [(12, .int r60), (11, .int v44), (10, .int r4), (8, .long r2), (7, .int v45), (5, .long v46), (0, .ref (qpl 0)), (1, .ref (qh 0)), (2, .int p0), (3, .int p1), (4, .int p2)]) hx hb dX6_chooseAct_38 hl (by decide) rfl (fun ls hl => ?_)
        refine lv_aload_n hx hb dX6_chooseAct_40 rfl (lv_at hl 7 rfl) ?_
        refine lv_iload_n hx hb dX6_chooseAct_41 rfl (lv_at hl 8 rfl) ?_
        refine lv_iload hx hb dX6_chooseAct_42 (lv_at hl 0 rfl) ?_
        refine g_ir (g_runV (wc := [(qh 0, .inr (2, [.int (sh 0 0), .int (sh 0 1), .ref (qh 1), .ref (qh 2), .ref (qh 3), .ref (qh 4), .int (sh 0 6), .int (sh 0 7), .int (sh 0 8), .int (sh 0 9), .int (sh 0 10), .int (sh 0 11), .int (sh 0 12), .ref (qh 5)])), (qh 1, .inl (k 0, 5, .inl (sh 1))), (qh 2, .inl (k 0, 5, .inl (sh 2))), (qh 3, .inl (k 0, 3, .inl (sh 3))), (qh 4, .inl (k 0, 3, .inl (sh 4))), (qh 5, .inl (k 0, 525, .inl (sh 5)))]) (rest := []) cx hP hD hS [5, 6, 7, 8, 9, 10] rfl (by decide) [.int p0, .int r60] (c_X4_mostTaken l D k b qh sh H.size p0 r60 (show 0 ≤ (sh 0 1).toInt ∧ (sh 0 1).toInt ≤ 4 from by first | decide | omega) h_of (show 0 ≤ r60.toInt ∧ r60.toInt ≤ 400 ∧ tot r60 ≤ 4 from by first | decide | omega) (show 0 ≤ p0.toInt ∧ p0.toInt ≤ 4 from by first | decide | omega)) gX6_chooseAct_X4_mostTaken rfl rfl rfl nd_X4_mostTaken ⟨Nat.le_of_ble_eq_true rfl, Nat.le_of_ble_eq_true rfl⟩ (ci := 2) (q0 := 0) rfl rfl rfl hl.1 rfl (Nat.le_of_ble_eq_true rfl) ⟨Nat.zero_le _, Nat.zero_le _⟩ dX6_chooseAct_44) cx.2.2.1 hP hD hS [5, 6, 7, 8, 9, 10] rfl rfl (fun r63 H locs hw62 hP hS => ?_)
        replace hw62 : (-4 ≤ r63.toInt ∧ r63.toInt ≤ 4 ∧ r63.toInt ≤ (sh 0 1).toInt - (tot r60)) ∧ ((sh 0 1).toInt < tot r60 ∨ 0 ≤ r63.toInt) := hw62
        obtain ⟨w64, w65⟩ := hw62
        refine lv_istore (lv' := [(13, .int r63), (12, .int r60), (11, .int v44), (10, .int r4), (8, .long r2), (7, .int v45), (5, .long v46), (0, .ref (qpl 0)), (1, .ref (qh 0)), (2, .int p0), (3, .int p1), (4, .int p2)]) hx hb dX6_chooseAct_47 hl (by decide) rfl (fun ls hl => ?_)
        refine lv_iconst (v := 0) hx hb dX6_chooseAct_49 (by decide) ?_
        refine lv_istore (lv' := [(14, .int 0), (13, .int r63), (12, .int r60), (11, .int v44), (10, .int r4), (8, .long r2), (7, .int v45), (5, .long v46), (0, .ref (qpl 0)), (1, .ref (qh 0)), (2, .int p0), (3, .int p1), (4, .int p2)]) hx hb dX6_chooseAct_50 hl (by decide) rfl (fun ls hl => ?_)
        have hL52 : ∀ (n98 : Nat) (v95 : Int32) (v96 : Int32) (v97 : Int64) (H : Heap) (locs : List Loc) (ls : Array Slot), 5 - v95.toInt < (n98 : Int) → (0 ≤ v95.toInt ∧ v95.toInt ≤ 5) → va_P D vwCl [(qpl 0, .inr (4, [.int (spl 0 0), .ref (qpl 1), .ref (qpl 2), .ref (qpl 3), .ref (qpl 4)])), (qpl 1, .inl (k 1, 630, .inr (.inl (tpl 1)))), (qpl 2, .inl (k 0, 525, .inl (spl 2))), (qpl 3, .inl (k 1, 35, .inr (.inl (tpl 3)))), (qpl 4, .inl (k 0, 35, .inl (spl 4))), (qh 0, .inr (2, [.int (sh 0 0), .int (sh 0 1), .ref (qh 1), .ref (qh 2), .ref (qh 3), .ref (qh 4), .int (sh 0 6), .int (sh 0 7), .int (sh 0 8), .int (sh 0 9), .int (sh 0 10), .int (sh 0 11), .int (sh 0 12), .ref (qh 5)])), (qh 1, .inl (k 0, 5, .inl (sh 1))), (qh 2, .inl (k 0, 5, .inl (sh 2))), (qh 3, .inl (k 0, 3, .inl (sh 3))), (qh 4, .inl (k 0, 3, .inl (sh 4))), (qh 5, .inl (k 0, 525, .inl (sh 5)))] H → va_D A [(qpl 0, .inr (4, [.int (spl 0 0), .ref (qpl 1), .ref (qpl 2), .ref (qpl 3), .ref (qpl 4)])), (qpl 1, .inl (k 1, 630, .inr (.inl (tpl 1)))), (qpl 2, .inl (k 0, 525, .inl (spl 2))), (qpl 3, .inl (k 1, 35, .inr (.inl (tpl 3)))), (qpl 4, .inl (k 0, 35, .inl (spl 4))), (qh 0, .inr (2, [.int (sh 0 0), .int (sh 0 1), .ref (qh 1), .ref (qh 2), .ref (qh 3), .ref (qh 4), .int (sh 0 6), .int (sh 0 7), .int (sh 0 8), .int (sh 0 9), .int (sh 0 10), .int (sh 0 11), .int (sh 0 12), .ref (qh 5)])), (qh 1, .inl (k 0, 5, .inl (sh 1))), (qh 2, .inl (k 0, 5, .inl (sh 2))), (qh 3, .inl (k 0, 3, .inl (sh 3))), (qh 4, .inl (k 0, 3, .inl (sh 4))), (qh 5, .inl (k 0, 525, .inl (sh 5)))] → va_S A s.heap H locs → lv_has ls 22 [(14, .int v95), (13, .int r63), (12, .int r60), (11, .int v44), (10, .int r4), (8, .long r2), (7, .int v96), (5, .long v97), (0, .ref (qpl 0)), (1, .ref (qh 0)), (2, .int p0), (3, .int p1), (4, .int p2)] → W p l e ({ frames := 3, cells := 0, slots := 0, locals := 65 } : Room) s m ([.ref (qpl 0), .ref (qh 0), .int p0, .int p1, .int p2] : List Value).toArray below meth c H locs 0 0 Q (F0 m 52 ls []) := by
          intro n98
          induction n98 with
          | zero => intro v95 v96 v97 H locs ls hmn98 bv95 hP hD hS hl; exact absurd hmn98 (by omega)
          | succ n98 ih52 =>
            intro v95 v96 v97 H locs ls hmn98 bv95 hP hD hS hl
            refine lv_iload hx hb dX6_chooseAct_52 (lv_at hl 0 rfl) ?_
            refine lv_iload hx hb dX6_chooseAct_54 (lv_at hl 1 rfl) ?_
            refine lv_icmp_gt (tgt := 179) hx hb dX6_chooseAct_56 (by decide) (fun c99 => ?_) (fun c99 => ?_)
            · have f99 : r63.toInt < v95.toInt := f_lt rfl rfl c99
              obtain ⟨v100, e100⟩ : ∃ z : Int32, z = v44 + 1 := ⟨_, rfl⟩
              refine lv_iinc (v := v100) (lv' := [(11, .int v100), (14, .int v95), (13, .int r63), (12, .int r60), (10, .int r4), (8, .long r2), (7, .int v96), (5, .long v97), (0, .ref (qpl 0)), (1, .ref (qh 0)), (2, .int p0), (3, .int p1), (4, .int p2)]) hx hb dX6_chooseAct_179 hl (k := 3) rfl (by rw [e100]; rfl) (by decide) rfl (fun ls hl => ?_)
              have t100 : v100.toInt = v44.toInt + 1 := by rw [e100]; exact i_add rfl (by decide) (by omega) (by omega)
              refine lv_goto (tgt := 25) hx hb dX6_chooseAct_182 (by decide) ?_
              exact ih25 v100 v96 v97 _ _ _ (by omega) (by first | decide | omega) hP hD hS (lv_sub hl [0, 4, 5, 6, 7, 8, 9, 10, 11, 12] rfl)
            · have f99 : v95.toInt ≤ r63.toInt := f_nlt rfl rfl c99
              refine lv_aload_n hx hb dX6_chooseAct_59 rfl (lv_at hl 9 rfl) ?_
              refine lv_iload hx hb dX6_chooseAct_60 (lv_at hl 2 rfl) ?_
              refine lv_bipush (v := 100) hx hb dX6_chooseAct_62 (by decide) ?_
              refine lv_iload hx hb dX6_chooseAct_64 (lv_at hl 0 rfl) ?_
              refine lv_imul hx hb dX6_chooseAct_66 (lv_topi (fun v101 e101 => ?_))
              have t101 : v101.toInt = 100 * v95.toInt := by rw [e101]; exact i_mul (by decide) rfl (by omega) (by omega)
              refine lv_iadd hx hb dX6_chooseAct_67 (lv_topi (fun v102 e102 => ?_))
              have t102 : v102.toInt = r60.toInt + v101.toInt := by rw [e102]; exact i_add rfl rfl (by omega) (by omega)
              refine g_ir (g_runV (wc := [(qh 0, .inr (2, [.int (sh 0 0), .int (sh 0 1), .ref (qh 1), .ref (qh 2), .ref (qh 3), .ref (qh 4), .int (sh 0 6), .int (sh 0 7), .int (sh 0 8), .int (sh 0 9), .int (sh 0 10), .int (sh 0 11), .int (sh 0 12), .ref (qh 5)])), (qh 1, .inl (k 0, 5, .inl (sh 1))), (qh 2, .inl (k 0, 5, .inl (sh 2))), (qh 3, .inl (k 0, 3, .inl (sh 3))), (qh 4, .inl (k 0, 3, .inl (sh 4))), (qh 5, .inl (k 0, 525, .inl (sh 5)))]) (rest := []) cx hP hD hS [5, 6, 7, 8, 9, 10] rfl (by decide) [.int v102] (c_X4_mostTaught l D k b qh sh H.size v102 (show 0 ≤ v102.toInt ∧ v102.toInt ≤ 9999 from by first | decide | omega)) gX6_chooseAct_X4_mostTaught rfl rfl rfl nd_X4_mostTaught ⟨Nat.le_of_ble_eq_true rfl, Nat.le_of_ble_eq_true rfl⟩ (ci := 2) (q0 := 0) rfl rfl rfl hl.1 rfl (Nat.le_of_ble_eq_true rfl) ⟨Nat.zero_le _, Nat.zero_le _⟩ dX6_chooseAct_68) cx.2.2.1 hP hD hS [5, 6, 7, 8, 9, 10] rfl rfl (fun r104 H locs hw103 hP hS => ?_)
              have w105 : r104.toInt = 0 ∨ (r104.toInt = 1 ∧ 0 < v102.toInt / 100) := hw103
              clear hw103
              refine lv_istore (lv' := [(15, .int r104), (14, .int v95), (13, .int r63), (12, .int r60), (11, .int v44), (10, .int r4), (8, .long r2), (7, .int v96), (5, .long v97), (0, .ref (qpl 0)), (1, .ref (qh 0)), (2, .int p0), (3, .int p1), (4, .int p2)]) hx hb dX6_chooseAct_71 hl (by decide) rfl (fun ls hl => ?_)
              refine lv_iconst (v := 0) hx hb dX6_chooseAct_73 (by decide) ?_
              refine lv_istore (lv' := [(16, .int 0), (15, .int r104), (14, .int v95), (13, .int r63), (12, .int r60), (11, .int v44), (10, .int r4), (8, .long r2), (7, .int v96), (5, .long v97), (0, .ref (qpl 0)), (1, .ref (qh 0)), (2, .int p0), (3, .int p1), (4, .int p2)]) hx hb dX6_chooseAct_74 hl (by decide) rfl (fun ls hl => ?_)
              have hL76 : ∀ (n132 : Nat) (v129 : Int32) (v130 : Int32) (v131 : Int64) (H : Heap) (locs : List Loc) (ls : Array Slot), 2 - v129.toInt < (n132 : Int) → (0 ≤ v129.toInt ∧ v129.toInt ≤ 2) → va_P D vwCl [(qpl 0, .inr (4, [.int (spl 0 0), .ref (qpl 1), .ref (qpl 2), .ref (qpl 3), .ref (qpl 4)])), (qpl 1, .inl (k 1, 630, .inr (.inl (tpl 1)))), (qpl 2, .inl (k 0, 525, .inl (spl 2))), (qpl 3, .inl (k 1, 35, .inr (.inl (tpl 3)))), (qpl 4, .inl (k 0, 35, .inl (spl 4))), (qh 0, .inr (2, [.int (sh 0 0), .int (sh 0 1), .ref (qh 1), .ref (qh 2), .ref (qh 3), .ref (qh 4), .int (sh 0 6), .int (sh 0 7), .int (sh 0 8), .int (sh 0 9), .int (sh 0 10), .int (sh 0 11), .int (sh 0 12), .ref (qh 5)])), (qh 1, .inl (k 0, 5, .inl (sh 1))), (qh 2, .inl (k 0, 5, .inl (sh 2))), (qh 3, .inl (k 0, 3, .inl (sh 3))), (qh 4, .inl (k 0, 3, .inl (sh 4))), (qh 5, .inl (k 0, 525, .inl (sh 5)))] H → va_D A [(qpl 0, .inr (4, [.int (spl 0 0), .ref (qpl 1), .ref (qpl 2), .ref (qpl 3), .ref (qpl 4)])), (qpl 1, .inl (k 1, 630, .inr (.inl (tpl 1)))), (qpl 2, .inl (k 0, 525, .inl (spl 2))), (qpl 3, .inl (k 1, 35, .inr (.inl (tpl 3)))), (qpl 4, .inl (k 0, 35, .inl (spl 4))), (qh 0, .inr (2, [.int (sh 0 0), .int (sh 0 1), .ref (qh 1), .ref (qh 2), .ref (qh 3), .ref (qh 4), .int (sh 0 6), .int (sh 0 7), .int (sh 0 8), .int (sh 0 9), .int (sh 0 10), .int (sh 0 11), .int (sh 0 12), .ref (qh 5)])), (qh 1, .inl (k 0, 5, .inl (sh 1))), (qh 2, .inl (k 0, 5, .inl (sh 2))), (qh 3, .inl (k 0, 3, .inl (sh 3))), (qh 4, .inl (k 0, 3, .inl (sh 4))), (qh 5, .inl (k 0, 525, .inl (sh 5)))] → va_S A s.heap H locs → lv_has ls 22 [(16, .int v129), (15, .int r104), (14, .int v95), (13, .int r63), (12, .int r60), (11, .int v44), (10, .int r4), (8, .long r2), (7, .int v130), (5, .long v131), (0, .ref (qpl 0)), (1, .ref (qh 0)), (2, .int p0), (3, .int p1), (4, .int p2)] → W p l e ({ frames := 3, cells := 0, slots := 0, locals := 65 } : Room) s m ([.ref (qpl 0), .ref (qh 0), .int p0, .int p1, .int p2] : List Value).toArray below meth c H locs 0 0 Q (F0 m 76 ls []) := by
                intro n132
                induction n132 with
                | zero => intro v129 v130 v131 H locs ls hmn132 bv129 hP hD hS hl; exact absurd hmn132 (by omega)
                | succ n132 ih76 =>
                  intro v129 v130 v131 H locs ls hmn132 bv129 hP hD hS hl
                  refine lv_iload hx hb dX6_chooseAct_76 (lv_at hl 0 rfl) ?_
                  refine lv_iload hx hb dX6_chooseAct_78 (lv_at hl 1 rfl) ?_
                  refine lv_icmp_gt (tgt := 173) hx hb dX6_chooseAct_80 (by decide) (fun c133 => ?_) (fun c133 => ?_)
                  · have f133 : r104.toInt < v129.toInt := f_lt rfl rfl c133
                    obtain ⟨v134, e134⟩ : ∃ z : Int32, z = v95 + 1 := ⟨_, rfl⟩
                    refine lv_iinc (v := v134) (lv' := [(14, .int v134), (16, .int v129), (15, .int r104), (13, .int r63), (12, .int r60), (11, .int v44), (10, .int r4), (8, .long r2), (7, .int v130), (5, .long v131), (0, .ref (qpl 0)), (1, .ref (qh 0)), (2, .int p0), (3, .int p1), (4, .int p2)]) hx hb dX6_chooseAct_173 hl (k := 2) rfl (by rw [e134]; rfl) (by decide) rfl (fun ls hl => ?_)
                    have t134 : v134.toInt = v95.toInt + 1 := by rw [e134]; exact i_add rfl (by decide) (by omega) (by omega)
                    refine lv_goto (tgt := 52) hx hb dX6_chooseAct_176 (by decide) ?_
                    exact ih52 v134 v130 v131 _ _ _ (by omega) (by first | decide | omega) hP hD hS (lv_sub hl [0, 3, 4, 5, 6, 7, 8, 9, 10, 11, 12, 13, 14] rfl)
                  · have f133 : v129.toInt ≤ r104.toInt := f_nlt rfl rfl c133
                    refine lv_sipush (v := 1000) hx hb dX6_chooseAct_83 (by decide) ?_
                    refine lv_iload hx hb dX6_chooseAct_86 (lv_at hl 5 rfl) ?_
                    refine lv_imul hx hb dX6_chooseAct_88 (lv_topi (fun v135 e135 => ?_))
                    have t135 : v135.toInt = 1000 * v44.toInt := by rw [e135]; exact i_mul (by decide) rfl (by omega) (by omega)
                    refine lv_bipush (v := 100) hx hb dX6_chooseAct_89 (by decide) ?_
                    refine lv_iload hx hb dX6_chooseAct_91 (lv_at hl 2 rfl) ?_
                    refine lv_imul hx hb dX6_chooseAct_93 (lv_topi (fun v136 e136 => ?_))
                    have t136 : v136.toInt = 100 * v95.toInt := by rw [e136]; exact i_mul (by decide) rfl (by omega) (by omega)
                    refine lv_iadd hx hb dX6_chooseAct_94 (lv_topi (fun v137 e137 => ?_))
                    have t137 : v137.toInt = v135.toInt + v136.toInt := by rw [e137]; exact i_add rfl rfl (by omega) (by omega)
                    refine lv_bipush (v := 10) hx hb dX6_chooseAct_95 (by decide) ?_
                    refine lv_iload hx hb dX6_chooseAct_97 (lv_at hl 0 rfl) ?_
                    refine lv_imul hx hb dX6_chooseAct_99 (lv_topi (fun v138 e138 => ?_))
                    have t138 : v138.toInt = 10 * v129.toInt := by rw [e138]; exact i_mul (by decide) rfl (by omega) (by omega)
                    refine lv_iadd hx hb dX6_chooseAct_100 (lv_topi (fun v139 e139 => ?_))
                    have t139 : v139.toInt = v137.toInt + v138.toInt := by rw [e139]; exact i_add rfl rfl (by omega) (by omega)
                    refine lv_istore (lv' := [(17, .int v139), (16, .int v129), (15, .int r104), (14, .int v95), (13, .int r63), (12, .int r60), (11, .int v44), (10, .int r4), (8, .long r2), (7, .int v130), (5, .long v131), (0, .ref (qpl 0)), (1, .ref (qh 0)), (2, .int p0), (3, .int p1), (4, .int p2)]) hx hb dX6_chooseAct_101 hl (by decide) rfl (fun ls hl => ?_)
                    refine lv_iload_n hx hb dX6_chooseAct_103 rfl (lv_at hl 14 rfl) ?_
                    refine lv_iload hx hb dX6_chooseAct_104 (lv_at hl 0 rfl) ?_
                    refine g_ir (g_runS (wc := []) (rest := []) cx hP hD hS [] rfl (by decide) [.int p1, .int v139] (c_X0_done l D k b H.size p1 v139) gX6_chooseAct_X0_done rfl rfl rfl nd_X0_done ⟨Nat.le_of_ble_eq_true rfl, Nat.le_of_ble_eq_true rfl⟩ rfl hl.1 rfl (Nat.le_of_ble_eq_true rfl) ⟨Nat.zero_le _, Nat.zero_le _⟩ dX6_chooseAct_106) cx.2.2.1 hP hD hS [] rfl rfl (fun r141 H locs hw140 hP hS => ?_)
                    have w142 : r141 = J_X0_done p1 v139 := hw140
                    clear hw140
                    have ao := act_of (a := v139) (l := v44) (t := v95) (e := v129) (by omega) (by omega) ⟨by omega, by omega⟩ ⟨by omega, by omega⟩
                    have dn := done_t (X := v102.toInt) (hook := (sh 0 1).toInt) hv ao.1 ao.2.1 ao.2.2 lw (by omega) (by omega) (by omega) (by omega) (by omega) (by omega) (by omega) w142
                    refine lv_istore (lv' := [(18, .int r141), (17, .int v139), (16, .int v129), (15, .int r104), (14, .int v95), (13, .int r63), (12, .int r60), (11, .int v44), (10, .int r4), (8, .long r2), (7, .int v130), (5, .long v131), (0, .ref (qpl 0)), (1, .ref (qh 0)), (2, .int p0), (3, .int p1), (4, .int p2)]) hx hb dX6_chooseAct_109 hl (by decide) rfl (fun ls hl => ?_)
                    refine lv_iload hx hb dX6_chooseAct_111 (lv_at hl 0 rfl) ?_
                    refine g_ir (g_runS (wc := []) (rest := []) cx hP hD hS [] rfl (by decide) [.int r141] (c_X3_kind l D k b H.size r141 ⟨by first | decide | omega, by first | decide | omega, (show tot r141 ≤ 4 from by first | decide | omega)⟩) gX6_chooseAct_X3_kind rfl rfl rfl nd_X3_kind ⟨Nat.le_of_ble_eq_true rfl, Nat.le_of_ble_eq_true rfl⟩ rfl hl.1 rfl (Nat.le_of_ble_eq_true rfl) ⟨Nat.zero_le _, Nat.zero_le _⟩ dX6_chooseAct_113) cx.2.2.1 hP hD hS [] rfl rfl (fun r144 H locs hw143 hP hS => ?_)
                    have w145 : r144 = J_X3_kind r141 := hw143
                    clear hw143
                    have zr144 := kind_t w145 ⟨by first | decide | omega, by first | decide | omega, (show tot r141 ≤ 4 from by first | decide | omega)⟩
                    refine lv_istore (lv' := [(19, .int r144), (18, .int r141), (17, .int v139), (16, .int v129), (15, .int r104), (14, .int v95), (13, .int r63), (12, .int r60), (11, .int v44), (10, .int r4), (8, .long r2), (7, .int v130), (5, .long v131), (0, .ref (qpl 0)), (1, .ref (qh 0)), (2, .int p0), (3, .int p1), (4, .int p2)]) hx hb dX6_chooseAct_116 hl (by decide) rfl (fun ls hl => ?_)
                    refine lv_aload_n hx hb dX6_chooseAct_118 rfl (lv_at hl 14 rfl) ?_
                    refine lv_iload_n hx hb dX6_chooseAct_119 rfl (lv_at hl 15 rfl) ?_
                    refine lv_iload hx hb dX6_chooseAct_120 (lv_at hl 1 rfl) ?_
                    refine lv_iload hx hb dX6_chooseAct_122 (lv_at hl 17 rfl) ?_
                    refine lv_iload hx hb dX6_chooseAct_124 (lv_at hl 2 rfl) ?_
                    refine g_ir (g_runV (wc := [(qh 0, .inr (2, [.int (sh 0 0), .int (sh 0 1), .ref (qh 1), .ref (qh 2), .ref (qh 3), .ref (qh 4), .int (sh 0 6), .int (sh 0 7), .int (sh 0 8), .int (sh 0 9), .int (sh 0 10), .int (sh 0 11), .int (sh 0 12), .ref (qh 5)])), (qh 1, .inl (k 0, 5, .inl (sh 1))), (qh 2, .inl (k 0, 5, .inl (sh 2))), (qh 3, .inl (k 0, 3, .inl (sh 3))), (qh 4, .inl (k 0, 3, .inl (sh 4))), (qh 5, .inl (k 0, 525, .inl (sh 5)))]) (rest := []) cx hP hD hS [5, 6, 7, 8, 9, 10] rfl (by decide) [.int p0, .int r141, .int p2, .int v139] (c_X4_weekCost l D k b qh sh H.size p0 r141 p2 v139 (show 0 ≤ p0.toInt ∧ p0.toInt ≤ 4 from by first | decide | omega)) gX6_chooseAct_X4_weekCost rfl rfl rfl nd_X4_weekCost ⟨Nat.le_of_ble_eq_true rfl, Nat.le_of_ble_eq_true rfl⟩ (ci := 2) (q0 := 0) rfl rfl rfl hl.1 rfl (Nat.le_of_ble_eq_true rfl) ⟨Nat.zero_le _, Nat.zero_le _⟩ dX6_chooseAct_126) cx.2.2.1 hP hD hS [5, 6, 7, 8, 9, 10] rfl rfl (fun r147 H locs hw146 hP hS => ?_)
                    clear hw146
                    obtain ⟨v148, e148⟩ : ∃ z : Int64, z = (r147 : Int32).toInt64 := ⟨_, rfl⟩
                    refine lv_i2l (v := v148) hx hb dX6_chooseAct_129 e148.symm ?_
                    refine lv_lload hx hb dX6_chooseAct_130 (lv_at hl 10 rfl) ?_
                    refine lv_lmul hx hb dX6_chooseAct_132 (lv_topl (fun v149 e149 => ?_))
                    refine lv_aload_n hx hb dX6_chooseAct_133 rfl (lv_at hl 13 rfl) ?_
                    refine g_get cx hP iw_X6_chooseAct_X6 0 rfl rfl 3 (by decide) rfl fw_X6_chooseAct_21 rfl dX6_chooseAct_134 ?_
                    refine lv_iload hx hb dX6_chooseAct_137 (lv_at hl 0 rfl) ?_
                    have hn150 : vp_in r144 35 := f_in (a := r144.toInt) rfl (by omega) (by omega)
                    refine va_lald hx hb cx.2.1 hP 3 1 rfl rfl hn150 dX6_chooseAct_139 (lv_topl (fun v151 e151 => ?_))
                    refine lv_ladd hx hb dX6_chooseAct_140 (lv_topl (fun v152 e152 => ?_))
                    refine lv_lstore (lv' := [(20, .long v152), (19, .int r144), (18, .int r141), (17, .int v139), (16, .int v129), (15, .int r104), (14, .int v95), (13, .int r63), (12, .int r60), (11, .int v44), (10, .int r4), (8, .long r2), (7, .int v130), (5, .long v131), (0, .ref (qpl 0)), (1, .ref (qh 0)), (2, .int p0), (3, .int p1), (4, .int p2)]) hx hb dX6_chooseAct_141 hl (by decide) rfl (fun ls hl => ?_)
                    refine lv_lload hx hb dX6_chooseAct_143 (lv_at hl 0 rfl) ?_
                    refine lv_lload hx hb dX6_chooseAct_145 (lv_at hl 13 rfl) ?_
                    refine W.lcmp hx hb dX6_chooseAct_147 (lv_topi (fun v153 e153 => ?_))
                    have hJ167 : ∀ (v157 : Int32) (v158 : Int64) (H : Heap) (locs : List Loc) (ls : Array Slot), va_P D vwCl [(qpl 0, .inr (4, [.int (spl 0 0), .ref (qpl 1), .ref (qpl 2), .ref (qpl 3), .ref (qpl 4)])), (qpl 1, .inl (k 1, 630, .inr (.inl (tpl 1)))), (qpl 2, .inl (k 0, 525, .inl (spl 2))), (qpl 3, .inl (k 1, 35, .inr (.inl (tpl 3)))), (qpl 4, .inl (k 0, 35, .inl (spl 4))), (qh 0, .inr (2, [.int (sh 0 0), .int (sh 0 1), .ref (qh 1), .ref (qh 2), .ref (qh 3), .ref (qh 4), .int (sh 0 6), .int (sh 0 7), .int (sh 0 8), .int (sh 0 9), .int (sh 0 10), .int (sh 0 11), .int (sh 0 12), .ref (qh 5)])), (qh 1, .inl (k 0, 5, .inl (sh 1))), (qh 2, .inl (k 0, 5, .inl (sh 2))), (qh 3, .inl (k 0, 3, .inl (sh 3))), (qh 4, .inl (k 0, 3, .inl (sh 4))), (qh 5, .inl (k 0, 525, .inl (sh 5)))] H → va_D A [(qpl 0, .inr (4, [.int (spl 0 0), .ref (qpl 1), .ref (qpl 2), .ref (qpl 3), .ref (qpl 4)])), (qpl 1, .inl (k 1, 630, .inr (.inl (tpl 1)))), (qpl 2, .inl (k 0, 525, .inl (spl 2))), (qpl 3, .inl (k 1, 35, .inr (.inl (tpl 3)))), (qpl 4, .inl (k 0, 35, .inl (spl 4))), (qh 0, .inr (2, [.int (sh 0 0), .int (sh 0 1), .ref (qh 1), .ref (qh 2), .ref (qh 3), .ref (qh 4), .int (sh 0 6), .int (sh 0 7), .int (sh 0 8), .int (sh 0 9), .int (sh 0 10), .int (sh 0 11), .int (sh 0 12), .ref (qh 5)])), (qh 1, .inl (k 0, 5, .inl (sh 1))), (qh 2, .inl (k 0, 5, .inl (sh 2))), (qh 3, .inl (k 0, 3, .inl (sh 3))), (qh 4, .inl (k 0, 3, .inl (sh 4))), (qh 5, .inl (k 0, 525, .inl (sh 5)))] → va_S A s.heap H locs → lv_has ls 22 [(16, .int v129), (15, .int r104), (14, .int v95), (13, .int r63), (12, .int r60), (11, .int v44), (10, .int r4), (8, .long r2), (7, .int v157), (5, .long v158), (0, .ref (qpl 0)), (1, .ref (qh 0)), (2, .int p0), (3, .int p1), (4, .int p2)] → W p l e ({ frames := 3, cells := 0, slots := 0, locals := 65 } : Room) s m ([.ref (qpl 0), .ref (qh 0), .int p0, .int p1, .int p2] : List Value).toArray below meth c H locs 0 0 Q (F0 m 167 ls []) := by
                      intro v157 v158 H locs ls  hP hD hS hl
                      obtain ⟨v159, e159⟩ : ∃ z : Int32, z = v129 + 1 := ⟨_, rfl⟩
                      refine lv_iinc (v := v159) (lv' := [(16, .int v159), (15, .int r104), (14, .int v95), (13, .int r63), (12, .int r60), (11, .int v44), (10, .int r4), (8, .long r2), (7, .int v157), (5, .long v158), (0, .ref (qpl 0)), (1, .ref (qh 0)), (2, .int p0), (3, .int p1), (4, .int p2)]) hx hb dX6_chooseAct_167 hl (k := 0) rfl (by rw [e159]; rfl) (by decide) rfl (fun ls hl => ?_)
                      have t159 : v159.toInt = v129.toInt + 1 := by rw [e159]; exact i_add rfl (by decide) (by omega) (by omega)
                      refine lv_goto (tgt := 76) hx hb dX6_chooseAct_170 (by decide) ?_
                      exact ih76 v159 v157 v158 _ _ _ (by omega) (by first | decide | omega) hP hD hS (lv_sub hl [0, 1, 2, 3, 4, 5, 6, 7, 8, 9, 10, 11, 12, 13, 14] rfl)
                    refine lv_if_ge (tgt := 167) hx hb dX6_chooseAct_148 (by decide) (fun c160 => ?_) (fun c160 => ?_)
                    · have f160 : 0 ≤ v153.toInt := f_le (by decide) rfl c160
                      exact hJ167 v130 v131 _ _ _  hP hD hS (lv_sub hl [4, 5, 6, 7, 8, 9, 10, 11, 12, 13, 14, 15, 16, 17, 18] rfl)
                    · have f160 : v153.toInt < 0 := f_nle (by decide) rfl c160
                      refine lv_lload hx hb dX6_chooseAct_151 (lv_at hl 0 rfl) ?_
                      refine lv_lstore (lv' := [(5, .long v152), (20, .long v152), (19, .int r144), (18, .int r141), (17, .int v139), (16, .int v129), (15, .int r104), (14, .int v95), (13, .int r63), (12, .int r60), (11, .int v44), (10, .int r4), (8, .long r2), (7, .int v130), (0, .ref (qpl 0)), (1, .ref (qh 0)), (2, .int p0), (3, .int p1), (4, .int p2)]) hx hb dX6_chooseAct_153 hl (by decide) rfl (fun ls hl => ?_)
                      refine lv_iload hx hb dX6_chooseAct_155 (lv_at hl 4 rfl) ?_
                      refine lv_aload_n hx hb dX6_chooseAct_157 rfl (lv_at hl 14 rfl) ?_
                      refine g_get cx hP iw_X6_chooseAct_X6 0 rfl rfl 4 (by decide) rfl fw_X6_chooseAct_24 rfl dX6_chooseAct_158 ?_
                      refine lv_iload hx hb dX6_chooseAct_161 (lv_at hl 2 rfl) ?_
                      have hn161 : vp_in r144 35 := f_in (a := r144.toInt) rfl (by omega) (by omega)
                      refine va_iald hx hb cx.2.1 hP 4 0 rfl rfl hn161 dX6_chooseAct_163 (lv_topi (fun v162 e162 => ?_))
                      refine lv_iadd hx hb dX6_chooseAct_164 (lv_topi (fun v163 e163 => ?_))
                      refine lv_istore (lv' := [(7, .int v163), (5, .long v152), (20, .long v152), (19, .int r144), (18, .int r141), (17, .int v139), (16, .int v129), (15, .int r104), (14, .int v95), (13, .int r63), (12, .int r60), (11, .int v44), (10, .int r4), (8, .long r2), (0, .ref (qpl 0)), (1, .ref (qh 0)), (2, .int p0), (3, .int p1), (4, .int p2)]) hx hb dX6_chooseAct_165 hl (by decide) rfl (fun ls hl => ?_)
                      exact hJ167 v163 v152 _ _ _  hP hD hS (lv_sub hl [6, 7, 8, 9, 10, 11, 12, 13, 0, 1, 14, 15, 16, 17, 18] rfl)
              have hlit164 : (0 : Int32).toInt = 0 := by decide
              exact hL76 (Int.toNat (2 - 0) + 1) 0 v96 v97 _ _ _ (by omega) (by first | decide | omega) hP hD hS (lv_sub hl [0, 1, 2, 3, 4, 5, 6, 7, 8, 9, 10, 11, 12, 13, 14] rfl)
        have hlit165 : (0 : Int32).toInt = 0 := by decide
        exact hL52 (Int.toNat (5 - 0) + 1) 0 v45 v46 _ _ _ (by omega) (by first | decide | omega) hP hD hS (lv_sub hl [0, 1, 2, 3, 4, 5, 6, 7, 8, 9, 10, 11, 12] rfl)
  have hlit166 : (0 : Int32).toInt = 0 := by decide
  have hlit167 : (0 : Int32).toInt = 0 := by decide
  exact hL25 (Int.toNat (5 - 0) + 1) 0 0 9223372036854775807 _ _ _ (by omega) (by first | decide | omega) hP hD hS (lv_sub hl [0, 1, 2, 3, 4, 5, 6, 7, 8, 9] rfl)
theorem fw_X6_chooseActs_45 : Cond.fieldLink RX6 45 "StillInAugust$Hands" "ALL" "[I" ∈ wsX6_chooseActs := by decide +kernel
theorem fw_X6_chooseActs_64 : Cond.fieldLink RX6 64 "StillInAugust$House" "hooks" "I" ∈ wsX6_chooseActs := by decide +kernel
theorem nd_X6_chooseAct : yX6_chooseAct.cls = RX6 ∧ yX6_chooseAct.cls ≠ "java/lang/invoke/MethodHandle" ∧ yX6_chooseAct.cls ≠ "java/lang/invoke/VarHandle" ∧ (parseMethodDescriptor yX6_chooseAct.desc).map (fun d => d.parameters.length) = some 4 := by decide +kernel
theorem iw_X6_chooseActs_X4 : ∀ w ∈ u_ws RX4 TX4 14, w ∈ wsX6_chooseActs := fun _ h => List.mem_cons_of_mem _ (List.mem_append_left _ (List.mem_append_right _ h))
set_option maxHeartbeats 4000000 in
set_option maxRecDepth 100000 in
theorem c_X6_chooseActs (l : Launch) (D : va_G) (k : Nat → ClassId) (b : Nat → Nat) (qpl : Nat → Nat) (spl : Nat → Nat → Int32) (tpl : Nat → Nat → Int64) (qh : Nat → Nat) (sh : Nat → Nat → Int32) (sz : Nat) (p0 : Int32) (h_pw : 0 ≤ (spl 0 0).toInt ∧ (spl 0 0).toInt ≤ 5) (h_pl : p0.toInt ≤ (spl 0 0).toInt) (h_hk : 0 ≤ (sh 0 1).toInt ∧ (sh 0 1).toInt ≤ 4) (h_of : ∀ j, 0 ≤ (sh 2 j).toInt ∧ (sh 2 j).toInt ≤ 4) (hp0 : 0 ≤ p0.toInt ∧ p0.toInt ≤ 4) : MetV l D k b yX6_chooseActs wsX6_chooseActs ({ frames := 4, cells := 0, slots := 0, locals := 106 } : Room) [(qpl 0, .inr (4, [.int (spl 0 0), .ref (qpl 1), .ref (qpl 2), .ref (qpl 3), .ref (qpl 4)])), (qpl 1, .inl (k 1, 630, .inr (.inl (tpl 1)))), (qpl 2, .inl (k 0, 525, .inl (spl 2))), (qpl 3, .inl (k 1, 35, .inr (.inl (tpl 3)))), (qpl 4, .inl (k 0, 35, .inl (spl 4))), (qh 0, .inr (2, [.int (sh 0 0), .int (sh 0 1), .ref (qh 1), .ref (qh 2), .ref (qh 3), .ref (qh 4), .int (sh 0 6), .int (sh 0 7), .int (sh 0 8), .int (sh 0 9), .int (sh 0 10), .int (sh 0 11), .int (sh 0 12), .ref (qh 5)])), (qh 1, .inl (k 0, 5, .inl (sh 1))), (qh 2, .inl (k 0, 5, .inl (sh 2))), (qh 3, .inl (k 0, 3, .inl (sh 3))), (qh 4, .inl (k 0, 3, .inl (sh 4))), (qh 5, .inl (k 0, 525, .inl (sh 5)))] sz [.ref (qpl 0), .ref (qh 0), .int p0] (fun (u : (Nat → Int64) × (Nat → Int32)) => True) (fun u => [(qpl 0, .inr (4, [.int (spl 0 0), .ref (qpl 1), .ref (qpl 2), .ref (qpl 3), .ref (qpl 4)])), (qpl 1, .inl (k 1, 630, .inr (.inl (u.1)))), (qpl 2, .inl (k 0, 525, .inl (u.2))), (qpl 3, .inl (k 1, 35, .inr (.inl (tpl 3)))), (qpl 4, .inl (k 0, 35, .inl (spl 4))), (qh 0, .inr (2, [.int (sh 0 0), .int (sh 0 1), .ref (qh 1), .ref (qh 2), .ref (qh 3), .ref (qh 4), .int (sh 0 6), .int (sh 0 7), .int (sh 0 8), .int (sh 0 9), .int (sh 0 10), .int (sh 0 11), .int (sh 0 12), .ref (qh 5)])), (qh 1, .inl (k 0, 5, .inl (sh 1))), (qh 2, .inl (k 0, 5, .inl (sh 2))), (qh 3, .inl (k 0, 3, .inl (sh 3))), (qh 4, .inl (k 0, 3, .inl (sh 4))), (qh 5, .inl (k 0, 525, .inl (sh 5)))]) := by
  refine g_enter (cc := cX6_chooseActs) (maxL := 9) (ret := none) (by decide) rfl (Nat.le_of_ble_eq_true rfl) ?_
  intro p e s m below meth c A hsz hAe cx hr hP hD hS ls hl
  rw [hAe]
  refine g_q (fun Q hQ => ?_)
  have hx := cx.1.1
  have hb := cx.1.2.1
  have bp0 := i_rng p0
  have hl : lv_has ls 9 [(0, .ref (qpl 0)), (1, .ref (qh 0)), (2, .int p0)] := hl
  obtain ⟨H, eH⟩ : ∃ H : Heap, H = s.heap := ⟨_, rfl⟩
  obtain ⟨locs, el⟩ : ∃ L : List Loc, L = [] := ⟨_, rfl⟩
  have hP : va_P D vwCl [(qpl 0, .inr (4, [.int (spl 0 0), .ref (qpl 1), .ref (qpl 2), .ref (qpl 3), .ref (qpl 4)])), (qpl 1, .inl (k 1, 630, .inr (.inl (tpl 1)))), (qpl 2, .inl (k 0, 525, .inl (spl 2))), (qpl 3, .inl (k 1, 35, .inr (.inl (tpl 3)))), (qpl 4, .inl (k 0, 35, .inl (spl 4))), (qh 0, .inr (2, [.int (sh 0 0), .int (sh 0 1), .ref (qh 1), .ref (qh 2), .ref (qh 3), .ref (qh 4), .int (sh 0 6), .int (sh 0 7), .int (sh 0 8), .int (sh 0 9), .int (sh 0 10), .int (sh 0 11), .int (sh 0 12), .ref (qh 5)])), (qh 1, .inl (k 0, 5, .inl (sh 1))), (qh 2, .inl (k 0, 5, .inl (sh 2))), (qh 3, .inl (k 0, 3, .inl (sh 3))), (qh 4, .inl (k 0, 3, .inl (sh 4))), (qh 5, .inl (k 0, 525, .inl (sh 5)))] H := by rw [eH]; exact hP
  have hD : va_D A [(qpl 0, .inr (4, [.int (spl 0 0), .ref (qpl 1), .ref (qpl 2), .ref (qpl 3), .ref (qpl 4)])), (qpl 1, .inl (k 1, 630, .inr (.inl (tpl 1)))), (qpl 2, .inl (k 0, 525, .inl (spl 2))), (qpl 3, .inl (k 1, 35, .inr (.inl (tpl 3)))), (qpl 4, .inl (k 0, 35, .inl (spl 4))), (qh 0, .inr (2, [.int (sh 0 0), .int (sh 0 1), .ref (qh 1), .ref (qh 2), .ref (qh 3), .ref (qh 4), .int (sh 0 6), .int (sh 0 7), .int (sh 0 8), .int (sh 0 9), .int (sh 0 10), .int (sh 0 11), .int (sh 0 12), .ref (qh 5)])), (qh 1, .inl (k 0, 5, .inl (sh 1))), (qh 2, .inl (k 0, 5, .inl (sh 2))), (qh 3, .inl (k 0, 3, .inl (sh 3))), (qh 4, .inl (k 0, 3, .inl (sh 4))), (qh 5, .inl (k 0, 525, .inl (sh 5)))] := hD
  have hS : va_S A s.heap H locs := by rw [eH, el]; exact hS
  suffices goal : W p l e ({ frames := 4, cells := 0, slots := 0, locals := 106 } : Room) s m ([.ref (qpl 0), .ref (qh 0), .int p0] : List Value).toArray below meth c H locs 0 0 Q (F0 m 0 ls []) by rw [eH, el] at goal; exact goal
  refine lv_aload_n hx hb dX6_chooseActs_0 rfl (lv_at hl 1 rfl) ?_
  refine g_ir (g_runV (wc := [(qh 0, .inr (2, [.int (sh 0 0), .int (sh 0 1), .ref (qh 1), .ref (qh 2), .ref (qh 3), .ref (qh 4), .int (sh 0 6), .int (sh 0 7), .int (sh 0 8), .int (sh 0 9), .int (sh 0 10), .int (sh 0 11), .int (sh 0 12), .ref (qh 5)])), (qh 1, .inl (k 0, 5, .inl (sh 1))), (qh 2, .inl (k 0, 5, .inl (sh 2))), (qh 3, .inl (k 0, 3, .inl (sh 3))), (qh 4, .inl (k 0, 3, .inl (sh 4))), (qh 5, .inl (k 0, 525, .inl (sh 5)))]) (rest := []) cx hP hD hS [5, 6, 7, 8, 9, 10] rfl (by decide) [] (c_X4_mostComing l D k b qh sh H.size) gX6_chooseActs_X4_mostComing rfl rfl rfl nd_X4_mostComing ⟨Nat.le_of_ble_eq_true rfl, Nat.le_of_ble_eq_true rfl⟩ (ci := 2) (q0 := 0) rfl rfl rfl hl.1 rfl (Nat.le_of_ble_eq_true rfl) ⟨Nat.zero_le _, Nat.zero_le _⟩ dX6_chooseActs_1) cx.2.2.1 hP hD hS [5, 6, 7, 8, 9, 10] rfl rfl (fun r2 H locs hw1 hP hS => ?_)
  have w3 : r2.toInt = 0 ∨ r2.toInt = 2 := hw1
  clear hw1
  refine lv_istore_n (lv' := [(3, .int r2), (0, .ref (qpl 0)), (1, .ref (qh 0)), (2, .int p0)]) hx hb dX6_chooseActs_4 rfl hl (by decide) rfl (fun ls hl => ?_)
  refine va_gets hx hb cx.2.2.2.t0.1 hS cx.1.2.2.2.1 (cx.1.2.2.2.2 _ fw_X6_chooseActs_45) (fun _ h => h) dX6_chooseActs_5 ?_
  refine lv_astore (lv' := [(4, .ref (b 0)), (3, .int r2), (0, .ref (qpl 0)), (1, .ref (qh 0)), (2, .int p0)]) hx hb dX6_chooseActs_8 hl (by decide) rfl (fun ls hl => ?_)
  refine lv_aload hx hb dX6_chooseActs_10 (lv_at hl 0 rfl) ?_
  refine va_tlen hx hb cx.2.2.2.t0.2 hS (v := 35) (by decide) dX6_chooseActs_12 ?_
  refine lv_istore (lv' := [(5, .int 35), (4, .ref (b 0)), (3, .int r2), (0, .ref (qpl 0)), (1, .ref (qh 0)), (2, .int p0)]) hx hb dX6_chooseActs_13 hl (by decide) rfl (fun ls hl => ?_)
  refine lv_iconst (v := 0) hx hb dX6_chooseActs_15 (by decide) ?_
  refine lv_istore (lv' := [(6, .int 0), (5, .int 35), (4, .ref (b 0)), (3, .int r2), (0, .ref (qpl 0)), (1, .ref (qh 0)), (2, .int p0)]) hx hb dX6_chooseActs_16 hl (by decide) rfl (fun ls hl => ?_)
  have hL18 : ∀ (n19 : Nat) (v16 : Int32) (g17 : Nat → Int64) (g18 : Nat → Int32) (H : Heap) (locs : List Loc) (ls : Array Slot), 35 - v16.toInt < (n19 : Int) → (0 ≤ v16.toInt ∧ v16.toInt ≤ 35) → va_P D vwCl [(qpl 0, .inr (4, [.int (spl 0 0), .ref (qpl 1), .ref (qpl 2), .ref (qpl 3), .ref (qpl 4)])), (qpl 1, .inl (k 1, 630, .inr (.inl g17))), (qpl 2, .inl (k 0, 525, .inl g18)), (qpl 3, .inl (k 1, 35, .inr (.inl (tpl 3)))), (qpl 4, .inl (k 0, 35, .inl (spl 4))), (qh 0, .inr (2, [.int (sh 0 0), .int (sh 0 1), .ref (qh 1), .ref (qh 2), .ref (qh 3), .ref (qh 4), .int (sh 0 6), .int (sh 0 7), .int (sh 0 8), .int (sh 0 9), .int (sh 0 10), .int (sh 0 11), .int (sh 0 12), .ref (qh 5)])), (qh 1, .inl (k 0, 5, .inl (sh 1))), (qh 2, .inl (k 0, 5, .inl (sh 2))), (qh 3, .inl (k 0, 3, .inl (sh 3))), (qh 4, .inl (k 0, 3, .inl (sh 4))), (qh 5, .inl (k 0, 525, .inl (sh 5)))] H → va_D A [(qpl 0, .inr (4, [.int (spl 0 0), .ref (qpl 1), .ref (qpl 2), .ref (qpl 3), .ref (qpl 4)])), (qpl 1, .inl (k 1, 630, .inr (.inl g17))), (qpl 2, .inl (k 0, 525, .inl g18)), (qpl 3, .inl (k 1, 35, .inr (.inl (tpl 3)))), (qpl 4, .inl (k 0, 35, .inl (spl 4))), (qh 0, .inr (2, [.int (sh 0 0), .int (sh 0 1), .ref (qh 1), .ref (qh 2), .ref (qh 3), .ref (qh 4), .int (sh 0 6), .int (sh 0 7), .int (sh 0 8), .int (sh 0 9), .int (sh 0 10), .int (sh 0 11), .int (sh 0 12), .ref (qh 5)])), (qh 1, .inl (k 0, 5, .inl (sh 1))), (qh 2, .inl (k 0, 5, .inl (sh 2))), (qh 3, .inl (k 0, 3, .inl (sh 3))), (qh 4, .inl (k 0, 3, .inl (sh 4))), (qh 5, .inl (k 0, 525, .inl (sh 5)))] → va_S A s.heap H locs → lv_has ls 9 [(6, .int v16), (5, .int 35), (4, .ref (b 0)), (3, .int r2), (0, .ref (qpl 0)), (1, .ref (qh 0)), (2, .int p0)] → W p l e ({ frames := 4, cells := 0, slots := 0, locals := 106 } : Room) s m ([.ref (qpl 0), .ref (qh 0), .int p0] : List Value).toArray below meth c H locs 0 0 Q (F0 m 18 ls []) := by
    intro n19
    induction n19 with
    | zero => intro v16 g17 g18 H locs ls hmn19 bv16 hP hD hS hl; exact absurd hmn19 (by omega)
    | succ n19 ih18 =>
      intro v16 g17 g18 H locs ls hmn19 bv16 hP hD hS hl
      refine lv_iload hx hb dX6_chooseActs_18 (lv_at hl 0 rfl) ?_
      refine lv_iload hx hb dX6_chooseActs_20 (lv_at hl 1 rfl) ?_
      refine lv_icmp_ge (tgt := 78) hx hb dX6_chooseActs_22 (by decide) (fun c20 => ?_) (fun c20 => ?_)
      · have f20 : 35 ≤ v16.toInt := f_le (by decide) rfl c20
        rw [hQ]
        exact x_v cx hr (g17, g18) hP hD hS trivial dX6_chooseActs_78
      · have f20 : v16.toInt < 35 := f_nle (by decide) rfl c20
        refine lv_aload hx hb dX6_chooseActs_25 (lv_at hl 2 rfl) ?_
        refine lv_iload hx hb dX6_chooseActs_27 (lv_at hl 0 rfl) ?_
        have hn21 : vp_in v16 35 := f_in (a := v16.toInt) rfl (by omega) (by omega)
        refine va_ti hx hb cx.2.2.2.t0.2 hS hn21 rfl dX6_chooseActs_29 (lv_topi (fun v22 e22 => ?_))
        have t22 : 0 ≤ v22.toInt ∧ v22.toInt ≤ 400 ∧ v22.toInt / 100 + v22.toInt / 10 % 10 + v22.toInt % 10 ≤ 4 := by rw [e22]; exact zALL_v _
        refine lv_istore (lv' := [(7, .int v22), (6, .int v16), (5, .int 35), (4, .ref (b 0)), (3, .int r2), (0, .ref (qpl 0)), (1, .ref (qh 0)), (2, .int p0)]) hx hb dX6_chooseActs_30 hl (by decide) rfl (fun ls hl => ?_)
        refine lv_iload hx hb dX6_chooseActs_32 (lv_at hl 0 rfl) ?_
        refine g_ir (g_runS (wc := []) (rest := []) cx hP hD hS [] rfl (by decide) [.int v22] (c_X3_total l D k b H.size v22) gX6_chooseActs_X3_total rfl rfl rfl nd_X3_total ⟨Nat.le_of_ble_eq_true rfl, Nat.le_of_ble_eq_true rfl⟩ rfl hl.1 rfl (Nat.le_of_ble_eq_true rfl) ⟨Nat.zero_le _, Nat.zero_le _⟩ dX6_chooseActs_34) cx.2.2.1 hP hD hS [] rfl rfl (fun r24 H locs hw23 hP hS => ?_)
        have w25 : r24 = J_X3_total v22 := hw23
        clear hw23
        have zr24 : r24.toInt = tot v22 := tot3 w25 (show 0 ≤ v22.toInt from by first | decide | omega)
        have yr24 := tot_0 (x := v22) (by first | decide | omega)
        refine lv_aload_n hx hb dX6_chooseActs_37 rfl (lv_at hl 6 rfl) ?_
        refine g_get cx hP iw_X6_chooseActs_X4 5 rfl rfl 1 (by decide) rfl fw_X6_chooseActs_64 rfl dX6_chooseActs_38 ?_
        have hJ72 : ∀ (g38 : Nat → Int64) (g39 : Nat → Int32) (H : Heap) (locs : List Loc) (ls : Array Slot), va_P D vwCl [(qpl 0, .inr (4, [.int (spl 0 0), .ref (qpl 1), .ref (qpl 2), .ref (qpl 3), .ref (qpl 4)])), (qpl 1, .inl (k 1, 630, .inr (.inl g38))), (qpl 2, .inl (k 0, 525, .inl g39)), (qpl 3, .inl (k 1, 35, .inr (.inl (tpl 3)))), (qpl 4, .inl (k 0, 35, .inl (spl 4))), (qh 0, .inr (2, [.int (sh 0 0), .int (sh 0 1), .ref (qh 1), .ref (qh 2), .ref (qh 3), .ref (qh 4), .int (sh 0 6), .int (sh 0 7), .int (sh 0 8), .int (sh 0 9), .int (sh 0 10), .int (sh 0 11), .int (sh 0 12), .ref (qh 5)])), (qh 1, .inl (k 0, 5, .inl (sh 1))), (qh 2, .inl (k 0, 5, .inl (sh 2))), (qh 3, .inl (k 0, 3, .inl (sh 3))), (qh 4, .inl (k 0, 3, .inl (sh 4))), (qh 5, .inl (k 0, 525, .inl (sh 5)))] H → va_D A [(qpl 0, .inr (4, [.int (spl 0 0), .ref (qpl 1), .ref (qpl 2), .ref (qpl 3), .ref (qpl 4)])), (qpl 1, .inl (k 1, 630, .inr (.inl g38))), (qpl 2, .inl (k 0, 525, .inl g39)), (qpl 3, .inl (k 1, 35, .inr (.inl (tpl 3)))), (qpl 4, .inl (k 0, 35, .inl (spl 4))), (qh 0, .inr (2, [.int (sh 0 0), .int (sh 0 1), .ref (qh 1), .ref (qh 2), .ref (qh 3), .ref (qh 4), .int (sh 0 6), .int (sh 0 7), .int (sh 0 8), .int (sh 0 9), .int (sh 0 10), .int (sh 0 11), .int (sh 0 12), .ref (qh 5)])), (qh 1, .inl (k 0, 5, .inl (sh 1))), (qh 2, .inl (k 0, 5, .inl (sh 2))), (qh 3, .inl (k 0, 3, .inl (sh 3))), (qh 4, .inl (k 0, 3, .inl (sh 4))), (qh 5, .inl (k 0, 525, .inl (sh 5)))] → va_S A s.heap H locs → lv_has ls 9 [(6, .int v16), (5, .int 35), (4, .ref (b 0)), (3, .int r2), (0, .ref (qpl 0)), (1, .ref (qh 0)), (2, .int p0)] → W p l e ({ frames := 4, cells := 0, slots := 0, locals := 106 } : Room) s m ([.ref (qpl 0), .ref (qh 0), .int p0] : List Value).toArray below meth c H locs 0 0 Q (F0 m 72 ls []) := by
          intro g38 g39 H locs ls  hP hD hS hl
          obtain ⟨v40, e40⟩ : ∃ z : Int32, z = v16 + 1 := ⟨_, rfl⟩
          refine lv_iinc (v := v40) (lv' := [(6, .int v40), (5, .int 35), (4, .ref (b 0)), (3, .int r2), (0, .ref (qpl 0)), (1, .ref (qh 0)), (2, .int p0)]) hx hb dX6_chooseActs_72 hl (k := 0) rfl (by rw [e40]; rfl) (by decide) rfl (fun ls hl => ?_)
          have t40 : v40.toInt = v16.toInt + 1 := by rw [e40]; exact i_add rfl (by decide) (by omega) (by omega)
          refine lv_goto (tgt := 18) hx hb dX6_chooseActs_75 (by decide) ?_
          exact ih18 v40 g38 g39 _ _ _ (by omega) (by first | decide | omega) hP hD hS (lv_sub hl [0, 1, 2, 3, 4, 5, 6] rfl)
        refine lv_icmp_le (tgt := 47) hx hb dX6_chooseActs_41 (by decide) (fun c41 => ?_) (fun c41 => ?_)
        · have f41 : r24.toInt ≤ (sh 0 1).toInt := f_le rfl rfl c41
          refine lv_iconst (v := 0) hx hb dX6_chooseActs_47 (by decide) ?_
          refine lv_istore (lv' := [(8, .int 0), (7, .int v22), (6, .int v16), (5, .int 35), (4, .ref (b 0)), (3, .int r2), (0, .ref (qpl 0)), (1, .ref (qh 0)), (2, .int p0)]) hx hb dX6_chooseActs_48 hl (by decide) rfl (fun ls hl => ?_)
          have hL50 : ∀ (n51 : Nat) (v48 : Int32) (g49 : Nat → Int64) (g50 : Nat → Int32) (H : Heap) (locs : List Loc) (ls : Array Slot), 3 - v48.toInt < (n51 : Int) → (0 ≤ v48.toInt ∧ v48.toInt ≤ 3) → va_P D vwCl [(qpl 0, .inr (4, [.int (spl 0 0), .ref (qpl 1), .ref (qpl 2), .ref (qpl 3), .ref (qpl 4)])), (qpl 1, .inl (k 1, 630, .inr (.inl g49))), (qpl 2, .inl (k 0, 525, .inl g50)), (qpl 3, .inl (k 1, 35, .inr (.inl (tpl 3)))), (qpl 4, .inl (k 0, 35, .inl (spl 4))), (qh 0, .inr (2, [.int (sh 0 0), .int (sh 0 1), .ref (qh 1), .ref (qh 2), .ref (qh 3), .ref (qh 4), .int (sh 0 6), .int (sh 0 7), .int (sh 0 8), .int (sh 0 9), .int (sh 0 10), .int (sh 0 11), .int (sh 0 12), .ref (qh 5)])), (qh 1, .inl (k 0, 5, .inl (sh 1))), (qh 2, .inl (k 0, 5, .inl (sh 2))), (qh 3, .inl (k 0, 3, .inl (sh 3))), (qh 4, .inl (k 0, 3, .inl (sh 4))), (qh 5, .inl (k 0, 525, .inl (sh 5)))] H → va_D A [(qpl 0, .inr (4, [.int (spl 0 0), .ref (qpl 1), .ref (qpl 2), .ref (qpl 3), .ref (qpl 4)])), (qpl 1, .inl (k 1, 630, .inr (.inl g49))), (qpl 2, .inl (k 0, 525, .inl g50)), (qpl 3, .inl (k 1, 35, .inr (.inl (tpl 3)))), (qpl 4, .inl (k 0, 35, .inl (spl 4))), (qh 0, .inr (2, [.int (sh 0 0), .int (sh 0 1), .ref (qh 1), .ref (qh 2), .ref (qh 3), .ref (qh 4), .int (sh 0 6), .int (sh 0 7), .int (sh 0 8), .int (sh 0 9), .int (sh 0 10), .int (sh 0 11), .int (sh 0 12), .ref (qh 5)])), (qh 1, .inl (k 0, 5, .inl (sh 1))), (qh 2, .inl (k 0, 5, .inl (sh 2))), (qh 3, .inl (k 0, 3, .inl (sh 3))), (qh 4, .inl (k 0, 3, .inl (sh 4))), (qh 5, .inl (k 0, 525, .inl (sh 5)))] → va_S A s.heap H locs → lv_has ls 9 [(8, .int v48), (7, .int v22), (6, .int v16), (5, .int 35), (4, .ref (b 0)), (3, .int r2), (0, .ref (qpl 0)), (1, .ref (qh 0)), (2, .int p0)] → W p l e ({ frames := 4, cells := 0, slots := 0, locals := 106 } : Room) s m ([.ref (qpl 0), .ref (qh 0), .int p0] : List Value).toArray below meth c H locs 0 0 Q (F0 m 50 ls []) := by
            intro n51
            induction n51 with
            | zero => intro v48 g49 g50 H locs ls hmn51 bv48 hP hD hS hl; exact absurd hmn51 (by omega)
            | succ n51 ih50 =>
              intro v48 g49 g50 H locs ls hmn51 bv48 hP hD hS hl
              refine lv_iload hx hb dX6_chooseActs_50 (lv_at hl 0 rfl) ?_
              refine lv_iload_n hx hb dX6_chooseActs_52 rfl (lv_at hl 5 rfl) ?_
              refine lv_icmp_gt (tgt := 72) hx hb dX6_chooseActs_53 (by decide) (fun c52 => ?_) (fun c52 => ?_)
              · have f52 : r2.toInt < v48.toInt := f_lt rfl rfl c52
                exact hJ72 g49 g50 _ _ _  hP hD hS (lv_sub hl [2, 3, 4, 5, 6, 7, 8] rfl)
              · have f52 : v48.toInt ≤ r2.toInt := f_nlt rfl rfl c52
                refine lv_aload_n hx hb dX6_chooseActs_56 rfl (lv_at hl 6 rfl) ?_
                refine lv_aload_n hx hb dX6_chooseActs_57 rfl (lv_at hl 7 rfl) ?_
                refine lv_iload_n hx hb dX6_chooseActs_58 rfl (lv_at hl 8 rfl) ?_
                refine lv_iload hx hb dX6_chooseActs_59 (lv_at hl 1 rfl) ?_
                refine lv_iload hx hb dX6_chooseActs_61 (lv_at hl 0 rfl) ?_
                refine g_vF (w1 := fun (u : (Nat → Int64) × (Nat → Int32)) => [(qpl 0, .inr (4, [.int (spl 0 0), .ref (qpl 1), .ref (qpl 2), .ref (qpl 3), .ref (qpl 4)])), (qpl 1, .inl (k 1, 630, .inr (.inl (u.1)))), (qpl 2, .inl (k 0, 525, .inl (u.2))), (qpl 3, .inl (k 1, 35, .inr (.inl (tpl 3)))), (qpl 4, .inl (k 0, 35, .inl (spl 4))), (qh 0, .inr (2, [.int (sh 0 0), .int (sh 0 1), .ref (qh 1), .ref (qh 2), .ref (qh 3), .ref (qh 4), .int (sh 0 6), .int (sh 0 7), .int (sh 0 8), .int (sh 0 9), .int (sh 0 10), .int (sh 0 11), .int (sh 0 12), .ref (qh 5)])), (qh 1, .inl (k 0, 5, .inl (sh 1))), (qh 2, .inl (k 0, 5, .inl (sh 2))), (qh 3, .inl (k 0, 3, .inl (sh 3))), (qh 4, .inl (k 0, 3, .inl (sh 4))), (qh 5, .inl (k 0, 525, .inl (sh 5)))]) (g_runVF (ws := [(qpl 0, .inr (4, [.int (spl 0 0), .ref (qpl 1), .ref (qpl 2), .ref (qpl 3), .ref (qpl 4)])), (qpl 1, .inl (k 1, 630, .inr (.inl g49))), (qpl 2, .inl (k 0, 525, .inl g50)), (qpl 3, .inl (k 1, 35, .inr (.inl (tpl 3)))), (qpl 4, .inl (k 0, 35, .inl (spl 4))), (qh 0, .inr (2, [.int (sh 0 0), .int (sh 0 1), .ref (qh 1), .ref (qh 2), .ref (qh 3), .ref (qh 4), .int (sh 0 6), .int (sh 0 7), .int (sh 0 8), .int (sh 0 9), .int (sh 0 10), .int (sh 0 11), .int (sh 0 12), .ref (qh 5)])), (qh 1, .inl (k 0, 5, .inl (sh 1))), (qh 2, .inl (k 0, 5, .inl (sh 2))), (qh 3, .inl (k 0, 3, .inl (sh 3))), (qh 4, .inl (k 0, 3, .inl (sh 4))), (qh 5, .inl (k 0, 525, .inl (sh 5)))]) (rest := []) cx hP hD hS [.ref (qh 0), .int p0, .int v22, .int v48] (c_X6_chooseAct l D k b qpl (up2 spl 2 g50) (up2L tpl 1 g49) qh sh H.size p0 v22 v48 (show 0 ≤ (spl 0 0).toInt ∧ (spl 0 0).toInt ≤ 5 from by first | decide | omega) (show p0.toInt ≤ (spl 0 0).toInt from by first | decide | omega) (show 0 ≤ (sh 0 1).toInt ∧ (sh 0 1).toInt ≤ 4 from by first | decide | omega) h_of (show 0 ≤ v22.toInt ∧ v22.toInt ≤ 400 ∧ tot v22 ≤ 4 from by first | decide | omega) (show 0 ≤ p0.toInt ∧ p0.toInt ≤ 4 from by first | decide | omega) (show 0 ≤ v48.toInt ∧ v48.toInt ≤ 2 from by first | decide | omega)) gX6_chooseActs_X6_chooseAct rfl rfl rfl nd_X6_chooseAct ⟨Nat.le_of_ble_eq_true rfl, Nat.le_of_ble_eq_true rfl⟩ (ci := 4) (q0 := 0) rfl rfl rfl hl.1 rfl (Nat.le_of_ble_eq_true rfl) ⟨Nat.zero_le _, Nat.zero_le _⟩ dX6_chooseActs_63) cx.2.2.1 hD hS (fun u54 H locs hw53 hP hD hS => ?_)
                obtain ⟨m55, m56⟩ := u54
                have hP : va_P D vwCl [(qpl 0, .inr (4, [.int (spl 0 0), .ref (qpl 1), .ref (qpl 2), .ref (qpl 3), .ref (qpl 4)])), (qpl 1, .inl (k 1, 630, .inr (.inl m55))), (qpl 2, .inl (k 0, 525, .inl m56)), (qpl 3, .inl (k 1, 35, .inr (.inl (tpl 3)))), (qpl 4, .inl (k 0, 35, .inl (spl 4))), (qh 0, .inr (2, [.int (sh 0 0), .int (sh 0 1), .ref (qh 1), .ref (qh 2), .ref (qh 3), .ref (qh 4), .int (sh 0 6), .int (sh 0 7), .int (sh 0 8), .int (sh 0 9), .int (sh 0 10), .int (sh 0 11), .int (sh 0 12), .ref (qh 5)])), (qh 1, .inl (k 0, 5, .inl (sh 1))), (qh 2, .inl (k 0, 5, .inl (sh 2))), (qh 3, .inl (k 0, 3, .inl (sh 3))), (qh 4, .inl (k 0, 3, .inl (sh 4))), (qh 5, .inl (k 0, 525, .inl (sh 5)))] H := hP
                have hD : va_D A [(qpl 0, .inr (4, [.int (spl 0 0), .ref (qpl 1), .ref (qpl 2), .ref (qpl 3), .ref (qpl 4)])), (qpl 1, .inl (k 1, 630, .inr (.inl m55))), (qpl 2, .inl (k 0, 525, .inl m56)), (qpl 3, .inl (k 1, 35, .inr (.inl (tpl 3)))), (qpl 4, .inl (k 0, 35, .inl (spl 4))), (qh 0, .inr (2, [.int (sh 0 0), .int (sh 0 1), .ref (qh 1), .ref (qh 2), .ref (qh 3), .ref (qh 4), .int (sh 0 6), .int (sh 0 7), .int (sh 0 8), .int (sh 0 9), .int (sh 0 10), .int (sh 0 11), .int (sh 0 12), .ref (qh 5)])), (qh 1, .inl (k 0, 5, .inl (sh 1))), (qh 2, .inl (k 0, 5, .inl (sh 2))), (qh 3, .inl (k 0, 3, .inl (sh 3))), (qh 4, .inl (k 0, 3, .inl (sh 4))), (qh 5, .inl (k 0, 525, .inl (sh 5)))] := hD
                clear hw53
                obtain ⟨v57, e57⟩ : ∃ z : Int32, z = v48 + 1 := ⟨_, rfl⟩
                refine lv_iinc (v := v57) (lv' := [(8, .int v57), (7, .int v22), (6, .int v16), (5, .int 35), (4, .ref (b 0)), (3, .int r2), (0, .ref (qpl 0)), (1, .ref (qh 0)), (2, .int p0)]) hx hb dX6_chooseActs_66 hl (k := 0) rfl (by rw [e57]; rfl) (by decide) rfl (fun ls hl => ?_)
                have t57 : v57.toInt = v48.toInt + 1 := by rw [e57]; exact i_add rfl (by decide) (by omega) (by omega)
                refine lv_goto (tgt := 50) hx hb dX6_chooseActs_69 (by decide) ?_
                exact ih50 v57 m55 m56 _ _ _ (by omega) (by first | decide | omega) hP hD hS (lv_sub hl [0, 1, 2, 3, 4, 5, 6, 7, 8] rfl)
          have hlit58 : (0 : Int32).toInt = 0 := by decide
          exact hL50 (Int.toNat (3 - 0) + 1) 0 g17 g18 _ _ _ (by omega) (by first | decide | omega) hP hD hS (lv_sub hl [0, 1, 2, 3, 4, 5, 6, 7, 8] rfl)
        · have f41 : (sh 0 1).toInt < r24.toInt := f_nle rfl rfl c41
          refine lv_goto (tgt := 72) hx hb dX6_chooseActs_44 (by decide) ?_
          exact hJ72 g17 g18 _ _ _  hP hD hS (lv_sub hl [1, 2, 3, 4, 5, 6, 7] rfl)
  have hlit59 : (0 : Int32).toInt = 0 := by decide
  exact hL18 (Int.toNat (35 - 0) + 1) 0 (tpl 1) (spl 2) _ _ _ (by omega) (by first | decide | omega) hP hD hS (lv_sub hl [0, 1, 2, 3, 4, 5, 6] rfl)
theorem fw_X6_solve_13 : Cond.fieldLink RX6 13 "StillInAugust$Plan" "cost" "[J" ∈ wsX6_solve := by decide +kernel
theorem fw_X6_solve_38 : Cond.fieldLink RX6 38 "StillInAugust$Plan" "weeks" "I" ∈ wsX6_solve := by decide +kernel
theorem fw_X6_solve_42 : Cond.fieldLink RX6 42 "StillInAugust$House" "weeks" "I" ∈ wsX6_solve := by decide +kernel
theorem fw_X6_solve_45 : Cond.fieldLink RX6 45 "StillInAugust$Hands" "ALL" "[I" ∈ wsX6_solve := by decide +kernel
theorem nd_X6_chooseActs : yX6_chooseActs.cls = RX6 ∧ yX6_chooseActs.cls ≠ "java/lang/invoke/MethodHandle" ∧ yX6_chooseActs.cls ≠ "java/lang/invoke/VarHandle" ∧ (parseMethodDescriptor yX6_chooseActs.desc).map (fun d => d.parameters.length) = some 2 := by decide +kernel
theorem nd_X6_chooseOrders : yX6_chooseOrders.cls = RX6 ∧ yX6_chooseOrders.cls ≠ "java/lang/invoke/MethodHandle" ∧ yX6_chooseOrders.cls ≠ "java/lang/invoke/VarHandle" ∧ (parseMethodDescriptor yX6_chooseOrders.desc).map (fun d => d.parameters.length) = some 2 := by decide +kernel
theorem iw_X6_solve_X4 : ∀ w ∈ u_ws RX4 TX4 14, w ∈ wsX6_solve := fun _ h => List.mem_cons_of_mem _ (List.mem_append_left _ (List.mem_append_right _ h))
theorem iw_X6_solve_X6 : ∀ w ∈ u_ws RX6 TX6 5, w ∈ wsX6_solve := fun _ h => List.mem_cons_of_mem _ (List.mem_append_right _ h)
set_option maxHeartbeats 4000000 in
set_option maxRecDepth 100000 in
theorem c_X6_solve (l : Launch) (D : va_G) (k : Nat → ClassId) (b : Nat → Nat) (qpl : Nat → Nat) (spl : Nat → Nat → Int32) (tpl : Nat → Nat → Int64) (qh : Nat → Nat) (sh : Nat → Nat → Int32) (sz : Nat) (h_su : SUok (sh 5)) (h_wk : 0 ≤ (sh 0 0).toInt ∧ (sh 0 0).toInt ≤ 5) (h_hk : 0 ≤ (sh 0 1).toInt ∧ (sh 0 1).toInt ≤ 4) (h_of : ∀ j, 0 ≤ (sh 2 j).toInt ∧ (sh 2 j).toInt ≤ 4) : MetV l D k b yX6_solve wsX6_solve ({ frames := 5, cells := 0, slots := 0, locals := 134 } : Room) [(qpl 0, .inr (4, [.int (spl 0 0), .ref (qpl 1), .ref (qpl 2), .ref (qpl 3), .ref (qpl 4)])), (qpl 1, .inl (k 1, 630, .inr (.inl (tpl 1)))), (qpl 2, .inl (k 0, 525, .inl (spl 2))), (qpl 3, .inl (k 1, 35, .inr (.inl (tpl 3)))), (qpl 4, .inl (k 0, 35, .inl (spl 4))), (qh 0, .inr (2, [.int (sh 0 0), .int (sh 0 1), .ref (qh 1), .ref (qh 2), .ref (qh 3), .ref (qh 4), .int (sh 0 6), .int (sh 0 7), .int (sh 0 8), .int (sh 0 9), .int (sh 0 10), .int (sh 0 11), .int (sh 0 12), .ref (qh 5)])), (qh 1, .inl (k 0, 5, .inl (sh 1))), (qh 2, .inl (k 0, 5, .inl (sh 2))), (qh 3, .inl (k 0, 3, .inl (sh 3))), (qh 4, .inl (k 0, 3, .inl (sh 4))), (qh 5, .inl (k 0, 525, .inl (sh 5)))] sz [.ref (qpl 0), .ref (qh 0)] (fun (u : Int32 × (Nat → Int64) × (Nat → Int32) × (Nat → Int64) × (Nat → Int32)) => (u.1).toInt = (sh 0 0).toInt) (fun u => [(qpl 0, .inr (4, [.int (u.1), .ref (qpl 1), .ref (qpl 2), .ref (qpl 3), .ref (qpl 4)])), (qpl 1, .inl (k 1, 630, .inr (.inl (u.2.1)))), (qpl 2, .inl (k 0, 525, .inl (u.2.2.1))), (qpl 3, .inl (k 1, 35, .inr (.inl (u.2.2.2.1)))), (qpl 4, .inl (k 0, 35, .inl (u.2.2.2.2))), (qh 0, .inr (2, [.int (sh 0 0), .int (sh 0 1), .ref (qh 1), .ref (qh 2), .ref (qh 3), .ref (qh 4), .int (sh 0 6), .int (sh 0 7), .int (sh 0 8), .int (sh 0 9), .int (sh 0 10), .int (sh 0 11), .int (sh 0 12), .ref (qh 5)])), (qh 1, .inl (k 0, 5, .inl (sh 1))), (qh 2, .inl (k 0, 5, .inl (sh 2))), (qh 3, .inl (k 0, 3, .inl (sh 3))), (qh 4, .inl (k 0, 3, .inl (sh 4))), (qh 5, .inl (k 0, 525, .inl (sh 5)))]) := by
  refine g_enter (cc := cX6_solve) (maxL := 3) (ret := none) (by decide) rfl (Nat.le_of_ble_eq_true rfl) ?_
  intro p e s m below meth c A hsz hAe cx hr hP hD hS ls hl
  rw [hAe]
  refine g_q (fun Q hQ => ?_)
  have hx := cx.1.1
  have hb := cx.1.2.1
  have hl : lv_has ls 3 [(0, .ref (qpl 0)), (1, .ref (qh 0))] := hl
  obtain ⟨H, eH⟩ : ∃ H : Heap, H = s.heap := ⟨_, rfl⟩
  obtain ⟨locs, el⟩ : ∃ L : List Loc, L = [] := ⟨_, rfl⟩
  have hP : va_P D vwCl [(qpl 0, .inr (4, [.int (spl 0 0), .ref (qpl 1), .ref (qpl 2), .ref (qpl 3), .ref (qpl 4)])), (qpl 1, .inl (k 1, 630, .inr (.inl (tpl 1)))), (qpl 2, .inl (k 0, 525, .inl (spl 2))), (qpl 3, .inl (k 1, 35, .inr (.inl (tpl 3)))), (qpl 4, .inl (k 0, 35, .inl (spl 4))), (qh 0, .inr (2, [.int (sh 0 0), .int (sh 0 1), .ref (qh 1), .ref (qh 2), .ref (qh 3), .ref (qh 4), .int (sh 0 6), .int (sh 0 7), .int (sh 0 8), .int (sh 0 9), .int (sh 0 10), .int (sh 0 11), .int (sh 0 12), .ref (qh 5)])), (qh 1, .inl (k 0, 5, .inl (sh 1))), (qh 2, .inl (k 0, 5, .inl (sh 2))), (qh 3, .inl (k 0, 3, .inl (sh 3))), (qh 4, .inl (k 0, 3, .inl (sh 4))), (qh 5, .inl (k 0, 525, .inl (sh 5)))] H := by rw [eH]; exact hP
  have hD : va_D A [(qpl 0, .inr (4, [.int (spl 0 0), .ref (qpl 1), .ref (qpl 2), .ref (qpl 3), .ref (qpl 4)])), (qpl 1, .inl (k 1, 630, .inr (.inl (tpl 1)))), (qpl 2, .inl (k 0, 525, .inl (spl 2))), (qpl 3, .inl (k 1, 35, .inr (.inl (tpl 3)))), (qpl 4, .inl (k 0, 35, .inl (spl 4))), (qh 0, .inr (2, [.int (sh 0 0), .int (sh 0 1), .ref (qh 1), .ref (qh 2), .ref (qh 3), .ref (qh 4), .int (sh 0 6), .int (sh 0 7), .int (sh 0 8), .int (sh 0 9), .int (sh 0 10), .int (sh 0 11), .int (sh 0 12), .ref (qh 5)])), (qh 1, .inl (k 0, 5, .inl (sh 1))), (qh 2, .inl (k 0, 5, .inl (sh 2))), (qh 3, .inl (k 0, 3, .inl (sh 3))), (qh 4, .inl (k 0, 3, .inl (sh 4))), (qh 5, .inl (k 0, 525, .inl (sh 5)))] := hD
  have hS : va_S A s.heap H locs := by rw [eH, el]; exact hS
  suffices goal : W p l e ({ frames := 5, cells := 0, slots := 0, locals := 134 } : Room) s m ([.ref (qpl 0), .ref (qh 0)] : List Value).toArray below meth c H locs 0 0 Q (F0 m 0 ls []) by rw [eH, el] at goal; exact goal
  refine lv_aload_n hx hb dX6_solve_0 rfl (lv_at hl 0 rfl) ?_
  refine lv_aload_n hx hb dX6_solve_1 rfl (lv_at hl 1 rfl) ?_
  refine g_get cx hP iw_X6_solve_X4 5 rfl rfl 0 (by decide) rfl fw_X6_solve_42 rfl dX6_solve_2 ?_
  refine g_pt cx hP hD hS iw_X6_solve_X6 tyX6 tyX6_ok nmX6 0 rfl rfl 0 (by decide) rfl fw_X6_solve_38 (ty := .int) rfl rfl rfl (Nat.le_of_ble_eq_true rfl) dX6_solve_5 (fun H locs hP hD hS => ?_)
  have hP : va_P D vwCl [(qpl 0, .inr (4, [.int (sh 0 0), .ref (qpl 1), .ref (qpl 2), .ref (qpl 3), .ref (qpl 4)])), (qpl 1, .inl (k 1, 630, .inr (.inl (tpl 1)))), (qpl 2, .inl (k 0, 525, .inl (spl 2))), (qpl 3, .inl (k 1, 35, .inr (.inl (tpl 3)))), (qpl 4, .inl (k 0, 35, .inl (spl 4))), (qh 0, .inr (2, [.int (sh 0 0), .int (sh 0 1), .ref (qh 1), .ref (qh 2), .ref (qh 3), .ref (qh 4), .int (sh 0 6), .int (sh 0 7), .int (sh 0 8), .int (sh 0 9), .int (sh 0 10), .int (sh 0 11), .int (sh 0 12), .ref (qh 5)])), (qh 1, .inl (k 0, 5, .inl (sh 1))), (qh 2, .inl (k 0, 5, .inl (sh 2))), (qh 3, .inl (k 0, 3, .inl (sh 3))), (qh 4, .inl (k 0, 3, .inl (sh 4))), (qh 5, .inl (k 0, 525, .inl (sh 5)))] H := hP
  have hD : va_D A [(qpl 0, .inr (4, [.int (sh 0 0), .ref (qpl 1), .ref (qpl 2), .ref (qpl 3), .ref (qpl 4)])), (qpl 1, .inl (k 1, 630, .inr (.inl (tpl 1)))), (qpl 2, .inl (k 0, 525, .inl (spl 2))), (qpl 3, .inl (k 1, 35, .inr (.inl (tpl 3)))), (qpl 4, .inl (k 0, 35, .inl (spl 4))), (qh 0, .inr (2, [.int (sh 0 0), .int (sh 0 1), .ref (qh 1), .ref (qh 2), .ref (qh 3), .ref (qh 4), .int (sh 0 6), .int (sh 0 7), .int (sh 0 8), .int (sh 0 9), .int (sh 0 10), .int (sh 0 11), .int (sh 0 12), .ref (qh 5)])), (qh 1, .inl (k 0, 5, .inl (sh 1))), (qh 2, .inl (k 0, 5, .inl (sh 2))), (qh 3, .inl (k 0, 3, .inl (sh 3))), (qh 4, .inl (k 0, 3, .inl (sh 4))), (qh 5, .inl (k 0, 525, .inl (sh 5)))] := hD
  refine lv_iconst (v := 0) hx hb dX6_solve_8 (by decide) ?_
  refine lv_istore_n (lv' := [(2, .int 0), (0, .ref (qpl 0)), (1, .ref (qh 0))]) hx hb dX6_solve_9 rfl hl (by decide) rfl (fun ls hl => ?_)
  have hL10 : ∀ (n16 : Nat) (v14 : Int32) (g15 : Nat → Int64) (H : Heap) (locs : List Loc) (ls : Array Slot), 35 - v14.toInt < (n16 : Int) → (0 ≤ v14.toInt ∧ v14.toInt ≤ 35) → va_P D vwCl [(qpl 0, .inr (4, [.int (sh 0 0), .ref (qpl 1), .ref (qpl 2), .ref (qpl 3), .ref (qpl 4)])), (qpl 1, .inl (k 1, 630, .inr (.inl g15))), (qpl 2, .inl (k 0, 525, .inl (spl 2))), (qpl 3, .inl (k 1, 35, .inr (.inl (tpl 3)))), (qpl 4, .inl (k 0, 35, .inl (spl 4))), (qh 0, .inr (2, [.int (sh 0 0), .int (sh 0 1), .ref (qh 1), .ref (qh 2), .ref (qh 3), .ref (qh 4), .int (sh 0 6), .int (sh 0 7), .int (sh 0 8), .int (sh 0 9), .int (sh 0 10), .int (sh 0 11), .int (sh 0 12), .ref (qh 5)])), (qh 1, .inl (k 0, 5, .inl (sh 1))), (qh 2, .inl (k 0, 5, .inl (sh 2))), (qh 3, .inl (k 0, 3, .inl (sh 3))), (qh 4, .inl (k 0, 3, .inl (sh 4))), (qh 5, .inl (k 0, 525, .inl (sh 5)))] H → va_D A [(qpl 0, .inr (4, [.int (sh 0 0), .ref (qpl 1), .ref (qpl 2), .ref (qpl 3), .ref (qpl 4)])), (qpl 1, .inl (k 1, 630, .inr (.inl g15))), (qpl 2, .inl (k 0, 525, .inl (spl 2))), (qpl 3, .inl (k 1, 35, .inr (.inl (tpl 3)))), (qpl 4, .inl (k 0, 35, .inl (spl 4))), (qh 0, .inr (2, [.int (sh 0 0), .int (sh 0 1), .ref (qh 1), .ref (qh 2), .ref (qh 3), .ref (qh 4), .int (sh 0 6), .int (sh 0 7), .int (sh 0 8), .int (sh 0 9), .int (sh 0 10), .int (sh 0 11), .int (sh 0 12), .ref (qh 5)])), (qh 1, .inl (k 0, 5, .inl (sh 1))), (qh 2, .inl (k 0, 5, .inl (sh 2))), (qh 3, .inl (k 0, 3, .inl (sh 3))), (qh 4, .inl (k 0, 3, .inl (sh 4))), (qh 5, .inl (k 0, 525, .inl (sh 5)))] → va_S A s.heap H locs → lv_has ls 3 [(2, .int v14), (0, .ref (qpl 0)), (1, .ref (qh 0))] → W p l e ({ frames := 5, cells := 0, slots := 0, locals := 134 } : Room) s m ([.ref (qpl 0), .ref (qh 0)] : List Value).toArray below meth c H locs 0 0 Q (F0 m 10 ls []) := by
    intro n16
    induction n16 with
    | zero => intro v14 g15 H locs ls hmn16 bv14 hP hD hS hl; exact absurd hmn16 (by omega)
    | succ n16 ih10 =>
      intro v14 g15 H locs ls hmn16 bv14 hP hD hS hl
      refine lv_iload_n hx hb dX6_solve_10 rfl (lv_at hl 0 rfl) ?_
      refine lv_bipush (v := 35) hx hb dX6_solve_11 (by decide) ?_
      refine lv_icmp_ge (tgt := 46) hx hb dX6_solve_13 (by decide) (fun c17 => ?_) (fun c17 => ?_)
      · have f17 : 35 ≤ v14.toInt := f_le (by decide) rfl c17
        refine lv_aload_n hx hb dX6_solve_46 rfl (lv_at hl 1 rfl) ?_
        refine g_get cx hP iw_X6_solve_X6 0 rfl rfl 0 (by decide) rfl fw_X6_solve_38 rfl dX6_solve_47 ?_
        refine lv_iconst (v := 1) hx hb dX6_solve_50 (by decide) ?_
        refine lv_isub hx hb dX6_solve_51 (lv_topi (fun v18 e18 => ?_))
        have t18 : v18.toInt = (sh 0 0).toInt - 1 := by rw [e18]; exact i_sub rfl (by decide) (by omega) (by omega)
        refine lv_istore_n (lv' := [(2, .int v18), (0, .ref (qpl 0)), (1, .ref (qh 0))]) hx hb dX6_solve_52 rfl hl (by decide) rfl (fun ls hl => ?_)
        have hL53 : ∀ (n33 : Nat) (v28 : Int32) (g29 : Nat → Int64) (g30 : Nat → Int32) (g31 : Nat → Int64) (g32 : Nat → Int32) (H : Heap) (locs : List Loc) (ls : Array Slot), v28.toInt + 1 < (n33 : Int) → (-1 ≤ v28.toInt ∧ v28.toInt ≤ 4) → (v28.toInt < (sh 0 0).toInt) → va_P D vwCl [(qpl 0, .inr (4, [.int (sh 0 0), .ref (qpl 1), .ref (qpl 2), .ref (qpl 3), .ref (qpl 4)])), (qpl 1, .inl (k 1, 630, .inr (.inl g29))), (qpl 2, .inl (k 0, 525, .inl g30)), (qpl 3, .inl (k 1, 35, .inr (.inl g31))), (qpl 4, .inl (k 0, 35, .inl g32)), (qh 0, .inr (2, [.int (sh 0 0), .int (sh 0 1), .ref (qh 1), .ref (qh 2), .ref (qh 3), .ref (qh 4), .int (sh 0 6), .int (sh 0 7), .int (sh 0 8), .int (sh 0 9), .int (sh 0 10), .int (sh 0 11), .int (sh 0 12), .ref (qh 5)])), (qh 1, .inl (k 0, 5, .inl (sh 1))), (qh 2, .inl (k 0, 5, .inl (sh 2))), (qh 3, .inl (k 0, 3, .inl (sh 3))), (qh 4, .inl (k 0, 3, .inl (sh 4))), (qh 5, .inl (k 0, 525, .inl (sh 5)))] H → va_D A [(qpl 0, .inr (4, [.int (sh 0 0), .ref (qpl 1), .ref (qpl 2), .ref (qpl 3), .ref (qpl 4)])), (qpl 1, .inl (k 1, 630, .inr (.inl g29))), (qpl 2, .inl (k 0, 525, .inl g30)), (qpl 3, .inl (k 1, 35, .inr (.inl g31))), (qpl 4, .inl (k 0, 35, .inl g32)), (qh 0, .inr (2, [.int (sh 0 0), .int (sh 0 1), .ref (qh 1), .ref (qh 2), .ref (qh 3), .ref (qh 4), .int (sh 0 6), .int (sh 0 7), .int (sh 0 8), .int (sh 0 9), .int (sh 0 10), .int (sh 0 11), .int (sh 0 12), .ref (qh 5)])), (qh 1, .inl (k 0, 5, .inl (sh 1))), (qh 2, .inl (k 0, 5, .inl (sh 2))), (qh 3, .inl (k 0, 3, .inl (sh 3))), (qh 4, .inl (k 0, 3, .inl (sh 4))), (qh 5, .inl (k 0, 525, .inl (sh 5)))] → va_S A s.heap H locs → lv_has ls 3 [(2, .int v28), (0, .ref (qpl 0)), (1, .ref (qh 0))] → W p l e ({ frames := 5, cells := 0, slots := 0, locals := 134 } : Room) s m ([.ref (qpl 0), .ref (qh 0)] : List Value).toArray below meth c H locs 0 0 Q (F0 m 53 ls []) := by
          intro n33
          induction n33 with
          | zero => intro v28 g29 g30 g31 g32 H locs ls hmn33 bv28 lw hP hD hS hl; exact absurd hmn33 (by omega)
          | succ n33 ih53 =>
            intro v28 g29 g30 g31 g32 H locs ls hmn33 bv28 lw hP hD hS hl
            refine lv_iload_n hx hb dX6_solve_53 rfl (lv_at hl 0 rfl) ?_
            refine lv_if_lt (tgt := 75) hx hb dX6_solve_54 (by decide) (fun c34 => ?_) (fun c34 => ?_)
            · have f34 : v28.toInt < 0 := f_lt rfl (by decide) c34
              rw [hQ]
              exact x_v cx hr ((sh 0 0), g29, g30, g31, g32) hP hD hS (show (sh 0 0).toInt = (sh 0 0).toInt from by omega) dX6_solve_75
            · have f34 : 0 ≤ v28.toInt := f_nlt rfl (by decide) c34
              refine lv_aload_n hx hb dX6_solve_57 rfl (lv_at hl 1 rfl) ?_
              refine lv_aload_n hx hb dX6_solve_58 rfl (lv_at hl 2 rfl) ?_
              refine lv_iload_n hx hb dX6_solve_59 rfl (lv_at hl 0 rfl) ?_
              refine g_vF (w1 := fun (u : (Nat → Int64) × (Nat → Int32)) => [(qpl 0, .inr (4, [.int (sh 0 0), .ref (qpl 1), .ref (qpl 2), .ref (qpl 3), .ref (qpl 4)])), (qpl 1, .inl (k 1, 630, .inr (.inl g29))), (qpl 2, .inl (k 0, 525, .inl g30)), (qpl 3, .inl (k 1, 35, .inr (.inl (u.1)))), (qpl 4, .inl (k 0, 35, .inl (u.2))), (qh 0, .inr (2, [.int (sh 0 0), .int (sh 0 1), .ref (qh 1), .ref (qh 2), .ref (qh 3), .ref (qh 4), .int (sh 0 6), .int (sh 0 7), .int (sh 0 8), .int (sh 0 9), .int (sh 0 10), .int (sh 0 11), .int (sh 0 12), .ref (qh 5)])), (qh 1, .inl (k 0, 5, .inl (sh 1))), (qh 2, .inl (k 0, 5, .inl (sh 2))), (qh 3, .inl (k 0, 3, .inl (sh 3))), (qh 4, .inl (k 0, 3, .inl (sh 4))), (qh 5, .inl (k 0, 525, .inl (sh 5)))]) (g_runVF (ws := [(qpl 0, .inr (4, [.int (sh 0 0), .ref (qpl 1), .ref (qpl 2), .ref (qpl 3), .ref (qpl 4)])), (qpl 1, .inl (k 1, 630, .inr (.inl g29))), (qpl 2, .inl (k 0, 525, .inl g30)), (qpl 3, .inl (k 1, 35, .inr (.inl g31))), (qpl 4, .inl (k 0, 35, .inl g32)), (qh 0, .inr (2, [.int (sh 0 0), .int (sh 0 1), .ref (qh 1), .ref (qh 2), .ref (qh 3), .ref (qh 4), .int (sh 0 6), .int (sh 0 7), .int (sh 0 8), .int (sh 0 9), .int (sh 0 10), .int (sh 0 11), .int (sh 0 12), .ref (qh 5)])), (qh 1, .inl (k 0, 5, .inl (sh 1))), (qh 2, .inl (k 0, 5, .inl (sh 2))), (qh 3, .inl (k 0, 3, .inl (sh 3))), (qh 4, .inl (k 0, 3, .inl (sh 4))), (qh 5, .inl (k 0, 525, .inl (sh 5)))]) (rest := []) cx hP hD hS [.ref (qh 0), .int v28] (c_X6_chooseOrders l D k b qpl (up2 (up2 (up2 spl 0 (upd (spl 0) 0 (sh 0 0))) 2 g30) 4 g32) (up2L (up2L tpl 1 g29) 3 g31) qh sh H.size v28 (show SUok (sh 5) from by assumption) (show 0 ≤ (sh 0 0).toInt ∧ (sh 0 0).toInt ≤ 5 from by first | decide | omega) (show 0 ≤ v28.toInt ∧ v28.toInt ≤ 4 from by first | decide | omega)) gX6_solve_X6_chooseOrders rfl rfl rfl nd_X6_chooseOrders ⟨Nat.le_of_ble_eq_true rfl, Nat.le_of_ble_eq_true rfl⟩ (ci := 4) (q0 := 0) rfl rfl rfl hl.1 rfl (Nat.le_of_ble_eq_true rfl) ⟨Nat.zero_le _, Nat.zero_le _⟩ dX6_solve_60) cx.2.2.1 hD hS (fun u36 H locs hw35 hP hD hS => ?_)
              obtain ⟨m37, m38⟩ := u36
              have hP : va_P D vwCl [(qpl 0, .inr (4, [.int (sh 0 0), .ref (qpl 1), .ref (qpl 2), .ref (qpl 3), .ref (qpl 4)])), (qpl 1, .inl (k 1, 630, .inr (.inl g29))), (qpl 2, .inl (k 0, 525, .inl g30)), (qpl 3, .inl (k 1, 35, .inr (.inl m37))), (qpl 4, .inl (k 0, 35, .inl m38)), (qh 0, .inr (2, [.int (sh 0 0), .int (sh 0 1), .ref (qh 1), .ref (qh 2), .ref (qh 3), .ref (qh 4), .int (sh 0 6), .int (sh 0 7), .int (sh 0 8), .int (sh 0 9), .int (sh 0 10), .int (sh 0 11), .int (sh 0 12), .ref (qh 5)])), (qh 1, .inl (k 0, 5, .inl (sh 1))), (qh 2, .inl (k 0, 5, .inl (sh 2))), (qh 3, .inl (k 0, 3, .inl (sh 3))), (qh 4, .inl (k 0, 3, .inl (sh 4))), (qh 5, .inl (k 0, 525, .inl (sh 5)))] H := hP
              have hD : va_D A [(qpl 0, .inr (4, [.int (sh 0 0), .ref (qpl 1), .ref (qpl 2), .ref (qpl 3), .ref (qpl 4)])), (qpl 1, .inl (k 1, 630, .inr (.inl g29))), (qpl 2, .inl (k 0, 525, .inl g30)), (qpl 3, .inl (k 1, 35, .inr (.inl m37))), (qpl 4, .inl (k 0, 35, .inl m38)), (qh 0, .inr (2, [.int (sh 0 0), .int (sh 0 1), .ref (qh 1), .ref (qh 2), .ref (qh 3), .ref (qh 4), .int (sh 0 6), .int (sh 0 7), .int (sh 0 8), .int (sh 0 9), .int (sh 0 10), .int (sh 0 11), .int (sh 0 12), .ref (qh 5)])), (qh 1, .inl (k 0, 5, .inl (sh 1))), (qh 2, .inl (k 0, 5, .inl (sh 2))), (qh 3, .inl (k 0, 3, .inl (sh 3))), (qh 4, .inl (k 0, 3, .inl (sh 4))), (qh 5, .inl (k 0, 525, .inl (sh 5)))] := hD
              clear hw35
              refine lv_aload_n hx hb dX6_solve_63 rfl (lv_at hl 1 rfl) ?_
              refine lv_aload_n hx hb dX6_solve_64 rfl (lv_at hl 2 rfl) ?_
              refine lv_iload_n hx hb dX6_solve_65 rfl (lv_at hl 0 rfl) ?_
              refine g_vF (w1 := fun (u : (Nat → Int64) × (Nat → Int32)) => [(qpl 0, .inr (4, [.int (sh 0 0), .ref (qpl 1), .ref (qpl 2), .ref (qpl 3), .ref (qpl 4)])), (qpl 1, .inl (k 1, 630, .inr (.inl (u.1)))), (qpl 2, .inl (k 0, 525, .inl (u.2))), (qpl 3, .inl (k 1, 35, .inr (.inl m37))), (qpl 4, .inl (k 0, 35, .inl m38)), (qh 0, .inr (2, [.int (sh 0 0), .int (sh 0 1), .ref (qh 1), .ref (qh 2), .ref (qh 3), .ref (qh 4), .int (sh 0 6), .int (sh 0 7), .int (sh 0 8), .int (sh 0 9), .int (sh 0 10), .int (sh 0 11), .int (sh 0 12), .ref (qh 5)])), (qh 1, .inl (k 0, 5, .inl (sh 1))), (qh 2, .inl (k 0, 5, .inl (sh 2))), (qh 3, .inl (k 0, 3, .inl (sh 3))), (qh 4, .inl (k 0, 3, .inl (sh 4))), (qh 5, .inl (k 0, 525, .inl (sh 5)))]) (g_runVF (ws := [(qpl 0, .inr (4, [.int (sh 0 0), .ref (qpl 1), .ref (qpl 2), .ref (qpl 3), .ref (qpl 4)])), (qpl 1, .inl (k 1, 630, .inr (.inl g29))), (qpl 2, .inl (k 0, 525, .inl g30)), (qpl 3, .inl (k 1, 35, .inr (.inl m37))), (qpl 4, .inl (k 0, 35, .inl m38)), (qh 0, .inr (2, [.int (sh 0 0), .int (sh 0 1), .ref (qh 1), .ref (qh 2), .ref (qh 3), .ref (qh 4), .int (sh 0 6), .int (sh 0 7), .int (sh 0 8), .int (sh 0 9), .int (sh 0 10), .int (sh 0 11), .int (sh 0 12), .ref (qh 5)])), (qh 1, .inl (k 0, 5, .inl (sh 1))), (qh 2, .inl (k 0, 5, .inl (sh 2))), (qh 3, .inl (k 0, 3, .inl (sh 3))), (qh 4, .inl (k 0, 3, .inl (sh 4))), (qh 5, .inl (k 0, 525, .inl (sh 5)))]) (rest := []) cx hP hD hS [.ref (qh 0), .int v28] (c_X6_chooseActs l D k b qpl (up2 (up2 (up2 spl 0 (upd (spl 0) 0 (sh 0 0))) 2 g30) 4 m38) (up2L (up2L tpl 1 g29) 3 m37) qh sh H.size v28 (show 0 ≤ (sh 0 0).toInt ∧ (sh 0 0).toInt ≤ 5 from by first | decide | omega) (show v28.toInt ≤ (sh 0 0).toInt from by first | decide | omega) (show 0 ≤ (sh 0 1).toInt ∧ (sh 0 1).toInt ≤ 4 from by first | decide | omega) h_of (show 0 ≤ v28.toInt ∧ v28.toInt ≤ 4 from by first | decide | omega)) gX6_solve_X6_chooseActs rfl rfl rfl nd_X6_chooseActs ⟨Nat.le_of_ble_eq_true rfl, Nat.le_of_ble_eq_true rfl⟩ (ci := 4) (q0 := 0) rfl rfl rfl hl.1 rfl (Nat.le_of_ble_eq_true rfl) ⟨Nat.zero_le _, Nat.zero_le _⟩ dX6_solve_66) cx.2.2.1 hD hS (fun u40 H locs hw39 hP hD hS => ?_)
              obtain ⟨m41, m42⟩ := u40
              have hP : va_P D vwCl [(qpl 0, .inr (4, [.int (sh 0 0), .ref (qpl 1), .ref (qpl 2), .ref (qpl 3), .ref (qpl 4)])), (qpl 1, .inl (k 1, 630, .inr (.inl m41))), (qpl 2, .inl (k 0, 525, .inl m42)), (qpl 3, .inl (k 1, 35, .inr (.inl m37))), (qpl 4, .inl (k 0, 35, .inl m38)), (qh 0, .inr (2, [.int (sh 0 0), .int (sh 0 1), .ref (qh 1), .ref (qh 2), .ref (qh 3), .ref (qh 4), .int (sh 0 6), .int (sh 0 7), .int (sh 0 8), .int (sh 0 9), .int (sh 0 10), .int (sh 0 11), .int (sh 0 12), .ref (qh 5)])), (qh 1, .inl (k 0, 5, .inl (sh 1))), (qh 2, .inl (k 0, 5, .inl (sh 2))), (qh 3, .inl (k 0, 3, .inl (sh 3))), (qh 4, .inl (k 0, 3, .inl (sh 4))), (qh 5, .inl (k 0, 525, .inl (sh 5)))] H := hP
              have hD : va_D A [(qpl 0, .inr (4, [.int (sh 0 0), .ref (qpl 1), .ref (qpl 2), .ref (qpl 3), .ref (qpl 4)])), (qpl 1, .inl (k 1, 630, .inr (.inl m41))), (qpl 2, .inl (k 0, 525, .inl m42)), (qpl 3, .inl (k 1, 35, .inr (.inl m37))), (qpl 4, .inl (k 0, 35, .inl m38)), (qh 0, .inr (2, [.int (sh 0 0), .int (sh 0 1), .ref (qh 1), .ref (qh 2), .ref (qh 3), .ref (qh 4), .int (sh 0 6), .int (sh 0 7), .int (sh 0 8), .int (sh 0 9), .int (sh 0 10), .int (sh 0 11), .int (sh 0 12), .ref (qh 5)])), (qh 1, .inl (k 0, 5, .inl (sh 1))), (qh 2, .inl (k 0, 5, .inl (sh 2))), (qh 3, .inl (k 0, 3, .inl (sh 3))), (qh 4, .inl (k 0, 3, .inl (sh 4))), (qh 5, .inl (k 0, 525, .inl (sh 5)))] := hD
              clear hw39
              obtain ⟨v43, e43⟩ : ∃ z : Int32, z = v28 + (-1) := ⟨_, rfl⟩
              refine lv_iinc (v := v43) (lv' := [(2, .int v43), (0, .ref (qpl 0)), (1, .ref (qh 0))]) hx hb dX6_solve_69 hl (k := 0) rfl (by rw [e43]; rfl) (by decide) rfl (fun ls hl => ?_)
              have t43 : v43.toInt = v28.toInt + (-1) := by rw [e43]; exact i_add rfl (by decide) (by omega) (by omega)
              refine lv_goto (tgt := 53) hx hb dX6_solve_72 (by decide) ?_
              exact ih53 v43 m41 m42 m37 m38 _ _ _ (by omega) (by first | decide | omega) (by first | decide | omega) hP hD hS (lv_sub hl [0, 1, 2] rfl)
        exact hL53 (Int.toNat (v18.toInt + 1) + 1) v18 g15 (spl 2) (tpl 3) (spl 4) _ _ _ (by omega) (by first | decide | omega) (by first | decide | omega) hP hD hS (lv_sub hl [0, 1, 2] rfl)
      · have f17 : v14.toInt < 35 := f_nle (by decide) rfl c17
        refine lv_aload_n hx hb dX6_solve_16 rfl (lv_at hl 1 rfl) ?_
        refine g_get cx hP iw_X6_solve_X6 0 rfl rfl 1 (by decide) rfl fw_X6_solve_13 rfl dX6_solve_17 ?_
        refine lv_aload_n hx hb dX6_solve_20 rfl (lv_at hl 1 rfl) ?_
        refine g_get cx hP iw_X6_solve_X6 0 rfl rfl 0 (by decide) rfl fw_X6_solve_38 rfl dX6_solve_21 ?_
        refine lv_iload_n hx hb dX6_solve_24 rfl (lv_at hl 0 rfl) ?_
        refine lv_iconst (v := 0) hx hb dX6_solve_25 (by decide) ?_
        have hlit44 : (0 : Int32).toInt = 0 := by decide
        refine g_ir (g_runS (wc := []) (rest := [.ref (qpl 1)]) cx hP hD hS [] rfl (by decide) [.int (sh 0 0), .int v14, .int 0] (c_X6_place l D k b H.size (sh 0 0) v14 0) gX6_solve_X6_place rfl rfl rfl nd_X6_place ⟨Nat.le_of_ble_eq_true rfl, Nat.le_of_ble_eq_true rfl⟩ rfl hl.1 rfl (Nat.le_of_ble_eq_true rfl) ⟨Nat.zero_le _, Nat.zero_le _⟩ dX6_solve_26) cx.2.2.1 hP hD hS [] rfl rfl (fun r46 H locs hw45 hP hS => ?_)
        have w47 : r46 = J_X6_place (sh 0 0) v14 (0 : Int32) := hw45
        clear hw45
        have zr46 : r46.toInt = ((sh 0 0).toInt * 3 + 0) * 35 + v14.toInt := place_t w47 ⟨by omega, by omega⟩ ⟨by omega, by omega⟩ ⟨by decide, by decide⟩
        refine lv_aload_n hx hb dX6_solve_29 rfl (lv_at hl 2 rfl) ?_
        refine va_gets hx hb cx.2.2.2.t0.1 hS cx.1.2.2.2.1 (cx.1.2.2.2.2 _ fw_X6_solve_45) (fun _ h => h) dX6_solve_30 ?_
        refine lv_iload_n hx hb dX6_solve_33 rfl (lv_at hl 0 rfl) ?_
        have hn48 : vp_in v14 35 := f_in (a := v14.toInt) rfl (by omega) (by omega)
        refine va_ti hx hb cx.2.2.2.t0.2 hS hn48 rfl dX6_solve_34 (lv_topi (fun v49 e49 => ?_))
        have t49 : 0 ≤ v49.toInt ∧ v49.toInt ≤ 400 ∧ v49.toInt / 100 + v49.toInt / 10 % 10 + v49.toInt % 10 ≤ 4 := by rw [e49]; exact zALL_v _
        refine g_ir (g_runV (wc := [(qh 0, .inr (2, [.int (sh 0 0), .int (sh 0 1), .ref (qh 1), .ref (qh 2), .ref (qh 3), .ref (qh 4), .int (sh 0 6), .int (sh 0 7), .int (sh 0 8), .int (sh 0 9), .int (sh 0 10), .int (sh 0 11), .int (sh 0 12), .ref (qh 5)])), (qh 1, .inl (k 0, 5, .inl (sh 1))), (qh 2, .inl (k 0, 5, .inl (sh 2))), (qh 3, .inl (k 0, 3, .inl (sh 3))), (qh 4, .inl (k 0, 3, .inl (sh 4))), (qh 5, .inl (k 0, 525, .inl (sh 5)))]) (rest := [.int r46, .ref (qpl 1)]) cx hP hD hS [5, 6, 7, 8, 9, 10] rfl (by decide) [.int v49] (c_X4_bonusFor l D k b qh sh H.size v49) gX6_solve_X4_bonusFor rfl rfl rfl nd_X4_bonusFor ⟨Nat.le_of_ble_eq_true rfl, Nat.le_of_ble_eq_true rfl⟩ (ci := 2) (q0 := 0) rfl rfl rfl hl.1 rfl (Nat.le_of_ble_eq_true rfl) ⟨Nat.zero_le _, Nat.zero_le _⟩ dX6_solve_35) cx.2.2.1 hP hD hS [5, 6, 7, 8, 9, 10] rfl rfl (fun r51 H locs hw50 hP hS => ?_)
        clear hw50
        obtain ⟨v52, e52⟩ : ∃ z : Int64, z = (r51 : Int32).toInt64 := ⟨_, rfl⟩
        refine lv_i2l (v := v52) hx hb dX6_solve_38 e52.symm ?_
        have hn53 : vp_in r46 630 := f_in (a := r46.toInt) rfl (by omega) (by omega)
        refine va_last hx hb cx.2.1 hP hD hS 1 1 rfl rfl hn53 dX6_solve_39 (fun H locs hP hD hS => ?_)
        obtain ⟨g54, eg54⟩ : ∃ g : Nat → Int64, g = vp_updL g15 (r46).toNatClampNeg v52 := ⟨_, rfl⟩
        rw [← eg54] at hP hD
        have hP : va_P D vwCl [(qpl 0, .inr (4, [.int (sh 0 0), .ref (qpl 1), .ref (qpl 2), .ref (qpl 3), .ref (qpl 4)])), (qpl 1, .inl (k 1, 630, .inr (.inl g54))), (qpl 2, .inl (k 0, 525, .inl (spl 2))), (qpl 3, .inl (k 1, 35, .inr (.inl (tpl 3)))), (qpl 4, .inl (k 0, 35, .inl (spl 4))), (qh 0, .inr (2, [.int (sh 0 0), .int (sh 0 1), .ref (qh 1), .ref (qh 2), .ref (qh 3), .ref (qh 4), .int (sh 0 6), .int (sh 0 7), .int (sh 0 8), .int (sh 0 9), .int (sh 0 10), .int (sh 0 11), .int (sh 0 12), .ref (qh 5)])), (qh 1, .inl (k 0, 5, .inl (sh 1))), (qh 2, .inl (k 0, 5, .inl (sh 2))), (qh 3, .inl (k 0, 3, .inl (sh 3))), (qh 4, .inl (k 0, 3, .inl (sh 4))), (qh 5, .inl (k 0, 525, .inl (sh 5)))] H := hP
        have hD : va_D A [(qpl 0, .inr (4, [.int (sh 0 0), .ref (qpl 1), .ref (qpl 2), .ref (qpl 3), .ref (qpl 4)])), (qpl 1, .inl (k 1, 630, .inr (.inl g54))), (qpl 2, .inl (k 0, 525, .inl (spl 2))), (qpl 3, .inl (k 1, 35, .inr (.inl (tpl 3)))), (qpl 4, .inl (k 0, 35, .inl (spl 4))), (qh 0, .inr (2, [.int (sh 0 0), .int (sh 0 1), .ref (qh 1), .ref (qh 2), .ref (qh 3), .ref (qh 4), .int (sh 0 6), .int (sh 0 7), .int (sh 0 8), .int (sh 0 9), .int (sh 0 10), .int (sh 0 11), .int (sh 0 12), .ref (qh 5)])), (qh 1, .inl (k 0, 5, .inl (sh 1))), (qh 2, .inl (k 0, 5, .inl (sh 2))), (qh 3, .inl (k 0, 3, .inl (sh 3))), (qh 4, .inl (k 0, 3, .inl (sh 4))), (qh 5, .inl (k 0, 525, .inl (sh 5)))] := hD
        obtain ⟨v55, e55⟩ : ∃ z : Int32, z = v14 + 1 := ⟨_, rfl⟩
        refine lv_iinc (v := v55) (lv' := [(2, .int v55), (0, .ref (qpl 0)), (1, .ref (qh 0))]) hx hb dX6_solve_40 hl (k := 0) rfl (by rw [e55]; rfl) (by decide) rfl (fun ls hl => ?_)
        have t55 : v55.toInt = v14.toInt + 1 := by rw [e55]; exact i_add rfl (by decide) (by omega) (by omega)
        refine lv_goto (tgt := 10) hx hb dX6_solve_43 (by decide) ?_
        exact ih10 v55 g54 _ _ _ (by omega) (by first | decide | omega) hP hD hS (lv_sub hl [0, 1, 2] rfl)
  have hlit56 : (0 : Int32).toInt = 0 := by decide
  exact hL10 (Int.toNat (35 - 0) + 1) 0 (tpl 1) _ _ _ (by omega) (by first | decide | omega) hP hD hS (lv_sub hl [0, 1, 2] rfl)
