theorem fw_X6_leastFrom_13 : Cond.fieldLink RX6 13 "StillInAugust$Plan" "cost" "[J" ∈ wsX6_leastFrom := by decide +kernel
theorem nd_X6_place : yX6_place.cls ≠ "java/lang/invoke/MethodHandle" ∧ yX6_place.cls ≠ "java/lang/invoke/VarHandle" ∧ (parseMethodDescriptor yX6_place.desc).map (fun d => d.parameters.length) = some 3 := by decide +kernel
theorem iw_X6_leastFrom_X6 : ∀ w ∈ u_ws RX6 TX6 5, w ∈ wsX6_leastFrom := fun _ h => List.mem_cons_of_mem _ (List.mem_append_right _ h)
def J_X6_leastFrom (spl : Nat → Nat → Int32) (tpl : Nat → Nat → Int64) (p0 : Int32) (p1 : Int32) (p2 : Int32) : Int64 := ((tpl 1) ((J_X6_place p0 (J_X3_kind p1) p2)).toNatClampNeg)
theorem exl_X6_leastFrom_0 {spl : Nat → Nat → Int32} {tpl : Nat → Nat → Int64} {p0 : Int32} {p1 : Int32} {p2 : Int32} {v8 : Int64} {r2 : Int32} {r5 : Int32} (w3 : r2 = J_X3_kind p1) (w6 : r5 = J_X6_place p0 r2 p2) (e8 : v8 = ((tpl 1) (r5).toNatClampNeg)) : v8 = J_X6_leastFrom spl tpl p0 p1 p2 := by subst w3 w6 e8; refine Eq.symm ?_; unfold J_X6_leastFrom; rfl
set_option maxHeartbeats 4000000 in
set_option maxRecDepth 100000 in
theorem c_X6_leastFrom (l : Launch) (D : va_G) (k : Nat → ClassId) (b : Nat → Nat) (qpl : Nat → Nat) (spl : Nat → Nat → Int32) (tpl : Nat → Nat → Int64) (sz : Nat) (p0 : Int32) (p1 : Int32) (p2 : Int32) (hv : 0 ≤ p1.toInt ∧ p1.toInt ≤ 400 ∧ tot p1 ≤ 4) (hp0 : 0 ≤ p0.toInt ∧ p0.toInt ≤ 5) (hp2 : 0 ≤ p2.toInt ∧ p2.toInt ≤ 2) : MetL l D k b yX6_leastFrom wsX6_leastFrom ({ frames := 1, cells := 0, slots := 0, locals := 23 } : Room) [cell65_ qpl spl, cell26_ k qpl tpl, cell23_ k qpl spl, cell24_ k qpl tpl, cell25_ k qpl spl] sz [.ref (qpl 0), .int p0, .int p1, .int p2] (fun (r : Int64) (u : Unit) => r = J_X6_leastFrom spl tpl p0 p1 p2) (fun u => [cell65_ qpl spl, cell26_ k qpl tpl, cell23_ k qpl spl, cell24_ k qpl tpl, cell25_ k qpl spl]) := by
  refine g_enter (cc := cX6_leastFrom) (maxL := 4) (ret := (some .long)) (by decide) rfl (Nat.le_of_ble_eq_true rfl) ?_
  intro p e s m below meth c A hsz hAe cx hr hP hD hS ls hl
  rw [hAe]
  refine g_q (fun Q hQ => ?_)
  have hx := cx.1.1
  have hb := cx.1.2.1
  have bp0 := i_rng p0
  have bp1 := i_rng p1
  have bp2 := i_rng p2
  have hl : lv_has ls 4 [(0, .ref (qpl 0)), (1, .int p0), (2, .int p1), (3, .int p2)] := hl
  obtain ⟨H, eH⟩ : ∃ H : Heap, H = s.heap := ⟨_, rfl⟩
  obtain ⟨locs, el⟩ : ∃ L : List Loc, L = [] := ⟨_, rfl⟩
  have hP : va_P D vwCl [cell65_ qpl spl, cell26_ k qpl tpl, cell23_ k qpl spl, cell24_ k qpl tpl, cell25_ k qpl spl] H := by rw [eH]; exact hP
  have hD : va_D A [cell65_ qpl spl, cell26_ k qpl tpl, cell23_ k qpl spl, cell24_ k qpl tpl, cell25_ k qpl spl] := hD
  have hS : va_S A s.heap H locs := by rw [eH, el]; exact hS
  suffices goal : W p l e ({ frames := 1, cells := 0, slots := 0, locals := 23 } : Room) s m ([.ref (qpl 0), .int p0, .int p1, .int p2] : List Value).toArray below meth c H locs 0 0 Q (F0 m 0 ls []) by rw [eH, el] at goal; exact goal
  refine lv_aload_n hx hb dX6_leastFrom_0 rfl (lv_at hl 0 rfl) ?_
  refine g_get cx hP iw_X6_leastFrom_X6 0 rfl rfl 1 (by decide) rfl fw_X6_leastFrom_13 rfl dX6_leastFrom_1 ?_
  refine lv_iload_n hx hb dX6_leastFrom_4 rfl (lv_at hl 1 rfl) ?_
  refine lv_iload_n hx hb dX6_leastFrom_5 rfl (lv_at hl 2 rfl) ?_
  refine g_ir (g_runS (wc := []) (rest := [.int p0, .ref (qpl 1)]) cx hP hD hS [] rfl (by decide) [.int p1] (c_X3_kind l D k b H.size p1 ⟨by first | decide | omega, by first | decide | omega, (show tot p1 ≤ 4 from by first | decide | omega)⟩) gX6_leastFrom_X3_kind rfl rfl rfl nd_X3_kind ⟨Nat.le_of_ble_eq_true rfl, Nat.le_of_ble_eq_true rfl⟩ rfl hl.1 rfl (Nat.le_of_ble_eq_true rfl) ⟨Nat.zero_le _, Nat.zero_le _⟩ dX6_leastFrom_6) cx.2.2.1 hP hD hS [] rfl rfl (fun r2 H locs hw1 hP hS => ?_)
  have w3 : r2 = J_X3_kind p1 := hw1
  clear hw1
  have zr2 := kind_t w3 ⟨by first | decide | omega, by first | decide | omega, (show tot p1 ≤ 4 from by first | decide | omega)⟩
  refine lv_iload_n hx hb dX6_leastFrom_9 rfl (lv_at hl 3 rfl) ?_
  refine g_ir (g_runS (wc := []) (rest := [.ref (qpl 1)]) cx hP hD hS [] rfl (by decide) [.int p0, .int r2, .int p2] (c_X6_place l D k b H.size p0 r2 p2) gX6_leastFrom_X6_place rfl rfl rfl nd_X6_place ⟨Nat.le_of_ble_eq_true rfl, Nat.le_of_ble_eq_true rfl⟩ rfl hl.1 rfl (Nat.le_of_ble_eq_true rfl) ⟨Nat.zero_le _, Nat.zero_le _⟩ dX6_leastFrom_10) cx.2.2.1 hP hD hS [] rfl rfl (fun r5 H locs hw4 hP hS => ?_)
  have w6 : r5 = J_X6_place p0 r2 p2 := hw4
  clear hw4
  have zr5 : r5.toInt = (p0.toInt * 3 + p2.toInt) * 35 + r2.toInt := place_t w6 ⟨by omega, by omega⟩ ⟨by omega, by omega⟩ ⟨by omega, by omega⟩
  have hn7 : vp_in r5 630 := f_in (a := r5.toInt) rfl (by omega) (by omega)
  refine va_lald hx hb cx.2.1 hP 1 1 rfl rfl hn7 dX6_leastFrom_13 (lv_topl (fun v8 e8 => ?_))
  rw [hQ]
  exact x_l cx hr () hP hD hS (show v8 = J_X6_leastFrom spl tpl p0 p1 p2 from (exl_X6_leastFrom_0 w3 w6 e8)) dX6_leastFrom_14
theorem fw_X6_firstAct_17 : Cond.fieldLink RX6 17 "StillInAugust$Plan" "first" "[I" ∈ wsX6_firstAct := by decide +kernel
theorem iw_X6_firstAct_X6 : ∀ w ∈ u_ws RX6 TX6 5, w ∈ wsX6_firstAct := fun _ h => List.mem_cons_of_mem _ (List.mem_append_right _ h)
def J_X6_firstAct (spl : Nat → Nat → Int32) (tpl : Nat → Nat → Int64) (p0 : Int32) (p1 : Int32) (p2 : Int32) : Int32 := ((spl 2) ((J_X6_place p0 (J_X3_kind p1) p2)).toNatClampNeg)
theorem exl_X6_firstAct_0 {spl : Nat → Nat → Int32} {tpl : Nat → Nat → Int64} {p0 : Int32} {p1 : Int32} {p2 : Int32} {v8 : Int32} {r2 : Int32} {r5 : Int32} (w3 : r2 = J_X3_kind p1) (w6 : r5 = J_X6_place p0 r2 p2) (e8 : v8 = ((spl 2) (r5).toNatClampNeg)) : v8 = J_X6_firstAct spl tpl p0 p1 p2 := by subst w3 w6 e8; refine Eq.symm ?_; unfold J_X6_firstAct; rfl
set_option maxHeartbeats 4000000 in
set_option maxRecDepth 100000 in
theorem c_X6_firstAct (l : Launch) (D : va_G) (k : Nat → ClassId) (b : Nat → Nat) (qpl : Nat → Nat) (spl : Nat → Nat → Int32) (tpl : Nat → Nat → Int64) (sz : Nat) (p0 : Int32) (p1 : Int32) (p2 : Int32) (hv : 0 ≤ p1.toInt ∧ p1.toInt ≤ 400 ∧ tot p1 ≤ 4) (hp0 : 0 ≤ p0.toInt ∧ p0.toInt ≤ 4) (hp2 : 0 ≤ p2.toInt ∧ p2.toInt ≤ 2) : MetI l D k b yX6_firstAct wsX6_firstAct ({ frames := 1, cells := 0, slots := 0, locals := 23 } : Room) [cell65_ qpl spl, cell26_ k qpl tpl, cell23_ k qpl spl, cell24_ k qpl tpl, cell25_ k qpl spl] sz [.ref (qpl 0), .int p0, .int p1, .int p2] (fun (r : Int32) (u : Unit) => r = J_X6_firstAct spl tpl p0 p1 p2) (fun u => [cell65_ qpl spl, cell26_ k qpl tpl, cell23_ k qpl spl, cell24_ k qpl tpl, cell25_ k qpl spl]) := by
  refine g_enter (cc := cX6_firstAct) (maxL := 4) (ret := (some .int)) (by decide) rfl (Nat.le_of_ble_eq_true rfl) ?_
  intro p e s m below meth c A hsz hAe cx hr hP hD hS ls hl
  rw [hAe]
  refine g_q (fun Q hQ => ?_)
  have hx := cx.1.1
  have hb := cx.1.2.1
  have bp0 := i_rng p0
  have bp1 := i_rng p1
  have bp2 := i_rng p2
  have hl : lv_has ls 4 [(0, .ref (qpl 0)), (1, .int p0), (2, .int p1), (3, .int p2)] := hl
  obtain ⟨H, eH⟩ : ∃ H : Heap, H = s.heap := ⟨_, rfl⟩
  obtain ⟨locs, el⟩ : ∃ L : List Loc, L = [] := ⟨_, rfl⟩
  have hP : va_P D vwCl [cell65_ qpl spl, cell26_ k qpl tpl, cell23_ k qpl spl, cell24_ k qpl tpl, cell25_ k qpl spl] H := by rw [eH]; exact hP
  have hD : va_D A [cell65_ qpl spl, cell26_ k qpl tpl, cell23_ k qpl spl, cell24_ k qpl tpl, cell25_ k qpl spl] := hD
  have hS : va_S A s.heap H locs := by rw [eH, el]; exact hS
  suffices goal : W p l e ({ frames := 1, cells := 0, slots := 0, locals := 23 } : Room) s m ([.ref (qpl 0), .int p0, .int p1, .int p2] : List Value).toArray below meth c H locs 0 0 Q (F0 m 0 ls []) by rw [eH, el] at goal; exact goal
  refine lv_aload_n hx hb dX6_firstAct_0 rfl (lv_at hl 0 rfl) ?_
  refine g_get cx hP iw_X6_firstAct_X6 0 rfl rfl 2 (by decide) rfl fw_X6_firstAct_17 rfl dX6_firstAct_1 ?_
  refine lv_iload_n hx hb dX6_firstAct_4 rfl (lv_at hl 1 rfl) ?_
  refine lv_iload_n hx hb dX6_firstAct_5 rfl (lv_at hl 2 rfl) ?_
  refine g_ir (g_runS (wc := []) (rest := [.int p0, .ref (qpl 2)]) cx hP hD hS [] rfl (by decide) [.int p1] (c_X3_kind l D k b H.size p1 ⟨by first | decide | omega, by first | decide | omega, (show tot p1 ≤ 4 from by first | decide | omega)⟩) gX6_firstAct_X3_kind rfl rfl rfl nd_X3_kind ⟨Nat.le_of_ble_eq_true rfl, Nat.le_of_ble_eq_true rfl⟩ rfl hl.1 rfl (Nat.le_of_ble_eq_true rfl) ⟨Nat.zero_le _, Nat.zero_le _⟩ dX6_firstAct_6) cx.2.2.1 hP hD hS [] rfl rfl (fun r2 H locs hw1 hP hS => ?_)
  have w3 : r2 = J_X3_kind p1 := hw1
  clear hw1
  have zr2 := kind_t w3 ⟨by first | decide | omega, by first | decide | omega, (show tot p1 ≤ 4 from by first | decide | omega)⟩
  refine lv_iload_n hx hb dX6_firstAct_9 rfl (lv_at hl 3 rfl) ?_
  refine g_ir (g_runS (wc := []) (rest := [.ref (qpl 2)]) cx hP hD hS [] rfl (by decide) [.int p0, .int r2, .int p2] (c_X6_place l D k b H.size p0 r2 p2) gX6_firstAct_X6_place rfl rfl rfl nd_X6_place ⟨Nat.le_of_ble_eq_true rfl, Nat.le_of_ble_eq_true rfl⟩ rfl hl.1 rfl (Nat.le_of_ble_eq_true rfl) ⟨Nat.zero_le _, Nat.zero_le _⟩ dX6_firstAct_10) cx.2.2.1 hP hD hS [] rfl rfl (fun r5 H locs hw4 hP hS => ?_)
  have w6 : r5 = J_X6_place p0 r2 p2 := hw4
  clear hw4
  have zr5 : r5.toInt = (p0.toInt * 3 + p2.toInt) * 35 + r2.toInt := place_t w6 ⟨by omega, by omega⟩ ⟨by omega, by omega⟩ ⟨by omega, by omega⟩
  have hn7 : vp_in r5 525 := f_in (a := r5.toInt) rfl (by omega) (by omega)
  refine va_iald hx hb cx.2.1 hP 2 0 rfl rfl hn7 dX6_firstAct_13 (lv_topi (fun v8 e8 => ?_))
  rw [hQ]
  exact x_i cx hr () hP hD hS (show v8 = J_X6_firstAct spl tpl p0 p1 p2 from (exl_X6_firstAct_0 w3 w6 e8)) dX6_firstAct_14
theorem fw_X6_scale_35 : Cond.fieldLink RX6 35 "StillInAugust$Plan" "SCALES" "[J" ∈ wsX6_scale := by decide +kernel
theorem fw_X6_scale_38 : Cond.fieldLink RX6 38 "StillInAugust$Plan" "weeks" "I" ∈ wsX6_scale := by decide +kernel
theorem iw_X6_scale_X6 : ∀ w ∈ u_ws RX6 TX6 5, w ∈ wsX6_scale := fun _ h => List.mem_cons_of_mem _ (List.mem_append_right _ h)
def J_X6_scale (spl : Nat → Nat → Int32) (tpl : Nat → Nat → Int64) (p0 : Int32) : Int64 := (zSCA.getD (((spl 0 0) - p0)).toNatClampNeg 0)
theorem exl_X6_scale_0 {spl : Nat → Nat → Int32} {tpl : Nat → Nat → Int64} {p0 : Int32} {v3 : Int64} {v1 : Int32} (e1 : v1 = ((spl 0 0) - p0)) (e3 : v3 = (zSCA.getD (v1).toNatClampNeg 0)) : v3 = J_X6_scale spl tpl p0 := by subst e1 e3; refine Eq.symm ?_; unfold J_X6_scale; rfl
set_option maxHeartbeats 4000000 in
set_option maxRecDepth 100000 in
theorem c_X6_scale (l : Launch) (D : va_G) (k : Nat → ClassId) (b : Nat → Nat) (qpl : Nat → Nat) (spl : Nat → Nat → Int32) (tpl : Nat → Nat → Int64) (sz : Nat) (p0 : Int32) (h_pw : 0 ≤ (spl 0 0).toInt ∧ (spl 0 0).toInt ≤ 5) (h_pl : p0.toInt ≤ (spl 0 0).toInt) (hp0 : 0 ≤ p0.toInt ∧ p0.toInt ≤ 5) : MetL l D k b yX6_scale wsX6_scale ({ frames := 0, cells := 0, slots := 0, locals := 0 } : Room) [cell65_ qpl spl, cell26_ k qpl tpl, cell23_ k qpl spl, cell24_ k qpl tpl, cell25_ k qpl spl] sz [.ref (qpl 0), .int p0] (fun (r : Int64) (u : Unit) => r = J_X6_scale spl tpl p0) (fun u => [cell65_ qpl spl, cell26_ k qpl tpl, cell23_ k qpl spl, cell24_ k qpl tpl, cell25_ k qpl spl]) := by
  refine g_enter (cc := cX6_scale) (maxL := 2) (ret := (some .long)) (by decide) rfl (Nat.le_of_ble_eq_true rfl) ?_
  intro p e s m below meth c A hsz hAe cx hr hP hD hS ls hl
  rw [hAe]
  refine g_q (fun Q hQ => ?_)
  have hx := cx.1.1
  have hb := cx.1.2.1
  have bp0 := i_rng p0
  have hl : lv_has ls 2 [(0, .ref (qpl 0)), (1, .int p0)] := hl
  obtain ⟨H, eH⟩ : ∃ H : Heap, H = s.heap := ⟨_, rfl⟩
  obtain ⟨locs, el⟩ : ∃ L : List Loc, L = [] := ⟨_, rfl⟩
  have hP : va_P D vwCl [cell65_ qpl spl, cell26_ k qpl tpl, cell23_ k qpl spl, cell24_ k qpl tpl, cell25_ k qpl spl] H := by rw [eH]; exact hP
  have hD : va_D A [cell65_ qpl spl, cell26_ k qpl tpl, cell23_ k qpl spl, cell24_ k qpl tpl, cell25_ k qpl spl] := hD
  have hS : va_S A s.heap H locs := by rw [eH, el]; exact hS
  suffices goal : W p l e ({ frames := 0, cells := 0, slots := 0, locals := 0 } : Room) s m ([.ref (qpl 0), .int p0] : List Value).toArray below meth c H locs 0 0 Q (F0 m 0 ls []) by rw [eH, el] at goal; exact goal
  refine va_gets hx hb cx.2.2.2.t4.1 hS cx.1.2.2.2.1 (cx.1.2.2.2.2 _ fw_X6_scale_35) (fun _ h => h) dX6_scale_0 ?_
  refine lv_aload_n hx hb dX6_scale_3 rfl (lv_at hl 0 rfl) ?_
  refine g_get cx hP iw_X6_scale_X6 0 rfl rfl 0 (by decide) rfl fw_X6_scale_38 rfl dX6_scale_4 ?_
  refine lv_iload_n hx hb dX6_scale_7 rfl (lv_at hl 1 rfl) ?_
  refine lv_isub hx hb dX6_scale_8 (lv_topi (fun v1 e1 => ?_))
  have t1 : v1.toInt = (spl 0 0).toInt - p0.toInt := by rw [e1]; exact i_sub rfl rfl (by omega) (by omega)
  have hn2 : vp_in v1 6 := f_in (a := v1.toInt) rfl (by omega) (by omega)
  refine va_tl hx hb cx.2.2.2.t4.2 hS hn2 rfl dX6_scale_9 (lv_topl (fun v3 e3 => ?_))
  rw [hQ]
  exact x_l cx hr () hP hD hS (show v3 = J_X6_scale spl tpl p0 from (exl_X6_scale_0 e1 e3)) dX6_scale_10
theorem fw_X6_meanBehind_13 : Cond.fieldLink RX6 13 "StillInAugust$Plan" "cost" "[J" ∈ wsX6_meanBehind := by decide +kernel
theorem iw_X6_meanBehind_X6 : ∀ w ∈ u_ws RX6 TX6 5, w ∈ wsX6_meanBehind := fun _ h => List.mem_cons_of_mem _ (List.mem_append_left _ (List.mem_append_right _ h))
def B_X6_meanBehind_6 (spl : Nat → Nat → Int32) (tpl : Nat → Nat → Int64) (sh : Nat → Nat → Int32) (p0 : Int32) (p1 : Int32) (p2 : Int32) (z : Int32 × Int64) : Sum (Int32 × Int64) (Int64) := let v17 := (z.1); let v18 := (z.2); if 15 ≤ v17 then Sum.inr (v18) else LetF (J_X4_partsTo sh p0 v17) (fun y25 => Sum.inl (((v17 + 1), (v18 + ((y25.toInt64) * ((tpl 1) ((J_X6_place p1 v17 p2)).toNatClampNeg))))))
def J_X6_meanBehind (spl : Nat → Nat → Int32) (tpl : Nat → Nat → Int64) (sh : Nat → Nat → Int32) (p0 : Int32) (p1 : Int32) (p2 : Int32) : Int64 := LTs default (B_X6_meanBehind_6 spl tpl sh p0 p1 p2) 16 ((0 : Int32), (0 : Int64))
theorem exl_X6_meanBehind_0 {spl : Nat → Nat → Int32} {tpl : Nat → Nat → Int64} {sh : Nat → Nat → Int32} {p0 : Int32} {p1 : Int32} {p2 : Int32} : J_X6_meanBehind spl tpl sh p0 p1 p2 = LTs (default : Int64) (B_X6_meanBehind_6 spl tpl sh p0 p1 p2) 16 ((0 : Int32), (0 : Int64)) := by unfold J_X6_meanBehind; rfl
theorem exl_X6_meanBehind_1 {spl : Nat → Nat → Int32} {tpl : Nat → Nat → Int64} {sh : Nat → Nat → Int32} {p0 : Int32} {p1 : Int32} {p2 : Int32} {v17 : Int32} {v18 : Int64} (c20 : (15 : Int32) ≤ v17) : (B_X6_meanBehind_6 spl tpl sh p0 p1 p2) (v17, v18) = Sum.inr (v18) := by unfold B_X6_meanBehind_6; refine Eq.trans (if_pos c20) ?_; rfl
theorem exl_X6_meanBehind_2 {spl : Nat → Nat → Int32} {tpl : Nat → Nat → Int64} {sh : Nat → Nat → Int32} {p0 : Int32} {p1 : Int32} {p2 : Int32} {v17 : Int32} {v18 : Int64} {v34 : Int32} {v33 : Int64} {v26 : Int64} {r22 : Int32} {r28 : Int32} {v31 : Int64} {v32 : Int64} (e26 : v26 = (r22 : Int32).toInt64) (w29 : r28 = J_X6_place p1 v17 p2) (e31 : v31 = ((tpl 1) (r28).toNatClampNeg)) (e32 : v32 = (v26 * v31)) (e33 : v33 = (v18 + v32)) (e34 : v34 = v17 + 1) (c20 : ¬ ((15 : Int32) ≤ v17)) (w24 : r22 = J_X4_partsTo sh p0 v17) : (B_X6_meanBehind_6 spl tpl sh p0 p1 p2) (v17, v18) = Sum.inl (v34, v33) := by subst e26 w29 e31 e32 e33 e34; unfold B_X6_meanBehind_6; refine Eq.trans (if_neg c20) ?_; refine lt_e w24 ?_; rfl
set_option maxHeartbeats 4000000 in
set_option maxRecDepth 100000 in
theorem c_X6_meanBehind (l : Launch) (D : va_G) (k : Nat → ClassId) (b : Nat → Nat) (qpl : Nat → Nat) (spl : Nat → Nat → Int32) (tpl : Nat → Nat → Int64) (qh : Nat → Nat) (sh : Nat → Nat → Int32) (sz : Nat) (p0 : Int32) (p1 : Int32) (p2 : Int32) (h_su : SUok (sh 5)) (hp0 : 0 ≤ p0.toInt ∧ p0.toInt ≤ 34) (hp1 : 0 ≤ p1.toInt ∧ p1.toInt ≤ 5) (hp2 : 0 ≤ p2.toInt ∧ p2.toInt ≤ 2) : MetL l D k b yX6_meanBehind wsX6_meanBehind ({ frames := 1, cells := 0, slots := 0, locals := 22 } : Room) [cell65_ qpl spl, cell26_ k qpl tpl, cell23_ k qpl spl, cell24_ k qpl tpl, cell25_ k qpl spl, cell32_ qh sh, cell0_ k qh sh, cell1_ k qh sh, cell4_ k qh sh, cell3_ k qh sh, cell2_ k qh sh] sz [.ref (qpl 0), .ref (qh 0), .int p0, .int p1, .int p2] (fun (r : Int64) (u : Unit) => r = J_X6_meanBehind spl tpl sh p0 p1 p2) (fun u => [cell65_ qpl spl, cell26_ k qpl tpl, cell23_ k qpl spl, cell24_ k qpl tpl, cell25_ k qpl spl, cell32_ qh sh, cell0_ k qh sh, cell1_ k qh sh, cell4_ k qh sh, cell3_ k qh sh, cell2_ k qh sh]) := by
  refine g_enter (cc := cX6_meanBehind) (maxL := 8) (ret := (some .long)) (by decide) rfl (Nat.le_of_ble_eq_true rfl) ?_
  intro p e s m below meth c A hsz hAe cx hr hP hD hS ls hl
  rw [hAe]
  refine g_q (fun Q hQ => ?_)
  have hx := cx.1.1
  have hb := cx.1.2.1
  have bp0 := i_rng p0
  have bp1 := i_rng p1
  have bp2 := i_rng p2
  have hl : lv_has ls 8 [(0, .ref (qpl 0)), (1, .ref (qh 0)), (2, .int p0), (3, .int p1), (4, .int p2)] := hl
  obtain ⟨H, eH⟩ : ∃ H : Heap, H = s.heap := ⟨_, rfl⟩
  obtain ⟨locs, el⟩ : ∃ L : List Loc, L = [] := ⟨_, rfl⟩
  have hP : va_P D vwCl [cell65_ qpl spl, cell26_ k qpl tpl, cell23_ k qpl spl, cell24_ k qpl tpl, cell25_ k qpl spl, cell32_ qh sh, cell0_ k qh sh, cell1_ k qh sh, cell4_ k qh sh, cell3_ k qh sh, cell2_ k qh sh] H := by rw [eH]; exact hP
  have hD : va_D A [cell65_ qpl spl, cell26_ k qpl tpl, cell23_ k qpl spl, cell24_ k qpl tpl, cell25_ k qpl spl, cell32_ qh sh, cell0_ k qh sh, cell1_ k qh sh, cell4_ k qh sh, cell3_ k qh sh, cell2_ k qh sh] := hD
  have hS : va_S A s.heap H locs := by rw [eH, el]; exact hS
  suffices goal : W p l e ({ frames := 1, cells := 0, slots := 0, locals := 22 } : Room) s m ([.ref (qpl 0), .ref (qh 0), .int p0, .int p1, .int p2] : List Value).toArray below meth c H locs 0 0 Q (F0 m 0 ls []) by rw [eH, el] at goal; exact goal
  refine lv_lconst (v := 0) hx hb dX6_meanBehind_0 (by decide) ?_
  refine lv_lstore (lv' := [(5, .long 0), (0, .ref (qpl 0)), (1, .ref (qh 0)), (2, .int p0), (3, .int p1), (4, .int p2)]) hx hb dX6_meanBehind_1 hl (by decide) rfl (fun ls hl => ?_)
  refine lv_iconst (v := 0) hx hb dX6_meanBehind_3 (by decide) ?_
  refine lv_istore (lv' := [(7, .int 0), (5, .long 0), (0, .ref (qpl 0)), (1, .ref (qh 0)), (2, .int p0), (3, .int p1), (4, .int p2)]) hx hb dX6_meanBehind_4 hl (by decide) rfl (fun ls hl => ?_)
  obtain ⟨rr6_1, err6_1⟩ : ∃ r : Int64, LTs (default : Int64) (B_X6_meanBehind_6 spl tpl sh p0 p1 p2) 16 ((0 : Int32), (0 : Int64)) = r := ⟨_, rfl⟩
  have hrr6_1 : J_X6_meanBehind spl tpl sh p0 p1 p2 = rr6_1 := ((exl_X6_meanBehind_0)).trans err6_1
  have hL6 : ∀ (n19 : Nat) (v17 : Int32) (v18 : Int64) (H : Heap) (locs : List Loc) (ls : Array Slot), 15 - v17.toInt < (n19 : Int) → (0 ≤ v17.toInt ∧ v17.toInt ≤ 15) → (LTs (default : Int64) (B_X6_meanBehind_6 spl tpl sh p0 p1 p2) n19 (v17, v18) = rr6_1) → va_P D vwCl [cell65_ qpl spl, cell26_ k qpl tpl, cell23_ k qpl spl, cell24_ k qpl tpl, cell25_ k qpl spl, cell32_ qh sh, cell0_ k qh sh, cell1_ k qh sh, cell4_ k qh sh, cell3_ k qh sh, cell2_ k qh sh] H → va_D A [cell65_ qpl spl, cell26_ k qpl tpl, cell23_ k qpl spl, cell24_ k qpl tpl, cell25_ k qpl spl, cell32_ qh sh, cell0_ k qh sh, cell1_ k qh sh, cell4_ k qh sh, cell3_ k qh sh, cell2_ k qh sh] → va_S A s.heap H locs → lv_has ls 8 [(7, .int v17), (5, .long v18), (0, .ref (qpl 0)), (1, .ref (qh 0)), (2, .int p0), (3, .int p1), (4, .int p2)] → W p l e ({ frames := 1, cells := 0, slots := 0, locals := 22 } : Room) s m ([.ref (qpl 0), .ref (qh 0), .int p0, .int p1, .int p2] : List Value).toArray below meth c H locs 0 0 Q (F0 m 6 ls []) := by
    intro n19
    induction n19 with
    | zero => intro v17 v18 H locs ls hmn19 bv17 hzrr6_1 hP hD hS hl; exact absurd hmn19 (by omega)
    | succ n19 ih6 =>
      intro v17 v18 H locs ls hmn19 bv17 hzrr6_1 hP hD hS hl
      refine lv_iload hx hb dX6_meanBehind_6 (lv_at hl 0 rfl) ?_
      refine lv_bipush (v := 15) hx hb dX6_meanBehind_8 (by decide) ?_
      refine lv_icmp_ge (tgt := 46) hx hb dX6_meanBehind_10 (by decide) (fun c20 => ?_) (fun c20 => ?_)
      · have f20 : 15 ≤ v17.toInt := f_le (by decide) rfl c20
        refine lv_lload hx hb dX6_meanBehind_46 (lv_at hl 1 rfl) ?_
        rw [hQ]
        exact x_l cx hr () hP hD hS (show v18 = J_X6_meanBehind spl tpl sh p0 p1 p2 from ((hrr6_1.trans (LT_r hzrr6_1 (exl_X6_meanBehind_1 c20)))).symm) dX6_meanBehind_48
      · have f20 : v17.toInt < 15 := f_nle (by decide) rfl c20
        refine lv_lload hx hb dX6_meanBehind_13 (lv_at hl 1 rfl) ?_
        refine lv_aload_n hx hb dX6_meanBehind_15 rfl (lv_at hl 3 rfl) ?_
        refine lv_iload_n hx hb dX6_meanBehind_16 rfl (lv_at hl 4 rfl) ?_
        refine lv_iload hx hb dX6_meanBehind_17 (lv_at hl 0 rfl) ?_
        refine g_ir (g_runV (wc := [cell32_ qh sh, cell0_ k qh sh, cell1_ k qh sh, cell4_ k qh sh, cell3_ k qh sh, cell2_ k qh sh]) (rest := [.long v18]) cx hP hD hS [5, 6, 7, 8, 9, 10] rfl (by decide) [.int p0, .int v17] (c_X4_partsTo l D k b qh sh H.size p0 v17 (show SUok (sh 5) from by assumption) (show 0 ≤ p0.toInt ∧ p0.toInt ≤ 34 from by first | decide | omega) (show 0 ≤ v17.toInt ∧ v17.toInt ≤ 14 from by first | decide | omega)) gX6_meanBehind_X4_partsTo rfl rfl rfl nd_X4_partsTo ⟨Nat.le_of_ble_eq_true rfl, Nat.le_of_ble_eq_true rfl⟩ (ci := 2) (q0 := 0) rfl rfl rfl hl.1 rfl (Nat.le_of_ble_eq_true rfl) ⟨Nat.zero_le _, Nat.zero_le _⟩ dX6_meanBehind_19) cx.2.2.1 hP hD hS [5, 6, 7, 8, 9, 10] rfl rfl (fun r22 H locs hw21 hP hS => ?_)
        replace hw21 : (r22 = 0 ∨ totN v17.toNatClampNeg ≤ totN p0.toNatClampNeg) ∧ (r22 = J_X4_partsTo sh p0 v17) := hw21
        obtain ⟨w23, w24⟩ := hw21
        obtain ⟨v26, e26⟩ : ∃ z : Int64, z = (r22 : Int32).toInt64 := ⟨_, rfl⟩
        refine lv_i2l (v := v26) hx hb dX6_meanBehind_22 e26.symm ?_
        refine lv_aload_n hx hb dX6_meanBehind_23 rfl (lv_at hl 2 rfl) ?_
        refine g_get cx hP iw_X6_meanBehind_X6 0 rfl rfl 1 (by decide) rfl fw_X6_meanBehind_13 rfl dX6_meanBehind_24 ?_
        refine lv_iload_n hx hb dX6_meanBehind_27 rfl (lv_at hl 5 rfl) ?_
        refine lv_iload hx hb dX6_meanBehind_28 (lv_at hl 0 rfl) ?_
        refine lv_iload hx hb dX6_meanBehind_30 (lv_at hl 6 rfl) ?_
        refine g_ir (g_runS (wc := []) (rest := [.ref (qpl 1), .long v26, .long v18]) cx hP hD hS [] rfl (by decide) [.int p1, .int v17, .int p2] (c_X6_place l D k b H.size p1 v17 p2) gX6_meanBehind_X6_place rfl rfl rfl nd_X6_place ⟨Nat.le_of_ble_eq_true rfl, Nat.le_of_ble_eq_true rfl⟩ rfl hl.1 rfl (Nat.le_of_ble_eq_true rfl) ⟨Nat.zero_le _, Nat.zero_le _⟩ dX6_meanBehind_32) cx.2.2.1 hP hD hS [] rfl rfl (fun r28 H locs hw27 hP hS => ?_)
        have w29 : r28 = J_X6_place p1 v17 p2 := hw27
        clear hw27
        have zr28 : r28.toInt = (p1.toInt * 3 + p2.toInt) * 35 + v17.toInt := place_t w29 ⟨by omega, by omega⟩ ⟨by omega, by omega⟩ ⟨by omega, by omega⟩
        have hn30 : vp_in r28 630 := f_in (a := r28.toInt) rfl (by omega) (by omega)
        refine va_lald hx hb cx.2.1 hP 1 1 rfl rfl hn30 dX6_meanBehind_35 (lv_topl (fun v31 e31 => ?_))
        refine lv_lmul hx hb dX6_meanBehind_36 (lv_topl (fun v32 e32 => ?_))
        refine lv_ladd hx hb dX6_meanBehind_37 (lv_topl (fun v33 e33 => ?_))
        refine lv_lstore (lv' := [(5, .long v33), (7, .int v17), (0, .ref (qpl 0)), (1, .ref (qh 0)), (2, .int p0), (3, .int p1), (4, .int p2)]) hx hb dX6_meanBehind_38 hl (by decide) rfl (fun ls hl => ?_)
        obtain ⟨v34, e34⟩ : ∃ z : Int32, z = v17 + 1 := ⟨_, rfl⟩
        refine lv_iinc (v := v34) (lv' := [(7, .int v34), (5, .long v33), (0, .ref (qpl 0)), (1, .ref (qh 0)), (2, .int p0), (3, .int p1), (4, .int p2)]) hx hb dX6_meanBehind_40 hl (k := 1) rfl (by rw [e34]; rfl) (by decide) rfl (fun ls hl => ?_)
        have t34 : v34.toInt = v17.toInt + 1 := by rw [e34]; exact i_add rfl (by decide) (by omega) (by omega)
        refine lv_goto (tgt := 6) hx hb dX6_meanBehind_43 (by decide) ?_
        exact ih6 v34 v33 _ _ _ (by omega) (by first | decide | omega) (LT_g hzrr6_1 (exl_X6_meanBehind_2 e26 w29 e31 e32 e33 e34 c20 w24)) hP hD hS (lv_sub hl [0, 1, 2, 3, 4, 5, 6] rfl)
  have hlit35 : (0 : Int32).toInt = 0 := by decide
  have hlit36 : (0 : Int32).toInt = 0 := by decide
  exact hL6 (16) 0 0 _ _ _ (by omega) (by first | decide | omega) err6_1 hP hD hS (lv_sub hl [0, 1, 2, 3, 4, 5, 6] rfl)
theorem fw_X6_chooseOrders_21 : Cond.fieldLink RX6 21 "StillInAugust$Plan" "later" "[J" ∈ wsX6_chooseOrders := by decide +kernel
theorem fw_X6_chooseOrders_24 : Cond.fieldLink RX6 24 "StillInAugust$Plan" "order" "[I" ∈ wsX6_chooseOrders := by decide +kernel
theorem fw_X6_chooseOrders_45 : Cond.fieldLink RX6 45 "StillInAugust$Hands" "ALL" "[I" ∈ wsX6_chooseOrders := by decide +kernel
theorem fw_X6_chooseOrders_64 : Cond.fieldLink RX6 64 "StillInAugust$House" "hooks" "I" ∈ wsX6_chooseOrders := by decide +kernel
theorem nd_X6_meanBehind : yX6_meanBehind.cls = RX6 ∧ yX6_meanBehind.cls ≠ "java/lang/invoke/MethodHandle" ∧ yX6_meanBehind.cls ≠ "java/lang/invoke/VarHandle" ∧ (parseMethodDescriptor yX6_meanBehind.desc).map (fun d => d.parameters.length) = some 4 := by decide +kernel
theorem iw_X6_chooseOrders_X4 : ∀ w ∈ u_ws RX4 TX4 14, w ∈ wsX6_chooseOrders := fun _ h => List.mem_cons_of_mem _ (List.mem_append_left _ (List.mem_append_right _ h))
theorem iw_X6_chooseOrders_X6 : ∀ w ∈ u_ws RX6 TX6 5, w ∈ wsX6_chooseOrders := fun _ h => List.mem_cons_of_mem _ (List.mem_append_right _ h)
def B_X6_chooseOrders_38_2 (spl : Nat → Nat → Int32) (tpl : Nat → Nat → Int64) (sh : Nat → Nat → Int32) (p0 : Int32) (v27 : Int32) (g28 : Nat → Int64) (g29 : Nat → Int32) (y5 : Int32) (z : Int32 × (Nat → Int64) × (Nat → Int32)) : Sum (Int32 × (Nat → Int64) × (Nat → Int32)) (Sum (Int32 × (Nat → Int64) × (Nat → Int32)) ((Nat → Int64) × (Nat → Int32))) := let v52 := (z.1); let g53 := (z.2.1); let g54 := (z.2.2); if y5 < v52 then Sum.inr (Sum.inl (((v27 + 1), g53, g54))) else LetF (J_X6_meanBehind (up2 spl 4 g54) (up2L tpl 3 g53) sh v27 (p0 + (1 : Int32)) v52) (fun y62 => if v52 = 0 then Sum.inl (((v52 + 1), (vp_updL g53 (v27).toNatClampNeg y62), (upd g54 (v27).toNatClampNeg v52))) else if 0 ≤ (lg_cmp y62 (g53 (v27).toNatClampNeg)) then Sum.inl (((v52 + 1), g53, g54)) else Sum.inl (((v52 + 1), (vp_updL g53 (v27).toNatClampNeg y62), (upd g54 (v27).toNatClampNeg v52))))
def B_X6_chooseOrders_9 (spl : Nat → Nat → Int32) (tpl : Nat → Nat → Int64) (sh : Nat → Nat → Int32) (p0 : Int32) (y5 : Int32) (z : Int32 × (Nat → Int64) × (Nat → Int32)) : Sum (Int32 × (Nat → Int64) × (Nat → Int32)) ((Nat → Int64) × (Nat → Int32)) := let v27 := (z.1); let g28 := (z.2.1); let g29 := (z.2.2); if 35 ≤ v27 then Sum.inr ((g28, g29)) else if (J_X3_total (zALL.getD (v27).toNatClampNeg 0)) ≤ (sh 0 1) then LTs (Sum.inl default) (B_X6_chooseOrders_38_2 spl tpl sh p0 v27 g28 g29 y5) 4 ((0 : Int32), g28, g29) else Sum.inl (((v27 + 1), g28, g29))
def J_X6_chooseOrders (spl : Nat → Nat → Int32) (tpl : Nat → Nat → Int64) (sh : Nat → Nat → Int32) (p0 : Int32) : (Nat → Int64) × (Nat → Int32) := LetF (J_X4_mostOrdered sh p0) (fun y5 => LTs default (B_X6_chooseOrders_9 spl tpl sh p0 y5) 36 ((0 : Int32), (tpl 3), (spl 4)))
theorem exl_X6_chooseOrders_0 {spl : Nat → Nat → Int32} {tpl : Nat → Nat → Int64} {sh : Nat → Nat → Int32} {p0 : Int32} {r2 : Int32} (w4 : r2 = J_X4_mostOrdered sh p0) : J_X6_chooseOrders spl tpl sh p0 = LTs (default : (Nat → Int64) × (Nat → Int32)) (B_X6_chooseOrders_9 spl tpl sh p0 r2) 36 ((0 : Int32), (tpl 3), (spl 4)) := by unfold J_X6_chooseOrders; refine lt_e w4 ?_; rfl
theorem exl_X6_chooseOrders_1 {spl : Nat → Nat → Int32} {tpl : Nat → Nat → Int64} {sh : Nat → Nat → Int32} {p0 : Int32} {r2 : Int32} {v27 : Int32} {g28 : Nat → Int64} {g29 : Nat → Int32} (c31 : (35 : Int32) ≤ v27) : (B_X6_chooseOrders_9 spl tpl sh p0 r2) (v27, g28, g29) = Sum.inr ((g28, g29)) := by unfold B_X6_chooseOrders_9; refine Eq.trans (if_pos c31) ?_; rfl
theorem exl_X6_chooseOrders_2 {spl : Nat → Nat → Int32} {tpl : Nat → Nat → Int64} {sh : Nat → Nat → Int32} {p0 : Int32} {r2 : Int32} {v27 : Int32} {g28 : Nat → Int64} {g29 : Nat → Int32} {v33 : Int32} {r35 : Int32} (e33 : v33 = (zALL.getD (v27).toNatClampNeg 0)) (w36 : r35 = J_X3_total v33) (c31 : ¬ ((35 : Int32) ≤ v27)) (c37 : r35 ≤ (sh 0 1)) : (B_X6_chooseOrders_9 spl tpl sh p0 r2) (v27, g28, g29) = LTs (Sum.inl default : Sum (Int32 × (Nat → Int64) × (Nat → Int32)) ((Nat → Int64) × (Nat → Int32))) (B_X6_chooseOrders_38_2 spl tpl sh p0 v27 g28 g29 r2) 4 ((0 : Int32), g28, g29) := by subst e33 w36; unfold B_X6_chooseOrders_9; refine Eq.trans (if_neg c31) ?_; refine Eq.trans (if_pos c37) ?_; rfl
theorem exl_X6_chooseOrders_3 {spl : Nat → Nat → Int32} {tpl : Nat → Nat → Int64} {sh : Nat → Nat → Int32} {p0 : Int32} {v27 : Int32} {g28 : Nat → Int64} {g29 : Nat → Int32} {r2 : Int32} {v52 : Int32} {g53 : Nat → Int64} {g54 : Nat → Int32} {v57 : Int32} (e57 : v57 = v27 + 1) (c56 : r2 < v52) : (B_X6_chooseOrders_38_2 spl tpl sh p0 v27 g28 g29 r2) (v52, g53, g54) = Sum.inr (Sum.inl (v57, g53, g54)) := by subst e57; unfold B_X6_chooseOrders_38_2; refine Eq.trans (if_pos c56) ?_; rfl
theorem exl_X6_chooseOrders_4 {spl : Nat → Nat → Int32} {tpl : Nat → Nat → Int64} {sh : Nat → Nat → Int32} {p0 : Int32} {v27 : Int32} {g28 : Nat → Int64} {g29 : Nat → Int32} {r2 : Int32} {v52 : Int32} {g53 : Nat → Int64} {g54 : Nat → Int32} {v68 : Int32} {g65 : Nat → Int64} {g67 : Nat → Int32} {v58 : Int32} {r60 : Int64} (e58 : v58 = (p0 + (1 : Int32))) (eg65 : g65 = vp_updL g53 (v27).toNatClampNeg r60) (eg67 : g67 = upd g54 (v27).toNatClampNeg v52) (e68 : v68 = v52 + 1) (c56 : ¬ (r2 < v52)) (w61 : r60 = J_X6_meanBehind (up2 spl 4 g54) (up2L tpl 3 g53) sh v27 v58 v52) (c63 : v52 = (0 : Int32)) : (B_X6_chooseOrders_38_2 spl tpl sh p0 v27 g28 g29 r2) (v52, g53, g54) = Sum.inl (v68, g65, g67) := by subst e58 eg65 eg67 e68; unfold B_X6_chooseOrders_38_2; refine Eq.trans (if_neg c56) ?_; refine lt_e w61 ?_; refine Eq.trans (if_pos c63) ?_; rfl
theorem exl_X6_chooseOrders_5 {spl : Nat → Nat → Int32} {tpl : Nat → Nat → Int64} {sh : Nat → Nat → Int32} {p0 : Int32} {v27 : Int32} {g28 : Nat → Int64} {g29 : Nat → Int32} {r2 : Int32} {v52 : Int32} {g53 : Nat → Int64} {g54 : Nat → Int32} {v73 : Int32} {v58 : Int32} {v70 : Int64} {v71 : Int32} {r60 : Int64} (e58 : v58 = (p0 + (1 : Int32))) (e70 : v70 = (g53 (v27).toNatClampNeg)) (e71 : v71 = (lg_cmp r60 v70)) (e73 : v73 = v52 + 1) (c56 : ¬ (r2 < v52)) (w61 : r60 = J_X6_meanBehind (up2 spl 4 g54) (up2L tpl 3 g53) sh v27 v58 v52) (c63 : ¬ (v52 = (0 : Int32))) (c72 : (0 : Int32) ≤ v71) : (B_X6_chooseOrders_38_2 spl tpl sh p0 v27 g28 g29 r2) (v52, g53, g54) = Sum.inl (v73, g53, g54) := by subst e58 e70 e71 e73; unfold B_X6_chooseOrders_38_2; refine Eq.trans (if_neg c56) ?_; refine lt_e w61 ?_; refine Eq.trans (if_neg c63) ?_; refine Eq.trans (if_pos c72) ?_; rfl
theorem exl_X6_chooseOrders_6 {spl : Nat → Nat → Int32} {tpl : Nat → Nat → Int64} {sh : Nat → Nat → Int32} {p0 : Int32} {v27 : Int32} {g28 : Nat → Int64} {g29 : Nat → Int32} {r2 : Int32} {v52 : Int32} {g53 : Nat → Int64} {g54 : Nat → Int32} {v78 : Int32} {g75 : Nat → Int64} {g77 : Nat → Int32} {v58 : Int32} {v70 : Int64} {v71 : Int32} {r60 : Int64} (e58 : v58 = (p0 + (1 : Int32))) (e70 : v70 = (g53 (v27).toNatClampNeg)) (e71 : v71 = (lg_cmp r60 v70)) (eg75 : g75 = vp_updL g53 (v27).toNatClampNeg r60) (eg77 : g77 = upd g54 (v27).toNatClampNeg v52) (e78 : v78 = v52 + 1) (c56 : ¬ (r2 < v52)) (w61 : r60 = J_X6_meanBehind (up2 spl 4 g54) (up2L tpl 3 g53) sh v27 v58 v52) (c63 : ¬ (v52 = (0 : Int32))) (c72 : ¬ ((0 : Int32) ≤ v71)) : (B_X6_chooseOrders_38_2 spl tpl sh p0 v27 g28 g29 r2) (v52, g53, g54) = Sum.inl (v78, g75, g77) := by subst e58 e70 e71 eg75 eg77 e78; unfold B_X6_chooseOrders_38_2; refine Eq.trans (if_neg c56) ?_; refine lt_e w61 ?_; refine Eq.trans (if_neg c63) ?_; refine Eq.trans (if_neg c72) ?_; rfl
theorem exl_X6_chooseOrders_7 {spl : Nat → Nat → Int32} {tpl : Nat → Nat → Int64} {sh : Nat → Nat → Int32} {p0 : Int32} {r2 : Int32} {v27 : Int32} {g28 : Nat → Int64} {g29 : Nat → Int32} {v80 : Int32} {v33 : Int32} {r35 : Int32} (e33 : v33 = (zALL.getD (v27).toNatClampNeg 0)) (w36 : r35 = J_X3_total v33) (e80 : v80 = v27 + 1) (c31 : ¬ ((35 : Int32) ≤ v27)) (c37 : ¬ (r35 ≤ (sh 0 1))) : (B_X6_chooseOrders_9 spl tpl sh p0 r2) (v27, g28, g29) = Sum.inl (v80, g28, g29) := by subst e33 w36 e80; unfold B_X6_chooseOrders_9; refine Eq.trans (if_neg c31) ?_; refine Eq.trans (if_neg c37) ?_; rfl
set_option maxHeartbeats 4000000 in
set_option maxRecDepth 100000 in
theorem c_X6_chooseOrders (l : Launch) (D : va_G) (k : Nat → ClassId) (b : Nat → Nat) (qpl : Nat → Nat) (spl : Nat → Nat → Int32) (tpl : Nat → Nat → Int64) (qh : Nat → Nat) (sh : Nat → Nat → Int32) (sz : Nat) (p0 : Int32) (h_su : SUok (sh 5)) (h_wk : 0 ≤ (sh 0 0).toInt ∧ (sh 0 0).toInt ≤ 5) (hp0 : 0 ≤ p0.toInt ∧ p0.toInt ≤ 4) : MetV l D k b yX6_chooseOrders wsX6_chooseOrders ({ frames := 2, cells := 0, slots := 0, locals := 49 } : Room) [cell65_ qpl spl, cell26_ k qpl tpl, cell23_ k qpl spl, cell24_ k qpl tpl, cell25_ k qpl spl, cell32_ qh sh, cell0_ k qh sh, cell1_ k qh sh, cell4_ k qh sh, cell3_ k qh sh, cell2_ k qh sh] sz [.ref (qpl 0), .ref (qh 0), .int p0] (fun (u : (Nat → Int64) × (Nat → Int32)) => ((u.1), (u.2)) = J_X6_chooseOrders spl tpl sh p0) (fun u => [cell65_ qpl spl, cell26_ k qpl tpl, cell23_ k qpl spl, cell115_ k qpl (u.1), cell116_ k qpl (u.2), cell32_ qh sh, cell0_ k qh sh, cell1_ k qh sh, cell4_ k qh sh, cell3_ k qh sh, cell2_ k qh sh]) := by
  refine g_enter (cc := cX6_chooseOrders) (maxL := 8) (ret := none) (by decide) rfl (Nat.le_of_ble_eq_true rfl) ?_
  intro p e s m below meth c A hsz hAe cx hr hP hD hS ls hl
  rw [hAe]
  refine g_q (fun Q hQ => ?_)
  have hx := cx.1.1
  have hb := cx.1.2.1
  have bp0 := i_rng p0
  have hl : lv_has ls 8 [(0, .ref (qpl 0)), (1, .ref (qh 0)), (2, .int p0)] := hl
  obtain ⟨H, eH⟩ : ∃ H : Heap, H = s.heap := ⟨_, rfl⟩
  obtain ⟨locs, el⟩ : ∃ L : List Loc, L = [] := ⟨_, rfl⟩
  have hP : va_P D vwCl [cell65_ qpl spl, cell26_ k qpl tpl, cell23_ k qpl spl, cell24_ k qpl tpl, cell25_ k qpl spl, cell32_ qh sh, cell0_ k qh sh, cell1_ k qh sh, cell4_ k qh sh, cell3_ k qh sh, cell2_ k qh sh] H := by rw [eH]; exact hP
  have hD : va_D A [cell65_ qpl spl, cell26_ k qpl tpl, cell23_ k qpl spl, cell24_ k qpl tpl, cell25_ k qpl spl, cell32_ qh sh, cell0_ k qh sh, cell1_ k qh sh, cell4_ k qh sh, cell3_ k qh sh, cell2_ k qh sh] := hD
  have hS : va_S A s.heap H locs := by rw [eH, el]; exact hS
  suffices goal : W p l e ({ frames := 2, cells := 0, slots := 0, locals := 49 } : Room) s m ([.ref (qpl 0), .ref (qh 0), .int p0] : List Value).toArray below meth c H locs 0 0 Q (F0 m 0 ls []) by rw [eH, el] at goal; exact goal
  refine lv_aload_n hx hb dX6_chooseOrders_0 rfl (lv_at hl 1 rfl) ?_
  refine lv_iload_n hx hb dX6_chooseOrders_1 rfl (lv_at hl 2 rfl) ?_
  refine g_ir (g_runV (wc := [cell32_ qh sh, cell0_ k qh sh, cell1_ k qh sh, cell4_ k qh sh, cell3_ k qh sh, cell2_ k qh sh]) (rest := []) cx hP hD hS [5, 6, 7, 8, 9, 10] rfl (by decide) [.int p0] (c_X4_mostOrdered l D k b qh sh H.size p0 (show 0 ≤ (sh 0 0).toInt ∧ (sh 0 0).toInt ≤ 5 from by first | decide | omega)) gX6_chooseOrders_X4_mostOrdered rfl rfl rfl nd_X4_mostOrdered ⟨Nat.le_of_ble_eq_true rfl, Nat.le_of_ble_eq_true rfl⟩ (ci := 2) (q0 := 0) rfl rfl rfl hl.1 rfl (Nat.le_of_ble_eq_true rfl) ⟨Nat.zero_le _, Nat.zero_le _⟩ dX6_chooseOrders_2) cx.2.2.1 hP hD hS [5, 6, 7, 8, 9, 10] rfl rfl (fun r2 H locs hw1 hP hS => ?_)
  replace hw1 : (0 ≤ r2.toInt ∧ r2.toInt ≤ 2) ∧ (r2 = J_X4_mostOrdered sh p0) := hw1
  obtain ⟨w3, w4⟩ := hw1
  refine lv_istore_n (lv' := [(3, .int r2), (0, .ref (qpl 0)), (1, .ref (qh 0)), (2, .int p0)]) hx hb dX6_chooseOrders_5 rfl hl (by decide) rfl (fun ls hl => ?_)
  refine lv_iconst (v := 0) hx hb dX6_chooseOrders_6 (by decide) ?_
  refine lv_istore (lv' := [(4, .int 0), (3, .int r2), (0, .ref (qpl 0)), (1, .ref (qh 0)), (2, .int p0)]) hx hb dX6_chooseOrders_7 hl (by decide) rfl (fun ls hl => ?_)
  obtain ⟨rr9_1, err9_1⟩ : ∃ r : (Nat → Int64) × (Nat → Int32), LTs (default : (Nat → Int64) × (Nat → Int32)) (B_X6_chooseOrders_9 spl tpl sh p0 r2) 36 ((0 : Int32), (tpl 3), (spl 4)) = r := ⟨_, rfl⟩
  have hrr9_1 : J_X6_chooseOrders spl tpl sh p0 = rr9_1 := ((exl_X6_chooseOrders_0 w4)).trans err9_1
  have hL9 : ∀ (n30 : Nat) (v27 : Int32) (g28 : Nat → Int64) (g29 : Nat → Int32) (H : Heap) (locs : List Loc) (ls : Array Slot), 35 - v27.toInt < (n30 : Int) → (0 ≤ v27.toInt ∧ v27.toInt ≤ 35) → (LTs (default : (Nat → Int64) × (Nat → Int32)) (B_X6_chooseOrders_9 spl tpl sh p0 r2) n30 (v27, g28, g29) = rr9_1) → va_P D vwCl [cell65_ qpl spl, cell26_ k qpl tpl, cell23_ k qpl spl, (qpl 3, .inl (k 1, 35, .inr (.inl g28))), (qpl 4, .inl (k 0, 35, .inl g29)), cell32_ qh sh, cell0_ k qh sh, cell1_ k qh sh, cell4_ k qh sh, cell3_ k qh sh, cell2_ k qh sh] H → va_D A [cell65_ qpl spl, cell26_ k qpl tpl, cell23_ k qpl spl, (qpl 3, .inl (k 1, 35, .inr (.inl g28))), (qpl 4, .inl (k 0, 35, .inl g29)), cell32_ qh sh, cell0_ k qh sh, cell1_ k qh sh, cell4_ k qh sh, cell3_ k qh sh, cell2_ k qh sh] → va_S A s.heap H locs → lv_has ls 8 [(4, .int v27), (3, .int r2), (0, .ref (qpl 0)), (1, .ref (qh 0)), (2, .int p0)] → W p l e ({ frames := 2, cells := 0, slots := 0, locals := 49 } : Room) s m ([.ref (qpl 0), .ref (qh 0), .int p0] : List Value).toArray below meth c H locs 0 0 Q (F0 m 9 ls []) := by
    intro n30
    induction n30 with
    | zero => intro v27 g28 g29 H locs ls hmn30 bv27 hzrr9_1 hP hD hS hl; exact absurd hmn30 (by omega)
    | succ n30 ih9 =>
      intro v27 g28 g29 H locs ls hmn30 bv27 hzrr9_1 hP hD hS hl
      refine lv_iload hx hb dX6_chooseOrders_9 (lv_at hl 0 rfl) ?_
      refine lv_bipush (v := 35) hx hb dX6_chooseOrders_11 (by decide) ?_
      refine lv_icmp_ge (tgt := 106) hx hb dX6_chooseOrders_13 (by decide) (fun c31 => ?_) (fun c31 => ?_)
      · have f31 : 35 ≤ v27.toInt := f_le (by decide) rfl c31
        rw [hQ]
        exact x_v cx hr (g28, g29) hP hD hS (show (g28, g29) = J_X6_chooseOrders spl tpl sh p0 from ((hrr9_1.trans (LT_r hzrr9_1 (exl_X6_chooseOrders_1 c31)))).symm) dX6_chooseOrders_106
      · have f31 : v27.toInt < 35 := f_nle (by decide) rfl c31
        refine va_gets hx hb cx.2.2.2.t0.1 hS cx.1.2.2.2.1 (cx.1.2.2.2.2 _ fw_X6_chooseOrders_45) (fun _ h => h) dX6_chooseOrders_16 ?_
        refine lv_iload hx hb dX6_chooseOrders_19 (lv_at hl 0 rfl) ?_
        have hn32 : vp_in v27 35 := f_in (a := v27.toInt) rfl (by omega) (by omega)
        refine va_ti hx hb cx.2.2.2.t0.2 hS hn32 rfl dX6_chooseOrders_21 (lv_topi (fun v33 e33 => ?_))
        have t33 : 0 ≤ v33.toInt ∧ v33.toInt ≤ 400 ∧ v33.toInt / 100 + v33.toInt / 10 % 10 + v33.toInt % 10 ≤ 4 := by rw [e33]; exact zALL_v _
        refine g_ir (g_runS (wc := []) (rest := []) cx hP hD hS [] rfl (by decide) [.int v33] (c_X3_total l D k b H.size v33) gX6_chooseOrders_X3_total rfl rfl rfl nd_X3_total ⟨Nat.le_of_ble_eq_true rfl, Nat.le_of_ble_eq_true rfl⟩ rfl hl.1 rfl (Nat.le_of_ble_eq_true rfl) ⟨Nat.zero_le _, Nat.zero_le _⟩ dX6_chooseOrders_22) cx.2.2.1 hP hD hS [] rfl rfl (fun r35 H locs hw34 hP hS => ?_)
        have w36 : r35 = J_X3_total v33 := hw34
        clear hw34
        have zr35 : r35.toInt = tot v33 := tot3 w36 (show 0 ≤ v33.toInt from by first | decide | omega)
        have yr35 := tot_0 (x := v33) (by first | decide | omega)
        refine lv_aload_n hx hb dX6_chooseOrders_25 rfl (lv_at hl 3 rfl) ?_
        refine g_get cx hP iw_X6_chooseOrders_X4 5 rfl rfl 1 (by decide) rfl fw_X6_chooseOrders_64 rfl dX6_chooseOrders_26 ?_
        refine lv_icmp_le (tgt := 35) hx hb dX6_chooseOrders_29 (by decide) (fun c37 => ?_) (fun c37 => ?_)
        · have f37 : r35.toInt ≤ (sh 0 1).toInt := f_le rfl rfl c37
          refine lv_iconst (v := 0) hx hb dX6_chooseOrders_35 (by decide) ?_
          refine lv_istore (lv' := [(5, .int 0), (4, .int v27), (3, .int r2), (0, .ref (qpl 0)), (1, .ref (qh 0)), (2, .int p0)]) hx hb dX6_chooseOrders_36 hl (by decide) rfl (fun ls hl => ?_)
          obtain ⟨rr38_2, err38_2⟩ : ∃ r : Sum (Int32 × (Nat → Int64) × (Nat → Int32)) ((Nat → Int64) × (Nat → Int32)), LTs (Sum.inl default : Sum (Int32 × (Nat → Int64) × (Nat → Int32)) ((Nat → Int64) × (Nat → Int32))) (B_X6_chooseOrders_38_2 spl tpl sh p0 v27 g28 g29 r2) 4 ((0 : Int32), g28, g29) = r := ⟨_, rfl⟩
          have hrr38_2 : (B_X6_chooseOrders_9 spl tpl sh p0 r2) (v27, g28, g29) = rr38_2 := ((exl_X6_chooseOrders_2 e33 w36 c31 c37)).trans err38_2
          have hL38 : ∀ (n55 : Nat) (v52 : Int32) (g53 : Nat → Int64) (g54 : Nat → Int32) (H : Heap) (locs : List Loc) (ls : Array Slot), 3 - v52.toInt < (n55 : Int) → (0 ≤ v52.toInt ∧ v52.toInt ≤ 3) → (LTs (Sum.inl default : Sum (Int32 × (Nat → Int64) × (Nat → Int32)) ((Nat → Int64) × (Nat → Int32))) (B_X6_chooseOrders_38_2 spl tpl sh p0 v27 g28 g29 r2) n55 (v52, g53, g54) = rr38_2) → va_P D vwCl [cell65_ qpl spl, cell26_ k qpl tpl, cell23_ k qpl spl, (qpl 3, .inl (k 1, 35, .inr (.inl g53))), (qpl 4, .inl (k 0, 35, .inl g54)), cell32_ qh sh, cell0_ k qh sh, cell1_ k qh sh, cell4_ k qh sh, cell3_ k qh sh, cell2_ k qh sh] H → va_D A [cell65_ qpl spl, cell26_ k qpl tpl, cell23_ k qpl spl, (qpl 3, .inl (k 1, 35, .inr (.inl g53))), (qpl 4, .inl (k 0, 35, .inl g54)), cell32_ qh sh, cell0_ k qh sh, cell1_ k qh sh, cell4_ k qh sh, cell3_ k qh sh, cell2_ k qh sh] → va_S A s.heap H locs → lv_has ls 8 [(5, .int v52), (4, .int v27), (3, .int r2), (0, .ref (qpl 0)), (1, .ref (qh 0)), (2, .int p0)] → W p l e ({ frames := 2, cells := 0, slots := 0, locals := 49 } : Room) s m ([.ref (qpl 0), .ref (qh 0), .int p0] : List Value).toArray below meth c H locs 0 0 Q (F0 m 38 ls []) := by
            intro n55
            induction n55 with
            | zero => intro v52 g53 g54 H locs ls hmn55 bv52 hzrr38_2 hP hD hS hl; exact absurd hmn55 (by omega)
            | succ n55 ih38 =>
              intro v52 g53 g54 H locs ls hmn55 bv52 hzrr38_2 hP hD hS hl
              refine lv_iload hx hb dX6_chooseOrders_38 (lv_at hl 0 rfl) ?_
              refine lv_iload_n hx hb dX6_chooseOrders_40 rfl (lv_at hl 2 rfl) ?_
              refine lv_icmp_gt (tgt := 100) hx hb dX6_chooseOrders_41 (by decide) (fun c56 => ?_) (fun c56 => ?_)
              · have f56 : r2.toInt < v52.toInt := f_lt rfl rfl c56
                obtain ⟨v57, e57⟩ : ∃ z : Int32, z = v27 + 1 := ⟨_, rfl⟩
                refine lv_iinc (v := v57) (lv' := [(4, .int v57), (5, .int v52), (3, .int r2), (0, .ref (qpl 0)), (1, .ref (qh 0)), (2, .int p0)]) hx hb dX6_chooseOrders_100 hl (k := 1) rfl (by rw [e57]; rfl) (by decide) rfl (fun ls hl => ?_)
                have t57 : v57.toInt = v27.toInt + 1 := by rw [e57]; exact i_add rfl (by decide) (by omega) (by omega)
                refine lv_goto (tgt := 9) hx hb dX6_chooseOrders_103 (by decide) ?_
                exact ih9 v57 g53 g54 _ _ _ (by omega) (by first | decide | omega) (LT_g hzrr9_1 (hrr38_2.trans (LT_r hzrr38_2 (exl_X6_chooseOrders_3 e57 c56)))) hP hD hS (lv_sub hl [0, 2, 3, 4, 5] rfl)
              · have f56 : v52.toInt ≤ r2.toInt := f_nlt rfl rfl c56
                refine lv_aload_n hx hb dX6_chooseOrders_44 rfl (lv_at hl 3 rfl) ?_
                refine lv_aload_n hx hb dX6_chooseOrders_45 rfl (lv_at hl 4 rfl) ?_
                refine lv_iload hx hb dX6_chooseOrders_46 (lv_at hl 1 rfl) ?_
                refine lv_iload_n hx hb dX6_chooseOrders_48 rfl (lv_at hl 5 rfl) ?_
                refine lv_iconst (v := 1) hx hb dX6_chooseOrders_49 (by decide) ?_
                refine lv_iadd hx hb dX6_chooseOrders_50 (lv_topi (fun v58 e58 => ?_))
                have t58 : v58.toInt = p0.toInt + 1 := by rw [e58]; exact i_add rfl (by decide) (by omega) (by omega)
                refine lv_iload hx hb dX6_chooseOrders_51 (lv_at hl 0 rfl) ?_
                refine g_lF (w1 := fun (_ : Unit) => [cell65_ qpl spl, cell26_ k qpl tpl, cell23_ k qpl spl, (qpl 3, .inl (k 1, 35, .inr (.inl g53))), (qpl 4, .inl (k 0, 35, .inl g54)), cell32_ qh sh, cell0_ k qh sh, cell1_ k qh sh, cell4_ k qh sh, cell3_ k qh sh, cell2_ k qh sh]) (g_runVF (ws := [cell65_ qpl spl, cell26_ k qpl tpl, cell23_ k qpl spl, (qpl 3, .inl (k 1, 35, .inr (.inl g53))), (qpl 4, .inl (k 0, 35, .inl g54)), cell32_ qh sh, cell0_ k qh sh, cell1_ k qh sh, cell4_ k qh sh, cell3_ k qh sh, cell2_ k qh sh]) (rest := []) cx hP hD hS [.ref (qh 0), .int v27, .int v58, .int v52] (c_X6_meanBehind l D k b qpl (up2 spl 4 g54) (up2L tpl 3 g53) qh sh H.size v27 v58 v52 (show SUok (sh 5) from by assumption) (show 0 ≤ v27.toInt ∧ v27.toInt ≤ 34 from by first | decide | omega) (show 0 ≤ v58.toInt ∧ v58.toInt ≤ 5 from by first | decide | omega) (show 0 ≤ v52.toInt ∧ v52.toInt ≤ 2 from by first | decide | omega)) gX6_chooseOrders_X6_meanBehind rfl rfl rfl nd_X6_meanBehind ⟨Nat.le_of_ble_eq_true rfl, Nat.le_of_ble_eq_true rfl⟩ (ci := 4) (q0 := 0) rfl rfl rfl hl.1 rfl (Nat.le_of_ble_eq_true rfl) ⟨Nat.zero_le _, Nat.zero_le _⟩ dX6_chooseOrders_53) cx.2.2.1 hD hS (fun r60 _ H locs hw59 hP hD hS => ?_)
                have w61 : r60 = J_X6_meanBehind (up2 spl 4 g54) (up2L tpl 3 g53) sh v27 v58 v52 := hw59
                clear hw59
                refine lv_lstore (lv' := [(6, .long r60), (5, .int v52), (4, .int v27), (3, .int r2), (0, .ref (qpl 0)), (1, .ref (qh 0)), (2, .int p0)]) hx hb dX6_chooseOrders_56 hl (by decide) rfl (fun ls hl => ?_)
                refine lv_iload hx hb dX6_chooseOrders_58 (lv_at hl 1 rfl) ?_
                refine lv_if_eq (tgt := 76) hx hb dX6_chooseOrders_60 (by decide) (fun c63 => ?_) (fun c63 => ?_)
                · have f63 : v52.toInt = 0 := f_eq rfl (by decide) c63
                  refine lv_aload_n hx hb dX6_chooseOrders_76 rfl (lv_at hl 4 rfl) ?_
                  refine g_get cx hP iw_X6_chooseOrders_X6 0 rfl rfl 3 (by decide) rfl fw_X6_chooseOrders_21 rfl dX6_chooseOrders_77 ?_
                  refine lv_iload hx hb dX6_chooseOrders_80 (lv_at hl 2 rfl) ?_
                  refine lv_lload hx hb dX6_chooseOrders_82 (lv_at hl 0 rfl) ?_
                  have hn64 : vp_in v27 35 := f_in (a := v27.toInt) rfl (by omega) (by omega)
                  refine va_last hx hb cx.2.1 hP hD hS 3 1 rfl rfl hn64 dX6_chooseOrders_84 (fun H locs hP hD hS => ?_)
                  obtain ⟨g65, eg65⟩ : ∃ g : Nat → Int64, g = vp_updL g53 (v27).toNatClampNeg r60 := ⟨_, rfl⟩
                  rw [← eg65] at hP hD
                  have hP : va_P D vwCl [cell65_ qpl spl, cell26_ k qpl tpl, cell23_ k qpl spl, (qpl 3, .inl (k 1, 35, .inr (.inl g65))), (qpl 4, .inl (k 0, 35, .inl g54)), cell32_ qh sh, cell0_ k qh sh, cell1_ k qh sh, cell4_ k qh sh, cell3_ k qh sh, cell2_ k qh sh] H := hP
                  have hD : va_D A [cell65_ qpl spl, cell26_ k qpl tpl, cell23_ k qpl spl, (qpl 3, .inl (k 1, 35, .inr (.inl g65))), (qpl 4, .inl (k 0, 35, .inl g54)), cell32_ qh sh, cell0_ k qh sh, cell1_ k qh sh, cell4_ k qh sh, cell3_ k qh sh, cell2_ k qh sh] := hD
                  refine lv_aload_n hx hb dX6_chooseOrders_85 rfl (lv_at hl 4 rfl) ?_
                  refine g_get cx hP iw_X6_chooseOrders_X6 0 rfl rfl 4 (by decide) rfl fw_X6_chooseOrders_24 rfl dX6_chooseOrders_86 ?_
                  refine lv_iload hx hb dX6_chooseOrders_89 (lv_at hl 2 rfl) ?_
                  refine lv_iload hx hb dX6_chooseOrders_91 (lv_at hl 1 rfl) ?_
                  have hn66 : vp_in v27 35 := f_in (a := v27.toInt) rfl (by omega) (by omega)
                  refine va_iast hx hb cx.2.1 hP hD hS 4 0 rfl rfl hn66 dX6_chooseOrders_93 (fun H locs hP hD hS => ?_)
                  obtain ⟨g67, eg67⟩ : ∃ g : Nat → Int32, g = upd g54 (v27).toNatClampNeg v52 := ⟨_, rfl⟩
                  rw [← eg67] at hP hD
                  have hP : va_P D vwCl [cell65_ qpl spl, cell26_ k qpl tpl, cell23_ k qpl spl, (qpl 3, .inl (k 1, 35, .inr (.inl g65))), (qpl 4, .inl (k 0, 35, .inl g67)), cell32_ qh sh, cell0_ k qh sh, cell1_ k qh sh, cell4_ k qh sh, cell3_ k qh sh, cell2_ k qh sh] H := hP
                  have hD : va_D A [cell65_ qpl spl, cell26_ k qpl tpl, cell23_ k qpl spl, (qpl 3, .inl (k 1, 35, .inr (.inl g65))), (qpl 4, .inl (k 0, 35, .inl g67)), cell32_ qh sh, cell0_ k qh sh, cell1_ k qh sh, cell4_ k qh sh, cell3_ k qh sh, cell2_ k qh sh] := hD
                  obtain ⟨v68, e68⟩ : ∃ z : Int32, z = v52 + 1 := ⟨_, rfl⟩
                  refine lv_iinc (v := v68) (lv' := [(5, .int v68), (6, .long r60), (4, .int v27), (3, .int r2), (0, .ref (qpl 0)), (1, .ref (qh 0)), (2, .int p0)]) hx hb dX6_chooseOrders_94 hl (k := 1) rfl (by rw [e68]; rfl) (by decide) rfl (fun ls hl => ?_)
                  have t68 : v68.toInt = v52.toInt + 1 := by rw [e68]; exact i_add rfl (by decide) (by omega) (by omega)
                  refine lv_goto (tgt := 38) hx hb dX6_chooseOrders_97 (by decide) ?_
                  exact ih38 v68 g65 g67 _ _ _ (by omega) (by first | decide | omega) (LT_g hzrr38_2 (exl_X6_chooseOrders_4 e58 eg65 eg67 e68 c56 w61 c63)) hP hD hS (lv_sub hl [0, 2, 3, 4, 5, 6] rfl)
                · have f63 : ¬ v52.toInt = 0 := f_ne rfl (by decide) c63
                  refine lv_lload hx hb dX6_chooseOrders_63 (lv_at hl 0 rfl) ?_
                  refine lv_aload_n hx hb dX6_chooseOrders_65 rfl (lv_at hl 4 rfl) ?_
                  refine g_get cx hP iw_X6_chooseOrders_X6 0 rfl rfl 3 (by decide) rfl fw_X6_chooseOrders_21 rfl dX6_chooseOrders_66 ?_
                  refine lv_iload hx hb dX6_chooseOrders_69 (lv_at hl 2 rfl) ?_
                  have hn69 : vp_in v27 35 := f_in (a := v27.toInt) rfl (by omega) (by omega)
                  refine va_lald hx hb cx.2.1 hP 3 1 rfl rfl hn69 dX6_chooseOrders_71 (lv_topl (fun v70 e70 => ?_))
                  refine W.lcmp hx hb dX6_chooseOrders_72 (lv_topi (fun v71 e71 => ?_))
                  refine lv_if_ge (tgt := 94) hx hb dX6_chooseOrders_73 (by decide) (fun c72 => ?_) (fun c72 => ?_)
                  · have f72 : 0 ≤ v71.toInt := f_le (by decide) rfl c72
                    obtain ⟨v73, e73⟩ : ∃ z : Int32, z = v52 + 1 := ⟨_, rfl⟩
                    refine lv_iinc (v := v73) (lv' := [(5, .int v73), (6, .long r60), (4, .int v27), (3, .int r2), (0, .ref (qpl 0)), (1, .ref (qh 0)), (2, .int p0)]) hx hb dX6_chooseOrders_94 hl (k := 1) rfl (by rw [e73]; rfl) (by decide) rfl (fun ls hl => ?_)
                    have t73 : v73.toInt = v52.toInt + 1 := by rw [e73]; exact i_add rfl (by decide) (by omega) (by omega)
                    refine lv_goto (tgt := 38) hx hb dX6_chooseOrders_97 (by decide) ?_
                    exact ih38 v73 g53 g54 _ _ _ (by omega) (by first | decide | omega) (LT_g hzrr38_2 (exl_X6_chooseOrders_5 e58 e70 e71 e73 c56 w61 c63 c72)) hP hD hS (lv_sub hl [0, 2, 3, 4, 5, 6] rfl)
                  · have f72 : v71.toInt < 0 := f_nle (by decide) rfl c72
                    refine lv_aload_n hx hb dX6_chooseOrders_76 rfl (lv_at hl 4 rfl) ?_
                    refine g_get cx hP iw_X6_chooseOrders_X6 0 rfl rfl 3 (by decide) rfl fw_X6_chooseOrders_21 rfl dX6_chooseOrders_77 ?_
                    refine lv_iload hx hb dX6_chooseOrders_80 (lv_at hl 2 rfl) ?_
                    refine lv_lload hx hb dX6_chooseOrders_82 (lv_at hl 0 rfl) ?_
                    have hn74 : vp_in v27 35 := f_in (a := v27.toInt) rfl (by omega) (by omega)
                    refine va_last hx hb cx.2.1 hP hD hS 3 1 rfl rfl hn74 dX6_chooseOrders_84 (fun H locs hP hD hS => ?_)
                    obtain ⟨g75, eg75⟩ : ∃ g : Nat → Int64, g = vp_updL g53 (v27).toNatClampNeg r60 := ⟨_, rfl⟩
                    rw [← eg75] at hP hD
                    have hP : va_P D vwCl [cell65_ qpl spl, cell26_ k qpl tpl, cell23_ k qpl spl, (qpl 3, .inl (k 1, 35, .inr (.inl g75))), (qpl 4, .inl (k 0, 35, .inl g54)), cell32_ qh sh, cell0_ k qh sh, cell1_ k qh sh, cell4_ k qh sh, cell3_ k qh sh, cell2_ k qh sh] H := hP
                    have hD : va_D A [cell65_ qpl spl, cell26_ k qpl tpl, cell23_ k qpl spl, (qpl 3, .inl (k 1, 35, .inr (.inl g75))), (qpl 4, .inl (k 0, 35, .inl g54)), cell32_ qh sh, cell0_ k qh sh, cell1_ k qh sh, cell4_ k qh sh, cell3_ k qh sh, cell2_ k qh sh] := hD
                    refine lv_aload_n hx hb dX6_chooseOrders_85 rfl (lv_at hl 4 rfl) ?_
                    refine g_get cx hP iw_X6_chooseOrders_X6 0 rfl rfl 4 (by decide) rfl fw_X6_chooseOrders_24 rfl dX6_chooseOrders_86 ?_
                    refine lv_iload hx hb dX6_chooseOrders_89 (lv_at hl 2 rfl) ?_
                    refine lv_iload hx hb dX6_chooseOrders_91 (lv_at hl 1 rfl) ?_
                    have hn76 : vp_in v27 35 := f_in (a := v27.toInt) rfl (by omega) (by omega)
                    refine va_iast hx hb cx.2.1 hP hD hS 4 0 rfl rfl hn76 dX6_chooseOrders_93 (fun H locs hP hD hS => ?_)
                    obtain ⟨g77, eg77⟩ : ∃ g : Nat → Int32, g = upd g54 (v27).toNatClampNeg v52 := ⟨_, rfl⟩
                    rw [← eg77] at hP hD
                    have hP : va_P D vwCl [cell65_ qpl spl, cell26_ k qpl tpl, cell23_ k qpl spl, (qpl 3, .inl (k 1, 35, .inr (.inl g75))), (qpl 4, .inl (k 0, 35, .inl g77)), cell32_ qh sh, cell0_ k qh sh, cell1_ k qh sh, cell4_ k qh sh, cell3_ k qh sh, cell2_ k qh sh] H := hP
                    have hD : va_D A [cell65_ qpl spl, cell26_ k qpl tpl, cell23_ k qpl spl, (qpl 3, .inl (k 1, 35, .inr (.inl g75))), (qpl 4, .inl (k 0, 35, .inl g77)), cell32_ qh sh, cell0_ k qh sh, cell1_ k qh sh, cell4_ k qh sh, cell3_ k qh sh, cell2_ k qh sh] := hD
                    obtain ⟨v78, e78⟩ : ∃ z : Int32, z = v52 + 1 := ⟨_, rfl⟩
                    refine lv_iinc (v := v78) (lv' := [(5, .int v78), (6, .long r60), (4, .int v27), (3, .int r2), (0, .ref (qpl 0)), (1, .ref (qh 0)), (2, .int p0)]) hx hb dX6_chooseOrders_94 hl (k := 1) rfl (by rw [e78]; rfl) (by decide) rfl (fun ls hl => ?_)
                    have t78 : v78.toInt = v52.toInt + 1 := by rw [e78]; exact i_add rfl (by decide) (by omega) (by omega)
                    refine lv_goto (tgt := 38) hx hb dX6_chooseOrders_97 (by decide) ?_
                    exact ih38 v78 g75 g77 _ _ _ (by omega) (by first | decide | omega) (LT_g hzrr38_2 (exl_X6_chooseOrders_6 e58 e70 e71 eg75 eg77 e78 c56 w61 c63 c72)) hP hD hS (lv_sub hl [0, 2, 3, 4, 5, 6] rfl)
          have hlit79 : (0 : Int32).toInt = 0 := by decide
          exact hL38 (4) 0 g28 g29 _ _ _ (by omega) (by first | decide | omega) err38_2 hP hD hS (lv_sub hl [0, 1, 2, 3, 4, 5] rfl)
        · have f37 : (sh 0 1).toInt < r35.toInt := f_nle rfl rfl c37
          refine lv_goto (tgt := 100) hx hb dX6_chooseOrders_32 (by decide) ?_
          obtain ⟨v80, e80⟩ : ∃ z : Int32, z = v27 + 1 := ⟨_, rfl⟩
          refine lv_iinc (v := v80) (lv' := [(4, .int v80), (3, .int r2), (0, .ref (qpl 0)), (1, .ref (qh 0)), (2, .int p0)]) hx hb dX6_chooseOrders_100 hl (k := 0) rfl (by rw [e80]; rfl) (by decide) rfl (fun ls hl => ?_)
          have t80 : v80.toInt = v27.toInt + 1 := by rw [e80]; exact i_add rfl (by decide) (by omega) (by omega)
          refine lv_goto (tgt := 9) hx hb dX6_chooseOrders_103 (by decide) ?_
          exact ih9 v80 g28 g29 _ _ _ (by omega) (by first | decide | omega) (LT_g hzrr9_1 (exl_X6_chooseOrders_7 e33 w36 e80 c31 c37)) hP hD hS (lv_sub hl [0, 1, 2, 3, 4] rfl)
  have hlit81 : (0 : Int32).toInt = 0 := by decide
  exact hL9 (36) 0 (tpl 3) (spl 4) _ _ _ (by omega) (by first | decide | omega) err9_1 hP hD hS (lv_sub hl [0, 1, 2, 3, 4] rfl)
theorem fw_X6_chooseAct_13 : Cond.fieldLink RX6 13 "StillInAugust$Plan" "cost" "[J" ∈ wsX6_chooseAct := by decide +kernel
theorem fw_X6_chooseAct_17 : Cond.fieldLink RX6 17 "StillInAugust$Plan" "first" "[I" ∈ wsX6_chooseAct := by decide +kernel
theorem fw_X6_chooseAct_21 : Cond.fieldLink RX6 21 "StillInAugust$Plan" "later" "[J" ∈ wsX6_chooseAct := by decide +kernel
theorem fw_X6_chooseAct_24 : Cond.fieldLink RX6 24 "StillInAugust$Plan" "order" "[I" ∈ wsX6_chooseAct := by decide +kernel
theorem kJ_X6_chooseAct_85 : Cond.constantLong RX6 85 (9223372036854775807) ∈ wsX6_chooseAct := by decide +kernel
theorem nd_X0_done : yX0_done.cls ≠ "java/lang/invoke/MethodHandle" ∧ yX0_done.cls ≠ "java/lang/invoke/VarHandle" ∧ (parseMethodDescriptor yX0_done.desc).map (fun d => d.parameters.length) = some 2 := by decide +kernel
theorem nd_X6_scale : yX6_scale.cls = RX6 ∧ yX6_scale.cls ≠ "java/lang/invoke/MethodHandle" ∧ yX6_scale.cls ≠ "java/lang/invoke/VarHandle" ∧ (parseMethodDescriptor yX6_scale.desc).map (fun d => d.parameters.length) = some 1 := by decide +kernel
theorem iw_X6_chooseAct_X6 : ∀ w ∈ u_ws RX6 TX6 5, w ∈ wsX6_chooseAct := fun _ h => List.mem_cons_of_mem _ (List.mem_append_left _ (List.mem_append_right _ h))
def B_X6_chooseAct_76_3 (spl : Nat → Nat → Int32) (tpl : Nat → Nat → Int64) (sh : Nat → Nat → Int32) (p0 : Int32) (p1 : Int32) (p2 : Int32) (v54 : Int32) (v55 : Int32) (v56 : Int64) (v111 : Int32) (v112 : Int32) (v113 : Int64) (y4 : Int64) (y9 : Int32) (y77 : Int32) (y123 : Int32) (z : Int32 × Int32 × Int64) : Sum (Int32 × Int32 × Int64) (Sum (Int32 × Int32 × Int64) (Sum (Int32 × Int32 × Int64) ((Nat → Int64) × (Nat → Int32)))) := let v149 := (z.1); let v150 := (z.2.1); let v151 := (z.2.2); if y123 < v149 then Sum.inr (Sum.inl (((v111 + 1), v150, v151))) else LetF (J_X4_weekCost sh p0 ((J_X0_done p1 (((((1000 : Int32) * v54) + ((100 : Int32) * v111)) + ((10 : Int32) * v149))))) p2 (((((1000 : Int32) * v54) + ((100 : Int32) * v111)) + ((10 : Int32) * v149)))) (fun y169 => if 0 ≤ (lg_cmp (((y169.toInt64) * y4) + ((tpl 3) ((J_X3_kind ((J_X0_done p1 (((((1000 : Int32) * v54) + ((100 : Int32) * v111)) + ((10 : Int32) * v149))))))).toNatClampNeg)) v151) then Sum.inl (((v149 + 1), v150, v151)) else Sum.inl (((v149 + 1), (((((1000 : Int32) * v54) + ((100 : Int32) * v111)) + ((10 : Int32) * v149)) + ((spl 4) ((J_X3_kind ((J_X0_done p1 (((((1000 : Int32) * v54) + ((100 : Int32) * v111)) + ((10 : Int32) * v149))))))).toNatClampNeg)), (((y169.toInt64) * y4) + ((tpl 3) ((J_X3_kind ((J_X0_done p1 (((((1000 : Int32) * v54) + ((100 : Int32) * v111)) + ((10 : Int32) * v149))))))).toNatClampNeg)))))
def B_X6_chooseAct_52_2 (spl : Nat → Nat → Int32) (tpl : Nat → Nat → Int64) (sh : Nat → Nat → Int32) (p0 : Int32) (p1 : Int32) (p2 : Int32) (v54 : Int32) (v55 : Int32) (v56 : Int64) (y4 : Int64) (y9 : Int32) (y77 : Int32) (z : Int32 × Int32 × Int64) : Sum (Int32 × Int32 × Int64) (Sum (Int32 × Int32 × Int64) ((Nat → Int64) × (Nat → Int32))) := let v111 := (z.1); let v112 := (z.2.1); let v113 := (z.2.2); if y77 < v111 then Sum.inr (Sum.inl (((v54 + 1), v112, v113))) else LetF (J_X4_mostTaught sh (((J_X3_lessYoungestFirst p1 v54) + ((100 : Int32) * v111)))) (fun y123 => LTs (Sum.inl default) (B_X6_chooseAct_76_3 spl tpl sh p0 p1 p2 v54 v55 v56 v111 v112 v113 y4 y9 y77 y123) 3 ((0 : Int32), v112, v113))
def B_X6_chooseAct_25 (spl : Nat → Nat → Int32) (tpl : Nat → Nat → Int64) (sh : Nat → Nat → Int32) (p0 : Int32) (p1 : Int32) (p2 : Int32) (y4 : Int64) (y9 : Int32) (z : Int32 × Int32 × Int64) : Sum (Int32 × Int32 × Int64) ((Nat → Int64) × (Nat → Int32)) := let v54 := (z.1); let v55 := (z.2.1); let v56 := (z.2.2); if y9 < v54 then Sum.inr (((vp_updL (tpl 1) ((J_X6_place p0 (J_X3_kind p1) p2)).toNatClampNeg v56), (upd (spl 2) ((J_X6_place p0 (J_X3_kind p1) p2)).toNatClampNeg v55))) else LetF (J_X4_mostTaken sh p0 (J_X3_lessYoungestFirst p1 v54)) (fun y77 => LTs (Sum.inl default) (B_X6_chooseAct_52_2 spl tpl sh p0 p1 p2 v54 v55 v56 y4 y9 y77) 6 ((0 : Int32), v55, v56))
def J_X6_chooseAct (spl : Nat → Nat → Int32) (tpl : Nat → Nat → Int64) (sh : Nat → Nat → Int32) (p0 : Int32) (p1 : Int32) (p2 : Int32) : (Nat → Int64) × (Nat → Int32) := LetF (J_X6_scale spl tpl p0) (fun y4 => LetF (J_X4_mostLetGo sh p1) (fun y9 => LTs default (B_X6_chooseAct_25 spl tpl sh p0 p1 p2 y4 y9) 6 ((0 : Int32), (0 : Int32), (9223372036854775807 : Int64))))
theorem exl_X6_chooseAct_0 {spl : Nat → Nat → Int32} {tpl : Nat → Nat → Int64} {sh : Nat → Nat → Int32} {p0 : Int32} {p1 : Int32} {p2 : Int32} {r2 : Int64} {r6 : Int32} (w3 : r2 = J_X6_scale spl tpl p0) (w8 : r6 = J_X4_mostLetGo sh p1) : J_X6_chooseAct spl tpl sh p0 p1 p2 = LTs (default : (Nat → Int64) × (Nat → Int32)) (B_X6_chooseAct_25 spl tpl sh p0 p1 p2 r2 r6) 6 ((0 : Int32), (0 : Int32), (9223372036854775807 : Int64)) := by unfold J_X6_chooseAct; refine lt_e w3 ?_; refine lt_e w8 ?_; rfl
theorem exl_X6_chooseAct_1 {spl : Nat → Nat → Int32} {tpl : Nat → Nat → Int64} {sh : Nat → Nat → Int32} {p0 : Int32} {p1 : Int32} {p2 : Int32} {r2 : Int64} {r6 : Int32} {v54 : Int32} {v55 : Int32} {v56 : Int64} {g66 : Nat → Int64} {g68 : Nat → Int32} {r60 : Int32} {r63 : Int32} (w61 : r60 = J_X3_kind p1) (w64 : r63 = J_X6_place p0 r60 p2) (eg66 : g66 = vp_updL (tpl 1) (r63).toNatClampNeg v56) (eg68 : g68 = upd (spl 2) (r63).toNatClampNeg v55) (c58 : r6 < v54) : (B_X6_chooseAct_25 spl tpl sh p0 p1 p2 r2 r6) (v54, v55, v56) = Sum.inr ((g66, g68)) := by subst w61 w64 eg66 eg68; unfold B_X6_chooseAct_25; refine Eq.trans (if_pos c58) ?_; rfl
theorem exl_X6_chooseAct_2 {spl : Nat → Nat → Int32} {tpl : Nat → Nat → Int64} {sh : Nat → Nat → Int32} {p0 : Int32} {p1 : Int32} {p2 : Int32} {r2 : Int64} {r6 : Int32} {v54 : Int32} {v55 : Int32} {v56 : Int64} {r73 : Int32} {r70 : Int32} (w71 : r70 = J_X3_lessYoungestFirst p1 v54) (c58 : ¬ (r6 < v54)) (w76 : r73 = J_X4_mostTaken sh p0 r70) : (B_X6_chooseAct_25 spl tpl sh p0 p1 p2 r2 r6) (v54, v55, v56) = LTs (Sum.inl default : Sum (Int32 × Int32 × Int64) ((Nat → Int64) × (Nat → Int32))) (B_X6_chooseAct_52_2 spl tpl sh p0 p1 p2 v54 v55 v56 r2 r6 r73) 6 ((0 : Int32), v55, v56) := by subst w71; unfold B_X6_chooseAct_25; refine Eq.trans (if_neg c58) ?_; refine lt_e w76 ?_; rfl
theorem exl_X6_chooseAct_3 {spl : Nat → Nat → Int32} {tpl : Nat → Nat → Int64} {sh : Nat → Nat → Int32} {p0 : Int32} {p1 : Int32} {p2 : Int32} {v54 : Int32} {v55 : Int32} {v56 : Int64} {r2 : Int64} {r6 : Int32} {r73 : Int32} {v111 : Int32} {v112 : Int32} {v113 : Int64} {v116 : Int32} (e116 : v116 = v54 + 1) (c115 : r73 < v111) : (B_X6_chooseAct_52_2 spl tpl sh p0 p1 p2 v54 v55 v56 r2 r6 r73) (v111, v112, v113) = Sum.inr (Sum.inl (v116, v112, v113)) := by subst e116; unfold B_X6_chooseAct_52_2; refine Eq.trans (if_pos c115) ?_; rfl
theorem exl_X6_chooseAct_4 {spl : Nat → Nat → Int32} {tpl : Nat → Nat → Int64} {sh : Nat → Nat → Int32} {p0 : Int32} {p1 : Int32} {p2 : Int32} {v54 : Int32} {v55 : Int32} {v56 : Int64} {r2 : Int64} {r6 : Int32} {r73 : Int32} {v111 : Int32} {v112 : Int32} {v113 : Int64} {r120 : Int32} {r70 : Int32} {v117 : Int32} {v118 : Int32} (w71 : r70 = J_X3_lessYoungestFirst p1 v54) (e117 : v117 = ((100 : Int32) * v111)) (e118 : v118 = (r70 + v117)) (c115 : ¬ (r73 < v111)) (w122 : r120 = J_X4_mostTaught sh v118) : (B_X6_chooseAct_52_2 spl tpl sh p0 p1 p2 v54 v55 v56 r2 r6 r73) (v111, v112, v113) = LTs (Sum.inl default : Sum (Int32 × Int32 × Int64) (Sum (Int32 × Int32 × Int64) ((Nat → Int64) × (Nat → Int32)))) (B_X6_chooseAct_76_3 spl tpl sh p0 p1 p2 v54 v55 v56 v111 v112 v113 r2 r6 r73 r120) 3 ((0 : Int32), v112, v113) := by subst w71 e117 e118; unfold B_X6_chooseAct_52_2; refine Eq.trans (if_neg c115) ?_; refine lt_e w122 ?_; rfl
theorem exl_X6_chooseAct_5 {spl : Nat → Nat → Int32} {tpl : Nat → Nat → Int64} {sh : Nat → Nat → Int32} {p0 : Int32} {p1 : Int32} {p2 : Int32} {v54 : Int32} {v55 : Int32} {v56 : Int64} {v111 : Int32} {v112 : Int32} {v113 : Int64} {r2 : Int64} {r6 : Int32} {r73 : Int32} {r120 : Int32} {v149 : Int32} {v150 : Int32} {v151 : Int64} {v154 : Int32} (e154 : v154 = v111 + 1) (c153 : r120 < v149) : (B_X6_chooseAct_76_3 spl tpl sh p0 p1 p2 v54 v55 v56 v111 v112 v113 r2 r6 r73 r120) (v149, v150, v151) = Sum.inr (Sum.inl (v154, v150, v151)) := by subst e154; unfold B_X6_chooseAct_76_3; refine Eq.trans (if_pos c153) ?_; rfl
theorem exl_X6_chooseAct_6 {spl : Nat → Nat → Int32} {tpl : Nat → Nat → Int64} {sh : Nat → Nat → Int32} {p0 : Int32} {p1 : Int32} {p2 : Int32} {v54 : Int32} {v55 : Int32} {v56 : Int64} {v111 : Int32} {v112 : Int32} {v113 : Int64} {r2 : Int64} {r6 : Int32} {r73 : Int32} {r120 : Int32} {v149 : Int32} {v150 : Int32} {v151 : Int64} {v177 : Int32} {v155 : Int32} {v156 : Int32} {v157 : Int32} {v158 : Int32} {v159 : Int32} {r161 : Int32} {r164 : Int32} {v170 : Int64} {r167 : Int32} {v171 : Int64} {v173 : Int64} {v174 : Int64} {v175 : Int32} (e155 : v155 = ((1000 : Int32) * v54)) (e156 : v156 = ((100 : Int32) * v111)) (e157 : v157 = (v155 + v156)) (e158 : v158 = ((10 : Int32) * v149)) (e159 : v159 = (v157 + v158)) (w162 : r161 = J_X0_done p1 v159) (w165 : r164 = J_X3_kind r161) (e170 : v170 = (r167 : Int32).toInt64) (e171 : v171 = (v170 * r2)) (e173 : v173 = ((tpl 3) (r164).toNatClampNeg)) (e174 : v174 = (v171 + v173)) (e175 : v175 = (lg_cmp v174 v151)) (e177 : v177 = v149 + 1) (c153 : ¬ (r120 < v149)) (w168 : r167 = J_X4_weekCost sh p0 r161 p2 v159) (c176 : (0 : Int32) ≤ v175) : (B_X6_chooseAct_76_3 spl tpl sh p0 p1 p2 v54 v55 v56 v111 v112 v113 r2 r6 r73 r120) (v149, v150, v151) = Sum.inl (v177, v150, v151) := by subst e155 e156 e157 e158 e159 w162 w165 e170 e171 e173 e174 e175 e177; unfold B_X6_chooseAct_76_3; refine Eq.trans (if_neg c153) ?_; refine lt_e w168 ?_; refine Eq.trans (if_pos c176) ?_; rfl
theorem exl_X6_chooseAct_7 {spl : Nat → Nat → Int32} {tpl : Nat → Nat → Int64} {sh : Nat → Nat → Int32} {p0 : Int32} {p1 : Int32} {p2 : Int32} {v54 : Int32} {v55 : Int32} {v56 : Int64} {v111 : Int32} {v112 : Int32} {v113 : Int64} {r2 : Int64} {r6 : Int32} {r73 : Int32} {r120 : Int32} {v149 : Int32} {v150 : Int32} {v151 : Int64} {v181 : Int32} {v180 : Int32} {v174 : Int64} {v155 : Int32} {v156 : Int32} {v157 : Int32} {v158 : Int32} {v159 : Int32} {r161 : Int32} {r164 : Int32} {v170 : Int64} {r167 : Int32} {v171 : Int64} {v173 : Int64} {v175 : Int32} {v179 : Int32} (e155 : v155 = ((1000 : Int32) * v54)) (e156 : v156 = ((100 : Int32) * v111)) (e157 : v157 = (v155 + v156)) (e158 : v158 = ((10 : Int32) * v149)) (e159 : v159 = (v157 + v158)) (w162 : r161 = J_X0_done p1 v159) (w165 : r164 = J_X3_kind r161) (e170 : v170 = (r167 : Int32).toInt64) (e171 : v171 = (v170 * r2)) (e173 : v173 = ((tpl 3) (r164).toNatClampNeg)) (e174 : v174 = (v171 + v173)) (e175 : v175 = (lg_cmp v174 v151)) (e179 : v179 = ((spl 4) (r164).toNatClampNeg)) (e180 : v180 = (v159 + v179)) (e181 : v181 = v149 + 1) (c153 : ¬ (r120 < v149)) (w168 : r167 = J_X4_weekCost sh p0 r161 p2 v159) (c176 : ¬ ((0 : Int32) ≤ v175)) : (B_X6_chooseAct_76_3 spl tpl sh p0 p1 p2 v54 v55 v56 v111 v112 v113 r2 r6 r73 r120) (v149, v150, v151) = Sum.inl (v181, v180, v174) := by subst e155 e156 e157 e158 e159 w162 w165 e170 e171 e173 e174 e175 e179 e180 e181; unfold B_X6_chooseAct_76_3; refine Eq.trans (if_neg c153) ?_; refine lt_e w168 ?_; refine Eq.trans (if_neg c176) ?_; rfl
set_option maxHeartbeats 4000000 in
set_option maxRecDepth 100000 in
theorem c_X6_chooseAct (l : Launch) (D : va_G) (k : Nat → ClassId) (b : Nat → Nat) (qpl : Nat → Nat) (spl : Nat → Nat → Int32) (tpl : Nat → Nat → Int64) (qh : Nat → Nat) (sh : Nat → Nat → Int32) (sz : Nat) (p0 : Int32) (p1 : Int32) (p2 : Int32) (h_pw : 0 ≤ (spl 0 0).toInt ∧ (spl 0 0).toInt ≤ 5) (h_pl : p0.toInt ≤ (spl 0 0).toInt) (h_hk : 0 ≤ (sh 0 1).toInt ∧ (sh 0 1).toInt ≤ 4) (h_of : ∀ j, 0 ≤ (sh 2 j).toInt ∧ (sh 2 j).toInt ≤ 4) (hv : 0 ≤ p1.toInt ∧ p1.toInt ≤ 400 ∧ tot p1 ≤ 4) (hp0 : 0 ≤ p0.toInt ∧ p0.toInt ≤ 4) (hp2 : 0 ≤ p2.toInt ∧ p2.toInt ≤ 2) : MetV l D k b yX6_chooseAct wsX6_chooseAct ({ frames := 3, cells := 0, slots := 0, locals := 65 } : Room) [cell65_ qpl spl, cell26_ k qpl tpl, cell23_ k qpl spl, cell24_ k qpl tpl, cell25_ k qpl spl, cell32_ qh sh, cell0_ k qh sh, cell1_ k qh sh, cell4_ k qh sh, cell3_ k qh sh, cell2_ k qh sh] sz [.ref (qpl 0), .ref (qh 0), .int p0, .int p1, .int p2] (fun (u : (Nat → Int64) × (Nat → Int32)) => ((u.1), (u.2)) = J_X6_chooseAct spl tpl sh p0 p1 p2) (fun u => [cell65_ qpl spl, cell108_ k qpl (u.1), cell109_ k qpl (u.2), cell24_ k qpl tpl, cell25_ k qpl spl, cell32_ qh sh, cell0_ k qh sh, cell1_ k qh sh, cell4_ k qh sh, cell3_ k qh sh, cell2_ k qh sh]) := by
  refine g_enter (cc := cX6_chooseAct) (maxL := 22) (ret := none) (by decide) rfl (Nat.le_of_ble_eq_true rfl) ?_
  intro p e s m below meth c A hsz hAe cx hr hP hD hS ls hl
  rw [hAe]
  refine g_q (fun Q hQ => ?_)
  have hx := cx.1.1
  have hb := cx.1.2.1
  have bp0 := i_rng p0
  have bp1 := i_rng p1
  have bp2 := i_rng p2
  have hl : lv_has ls 22 [(0, .ref (qpl 0)), (1, .ref (qh 0)), (2, .int p0), (3, .int p1), (4, .int p2)] := hl
  obtain ⟨H, eH⟩ : ∃ H : Heap, H = s.heap := ⟨_, rfl⟩
  obtain ⟨locs, el⟩ : ∃ L : List Loc, L = [] := ⟨_, rfl⟩
  have hP : va_P D vwCl [cell65_ qpl spl, cell26_ k qpl tpl, cell23_ k qpl spl, cell24_ k qpl tpl, cell25_ k qpl spl, cell32_ qh sh, cell0_ k qh sh, cell1_ k qh sh, cell4_ k qh sh, cell3_ k qh sh, cell2_ k qh sh] H := by rw [eH]; exact hP
  have hD : va_D A [cell65_ qpl spl, cell26_ k qpl tpl, cell23_ k qpl spl, cell24_ k qpl tpl, cell25_ k qpl spl, cell32_ qh sh, cell0_ k qh sh, cell1_ k qh sh, cell4_ k qh sh, cell3_ k qh sh, cell2_ k qh sh] := hD
  have hS : va_S A s.heap H locs := by rw [eH, el]; exact hS
  suffices goal : W p l e ({ frames := 3, cells := 0, slots := 0, locals := 65 } : Room) s m ([.ref (qpl 0), .ref (qh 0), .int p0, .int p1, .int p2] : List Value).toArray below meth c H locs 0 0 Q (F0 m 0 ls []) by rw [eH, el] at goal; exact goal
  refine lv_ldc2 (v := 9223372036854775807) hx hb cx.1.2.2.2.1 (cx.1.2.2.2.2 _ kJ_X6_chooseAct_85) dX6_chooseAct_0 ?_
  refine lv_lstore (lv' := [(5, .long 9223372036854775807), (0, .ref (qpl 0)), (1, .ref (qh 0)), (2, .int p0), (3, .int p1), (4, .int p2)]) hx hb dX6_chooseAct_3 hl (by decide) rfl (fun ls hl => ?_)
  refine lv_iconst (v := 0) hx hb dX6_chooseAct_5 (by decide) ?_
  refine lv_istore (lv' := [(7, .int 0), (5, .long 9223372036854775807), (0, .ref (qpl 0)), (1, .ref (qh 0)), (2, .int p0), (3, .int p1), (4, .int p2)]) hx hb dX6_chooseAct_6 hl (by decide) rfl (fun ls hl => ?_)
  refine lv_aload_n hx hb dX6_chooseAct_8 rfl (lv_at hl 2 rfl) ?_
  refine lv_iload_n hx hb dX6_chooseAct_9 rfl (lv_at hl 4 rfl) ?_
  refine g_lr (g_runV (wc := [cell65_ qpl spl, cell26_ k qpl tpl, cell23_ k qpl spl, cell24_ k qpl tpl, cell25_ k qpl spl]) (rest := []) cx hP hD hS [0, 1, 2, 3, 4] rfl (by decide) [.int p0] (c_X6_scale l D k b qpl spl tpl H.size p0 (show 0 ≤ (spl 0 0).toInt ∧ (spl 0 0).toInt ≤ 5 from by first | decide | omega) (show p0.toInt ≤ (spl 0 0).toInt from by first | decide | omega) (show 0 ≤ p0.toInt ∧ p0.toInt ≤ 5 from by first | decide | omega)) gX6_chooseAct_X6_scale rfl rfl rfl nd_X6_scale ⟨Nat.le_of_ble_eq_true rfl, Nat.le_of_ble_eq_true rfl⟩ (ci := 4) (q0 := 0) rfl rfl rfl hl.1 rfl (Nat.le_of_ble_eq_true rfl) ⟨Nat.zero_le _, Nat.zero_le _⟩ dX6_chooseAct_10) cx.2.2.1 hP hD hS [0, 1, 2, 3, 4] rfl rfl (fun r2 H locs hw1 hP hS => ?_)
  have w3 : r2 = J_X6_scale spl tpl p0 := hw1
  clear hw1
  refine lv_lstore (lv' := [(8, .long r2), (7, .int 0), (5, .long 9223372036854775807), (0, .ref (qpl 0)), (1, .ref (qh 0)), (2, .int p0), (3, .int p1), (4, .int p2)]) hx hb dX6_chooseAct_13 hl (by decide) rfl (fun ls hl => ?_)
  refine lv_aload_n hx hb dX6_chooseAct_15 rfl (lv_at hl 4 rfl) ?_
  refine lv_iload_n hx hb dX6_chooseAct_16 rfl (lv_at hl 6 rfl) ?_
  refine g_ir (g_runV (wc := [cell32_ qh sh, cell0_ k qh sh, cell1_ k qh sh, cell4_ k qh sh, cell3_ k qh sh, cell2_ k qh sh]) (rest := []) cx hP hD hS [5, 6, 7, 8, 9, 10] rfl (by decide) [.int p1] (c_X4_mostLetGo l D k b qh sh H.size p1 (show 0 ≤ p1.toInt ∧ p1.toInt ≤ 400 ∧ tot p1 ≤ 4 from by first | decide | omega)) gX6_chooseAct_X4_mostLetGo rfl rfl rfl nd_X4_mostLetGo ⟨Nat.le_of_ble_eq_true rfl, Nat.le_of_ble_eq_true rfl⟩ (ci := 2) (q0 := 0) rfl rfl rfl hl.1 rfl (Nat.le_of_ble_eq_true rfl) ⟨Nat.zero_le _, Nat.zero_le _⟩ dX6_chooseAct_17) cx.2.2.1 hP hD hS [5, 6, 7, 8, 9, 10] rfl rfl (fun r6 H locs hw5 hP hS => ?_)
  replace hw5 : (0 ≤ r6.toInt ∧ r6.toInt ≤ tot p1) ∧ (r6 = J_X4_mostLetGo sh p1) := hw5
  obtain ⟨w7, w8⟩ := hw5
  refine lv_istore (lv' := [(10, .int r6), (8, .long r2), (7, .int 0), (5, .long 9223372036854775807), (0, .ref (qpl 0)), (1, .ref (qh 0)), (2, .int p0), (3, .int p1), (4, .int p2)]) hx hb dX6_chooseAct_20 hl (by decide) rfl (fun ls hl => ?_)
  refine lv_iconst (v := 0) hx hb dX6_chooseAct_22 (by decide) ?_
  refine lv_istore (lv' := [(11, .int 0), (10, .int r6), (8, .long r2), (7, .int 0), (5, .long 9223372036854775807), (0, .ref (qpl 0)), (1, .ref (qh 0)), (2, .int p0), (3, .int p1), (4, .int p2)]) hx hb dX6_chooseAct_23 hl (by decide) rfl (fun ls hl => ?_)
  obtain ⟨rr25_1, err25_1⟩ : ∃ r : (Nat → Int64) × (Nat → Int32), LTs (default : (Nat → Int64) × (Nat → Int32)) (B_X6_chooseAct_25 spl tpl sh p0 p1 p2 r2 r6) 6 ((0 : Int32), (0 : Int32), (9223372036854775807 : Int64)) = r := ⟨_, rfl⟩
  have hrr25_1 : J_X6_chooseAct spl tpl sh p0 p1 p2 = rr25_1 := ((exl_X6_chooseAct_0 w3 w8)).trans err25_1
  have hL25 : ∀ (n57 : Nat) (v54 : Int32) (v55 : Int32) (v56 : Int64) (H : Heap) (locs : List Loc) (ls : Array Slot), 5 - v54.toInt < (n57 : Int) → (0 ≤ v54.toInt ∧ v54.toInt ≤ 5) → (LTs (default : (Nat → Int64) × (Nat → Int32)) (B_X6_chooseAct_25 spl tpl sh p0 p1 p2 r2 r6) n57 (v54, v55, v56) = rr25_1) → va_P D vwCl [cell65_ qpl spl, cell26_ k qpl tpl, cell23_ k qpl spl, cell24_ k qpl tpl, cell25_ k qpl spl, cell32_ qh sh, cell0_ k qh sh, cell1_ k qh sh, cell4_ k qh sh, cell3_ k qh sh, cell2_ k qh sh] H → va_D A [cell65_ qpl spl, cell26_ k qpl tpl, cell23_ k qpl spl, cell24_ k qpl tpl, cell25_ k qpl spl, cell32_ qh sh, cell0_ k qh sh, cell1_ k qh sh, cell4_ k qh sh, cell3_ k qh sh, cell2_ k qh sh] → va_S A s.heap H locs → lv_has ls 22 [(11, .int v54), (10, .int r6), (8, .long r2), (7, .int v55), (5, .long v56), (0, .ref (qpl 0)), (1, .ref (qh 0)), (2, .int p0), (3, .int p1), (4, .int p2)] → W p l e ({ frames := 3, cells := 0, slots := 0, locals := 65 } : Room) s m ([.ref (qpl 0), .ref (qh 0), .int p0, .int p1, .int p2] : List Value).toArray below meth c H locs 0 0 Q (F0 m 25 ls []) := by
    intro n57
    induction n57 with
    | zero => intro v54 v55 v56 H locs ls hmn57 bv54 hzrr25_1 hP hD hS hl; exact absurd hmn57 (by omega)
    | succ n57 ih25 =>
      intro v54 v55 v56 H locs ls hmn57 bv54 hzrr25_1 hP hD hS hl
      refine lv_iload hx hb dX6_chooseAct_25 (lv_at hl 0 rfl) ?_
      refine lv_iload hx hb dX6_chooseAct_27 (lv_at hl 1 rfl) ?_
      refine lv_icmp_gt (tgt := 185) hx hb dX6_chooseAct_29 (by decide) (fun c58 => ?_) (fun c58 => ?_)
      · have f58 : r6.toInt < v54.toInt := f_lt rfl rfl c58
        refine lv_iload_n hx hb dX6_chooseAct_185 rfl (lv_at hl 7 rfl) ?_
        refine lv_iload_n hx hb dX6_chooseAct_186 rfl (lv_at hl 8 rfl) ?_
        refine g_ir (g_runS (wc := []) (rest := [.int p0]) cx hP hD hS [] rfl (by decide) [.int p1] (c_X3_kind l D k b H.size p1 ⟨by first | decide | omega, by first | decide | omega, (show tot p1 ≤ 4 from by first | decide | omega)⟩) gX6_chooseAct_X3_kind rfl rfl rfl nd_X3_kind ⟨Nat.le_of_ble_eq_true rfl, Nat.le_of_ble_eq_true rfl⟩ rfl hl.1 rfl (Nat.le_of_ble_eq_true rfl) ⟨Nat.zero_le _, Nat.zero_le _⟩ dX6_chooseAct_187) cx.2.2.1 hP hD hS [] rfl rfl (fun r60 H locs hw59 hP hS => ?_)
        have w61 : r60 = J_X3_kind p1 := hw59
        clear hw59
        have zr60 := kind_t w61 ⟨by first | decide | omega, by first | decide | omega, (show tot p1 ≤ 4 from by first | decide | omega)⟩
        refine lv_iload hx hb dX6_chooseAct_190 (lv_at hl 9 rfl) ?_
        refine g_ir (g_runS (wc := []) (rest := []) cx hP hD hS [] rfl (by decide) [.int p0, .int r60, .int p2] (c_X6_place l D k b H.size p0 r60 p2) gX6_chooseAct_X6_place rfl rfl rfl nd_X6_place ⟨Nat.le_of_ble_eq_true rfl, Nat.le_of_ble_eq_true rfl⟩ rfl hl.1 rfl (Nat.le_of_ble_eq_true rfl) ⟨Nat.zero_le _, Nat.zero_le _⟩ dX6_chooseAct_192) cx.2.2.1 hP hD hS [] rfl rfl (fun r63 H locs hw62 hP hS => ?_)
        have w64 : r63 = J_X6_place p0 r60 p2 := hw62
        clear hw62
        have zr63 : r63.toInt = (p0.toInt * 3 + p2.toInt) * 35 + r60.toInt := place_t w64 ⟨by omega, by omega⟩ ⟨by omega, by omega⟩ ⟨by omega, by omega⟩
        refine lv_istore (lv' := [(11, .int r63), (10, .int r6), (8, .long r2), (7, .int v55), (5, .long v56), (0, .ref (qpl 0)), (1, .ref (qh 0)), (2, .int p0), (3, .int p1), (4, .int p2)]) hx hb dX6_chooseAct_195 hl (by decide) rfl (fun ls hl => ?_)
        refine lv_aload_n hx hb dX6_chooseAct_197 rfl (lv_at hl 5 rfl) ?_
        refine g_get cx hP iw_X6_chooseAct_X6 0 rfl rfl 1 (by decide) rfl fw_X6_chooseAct_13 rfl dX6_chooseAct_198 ?_
        refine lv_iload hx hb dX6_chooseAct_201 (lv_at hl 0 rfl) ?_
        refine lv_lload hx hb dX6_chooseAct_203 (lv_at hl 4 rfl) ?_
        have hn65 : vp_in r63 630 := f_in (a := r63.toInt) rfl (by omega) (by omega)
        refine va_last hx hb cx.2.1 hP hD hS 1 1 rfl rfl hn65 dX6_chooseAct_205 (fun H locs hP hD hS => ?_)
        obtain ⟨g66, eg66⟩ : ∃ g : Nat → Int64, g = vp_updL (tpl 1) (r63).toNatClampNeg v56 := ⟨_, rfl⟩
        rw [← eg66] at hP hD
        have hP : va_P D vwCl [cell65_ qpl spl, (qpl 1, .inl (k 1, 630, .inr (.inl g66))), cell23_ k qpl spl, cell24_ k qpl tpl, cell25_ k qpl spl, cell32_ qh sh, cell0_ k qh sh, cell1_ k qh sh, cell4_ k qh sh, cell3_ k qh sh, cell2_ k qh sh] H := hP
        have hD : va_D A [cell65_ qpl spl, (qpl 1, .inl (k 1, 630, .inr (.inl g66))), cell23_ k qpl spl, cell24_ k qpl tpl, cell25_ k qpl spl, cell32_ qh sh, cell0_ k qh sh, cell1_ k qh sh, cell4_ k qh sh, cell3_ k qh sh, cell2_ k qh sh] := hD
        refine lv_aload_n hx hb dX6_chooseAct_206 rfl (lv_at hl 5 rfl) ?_
        refine g_get cx hP iw_X6_chooseAct_X6 0 rfl rfl 2 (by decide) rfl fw_X6_chooseAct_17 rfl dX6_chooseAct_207 ?_
        refine lv_iload hx hb dX6_chooseAct_210 (lv_at hl 0 rfl) ?_
        refine lv_iload hx hb dX6_chooseAct_212 (lv_at hl 3 rfl) ?_
        have hn67 : vp_in r63 525 := f_in (a := r63.toInt) rfl (by omega) (by omega)
        refine va_iast hx hb cx.2.1 hP hD hS 2 0 rfl rfl hn67 dX6_chooseAct_214 (fun H locs hP hD hS => ?_)
        obtain ⟨g68, eg68⟩ : ∃ g : Nat → Int32, g = upd (spl 2) (r63).toNatClampNeg v55 := ⟨_, rfl⟩
        rw [← eg68] at hP hD
        have hP : va_P D vwCl [cell65_ qpl spl, (qpl 1, .inl (k 1, 630, .inr (.inl g66))), (qpl 2, .inl (k 0, 525, .inl g68)), cell24_ k qpl tpl, cell25_ k qpl spl, cell32_ qh sh, cell0_ k qh sh, cell1_ k qh sh, cell4_ k qh sh, cell3_ k qh sh, cell2_ k qh sh] H := hP
        have hD : va_D A [cell65_ qpl spl, (qpl 1, .inl (k 1, 630, .inr (.inl g66))), (qpl 2, .inl (k 0, 525, .inl g68)), cell24_ k qpl tpl, cell25_ k qpl spl, cell32_ qh sh, cell0_ k qh sh, cell1_ k qh sh, cell4_ k qh sh, cell3_ k qh sh, cell2_ k qh sh] := hD
        rw [hQ]
        exact x_v cx hr (g66, g68) hP hD hS (show (g66, g68) = J_X6_chooseAct spl tpl sh p0 p1 p2 from ((hrr25_1.trans (LT_r hzrr25_1 (exl_X6_chooseAct_1 w61 w64 eg66 eg68 c58)))).symm) dX6_chooseAct_215
      · have f58 : v54.toInt ≤ r6.toInt := f_nlt rfl rfl c58
        refine lv_iload_n hx hb dX6_chooseAct_32 rfl (lv_at hl 8 rfl) ?_
        refine lv_iload hx hb dX6_chooseAct_33 (lv_at hl 0 rfl) ?_
        refine g_ir (g_runS (wc := []) (rest := []) cx hP hD hS [] rfl (by decide) [.int p1, .int v54] (c_X3_lessYoungestFirst l D k b H.size p1 v54) gX6_chooseAct_X3_lessYoungestFirst rfl rfl rfl nd_X3_lessYoungestFirst ⟨Nat.le_of_ble_eq_true rfl, Nat.le_of_ble_eq_true rfl⟩ rfl hl.1 rfl (Nat.le_of_ble_eq_true rfl) ⟨Nat.zero_le _, Nat.zero_le _⟩ dX6_chooseAct_35) cx.2.2.1 hP hD hS [] rfl rfl (fun r70 H locs hw69 hP hS => ?_)
        have w71 : r70 = J_X3_lessYoungestFirst p1 v54 := hw69
        clear hw69
        have lw := w71
        have lt := less_t w71 hv ⟨by omega, by omega⟩
        refine lv_istore (lv' := [(12, .int r70), (11, .int v54), (10, .int r6), (8, .long r2), (7, .int v55), (5, .long v56), (0, .ref (qpl 0)), (1, .ref (qh 0)), (2, .int p0), (3, .int p1), (4, .int p2)]) hx hb dX6_chooseAct_38 hl (by decide) rfl (fun ls hl => ?_)
        refine lv_aload_n hx hb dX6_chooseAct_40 rfl (lv_at hl 7 rfl) ?_
        refine lv_iload_n hx hb dX6_chooseAct_41 rfl (lv_at hl 8 rfl) ?_
        refine lv_iload hx hb dX6_chooseAct_42 (lv_at hl 0 rfl) ?_
        refine g_ir (g_runV (wc := [cell32_ qh sh, cell0_ k qh sh, cell1_ k qh sh, cell4_ k qh sh, cell3_ k qh sh, cell2_ k qh sh]) (rest := []) cx hP hD hS [5, 6, 7, 8, 9, 10] rfl (by decide) [.int p0, .int r70] (c_X4_mostTaken l D k b qh sh H.size p0 r70 (show 0 ≤ (sh 0 1).toInt ∧ (sh 0 1).toInt ≤ 4 from by first | decide | omega) h_of (show 0 ≤ r70.toInt ∧ r70.toInt ≤ 400 ∧ tot r70 ≤ 4 from by first | decide | omega) (show 0 ≤ p0.toInt ∧ p0.toInt ≤ 4 from by first | decide | omega)) gX6_chooseAct_X4_mostTaken rfl rfl rfl nd_X4_mostTaken ⟨Nat.le_of_ble_eq_true rfl, Nat.le_of_ble_eq_true rfl⟩ (ci := 2) (q0 := 0) rfl rfl rfl hl.1 rfl (Nat.le_of_ble_eq_true rfl) ⟨Nat.zero_le _, Nat.zero_le _⟩ dX6_chooseAct_44) cx.2.2.1 hP hD hS [5, 6, 7, 8, 9, 10] rfl rfl (fun r73 H locs hw72 hP hS => ?_)
        replace hw72 : (-4 ≤ r73.toInt ∧ r73.toInt ≤ 4 ∧ r73.toInt ≤ (sh 0 1).toInt - (tot r70)) ∧ ((sh 0 1).toInt < tot r70 ∨ 0 ≤ r73.toInt) ∧ (r73 = J_X4_mostTaken sh p0 r70) := hw72
        obtain ⟨w74, w75, w76⟩ := hw72
        refine lv_istore (lv' := [(13, .int r73), (12, .int r70), (11, .int v54), (10, .int r6), (8, .long r2), (7, .int v55), (5, .long v56), (0, .ref (qpl 0)), (1, .ref (qh 0)), (2, .int p0), (3, .int p1), (4, .int p2)]) hx hb dX6_chooseAct_47 hl (by decide) rfl (fun ls hl => ?_)
        refine lv_iconst (v := 0) hx hb dX6_chooseAct_49 (by decide) ?_
        refine lv_istore (lv' := [(14, .int 0), (13, .int r73), (12, .int r70), (11, .int v54), (10, .int r6), (8, .long r2), (7, .int v55), (5, .long v56), (0, .ref (qpl 0)), (1, .ref (qh 0)), (2, .int p0), (3, .int p1), (4, .int p2)]) hx hb dX6_chooseAct_50 hl (by decide) rfl (fun ls hl => ?_)
        obtain ⟨rr52_2, err52_2⟩ : ∃ r : Sum (Int32 × Int32 × Int64) ((Nat → Int64) × (Nat → Int32)), LTs (Sum.inl default : Sum (Int32 × Int32 × Int64) ((Nat → Int64) × (Nat → Int32))) (B_X6_chooseAct_52_2 spl tpl sh p0 p1 p2 v54 v55 v56 r2 r6 r73) 6 ((0 : Int32), v55, v56) = r := ⟨_, rfl⟩
        have hrr52_2 : (B_X6_chooseAct_25 spl tpl sh p0 p1 p2 r2 r6) (v54, v55, v56) = rr52_2 := ((exl_X6_chooseAct_2 w71 c58 w76)).trans err52_2
        have hL52 : ∀ (n114 : Nat) (v111 : Int32) (v112 : Int32) (v113 : Int64) (H : Heap) (locs : List Loc) (ls : Array Slot), 5 - v111.toInt < (n114 : Int) → (0 ≤ v111.toInt ∧ v111.toInt ≤ 5) → (LTs (Sum.inl default : Sum (Int32 × Int32 × Int64) ((Nat → Int64) × (Nat → Int32))) (B_X6_chooseAct_52_2 spl tpl sh p0 p1 p2 v54 v55 v56 r2 r6 r73) n114 (v111, v112, v113) = rr52_2) → va_P D vwCl [cell65_ qpl spl, cell26_ k qpl tpl, cell23_ k qpl spl, cell24_ k qpl tpl, cell25_ k qpl spl, cell32_ qh sh, cell0_ k qh sh, cell1_ k qh sh, cell4_ k qh sh, cell3_ k qh sh, cell2_ k qh sh] H → va_D A [cell65_ qpl spl, cell26_ k qpl tpl, cell23_ k qpl spl, cell24_ k qpl tpl, cell25_ k qpl spl, cell32_ qh sh, cell0_ k qh sh, cell1_ k qh sh, cell4_ k qh sh, cell3_ k qh sh, cell2_ k qh sh] → va_S A s.heap H locs → lv_has ls 22 [(14, .int v111), (13, .int r73), (12, .int r70), (11, .int v54), (10, .int r6), (8, .long r2), (7, .int v112), (5, .long v113), (0, .ref (qpl 0)), (1, .ref (qh 0)), (2, .int p0), (3, .int p1), (4, .int p2)] → W p l e ({ frames := 3, cells := 0, slots := 0, locals := 65 } : Room) s m ([.ref (qpl 0), .ref (qh 0), .int p0, .int p1, .int p2] : List Value).toArray below meth c H locs 0 0 Q (F0 m 52 ls []) := by
          intro n114
          induction n114 with
          | zero => intro v111 v112 v113 H locs ls hmn114 bv111 hzrr52_2 hP hD hS hl; exact absurd hmn114 (by omega)
          | succ n114 ih52 =>
            intro v111 v112 v113 H locs ls hmn114 bv111 hzrr52_2 hP hD hS hl
            refine lv_iload hx hb dX6_chooseAct_52 (lv_at hl 0 rfl) ?_
            refine lv_iload hx hb dX6_chooseAct_54 (lv_at hl 1 rfl) ?_
            refine lv_icmp_gt (tgt := 179) hx hb dX6_chooseAct_56 (by decide) (fun c115 => ?_) (fun c115 => ?_)
            · have f115 : r73.toInt < v111.toInt := f_lt rfl rfl c115
              obtain ⟨v116, e116⟩ : ∃ z : Int32, z = v54 + 1 := ⟨_, rfl⟩
              refine lv_iinc (v := v116) (lv' := [(11, .int v116), (14, .int v111), (13, .int r73), (12, .int r70), (10, .int r6), (8, .long r2), (7, .int v112), (5, .long v113), (0, .ref (qpl 0)), (1, .ref (qh 0)), (2, .int p0), (3, .int p1), (4, .int p2)]) hx hb dX6_chooseAct_179 hl (k := 3) rfl (by rw [e116]; rfl) (by decide) rfl (fun ls hl => ?_)
              have t116 : v116.toInt = v54.toInt + 1 := by rw [e116]; exact i_add rfl (by decide) (by omega) (by omega)
              refine lv_goto (tgt := 25) hx hb dX6_chooseAct_182 (by decide) ?_
              exact ih25 v116 v112 v113 _ _ _ (by omega) (by first | decide | omega) (LT_g hzrr25_1 (hrr52_2.trans (LT_r hzrr52_2 (exl_X6_chooseAct_3 e116 c115)))) hP hD hS (lv_sub hl [0, 4, 5, 6, 7, 8, 9, 10, 11, 12] rfl)
            · have f115 : v111.toInt ≤ r73.toInt := f_nlt rfl rfl c115
              refine lv_aload_n hx hb dX6_chooseAct_59 rfl (lv_at hl 9 rfl) ?_
              refine lv_iload hx hb dX6_chooseAct_60 (lv_at hl 2 rfl) ?_
              refine lv_bipush (v := 100) hx hb dX6_chooseAct_62 (by decide) ?_
              refine lv_iload hx hb dX6_chooseAct_64 (lv_at hl 0 rfl) ?_
              refine lv_imul hx hb dX6_chooseAct_66 (lv_topi (fun v117 e117 => ?_))
              have t117 : v117.toInt = 100 * v111.toInt := by rw [e117]; exact i_mul (by decide) rfl (by omega) (by omega)
              refine lv_iadd hx hb dX6_chooseAct_67 (lv_topi (fun v118 e118 => ?_))
              have t118 : v118.toInt = r70.toInt + v117.toInt := by rw [e118]; exact i_add rfl rfl (by omega) (by omega)
              refine g_ir (g_runV (wc := [cell32_ qh sh, cell0_ k qh sh, cell1_ k qh sh, cell4_ k qh sh, cell3_ k qh sh, cell2_ k qh sh]) (rest := []) cx hP hD hS [5, 6, 7, 8, 9, 10] rfl (by decide) [.int v118] (c_X4_mostTaught l D k b qh sh H.size v118 (show 0 ≤ v118.toInt ∧ v118.toInt ≤ 9999 from by first | decide | omega)) gX6_chooseAct_X4_mostTaught rfl rfl rfl nd_X4_mostTaught ⟨Nat.le_of_ble_eq_true rfl, Nat.le_of_ble_eq_true rfl⟩ (ci := 2) (q0 := 0) rfl rfl rfl hl.1 rfl (Nat.le_of_ble_eq_true rfl) ⟨Nat.zero_le _, Nat.zero_le _⟩ dX6_chooseAct_68) cx.2.2.1 hP hD hS [5, 6, 7, 8, 9, 10] rfl rfl (fun r120 H locs hw119 hP hS => ?_)
              replace hw119 : (r120.toInt = 0 ∨ (r120.toInt = 1 ∧ 0 < v118.toInt / 100)) ∧ (r120 = J_X4_mostTaught sh v118) := hw119
              obtain ⟨w121, w122⟩ := hw119
              refine lv_istore (lv' := [(15, .int r120), (14, .int v111), (13, .int r73), (12, .int r70), (11, .int v54), (10, .int r6), (8, .long r2), (7, .int v112), (5, .long v113), (0, .ref (qpl 0)), (1, .ref (qh 0)), (2, .int p0), (3, .int p1), (4, .int p2)]) hx hb dX6_chooseAct_71 hl (by decide) rfl (fun ls hl => ?_)
              refine lv_iconst (v := 0) hx hb dX6_chooseAct_73 (by decide) ?_
              refine lv_istore (lv' := [(16, .int 0), (15, .int r120), (14, .int v111), (13, .int r73), (12, .int r70), (11, .int v54), (10, .int r6), (8, .long r2), (7, .int v112), (5, .long v113), (0, .ref (qpl 0)), (1, .ref (qh 0)), (2, .int p0), (3, .int p1), (4, .int p2)]) hx hb dX6_chooseAct_74 hl (by decide) rfl (fun ls hl => ?_)
              obtain ⟨rr76_3, err76_3⟩ : ∃ r : Sum (Int32 × Int32 × Int64) (Sum (Int32 × Int32 × Int64) ((Nat → Int64) × (Nat → Int32))), LTs (Sum.inl default : Sum (Int32 × Int32 × Int64) (Sum (Int32 × Int32 × Int64) ((Nat → Int64) × (Nat → Int32)))) (B_X6_chooseAct_76_3 spl tpl sh p0 p1 p2 v54 v55 v56 v111 v112 v113 r2 r6 r73 r120) 3 ((0 : Int32), v112, v113) = r := ⟨_, rfl⟩
              have hrr76_3 : (B_X6_chooseAct_52_2 spl tpl sh p0 p1 p2 v54 v55 v56 r2 r6 r73) (v111, v112, v113) = rr76_3 := ((exl_X6_chooseAct_4 w71 e117 e118 c115 w122)).trans err76_3
              have hL76 : ∀ (n152 : Nat) (v149 : Int32) (v150 : Int32) (v151 : Int64) (H : Heap) (locs : List Loc) (ls : Array Slot), 2 - v149.toInt < (n152 : Int) → (0 ≤ v149.toInt ∧ v149.toInt ≤ 2) → (LTs (Sum.inl default : Sum (Int32 × Int32 × Int64) (Sum (Int32 × Int32 × Int64) ((Nat → Int64) × (Nat → Int32)))) (B_X6_chooseAct_76_3 spl tpl sh p0 p1 p2 v54 v55 v56 v111 v112 v113 r2 r6 r73 r120) n152 (v149, v150, v151) = rr76_3) → va_P D vwCl [cell65_ qpl spl, cell26_ k qpl tpl, cell23_ k qpl spl, cell24_ k qpl tpl, cell25_ k qpl spl, cell32_ qh sh, cell0_ k qh sh, cell1_ k qh sh, cell4_ k qh sh, cell3_ k qh sh, cell2_ k qh sh] H → va_D A [cell65_ qpl spl, cell26_ k qpl tpl, cell23_ k qpl spl, cell24_ k qpl tpl, cell25_ k qpl spl, cell32_ qh sh, cell0_ k qh sh, cell1_ k qh sh, cell4_ k qh sh, cell3_ k qh sh, cell2_ k qh sh] → va_S A s.heap H locs → lv_has ls 22 [(16, .int v149), (15, .int r120), (14, .int v111), (13, .int r73), (12, .int r70), (11, .int v54), (10, .int r6), (8, .long r2), (7, .int v150), (5, .long v151), (0, .ref (qpl 0)), (1, .ref (qh 0)), (2, .int p0), (3, .int p1), (4, .int p2)] → W p l e ({ frames := 3, cells := 0, slots := 0, locals := 65 } : Room) s m ([.ref (qpl 0), .ref (qh 0), .int p0, .int p1, .int p2] : List Value).toArray below meth c H locs 0 0 Q (F0 m 76 ls []) := by
                intro n152
                induction n152 with
                | zero => intro v149 v150 v151 H locs ls hmn152 bv149 hzrr76_3 hP hD hS hl; exact absurd hmn152 (by omega)
                | succ n152 ih76 =>
                  intro v149 v150 v151 H locs ls hmn152 bv149 hzrr76_3 hP hD hS hl
                  refine lv_iload hx hb dX6_chooseAct_76 (lv_at hl 0 rfl) ?_
                  refine lv_iload hx hb dX6_chooseAct_78 (lv_at hl 1 rfl) ?_
                  refine lv_icmp_gt (tgt := 173) hx hb dX6_chooseAct_80 (by decide) (fun c153 => ?_) (fun c153 => ?_)
                  · have f153 : r120.toInt < v149.toInt := f_lt rfl rfl c153
                    obtain ⟨v154, e154⟩ : ∃ z : Int32, z = v111 + 1 := ⟨_, rfl⟩
                    refine lv_iinc (v := v154) (lv' := [(14, .int v154), (16, .int v149), (15, .int r120), (13, .int r73), (12, .int r70), (11, .int v54), (10, .int r6), (8, .long r2), (7, .int v150), (5, .long v151), (0, .ref (qpl 0)), (1, .ref (qh 0)), (2, .int p0), (3, .int p1), (4, .int p2)]) hx hb dX6_chooseAct_173 hl (k := 2) rfl (by rw [e154]; rfl) (by decide) rfl (fun ls hl => ?_)
                    have t154 : v154.toInt = v111.toInt + 1 := by rw [e154]; exact i_add rfl (by decide) (by omega) (by omega)
                    refine lv_goto (tgt := 52) hx hb dX6_chooseAct_176 (by decide) ?_
                    exact ih52 v154 v150 v151 _ _ _ (by omega) (by first | decide | omega) (LT_g hzrr52_2 (hrr76_3.trans (LT_r hzrr76_3 (exl_X6_chooseAct_5 e154 c153)))) hP hD hS (lv_sub hl [0, 3, 4, 5, 6, 7, 8, 9, 10, 11, 12, 13, 14] rfl)
                  · have f153 : v149.toInt ≤ r120.toInt := f_nlt rfl rfl c153
                    refine lv_sipush (v := 1000) hx hb dX6_chooseAct_83 (by decide) ?_
                    refine lv_iload hx hb dX6_chooseAct_86 (lv_at hl 5 rfl) ?_
                    refine lv_imul hx hb dX6_chooseAct_88 (lv_topi (fun v155 e155 => ?_))
                    have t155 : v155.toInt = 1000 * v54.toInt := by rw [e155]; exact i_mul (by decide) rfl (by omega) (by omega)
                    refine lv_bipush (v := 100) hx hb dX6_chooseAct_89 (by decide) ?_
                    refine lv_iload hx hb dX6_chooseAct_91 (lv_at hl 2 rfl) ?_
                    refine lv_imul hx hb dX6_chooseAct_93 (lv_topi (fun v156 e156 => ?_))
                    have t156 : v156.toInt = 100 * v111.toInt := by rw [e156]; exact i_mul (by decide) rfl (by omega) (by omega)
                    refine lv_iadd hx hb dX6_chooseAct_94 (lv_topi (fun v157 e157 => ?_))
                    have t157 : v157.toInt = v155.toInt + v156.toInt := by rw [e157]; exact i_add rfl rfl (by omega) (by omega)
                    refine lv_bipush (v := 10) hx hb dX6_chooseAct_95 (by decide) ?_
                    refine lv_iload hx hb dX6_chooseAct_97 (lv_at hl 0 rfl) ?_
                    refine lv_imul hx hb dX6_chooseAct_99 (lv_topi (fun v158 e158 => ?_))
                    have t158 : v158.toInt = 10 * v149.toInt := by rw [e158]; exact i_mul (by decide) rfl (by omega) (by omega)
                    refine lv_iadd hx hb dX6_chooseAct_100 (lv_topi (fun v159 e159 => ?_))
                    have t159 : v159.toInt = v157.toInt + v158.toInt := by rw [e159]; exact i_add rfl rfl (by omega) (by omega)
                    refine lv_istore (lv' := [(17, .int v159), (16, .int v149), (15, .int r120), (14, .int v111), (13, .int r73), (12, .int r70), (11, .int v54), (10, .int r6), (8, .long r2), (7, .int v150), (5, .long v151), (0, .ref (qpl 0)), (1, .ref (qh 0)), (2, .int p0), (3, .int p1), (4, .int p2)]) hx hb dX6_chooseAct_101 hl (by decide) rfl (fun ls hl => ?_)
                    refine lv_iload_n hx hb dX6_chooseAct_103 rfl (lv_at hl 14 rfl) ?_
                    refine lv_iload hx hb dX6_chooseAct_104 (lv_at hl 0 rfl) ?_
                    refine g_ir (g_runS (wc := []) (rest := []) cx hP hD hS [] rfl (by decide) [.int p1, .int v159] (c_X0_done l D k b H.size p1 v159) gX6_chooseAct_X0_done rfl rfl rfl nd_X0_done ⟨Nat.le_of_ble_eq_true rfl, Nat.le_of_ble_eq_true rfl⟩ rfl hl.1 rfl (Nat.le_of_ble_eq_true rfl) ⟨Nat.zero_le _, Nat.zero_le _⟩ dX6_chooseAct_106) cx.2.2.1 hP hD hS [] rfl rfl (fun r161 H locs hw160 hP hS => ?_)
                    have w162 : r161 = J_X0_done p1 v159 := hw160
                    clear hw160
                    have ao := act_of (a := v159) (l := v54) (t := v111) (e := v149) (by omega) (by omega) ⟨by omega, by omega⟩ ⟨by omega, by omega⟩
                    have dn := done_t (X := v118.toInt) (hook := (sh 0 1).toInt) hv ao.1 ao.2.1 ao.2.2 lw (by omega) (by omega) (by omega) (by omega) (by omega) (by omega) (by omega) w162
                    refine lv_istore (lv' := [(18, .int r161), (17, .int v159), (16, .int v149), (15, .int r120), (14, .int v111), (13, .int r73), (12, .int r70), (11, .int v54), (10, .int r6), (8, .long r2), (7, .int v150), (5, .long v151), (0, .ref (qpl 0)), (1, .ref (qh 0)), (2, .int p0), (3, .int p1), (4, .int p2)]) hx hb dX6_chooseAct_109 hl (by decide) rfl (fun ls hl => ?_)
                    refine lv_iload hx hb dX6_chooseAct_111 (lv_at hl 0 rfl) ?_
                    refine g_ir (g_runS (wc := []) (rest := []) cx hP hD hS [] rfl (by decide) [.int r161] (c_X3_kind l D k b H.size r161 ⟨by first | decide | omega, by first | decide | omega, (show tot r161 ≤ 4 from by first | decide | omega)⟩) gX6_chooseAct_X3_kind rfl rfl rfl nd_X3_kind ⟨Nat.le_of_ble_eq_true rfl, Nat.le_of_ble_eq_true rfl⟩ rfl hl.1 rfl (Nat.le_of_ble_eq_true rfl) ⟨Nat.zero_le _, Nat.zero_le _⟩ dX6_chooseAct_113) cx.2.2.1 hP hD hS [] rfl rfl (fun r164 H locs hw163 hP hS => ?_)
                    have w165 : r164 = J_X3_kind r161 := hw163
                    clear hw163
                    have zr164 := kind_t w165 ⟨by first | decide | omega, by first | decide | omega, (show tot r161 ≤ 4 from by first | decide | omega)⟩
                    refine lv_istore (lv' := [(19, .int r164), (18, .int r161), (17, .int v159), (16, .int v149), (15, .int r120), (14, .int v111), (13, .int r73), (12, .int r70), (11, .int v54), (10, .int r6), (8, .long r2), (7, .int v150), (5, .long v151), (0, .ref (qpl 0)), (1, .ref (qh 0)), (2, .int p0), (3, .int p1), (4, .int p2)]) hx hb dX6_chooseAct_116 hl (by decide) rfl (fun ls hl => ?_)
                    refine lv_aload_n hx hb dX6_chooseAct_118 rfl (lv_at hl 14 rfl) ?_
                    refine lv_iload_n hx hb dX6_chooseAct_119 rfl (lv_at hl 15 rfl) ?_
                    refine lv_iload hx hb dX6_chooseAct_120 (lv_at hl 1 rfl) ?_
                    refine lv_iload hx hb dX6_chooseAct_122 (lv_at hl 17 rfl) ?_
                    refine lv_iload hx hb dX6_chooseAct_124 (lv_at hl 2 rfl) ?_
                    refine g_ir (g_runV (wc := [cell32_ qh sh, cell0_ k qh sh, cell1_ k qh sh, cell4_ k qh sh, cell3_ k qh sh, cell2_ k qh sh]) (rest := []) cx hP hD hS [5, 6, 7, 8, 9, 10] rfl (by decide) [.int p0, .int r161, .int p2, .int v159] (c_X4_weekCost l D k b qh sh H.size p0 r161 p2 v159 (show 0 ≤ p0.toInt ∧ p0.toInt ≤ 4 from by first | decide | omega)) gX6_chooseAct_X4_weekCost rfl rfl rfl nd_X4_weekCost ⟨Nat.le_of_ble_eq_true rfl, Nat.le_of_ble_eq_true rfl⟩ (ci := 2) (q0 := 0) rfl rfl rfl hl.1 rfl (Nat.le_of_ble_eq_true rfl) ⟨Nat.zero_le _, Nat.zero_le _⟩ dX6_chooseAct_126) cx.2.2.1 hP hD hS [5, 6, 7, 8, 9, 10] rfl rfl (fun r167 H locs hw166 hP hS => ?_)
                    have w168 : r167 = J_X4_weekCost sh p0 r161 p2 v159 := hw166
                    clear hw166
                    obtain ⟨v170, e170⟩ : ∃ z : Int64, z = (r167 : Int32).toInt64 := ⟨_, rfl⟩
                    refine lv_i2l (v := v170) hx hb dX6_chooseAct_129 e170.symm ?_
                    refine lv_lload hx hb dX6_chooseAct_130 (lv_at hl 10 rfl) ?_
                    refine lv_lmul hx hb dX6_chooseAct_132 (lv_topl (fun v171 e171 => ?_))
                    refine lv_aload_n hx hb dX6_chooseAct_133 rfl (lv_at hl 13 rfl) ?_
                    refine g_get cx hP iw_X6_chooseAct_X6 0 rfl rfl 3 (by decide) rfl fw_X6_chooseAct_21 rfl dX6_chooseAct_134 ?_
                    refine lv_iload hx hb dX6_chooseAct_137 (lv_at hl 0 rfl) ?_
                    have hn172 : vp_in r164 35 := f_in (a := r164.toInt) rfl (by omega) (by omega)
                    refine va_lald hx hb cx.2.1 hP 3 1 rfl rfl hn172 dX6_chooseAct_139 (lv_topl (fun v173 e173 => ?_))
                    refine lv_ladd hx hb dX6_chooseAct_140 (lv_topl (fun v174 e174 => ?_))
                    refine lv_lstore (lv' := [(20, .long v174), (19, .int r164), (18, .int r161), (17, .int v159), (16, .int v149), (15, .int r120), (14, .int v111), (13, .int r73), (12, .int r70), (11, .int v54), (10, .int r6), (8, .long r2), (7, .int v150), (5, .long v151), (0, .ref (qpl 0)), (1, .ref (qh 0)), (2, .int p0), (3, .int p1), (4, .int p2)]) hx hb dX6_chooseAct_141 hl (by decide) rfl (fun ls hl => ?_)
                    refine lv_lload hx hb dX6_chooseAct_143 (lv_at hl 0 rfl) ?_
                    refine lv_lload hx hb dX6_chooseAct_145 (lv_at hl 13 rfl) ?_
                    refine W.lcmp hx hb dX6_chooseAct_147 (lv_topi (fun v175 e175 => ?_))
                    refine lv_if_ge (tgt := 167) hx hb dX6_chooseAct_148 (by decide) (fun c176 => ?_) (fun c176 => ?_)
                    · have f176 : 0 ≤ v175.toInt := f_le (by decide) rfl c176
                      obtain ⟨v177, e177⟩ : ∃ z : Int32, z = v149 + 1 := ⟨_, rfl⟩
                      refine lv_iinc (v := v177) (lv' := [(16, .int v177), (20, .long v174), (19, .int r164), (18, .int r161), (17, .int v159), (15, .int r120), (14, .int v111), (13, .int r73), (12, .int r70), (11, .int v54), (10, .int r6), (8, .long r2), (7, .int v150), (5, .long v151), (0, .ref (qpl 0)), (1, .ref (qh 0)), (2, .int p0), (3, .int p1), (4, .int p2)]) hx hb dX6_chooseAct_167 hl (k := 4) rfl (by rw [e177]; rfl) (by decide) rfl (fun ls hl => ?_)
                      have t177 : v177.toInt = v149.toInt + 1 := by rw [e177]; exact i_add rfl (by decide) (by omega) (by omega)
                      refine lv_goto (tgt := 76) hx hb dX6_chooseAct_170 (by decide) ?_
                      exact ih76 v177 v150 v151 _ _ _ (by omega) (by first | decide | omega) (LT_g hzrr76_3 (exl_X6_chooseAct_6 e155 e156 e157 e158 e159 w162 w165 e170 e171 e173 e174 e175 e177 c153 w168 c176)) hP hD hS (lv_sub hl [0, 5, 6, 7, 8, 9, 10, 11, 12, 13, 14, 15, 16, 17, 18] rfl)
                    · have f176 : v175.toInt < 0 := f_nle (by decide) rfl c176
                      refine lv_lload hx hb dX6_chooseAct_151 (lv_at hl 0 rfl) ?_
                      refine lv_lstore (lv' := [(5, .long v174), (20, .long v174), (19, .int r164), (18, .int r161), (17, .int v159), (16, .int v149), (15, .int r120), (14, .int v111), (13, .int r73), (12, .int r70), (11, .int v54), (10, .int r6), (8, .long r2), (7, .int v150), (0, .ref (qpl 0)), (1, .ref (qh 0)), (2, .int p0), (3, .int p1), (4, .int p2)]) hx hb dX6_chooseAct_153 hl (by decide) rfl (fun ls hl => ?_)
                      refine lv_iload hx hb dX6_chooseAct_155 (lv_at hl 4 rfl) ?_
                      refine lv_aload_n hx hb dX6_chooseAct_157 rfl (lv_at hl 14 rfl) ?_
                      refine g_get cx hP iw_X6_chooseAct_X6 0 rfl rfl 4 (by decide) rfl fw_X6_chooseAct_24 rfl dX6_chooseAct_158 ?_
                      refine lv_iload hx hb dX6_chooseAct_161 (lv_at hl 2 rfl) ?_
                      have hn178 : vp_in r164 35 := f_in (a := r164.toInt) rfl (by omega) (by omega)
                      refine va_iald hx hb cx.2.1 hP 4 0 rfl rfl hn178 dX6_chooseAct_163 (lv_topi (fun v179 e179 => ?_))
                      refine lv_iadd hx hb dX6_chooseAct_164 (lv_topi (fun v180 e180 => ?_))
                      refine lv_istore (lv' := [(7, .int v180), (5, .long v174), (20, .long v174), (19, .int r164), (18, .int r161), (17, .int v159), (16, .int v149), (15, .int r120), (14, .int v111), (13, .int r73), (12, .int r70), (11, .int v54), (10, .int r6), (8, .long r2), (0, .ref (qpl 0)), (1, .ref (qh 0)), (2, .int p0), (3, .int p1), (4, .int p2)]) hx hb dX6_chooseAct_165 hl (by decide) rfl (fun ls hl => ?_)
                      obtain ⟨v181, e181⟩ : ∃ z : Int32, z = v149 + 1 := ⟨_, rfl⟩
                      refine lv_iinc (v := v181) (lv' := [(16, .int v181), (7, .int v180), (5, .long v174), (20, .long v174), (19, .int r164), (18, .int r161), (17, .int v159), (15, .int r120), (14, .int v111), (13, .int r73), (12, .int r70), (11, .int v54), (10, .int r6), (8, .long r2), (0, .ref (qpl 0)), (1, .ref (qh 0)), (2, .int p0), (3, .int p1), (4, .int p2)]) hx hb dX6_chooseAct_167 hl (k := 6) rfl (by rw [e181]; rfl) (by decide) rfl (fun ls hl => ?_)
                      have t181 : v181.toInt = v149.toInt + 1 := by rw [e181]; exact i_add rfl (by decide) (by omega) (by omega)
                      refine lv_goto (tgt := 76) hx hb dX6_chooseAct_170 (by decide) ?_
                      exact ih76 v181 v180 v174 _ _ _ (by omega) (by first | decide | omega) (LT_g hzrr76_3 (exl_X6_chooseAct_7 e155 e156 e157 e158 e159 w162 w165 e170 e171 e173 e174 e175 e179 e180 e181 c153 w168 c176)) hP hD hS (lv_sub hl [0, 7, 8, 9, 10, 11, 12, 13, 1, 2, 14, 15, 16, 17, 18] rfl)
              have hlit182 : (0 : Int32).toInt = 0 := by decide
              exact hL76 (3) 0 v112 v113 _ _ _ (by omega) (by first | decide | omega) err76_3 hP hD hS (lv_sub hl [0, 1, 2, 3, 4, 5, 6, 7, 8, 9, 10, 11, 12, 13, 14] rfl)
        have hlit183 : (0 : Int32).toInt = 0 := by decide
        exact hL52 (6) 0 v55 v56 _ _ _ (by omega) (by first | decide | omega) err52_2 hP hD hS (lv_sub hl [0, 1, 2, 3, 4, 5, 6, 7, 8, 9, 10, 11, 12] rfl)
  have hlit184 : (0 : Int32).toInt = 0 := by decide
  have hlit185 : (0 : Int32).toInt = 0 := by decide
  exact hL25 (6) 0 0 9223372036854775807 _ _ _ (by omega) (by first | decide | omega) err25_1 hP hD hS (lv_sub hl [0, 1, 2, 3, 4, 5, 6, 7, 8, 9] rfl)
theorem fw_X6_chooseActs_45 : Cond.fieldLink RX6 45 "StillInAugust$Hands" "ALL" "[I" ∈ wsX6_chooseActs := by decide +kernel
theorem fw_X6_chooseActs_64 : Cond.fieldLink RX6 64 "StillInAugust$House" "hooks" "I" ∈ wsX6_chooseActs := by decide +kernel
theorem nd_X6_chooseAct : yX6_chooseAct.cls = RX6 ∧ yX6_chooseAct.cls ≠ "java/lang/invoke/MethodHandle" ∧ yX6_chooseAct.cls ≠ "java/lang/invoke/VarHandle" ∧ (parseMethodDescriptor yX6_chooseAct.desc).map (fun d => d.parameters.length) = some 4 := by decide +kernel
theorem iw_X6_chooseActs_X4 : ∀ w ∈ u_ws RX4 TX4 14, w ∈ wsX6_chooseActs := fun _ h => List.mem_cons_of_mem _ (List.mem_append_left _ (List.mem_append_right _ h))
def B_X6_chooseActs_50_2 (spl : Nat → Nat → Int32) (tpl : Nat → Nat → Int64) (sh : Nat → Nat → Int32) (p0 : Int32) (v20 : Int32) (g21 : Nat → Int64) (g22 : Nat → Int32) (y5 : Int32) (z : Int32 × (Nat → Int64) × (Nat → Int32)) : Sum (Int32 × (Nat → Int64) × (Nat → Int32)) (Sum (Int32 × (Nat → Int64) × (Nat → Int32)) ((Nat → Int64) × (Nat → Int32))) := let v39 := (z.1); let g40 := (z.2.1); let g41 := (z.2.2); if y5 < v39 then Sum.inr (Sum.inl (((v20 + 1), g40, g41))) else LetF (J_X6_chooseAct (up2 spl 2 g41) (up2L tpl 1 g40) sh p0 (zALL.getD (v20).toNatClampNeg 0) v39) (fun y50 => Sum.inl (((v39 + 1), (y50.1), (y50.2))))
def B_X6_chooseActs_18 (spl : Nat → Nat → Int32) (tpl : Nat → Nat → Int64) (sh : Nat → Nat → Int32) (p0 : Int32) (y5 : Int32) (z : Int32 × (Nat → Int64) × (Nat → Int32)) : Sum (Int32 × (Nat → Int64) × (Nat → Int32)) ((Nat → Int64) × (Nat → Int32)) := let v20 := (z.1); let g21 := (z.2.1); let g22 := (z.2.2); if 35 ≤ v20 then Sum.inr ((g21, g22)) else if (J_X3_total (zALL.getD (v20).toNatClampNeg 0)) ≤ (sh 0 1) then LTs (Sum.inl default) (B_X6_chooseActs_50_2 spl tpl sh p0 v20 g21 g22 y5) 4 ((0 : Int32), g21, g22) else Sum.inl (((v20 + 1), g21, g22))
def J_X6_chooseActs (spl : Nat → Nat → Int32) (tpl : Nat → Nat → Int64) (sh : Nat → Nat → Int32) (p0 : Int32) : (Nat → Int64) × (Nat → Int32) := LetF (J_X4_mostComing sh) (fun y5 => LTs default (B_X6_chooseActs_18 spl tpl sh p0 y5) 36 ((0 : Int32), (tpl 1), (spl 2)))
theorem exl_X6_chooseActs_0 {spl : Nat → Nat → Int32} {tpl : Nat → Nat → Int64} {sh : Nat → Nat → Int32} {p0 : Int32} {r2 : Int32} (w4 : r2 = J_X4_mostComing sh) : J_X6_chooseActs spl tpl sh p0 = LTs (default : (Nat → Int64) × (Nat → Int32)) (B_X6_chooseActs_18 spl tpl sh p0 r2) 36 ((0 : Int32), (tpl 1), (spl 2)) := by unfold J_X6_chooseActs; refine lt_e w4 ?_; rfl
theorem exl_X6_chooseActs_1 {spl : Nat → Nat → Int32} {tpl : Nat → Nat → Int64} {sh : Nat → Nat → Int32} {p0 : Int32} {r2 : Int32} {v20 : Int32} {g21 : Nat → Int64} {g22 : Nat → Int32} (c24 : (35 : Int32) ≤ v20) : (B_X6_chooseActs_18 spl tpl sh p0 r2) (v20, g21, g22) = Sum.inr ((g21, g22)) := by unfold B_X6_chooseActs_18; refine Eq.trans (if_pos c24) ?_; rfl
theorem exl_X6_chooseActs_2 {spl : Nat → Nat → Int32} {tpl : Nat → Nat → Int64} {sh : Nat → Nat → Int32} {p0 : Int32} {r2 : Int32} {v20 : Int32} {g21 : Nat → Int64} {g22 : Nat → Int32} {v26 : Int32} {r28 : Int32} (e26 : v26 = (zALL.getD (v20).toNatClampNeg 0)) (w29 : r28 = J_X3_total v26) (c24 : ¬ ((35 : Int32) ≤ v20)) (c30 : r28 ≤ (sh 0 1)) : (B_X6_chooseActs_18 spl tpl sh p0 r2) (v20, g21, g22) = LTs (Sum.inl default : Sum (Int32 × (Nat → Int64) × (Nat → Int32)) ((Nat → Int64) × (Nat → Int32))) (B_X6_chooseActs_50_2 spl tpl sh p0 v20 g21 g22 r2) 4 ((0 : Int32), g21, g22) := by subst e26 w29; unfold B_X6_chooseActs_18; refine Eq.trans (if_neg c24) ?_; refine Eq.trans (if_pos c30) ?_; rfl
theorem exl_X6_chooseActs_3 {spl : Nat → Nat → Int32} {tpl : Nat → Nat → Int64} {sh : Nat → Nat → Int32} {p0 : Int32} {v20 : Int32} {g21 : Nat → Int64} {g22 : Nat → Int32} {r2 : Int32} {v39 : Int32} {g40 : Nat → Int64} {g41 : Nat → Int32} {v44 : Int32} (e44 : v44 = v20 + 1) (c43 : r2 < v39) : (B_X6_chooseActs_50_2 spl tpl sh p0 v20 g21 g22 r2) (v39, g40, g41) = Sum.inr (Sum.inl (v44, g40, g41)) := by subst e44; unfold B_X6_chooseActs_50_2; refine Eq.trans (if_pos c43) ?_; rfl
theorem exl_X6_chooseActs_4 {spl : Nat → Nat → Int32} {tpl : Nat → Nat → Int64} {sh : Nat → Nat → Int32} {p0 : Int32} {v20 : Int32} {g21 : Nat → Int64} {g22 : Nat → Int32} {r2 : Int32} {v39 : Int32} {g40 : Nat → Int64} {g41 : Nat → Int32} {v51 : Int32} {m47 : Nat → Int64} {m48 : Nat → Int32} {v26 : Int32} (e26 : v26 = (zALL.getD (v20).toNatClampNeg 0)) (e51 : v51 = v39 + 1) (c43 : ¬ (r2 < v39)) (w49 : (m47, m48) = J_X6_chooseAct (up2 spl 2 g41) (up2L tpl 1 g40) sh p0 v26 v39) : (B_X6_chooseActs_50_2 spl tpl sh p0 v20 g21 g22 r2) (v39, g40, g41) = Sum.inl (v51, m47, m48) := by subst e26 e51; unfold B_X6_chooseActs_50_2; refine Eq.trans (if_neg c43) ?_; refine lt_e w49 ?_; rfl
theorem exl_X6_chooseActs_5 {spl : Nat → Nat → Int32} {tpl : Nat → Nat → Int64} {sh : Nat → Nat → Int32} {p0 : Int32} {r2 : Int32} {v20 : Int32} {g21 : Nat → Int64} {g22 : Nat → Int32} {v53 : Int32} {v26 : Int32} {r28 : Int32} (e26 : v26 = (zALL.getD (v20).toNatClampNeg 0)) (w29 : r28 = J_X3_total v26) (e53 : v53 = v20 + 1) (c24 : ¬ ((35 : Int32) ≤ v20)) (c30 : ¬ (r28 ≤ (sh 0 1))) : (B_X6_chooseActs_18 spl tpl sh p0 r2) (v20, g21, g22) = Sum.inl (v53, g21, g22) := by subst e26 w29 e53; unfold B_X6_chooseActs_18; refine Eq.trans (if_neg c24) ?_; refine Eq.trans (if_neg c30) ?_; rfl
set_option maxHeartbeats 4000000 in
set_option maxRecDepth 100000 in
theorem c_X6_chooseActs (l : Launch) (D : va_G) (k : Nat → ClassId) (b : Nat → Nat) (qpl : Nat → Nat) (spl : Nat → Nat → Int32) (tpl : Nat → Nat → Int64) (qh : Nat → Nat) (sh : Nat → Nat → Int32) (sz : Nat) (p0 : Int32) (h_pw : 0 ≤ (spl 0 0).toInt ∧ (spl 0 0).toInt ≤ 5) (h_pl : p0.toInt ≤ (spl 0 0).toInt) (h_hk : 0 ≤ (sh 0 1).toInt ∧ (sh 0 1).toInt ≤ 4) (h_of : ∀ j, 0 ≤ (sh 2 j).toInt ∧ (sh 2 j).toInt ≤ 4) (hp0 : 0 ≤ p0.toInt ∧ p0.toInt ≤ 4) : MetV l D k b yX6_chooseActs wsX6_chooseActs ({ frames := 4, cells := 0, slots := 0, locals := 106 } : Room) [cell65_ qpl spl, cell26_ k qpl tpl, cell23_ k qpl spl, cell24_ k qpl tpl, cell25_ k qpl spl, cell32_ qh sh, cell0_ k qh sh, cell1_ k qh sh, cell4_ k qh sh, cell3_ k qh sh, cell2_ k qh sh] sz [.ref (qpl 0), .ref (qh 0), .int p0] (fun (u : (Nat → Int64) × (Nat → Int32)) => ((u.1), (u.2)) = J_X6_chooseActs spl tpl sh p0) (fun u => [cell65_ qpl spl, cell108_ k qpl (u.1), cell109_ k qpl (u.2), cell24_ k qpl tpl, cell25_ k qpl spl, cell32_ qh sh, cell0_ k qh sh, cell1_ k qh sh, cell4_ k qh sh, cell3_ k qh sh, cell2_ k qh sh]) := by
  refine g_enter (cc := cX6_chooseActs) (maxL := 9) (ret := none) (by decide) rfl (Nat.le_of_ble_eq_true rfl) ?_
  intro p e s m below meth c A hsz hAe cx hr hP hD hS ls hl
  rw [hAe]
  refine g_q (fun Q hQ => ?_)
  have hx := cx.1.1
  have hb := cx.1.2.1
  have bp0 := i_rng p0
  have hl : lv_has ls 9 [(0, .ref (qpl 0)), (1, .ref (qh 0)), (2, .int p0)] := hl
  obtain ⟨H, eH⟩ : ∃ H : Heap, H = s.heap := ⟨_, rfl⟩
  obtain ⟨locs, el⟩ : ∃ L : List Loc, L = [] := ⟨_, rfl⟩
  have hP : va_P D vwCl [cell65_ qpl spl, cell26_ k qpl tpl, cell23_ k qpl spl, cell24_ k qpl tpl, cell25_ k qpl spl, cell32_ qh sh, cell0_ k qh sh, cell1_ k qh sh, cell4_ k qh sh, cell3_ k qh sh, cell2_ k qh sh] H := by rw [eH]; exact hP
  have hD : va_D A [cell65_ qpl spl, cell26_ k qpl tpl, cell23_ k qpl spl, cell24_ k qpl tpl, cell25_ k qpl spl, cell32_ qh sh, cell0_ k qh sh, cell1_ k qh sh, cell4_ k qh sh, cell3_ k qh sh, cell2_ k qh sh] := hD
  have hS : va_S A s.heap H locs := by rw [eH, el]; exact hS
  suffices goal : W p l e ({ frames := 4, cells := 0, slots := 0, locals := 106 } : Room) s m ([.ref (qpl 0), .ref (qh 0), .int p0] : List Value).toArray below meth c H locs 0 0 Q (F0 m 0 ls []) by rw [eH, el] at goal; exact goal
  refine lv_aload_n hx hb dX6_chooseActs_0 rfl (lv_at hl 1 rfl) ?_
  refine g_ir (g_runV (wc := [cell32_ qh sh, cell0_ k qh sh, cell1_ k qh sh, cell4_ k qh sh, cell3_ k qh sh, cell2_ k qh sh]) (rest := []) cx hP hD hS [5, 6, 7, 8, 9, 10] rfl (by decide) [] (c_X4_mostComing l D k b qh sh H.size) gX6_chooseActs_X4_mostComing rfl rfl rfl nd_X4_mostComing ⟨Nat.le_of_ble_eq_true rfl, Nat.le_of_ble_eq_true rfl⟩ (ci := 2) (q0 := 0) rfl rfl rfl hl.1 rfl (Nat.le_of_ble_eq_true rfl) ⟨Nat.zero_le _, Nat.zero_le _⟩ dX6_chooseActs_1) cx.2.2.1 hP hD hS [5, 6, 7, 8, 9, 10] rfl rfl (fun r2 H locs hw1 hP hS => ?_)
  replace hw1 : (r2.toInt = 0 ∨ r2.toInt = 2) ∧ (r2 = J_X4_mostComing sh) := hw1
  obtain ⟨w3, w4⟩ := hw1
  refine lv_istore_n (lv' := [(3, .int r2), (0, .ref (qpl 0)), (1, .ref (qh 0)), (2, .int p0)]) hx hb dX6_chooseActs_4 rfl hl (by decide) rfl (fun ls hl => ?_)
  refine va_gets hx hb cx.2.2.2.t0.1 hS cx.1.2.2.2.1 (cx.1.2.2.2.2 _ fw_X6_chooseActs_45) (fun _ h => h) dX6_chooseActs_5 ?_
  refine lv_astore (lv' := [(4, .ref (b 0)), (3, .int r2), (0, .ref (qpl 0)), (1, .ref (qh 0)), (2, .int p0)]) hx hb dX6_chooseActs_8 hl (by decide) rfl (fun ls hl => ?_)
  refine lv_aload hx hb dX6_chooseActs_10 (lv_at hl 0 rfl) ?_
  refine va_tlen hx hb cx.2.2.2.t0.2 hS (v := 35) (by decide) dX6_chooseActs_12 ?_
  refine lv_istore (lv' := [(5, .int 35), (4, .ref (b 0)), (3, .int r2), (0, .ref (qpl 0)), (1, .ref (qh 0)), (2, .int p0)]) hx hb dX6_chooseActs_13 hl (by decide) rfl (fun ls hl => ?_)
  refine lv_iconst (v := 0) hx hb dX6_chooseActs_15 (by decide) ?_
  refine lv_istore (lv' := [(6, .int 0), (5, .int 35), (4, .ref (b 0)), (3, .int r2), (0, .ref (qpl 0)), (1, .ref (qh 0)), (2, .int p0)]) hx hb dX6_chooseActs_16 hl (by decide) rfl (fun ls hl => ?_)
  obtain ⟨rr18_1, err18_1⟩ : ∃ r : (Nat → Int64) × (Nat → Int32), LTs (default : (Nat → Int64) × (Nat → Int32)) (B_X6_chooseActs_18 spl tpl sh p0 r2) 36 ((0 : Int32), (tpl 1), (spl 2)) = r := ⟨_, rfl⟩
  have hrr18_1 : J_X6_chooseActs spl tpl sh p0 = rr18_1 := ((exl_X6_chooseActs_0 w4)).trans err18_1
  have hL18 : ∀ (n23 : Nat) (v20 : Int32) (g21 : Nat → Int64) (g22 : Nat → Int32) (H : Heap) (locs : List Loc) (ls : Array Slot), 35 - v20.toInt < (n23 : Int) → (0 ≤ v20.toInt ∧ v20.toInt ≤ 35) → (LTs (default : (Nat → Int64) × (Nat → Int32)) (B_X6_chooseActs_18 spl tpl sh p0 r2) n23 (v20, g21, g22) = rr18_1) → va_P D vwCl [cell65_ qpl spl, (qpl 1, .inl (k 1, 630, .inr (.inl g21))), (qpl 2, .inl (k 0, 525, .inl g22)), cell24_ k qpl tpl, cell25_ k qpl spl, cell32_ qh sh, cell0_ k qh sh, cell1_ k qh sh, cell4_ k qh sh, cell3_ k qh sh, cell2_ k qh sh] H → va_D A [cell65_ qpl spl, (qpl 1, .inl (k 1, 630, .inr (.inl g21))), (qpl 2, .inl (k 0, 525, .inl g22)), cell24_ k qpl tpl, cell25_ k qpl spl, cell32_ qh sh, cell0_ k qh sh, cell1_ k qh sh, cell4_ k qh sh, cell3_ k qh sh, cell2_ k qh sh] → va_S A s.heap H locs → lv_has ls 9 [(6, .int v20), (5, .int 35), (4, .ref (b 0)), (3, .int r2), (0, .ref (qpl 0)), (1, .ref (qh 0)), (2, .int p0)] → W p l e ({ frames := 4, cells := 0, slots := 0, locals := 106 } : Room) s m ([.ref (qpl 0), .ref (qh 0), .int p0] : List Value).toArray below meth c H locs 0 0 Q (F0 m 18 ls []) := by
    intro n23
    induction n23 with
    | zero => intro v20 g21 g22 H locs ls hmn23 bv20 hzrr18_1 hP hD hS hl; exact absurd hmn23 (by omega)
    | succ n23 ih18 =>
      intro v20 g21 g22 H locs ls hmn23 bv20 hzrr18_1 hP hD hS hl
      refine lv_iload hx hb dX6_chooseActs_18 (lv_at hl 0 rfl) ?_
      refine lv_iload hx hb dX6_chooseActs_20 (lv_at hl 1 rfl) ?_
      refine lv_icmp_ge (tgt := 78) hx hb dX6_chooseActs_22 (by decide) (fun c24 => ?_) (fun c24 => ?_)
      · have f24 : 35 ≤ v20.toInt := f_le (by decide) rfl c24
        rw [hQ]
        exact x_v cx hr (g21, g22) hP hD hS (show (g21, g22) = J_X6_chooseActs spl tpl sh p0 from ((hrr18_1.trans (LT_r hzrr18_1 (exl_X6_chooseActs_1 c24)))).symm) dX6_chooseActs_78
      · have f24 : v20.toInt < 35 := f_nle (by decide) rfl c24
        refine lv_aload hx hb dX6_chooseActs_25 (lv_at hl 2 rfl) ?_
        refine lv_iload hx hb dX6_chooseActs_27 (lv_at hl 0 rfl) ?_
        have hn25 : vp_in v20 35 := f_in (a := v20.toInt) rfl (by omega) (by omega)
        refine va_ti hx hb cx.2.2.2.t0.2 hS hn25 rfl dX6_chooseActs_29 (lv_topi (fun v26 e26 => ?_))
        have t26 : 0 ≤ v26.toInt ∧ v26.toInt ≤ 400 ∧ v26.toInt / 100 + v26.toInt / 10 % 10 + v26.toInt % 10 ≤ 4 := by rw [e26]; exact zALL_v _
        refine lv_istore (lv' := [(7, .int v26), (6, .int v20), (5, .int 35), (4, .ref (b 0)), (3, .int r2), (0, .ref (qpl 0)), (1, .ref (qh 0)), (2, .int p0)]) hx hb dX6_chooseActs_30 hl (by decide) rfl (fun ls hl => ?_)
        refine lv_iload hx hb dX6_chooseActs_32 (lv_at hl 0 rfl) ?_
        refine g_ir (g_runS (wc := []) (rest := []) cx hP hD hS [] rfl (by decide) [.int v26] (c_X3_total l D k b H.size v26) gX6_chooseActs_X3_total rfl rfl rfl nd_X3_total ⟨Nat.le_of_ble_eq_true rfl, Nat.le_of_ble_eq_true rfl⟩ rfl hl.1 rfl (Nat.le_of_ble_eq_true rfl) ⟨Nat.zero_le _, Nat.zero_le _⟩ dX6_chooseActs_34) cx.2.2.1 hP hD hS [] rfl rfl (fun r28 H locs hw27 hP hS => ?_)
        have w29 : r28 = J_X3_total v26 := hw27
        clear hw27
        have zr28 : r28.toInt = tot v26 := tot3 w29 (show 0 ≤ v26.toInt from by first | decide | omega)
        have yr28 := tot_0 (x := v26) (by first | decide | omega)
        refine lv_aload_n hx hb dX6_chooseActs_37 rfl (lv_at hl 6 rfl) ?_
        refine g_get cx hP iw_X6_chooseActs_X4 5 rfl rfl 1 (by decide) rfl fw_X6_chooseActs_64 rfl dX6_chooseActs_38 ?_
        refine lv_icmp_le (tgt := 47) hx hb dX6_chooseActs_41 (by decide) (fun c30 => ?_) (fun c30 => ?_)
        · have f30 : r28.toInt ≤ (sh 0 1).toInt := f_le rfl rfl c30
          refine lv_iconst (v := 0) hx hb dX6_chooseActs_47 (by decide) ?_
          refine lv_istore (lv' := [(8, .int 0), (7, .int v26), (6, .int v20), (5, .int 35), (4, .ref (b 0)), (3, .int r2), (0, .ref (qpl 0)), (1, .ref (qh 0)), (2, .int p0)]) hx hb dX6_chooseActs_48 hl (by decide) rfl (fun ls hl => ?_)
          obtain ⟨rr50_2, err50_2⟩ : ∃ r : Sum (Int32 × (Nat → Int64) × (Nat → Int32)) ((Nat → Int64) × (Nat → Int32)), LTs (Sum.inl default : Sum (Int32 × (Nat → Int64) × (Nat → Int32)) ((Nat → Int64) × (Nat → Int32))) (B_X6_chooseActs_50_2 spl tpl sh p0 v20 g21 g22 r2) 4 ((0 : Int32), g21, g22) = r := ⟨_, rfl⟩
          have hrr50_2 : (B_X6_chooseActs_18 spl tpl sh p0 r2) (v20, g21, g22) = rr50_2 := ((exl_X6_chooseActs_2 e26 w29 c24 c30)).trans err50_2
          have hL50 : ∀ (n42 : Nat) (v39 : Int32) (g40 : Nat → Int64) (g41 : Nat → Int32) (H : Heap) (locs : List Loc) (ls : Array Slot), 3 - v39.toInt < (n42 : Int) → (0 ≤ v39.toInt ∧ v39.toInt ≤ 3) → (LTs (Sum.inl default : Sum (Int32 × (Nat → Int64) × (Nat → Int32)) ((Nat → Int64) × (Nat → Int32))) (B_X6_chooseActs_50_2 spl tpl sh p0 v20 g21 g22 r2) n42 (v39, g40, g41) = rr50_2) → va_P D vwCl [cell65_ qpl spl, (qpl 1, .inl (k 1, 630, .inr (.inl g40))), (qpl 2, .inl (k 0, 525, .inl g41)), cell24_ k qpl tpl, cell25_ k qpl spl, cell32_ qh sh, cell0_ k qh sh, cell1_ k qh sh, cell4_ k qh sh, cell3_ k qh sh, cell2_ k qh sh] H → va_D A [cell65_ qpl spl, (qpl 1, .inl (k 1, 630, .inr (.inl g40))), (qpl 2, .inl (k 0, 525, .inl g41)), cell24_ k qpl tpl, cell25_ k qpl spl, cell32_ qh sh, cell0_ k qh sh, cell1_ k qh sh, cell4_ k qh sh, cell3_ k qh sh, cell2_ k qh sh] → va_S A s.heap H locs → lv_has ls 9 [(8, .int v39), (7, .int v26), (6, .int v20), (5, .int 35), (4, .ref (b 0)), (3, .int r2), (0, .ref (qpl 0)), (1, .ref (qh 0)), (2, .int p0)] → W p l e ({ frames := 4, cells := 0, slots := 0, locals := 106 } : Room) s m ([.ref (qpl 0), .ref (qh 0), .int p0] : List Value).toArray below meth c H locs 0 0 Q (F0 m 50 ls []) := by
            intro n42
            induction n42 with
            | zero => intro v39 g40 g41 H locs ls hmn42 bv39 hzrr50_2 hP hD hS hl; exact absurd hmn42 (by omega)
            | succ n42 ih50 =>
              intro v39 g40 g41 H locs ls hmn42 bv39 hzrr50_2 hP hD hS hl
              refine lv_iload hx hb dX6_chooseActs_50 (lv_at hl 0 rfl) ?_
              refine lv_iload_n hx hb dX6_chooseActs_52 rfl (lv_at hl 5 rfl) ?_
              refine lv_icmp_gt (tgt := 72) hx hb dX6_chooseActs_53 (by decide) (fun c43 => ?_) (fun c43 => ?_)
              · have f43 : r2.toInt < v39.toInt := f_lt rfl rfl c43
                obtain ⟨v44, e44⟩ : ∃ z : Int32, z = v20 + 1 := ⟨_, rfl⟩
                refine lv_iinc (v := v44) (lv' := [(6, .int v44), (8, .int v39), (7, .int v26), (5, .int 35), (4, .ref (b 0)), (3, .int r2), (0, .ref (qpl 0)), (1, .ref (qh 0)), (2, .int p0)]) hx hb dX6_chooseActs_72 hl (k := 2) rfl (by rw [e44]; rfl) (by decide) rfl (fun ls hl => ?_)
                have t44 : v44.toInt = v20.toInt + 1 := by rw [e44]; exact i_add rfl (by decide) (by omega) (by omega)
                refine lv_goto (tgt := 18) hx hb dX6_chooseActs_75 (by decide) ?_
                exact ih18 v44 g40 g41 _ _ _ (by omega) (by first | decide | omega) (LT_g hzrr18_1 (hrr50_2.trans (LT_r hzrr50_2 (exl_X6_chooseActs_3 e44 c43)))) hP hD hS (lv_sub hl [0, 3, 4, 5, 6, 7, 8] rfl)
              · have f43 : v39.toInt ≤ r2.toInt := f_nlt rfl rfl c43
                refine lv_aload_n hx hb dX6_chooseActs_56 rfl (lv_at hl 6 rfl) ?_
                refine lv_aload_n hx hb dX6_chooseActs_57 rfl (lv_at hl 7 rfl) ?_
                refine lv_iload_n hx hb dX6_chooseActs_58 rfl (lv_at hl 8 rfl) ?_
                refine lv_iload hx hb dX6_chooseActs_59 (lv_at hl 1 rfl) ?_
                refine lv_iload hx hb dX6_chooseActs_61 (lv_at hl 0 rfl) ?_
                refine g_vF (w1 := fun (u : (Nat → Int64) × (Nat → Int32)) => [cell65_ qpl spl, cell108_ k qpl (u.1), cell109_ k qpl (u.2), cell24_ k qpl tpl, cell25_ k qpl spl, cell32_ qh sh, cell0_ k qh sh, cell1_ k qh sh, cell4_ k qh sh, cell3_ k qh sh, cell2_ k qh sh]) (g_runVF (ws := [cell65_ qpl spl, (qpl 1, .inl (k 1, 630, .inr (.inl g40))), (qpl 2, .inl (k 0, 525, .inl g41)), cell24_ k qpl tpl, cell25_ k qpl spl, cell32_ qh sh, cell0_ k qh sh, cell1_ k qh sh, cell4_ k qh sh, cell3_ k qh sh, cell2_ k qh sh]) (rest := []) cx hP hD hS [.ref (qh 0), .int p0, .int v26, .int v39] (c_X6_chooseAct l D k b qpl (up2 spl 2 g41) (up2L tpl 1 g40) qh sh H.size p0 v26 v39 (show 0 ≤ (spl 0 0).toInt ∧ (spl 0 0).toInt ≤ 5 from by first | decide | omega) (show p0.toInt ≤ (spl 0 0).toInt from by first | decide | omega) (show 0 ≤ (sh 0 1).toInt ∧ (sh 0 1).toInt ≤ 4 from by first | decide | omega) h_of (show 0 ≤ v26.toInt ∧ v26.toInt ≤ 400 ∧ tot v26 ≤ 4 from by first | decide | omega) (show 0 ≤ p0.toInt ∧ p0.toInt ≤ 4 from by first | decide | omega) (show 0 ≤ v39.toInt ∧ v39.toInt ≤ 2 from by first | decide | omega)) gX6_chooseActs_X6_chooseAct rfl rfl rfl nd_X6_chooseAct ⟨Nat.le_of_ble_eq_true rfl, Nat.le_of_ble_eq_true rfl⟩ (ci := 4) (q0 := 0) rfl rfl rfl hl.1 rfl (Nat.le_of_ble_eq_true rfl) ⟨Nat.zero_le _, Nat.zero_le _⟩ dX6_chooseActs_63) cx.2.2.1 hD hS (fun u46 H locs hw45 hP hD hS => ?_)
                obtain ⟨m47, m48⟩ := u46
                have hP : va_P D vwCl [cell65_ qpl spl, (qpl 1, .inl (k 1, 630, .inr (.inl m47))), (qpl 2, .inl (k 0, 525, .inl m48)), cell24_ k qpl tpl, cell25_ k qpl spl, cell32_ qh sh, cell0_ k qh sh, cell1_ k qh sh, cell4_ k qh sh, cell3_ k qh sh, cell2_ k qh sh] H := hP
                have hD : va_D A [cell65_ qpl spl, (qpl 1, .inl (k 1, 630, .inr (.inl m47))), (qpl 2, .inl (k 0, 525, .inl m48)), cell24_ k qpl tpl, cell25_ k qpl spl, cell32_ qh sh, cell0_ k qh sh, cell1_ k qh sh, cell4_ k qh sh, cell3_ k qh sh, cell2_ k qh sh] := hD
                have w49 : (m47, m48) = J_X6_chooseAct (up2 spl 2 g41) (up2L tpl 1 g40) sh p0 v26 v39 := hw45
                clear hw45
                obtain ⟨v51, e51⟩ : ∃ z : Int32, z = v39 + 1 := ⟨_, rfl⟩
                refine lv_iinc (v := v51) (lv' := [(8, .int v51), (7, .int v26), (6, .int v20), (5, .int 35), (4, .ref (b 0)), (3, .int r2), (0, .ref (qpl 0)), (1, .ref (qh 0)), (2, .int p0)]) hx hb dX6_chooseActs_66 hl (k := 0) rfl (by rw [e51]; rfl) (by decide) rfl (fun ls hl => ?_)
                have t51 : v51.toInt = v39.toInt + 1 := by rw [e51]; exact i_add rfl (by decide) (by omega) (by omega)
                refine lv_goto (tgt := 50) hx hb dX6_chooseActs_69 (by decide) ?_
                exact ih50 v51 m47 m48 _ _ _ (by omega) (by first | decide | omega) (LT_g hzrr50_2 (exl_X6_chooseActs_4 e26 e51 c43 w49)) hP hD hS (lv_sub hl [0, 1, 2, 3, 4, 5, 6, 7, 8] rfl)
          have hlit52 : (0 : Int32).toInt = 0 := by decide
          exact hL50 (4) 0 g21 g22 _ _ _ (by omega) (by first | decide | omega) err50_2 hP hD hS (lv_sub hl [0, 1, 2, 3, 4, 5, 6, 7, 8] rfl)
        · have f30 : (sh 0 1).toInt < r28.toInt := f_nle rfl rfl c30
          refine lv_goto (tgt := 72) hx hb dX6_chooseActs_44 (by decide) ?_
          obtain ⟨v53, e53⟩ : ∃ z : Int32, z = v20 + 1 := ⟨_, rfl⟩
          refine lv_iinc (v := v53) (lv' := [(6, .int v53), (7, .int v26), (5, .int 35), (4, .ref (b 0)), (3, .int r2), (0, .ref (qpl 0)), (1, .ref (qh 0)), (2, .int p0)]) hx hb dX6_chooseActs_72 hl (k := 1) rfl (by rw [e53]; rfl) (by decide) rfl (fun ls hl => ?_)
          have t53 : v53.toInt = v20.toInt + 1 := by rw [e53]; exact i_add rfl (by decide) (by omega) (by omega)
          refine lv_goto (tgt := 18) hx hb dX6_chooseActs_75 (by decide) ?_
          exact ih18 v53 g21 g22 _ _ _ (by omega) (by first | decide | omega) (LT_g hzrr18_1 (exl_X6_chooseActs_5 e26 w29 e53 c24 c30)) hP hD hS (lv_sub hl [0, 2, 3, 4, 5, 6, 7] rfl)
  have hlit54 : (0 : Int32).toInt = 0 := by decide
  exact hL18 (36) 0 (tpl 1) (spl 2) _ _ _ (by omega) (by first | decide | omega) err18_1 hP hD hS (lv_sub hl [0, 1, 2, 3, 4, 5, 6] rfl)
theorem fw_X6_solve_13 : Cond.fieldLink RX6 13 "StillInAugust$Plan" "cost" "[J" ∈ wsX6_solve := by decide +kernel
theorem fw_X6_solve_38 : Cond.fieldLink RX6 38 "StillInAugust$Plan" "weeks" "I" ∈ wsX6_solve := by decide +kernel
theorem fw_X6_solve_42 : Cond.fieldLink RX6 42 "StillInAugust$House" "weeks" "I" ∈ wsX6_solve := by decide +kernel
theorem fw_X6_solve_45 : Cond.fieldLink RX6 45 "StillInAugust$Hands" "ALL" "[I" ∈ wsX6_solve := by decide +kernel
theorem nd_X6_chooseActs : yX6_chooseActs.cls = RX6 ∧ yX6_chooseActs.cls ≠ "java/lang/invoke/MethodHandle" ∧ yX6_chooseActs.cls ≠ "java/lang/invoke/VarHandle" ∧ (parseMethodDescriptor yX6_chooseActs.desc).map (fun d => d.parameters.length) = some 2 := by decide +kernel
theorem nd_X6_chooseOrders : yX6_chooseOrders.cls = RX6 ∧ yX6_chooseOrders.cls ≠ "java/lang/invoke/MethodHandle" ∧ yX6_chooseOrders.cls ≠ "java/lang/invoke/VarHandle" ∧ (parseMethodDescriptor yX6_chooseOrders.desc).map (fun d => d.parameters.length) = some 2 := by decide +kernel
theorem iw_X6_solve_X4 : ∀ w ∈ u_ws RX4 TX4 14, w ∈ wsX6_solve := fun _ h => List.mem_cons_of_mem _ (List.mem_append_left _ (List.mem_append_right _ h))
theorem iw_X6_solve_X6 : ∀ w ∈ u_ws RX6 TX6 5, w ∈ wsX6_solve := fun _ h => List.mem_cons_of_mem _ (List.mem_append_right _ h)
def B_X6_solve_53_2 (spl : Nat → Nat → Int32) (tpl : Nat → Nat → Int64) (sh : Nat → Nat → Int32) (v16 : Int32) (g17 : Nat → Int64) (z : Int32 × (Nat → Int64) × (Nat → Int32) × (Nat → Int64) × (Nat → Int32)) : Sum (Int32 × (Nat → Int64) × (Nat → Int32) × (Nat → Int64) × (Nat → Int32)) (Sum (Int32 × (Nat → Int64)) (Int32 × (Nat → Int64) × (Nat → Int32) × (Nat → Int64) × (Nat → Int32))) := let v34 := (z.1); let g35 := (z.2.1); let g36 := (z.2.2.1); let g37 := (z.2.2.2.1); let g38 := (z.2.2.2.2); if v34 < 0 then Sum.inr (Sum.inr (((sh 0 0), g35, g36, g37, g38))) else LetF (J_X6_chooseOrders (up2 (up2 (up2 spl 0 (upd (spl 0) 0 (sh 0 0))) 2 g36) 4 g38) (up2L (up2L tpl 1 g35) 3 g37) sh v34) (fun y46 => LetF (J_X6_chooseActs (up2 (up2 (up2 spl 0 (upd (spl 0) 0 (sh 0 0))) 2 g36) 4 (y46.2)) (up2L (up2L tpl 1 g35) 3 (y46.1)) sh v34) (fun y52 => Sum.inl (((v34 + (-1)), (y52.1), (y52.2), (y46.1), (y46.2)))))
def B_X6_solve_10 (spl : Nat → Nat → Int32) (tpl : Nat → Nat → Int64) (sh : Nat → Nat → Int32) (z : Int32 × (Nat → Int64)) : Sum (Int32 × (Nat → Int64)) (Int32 × (Nat → Int64) × (Nat → Int32) × (Nat → Int64) × (Nat → Int32)) := let v16 := (z.1); let g17 := (z.2); if 35 ≤ v16 then LTs (Sum.inl default) (B_X6_solve_53_2 spl tpl sh v16 g17) 6 (((sh 0 0) - (1 : Int32)), g17, (spl 2), (tpl 3), (spl 4)) else LetF (J_X4_bonusFor sh (zALL.getD (v16).toNatClampNeg 0)) (fun y63 => Sum.inl (((v16 + 1), (vp_updL g17 ((J_X6_place (sh 0 0) v16 0)).toNatClampNeg (y63.toInt64)))))
def J_X6_solve (spl : Nat → Nat → Int32) (tpl : Nat → Nat → Int64) (sh : Nat → Nat → Int32) : Int32 × (Nat → Int64) × (Nat → Int32) × (Nat → Int64) × (Nat → Int32) := LTs default (B_X6_solve_10 spl tpl sh) 36 ((0 : Int32), (tpl 1))
theorem exl_X6_solve_0 {spl : Nat → Nat → Int32} {tpl : Nat → Nat → Int64} {sh : Nat → Nat → Int32} : J_X6_solve spl tpl sh = LTs (default : Int32 × (Nat → Int64) × (Nat → Int32) × (Nat → Int64) × (Nat → Int32)) (B_X6_solve_10 spl tpl sh) 36 ((0 : Int32), (tpl 1)) := by unfold J_X6_solve; rfl
theorem exl_X6_solve_1 {spl : Nat → Nat → Int32} {tpl : Nat → Nat → Int64} {sh : Nat → Nat → Int32} {v16 : Int32} {g17 : Nat → Int64} {v20 : Int32} (e20 : v20 = ((sh 0 0) - (1 : Int32))) (c19 : (35 : Int32) ≤ v16) : (B_X6_solve_10 spl tpl sh) (v16, g17) = LTs (Sum.inl default : Sum (Int32 × (Nat → Int64)) (Int32 × (Nat → Int64) × (Nat → Int32) × (Nat → Int64) × (Nat → Int32))) (B_X6_solve_53_2 spl tpl sh v16 g17) 6 (v20, g17, (spl 2), (tpl 3), (spl 4)) := by subst e20; unfold B_X6_solve_10; refine Eq.trans (if_pos c19) ?_; rfl
theorem exl_X6_solve_2 {spl : Nat → Nat → Int32} {tpl : Nat → Nat → Int64} {sh : Nat → Nat → Int32} {v16 : Int32} {g17 : Nat → Int64} {v34 : Int32} {g35 : Nat → Int64} {g36 : Nat → Int32} {g37 : Nat → Int64} {g38 : Nat → Int32} (c40 : v34 < (0 : Int32)) : (B_X6_solve_53_2 spl tpl sh v16 g17) (v34, g35, g36, g37, g38) = Sum.inr (Sum.inr (((sh 0 0), g35, g36, g37, g38))) := by unfold B_X6_solve_53_2; refine Eq.trans (if_pos c40) ?_; rfl
theorem exl_X6_solve_3 {spl : Nat → Nat → Int32} {tpl : Nat → Nat → Int64} {sh : Nat → Nat → Int32} {v16 : Int32} {g17 : Nat → Int64} {v34 : Int32} {g35 : Nat → Int64} {g36 : Nat → Int32} {g37 : Nat → Int64} {g38 : Nat → Int32} {v53 : Int32} {m49 : Nat → Int64} {m50 : Nat → Int32} {m43 : Nat → Int64} {m44 : Nat → Int32} (e53 : v53 = v34 + (-1)) (c40 : ¬ (v34 < (0 : Int32))) (w45 : (m43, m44) = J_X6_chooseOrders (up2 (up2 (up2 spl 0 (upd (spl 0) 0 (sh 0 0))) 2 g36) 4 g38) (up2L (up2L tpl 1 g35) 3 g37) sh v34) (w51 : (m49, m50) = J_X6_chooseActs (up2 (up2 (up2 spl 0 (upd (spl 0) 0 (sh 0 0))) 2 g36) 4 m44) (up2L (up2L tpl 1 g35) 3 m43) sh v34) : (B_X6_solve_53_2 spl tpl sh v16 g17) (v34, g35, g36, g37, g38) = Sum.inl (v53, m49, m50, m43, m44) := by subst e53; unfold B_X6_solve_53_2; refine Eq.trans (if_neg c40) ?_; refine lt_e w45 ?_; refine lt_e w51 ?_; rfl
theorem exl_X6_solve_4 {spl : Nat → Nat → Int32} {tpl : Nat → Nat → Int64} {sh : Nat → Nat → Int32} {v16 : Int32} {g17 : Nat → Int64} {v67 : Int32} {g66 : Nat → Int64} {r56 : Int32} {v59 : Int32} {v64 : Int64} {r61 : Int32} (w57 : r56 = J_X6_place (sh 0 0) v16 (0 : Int32)) (e59 : v59 = (zALL.getD (v16).toNatClampNeg 0)) (e64 : v64 = (r61 : Int32).toInt64) (eg66 : g66 = vp_updL g17 (r56).toNatClampNeg v64) (e67 : v67 = v16 + 1) (c19 : ¬ ((35 : Int32) ≤ v16)) (w62 : r61 = J_X4_bonusFor sh v59) : (B_X6_solve_10 spl tpl sh) (v16, g17) = Sum.inl (v67, g66) := by subst w57 e59 e64 eg66 e67; unfold B_X6_solve_10; refine Eq.trans (if_neg c19) ?_; refine lt_e w62 ?_; rfl
set_option maxHeartbeats 4000000 in
set_option maxRecDepth 100000 in
theorem c_X6_solve (l : Launch) (D : va_G) (k : Nat → ClassId) (b : Nat → Nat) (qpl : Nat → Nat) (spl : Nat → Nat → Int32) (tpl : Nat → Nat → Int64) (qh : Nat → Nat) (sh : Nat → Nat → Int32) (sz : Nat) (h_su : SUok (sh 5)) (h_wk : 0 ≤ (sh 0 0).toInt ∧ (sh 0 0).toInt ≤ 5) (h_hk : 0 ≤ (sh 0 1).toInt ∧ (sh 0 1).toInt ≤ 4) (h_of : ∀ j, 0 ≤ (sh 2 j).toInt ∧ (sh 2 j).toInt ≤ 4) : MetV l D k b yX6_solve wsX6_solve ({ frames := 5, cells := 0, slots := 0, locals := 134 } : Room) [cell65_ qpl spl, cell26_ k qpl tpl, cell23_ k qpl spl, cell24_ k qpl tpl, cell25_ k qpl spl, cell32_ qh sh, cell0_ k qh sh, cell1_ k qh sh, cell4_ k qh sh, cell3_ k qh sh, cell2_ k qh sh] sz [.ref (qpl 0), .ref (qh 0)] (fun (u : Int32 × (Nat → Int64) × (Nat → Int32) × (Nat → Int64) × (Nat → Int32)) => ((u.1).toInt = (sh 0 0).toInt) ∧ (((u.1), (u.2.1), (u.2.2.1), (u.2.2.2.1), (u.2.2.2.2)) = J_X6_solve spl tpl sh)) (fun u => [(qpl 0, .inr (4, [.int (u.1), .ref (qpl 1), .ref (qpl 2), .ref (qpl 3), .ref (qpl 4)])), cell108_ k qpl (u.2.1), cell109_ k qpl (u.2.2.1), cell115_ k qpl (u.2.2.2.1), cell116_ k qpl (u.2.2.2.2), cell32_ qh sh, cell0_ k qh sh, cell1_ k qh sh, cell4_ k qh sh, cell3_ k qh sh, cell2_ k qh sh]) := by
  refine g_enter (cc := cX6_solve) (maxL := 3) (ret := none) (by decide) rfl (Nat.le_of_ble_eq_true rfl) ?_
  intro p e s m below meth c A hsz hAe cx hr hP hD hS ls hl
  rw [hAe]
  refine g_q (fun Q hQ => ?_)
  have hx := cx.1.1
  have hb := cx.1.2.1
  have hl : lv_has ls 3 [(0, .ref (qpl 0)), (1, .ref (qh 0))] := hl
  obtain ⟨H, eH⟩ : ∃ H : Heap, H = s.heap := ⟨_, rfl⟩
  obtain ⟨locs, el⟩ : ∃ L : List Loc, L = [] := ⟨_, rfl⟩
  have hP : va_P D vwCl [cell65_ qpl spl, cell26_ k qpl tpl, cell23_ k qpl spl, cell24_ k qpl tpl, cell25_ k qpl spl, cell32_ qh sh, cell0_ k qh sh, cell1_ k qh sh, cell4_ k qh sh, cell3_ k qh sh, cell2_ k qh sh] H := by rw [eH]; exact hP
  have hD : va_D A [cell65_ qpl spl, cell26_ k qpl tpl, cell23_ k qpl spl, cell24_ k qpl tpl, cell25_ k qpl spl, cell32_ qh sh, cell0_ k qh sh, cell1_ k qh sh, cell4_ k qh sh, cell3_ k qh sh, cell2_ k qh sh] := hD
  have hS : va_S A s.heap H locs := by rw [eH, el]; exact hS
  suffices goal : W p l e ({ frames := 5, cells := 0, slots := 0, locals := 134 } : Room) s m ([.ref (qpl 0), .ref (qh 0)] : List Value).toArray below meth c H locs 0 0 Q (F0 m 0 ls []) by rw [eH, el] at goal; exact goal
  refine lv_aload_n hx hb dX6_solve_0 rfl (lv_at hl 0 rfl) ?_
  refine lv_aload_n hx hb dX6_solve_1 rfl (lv_at hl 1 rfl) ?_
  refine g_get cx hP iw_X6_solve_X4 5 rfl rfl 0 (by decide) rfl fw_X6_solve_42 rfl dX6_solve_2 ?_
  refine g_pt cx hP hD hS iw_X6_solve_X6 tyX6 tyX6_ok nmX6 0 rfl rfl 0 (by decide) rfl fw_X6_solve_38 (ty := .int) rfl rfl rfl (Nat.le_of_ble_eq_true rfl) dX6_solve_5 (fun H locs hP hD hS => ?_)
  have hP : va_P D vwCl [cell65_ qpl sh, cell26_ k qpl tpl, cell23_ k qpl spl, cell24_ k qpl tpl, cell25_ k qpl spl, cell32_ qh sh, cell0_ k qh sh, cell1_ k qh sh, cell4_ k qh sh, cell3_ k qh sh, cell2_ k qh sh] H := hP
  have hD : va_D A [cell65_ qpl sh, cell26_ k qpl tpl, cell23_ k qpl spl, cell24_ k qpl tpl, cell25_ k qpl spl, cell32_ qh sh, cell0_ k qh sh, cell1_ k qh sh, cell4_ k qh sh, cell3_ k qh sh, cell2_ k qh sh] := hD
  refine lv_iconst (v := 0) hx hb dX6_solve_8 (by decide) ?_
  refine lv_istore_n (lv' := [(2, .int 0), (0, .ref (qpl 0)), (1, .ref (qh 0))]) hx hb dX6_solve_9 rfl hl (by decide) rfl (fun ls hl => ?_)
  obtain ⟨rr10_1, err10_1⟩ : ∃ r : Int32 × (Nat → Int64) × (Nat → Int32) × (Nat → Int64) × (Nat → Int32), LTs (default : Int32 × (Nat → Int64) × (Nat → Int32) × (Nat → Int64) × (Nat → Int32)) (B_X6_solve_10 spl tpl sh) 36 ((0 : Int32), (tpl 1)) = r := ⟨_, rfl⟩
  have hrr10_1 : J_X6_solve spl tpl sh = rr10_1 := ((exl_X6_solve_0)).trans err10_1
  have hL10 : ∀ (n18 : Nat) (v16 : Int32) (g17 : Nat → Int64) (H : Heap) (locs : List Loc) (ls : Array Slot), 35 - v16.toInt < (n18 : Int) → (0 ≤ v16.toInt ∧ v16.toInt ≤ 35) → (LTs (default : Int32 × (Nat → Int64) × (Nat → Int32) × (Nat → Int64) × (Nat → Int32)) (B_X6_solve_10 spl tpl sh) n18 (v16, g17) = rr10_1) → va_P D vwCl [cell65_ qpl sh, (qpl 1, .inl (k 1, 630, .inr (.inl g17))), cell23_ k qpl spl, cell24_ k qpl tpl, cell25_ k qpl spl, cell32_ qh sh, cell0_ k qh sh, cell1_ k qh sh, cell4_ k qh sh, cell3_ k qh sh, cell2_ k qh sh] H → va_D A [cell65_ qpl sh, (qpl 1, .inl (k 1, 630, .inr (.inl g17))), cell23_ k qpl spl, cell24_ k qpl tpl, cell25_ k qpl spl, cell32_ qh sh, cell0_ k qh sh, cell1_ k qh sh, cell4_ k qh sh, cell3_ k qh sh, cell2_ k qh sh] → va_S A s.heap H locs → lv_has ls 3 [(2, .int v16), (0, .ref (qpl 0)), (1, .ref (qh 0))] → W p l e ({ frames := 5, cells := 0, slots := 0, locals := 134 } : Room) s m ([.ref (qpl 0), .ref (qh 0)] : List Value).toArray below meth c H locs 0 0 Q (F0 m 10 ls []) := by
    intro n18
    induction n18 with
    | zero => intro v16 g17 H locs ls hmn18 bv16 hzrr10_1 hP hD hS hl; exact absurd hmn18 (by omega)
    | succ n18 ih10 =>
      intro v16 g17 H locs ls hmn18 bv16 hzrr10_1 hP hD hS hl
      refine lv_iload_n hx hb dX6_solve_10 rfl (lv_at hl 0 rfl) ?_
      refine lv_bipush (v := 35) hx hb dX6_solve_11 (by decide) ?_
      refine lv_icmp_ge (tgt := 46) hx hb dX6_solve_13 (by decide) (fun c19 => ?_) (fun c19 => ?_)
      · have f19 : 35 ≤ v16.toInt := f_le (by decide) rfl c19
        refine lv_aload_n hx hb dX6_solve_46 rfl (lv_at hl 1 rfl) ?_
        refine g_get cx hP iw_X6_solve_X6 0 rfl rfl 0 (by decide) rfl fw_X6_solve_38 rfl dX6_solve_47 ?_
        refine lv_iconst (v := 1) hx hb dX6_solve_50 (by decide) ?_
        refine lv_isub hx hb dX6_solve_51 (lv_topi (fun v20 e20 => ?_))
        have t20 : v20.toInt = (sh 0 0).toInt - 1 := by rw [e20]; exact i_sub rfl (by decide) (by omega) (by omega)
        refine lv_istore_n (lv' := [(2, .int v20), (0, .ref (qpl 0)), (1, .ref (qh 0))]) hx hb dX6_solve_52 rfl hl (by decide) rfl (fun ls hl => ?_)
        obtain ⟨rr53_2, err53_2⟩ : ∃ r : Sum (Int32 × (Nat → Int64)) (Int32 × (Nat → Int64) × (Nat → Int32) × (Nat → Int64) × (Nat → Int32)), LTs (Sum.inl default : Sum (Int32 × (Nat → Int64)) (Int32 × (Nat → Int64) × (Nat → Int32) × (Nat → Int64) × (Nat → Int32))) (B_X6_solve_53_2 spl tpl sh v16 g17) 6 (v20, g17, (spl 2), (tpl 3), (spl 4)) = r := ⟨_, rfl⟩
        have hrr53_2 : (B_X6_solve_10 spl tpl sh) (v16, g17) = rr53_2 := ((exl_X6_solve_1 e20 c19)).trans err53_2
        have hL53 : ∀ (n39 : Nat) (v34 : Int32) (g35 : Nat → Int64) (g36 : Nat → Int32) (g37 : Nat → Int64) (g38 : Nat → Int32) (H : Heap) (locs : List Loc) (ls : Array Slot), v34.toInt + 1 < (n39 : Int) → (-1 ≤ v34.toInt ∧ v34.toInt ≤ 4) → (v34.toInt < (sh 0 0).toInt) → (LTs (Sum.inl default : Sum (Int32 × (Nat → Int64)) (Int32 × (Nat → Int64) × (Nat → Int32) × (Nat → Int64) × (Nat → Int32))) (B_X6_solve_53_2 spl tpl sh v16 g17) n39 (v34, g35, g36, g37, g38) = rr53_2) → va_P D vwCl [cell65_ qpl sh, (qpl 1, .inl (k 1, 630, .inr (.inl g35))), (qpl 2, .inl (k 0, 525, .inl g36)), (qpl 3, .inl (k 1, 35, .inr (.inl g37))), (qpl 4, .inl (k 0, 35, .inl g38)), cell32_ qh sh, cell0_ k qh sh, cell1_ k qh sh, cell4_ k qh sh, cell3_ k qh sh, cell2_ k qh sh] H → va_D A [cell65_ qpl sh, (qpl 1, .inl (k 1, 630, .inr (.inl g35))), (qpl 2, .inl (k 0, 525, .inl g36)), (qpl 3, .inl (k 1, 35, .inr (.inl g37))), (qpl 4, .inl (k 0, 35, .inl g38)), cell32_ qh sh, cell0_ k qh sh, cell1_ k qh sh, cell4_ k qh sh, cell3_ k qh sh, cell2_ k qh sh] → va_S A s.heap H locs → lv_has ls 3 [(2, .int v34), (0, .ref (qpl 0)), (1, .ref (qh 0))] → W p l e ({ frames := 5, cells := 0, slots := 0, locals := 134 } : Room) s m ([.ref (qpl 0), .ref (qh 0)] : List Value).toArray below meth c H locs 0 0 Q (F0 m 53 ls []) := by
          intro n39
          induction n39 with
          | zero => intro v34 g35 g36 g37 g38 H locs ls hmn39 bv34 lw hzrr53_2 hP hD hS hl; exact absurd hmn39 (by omega)
          | succ n39 ih53 =>
            intro v34 g35 g36 g37 g38 H locs ls hmn39 bv34 lw hzrr53_2 hP hD hS hl
            refine lv_iload_n hx hb dX6_solve_53 rfl (lv_at hl 0 rfl) ?_
            refine lv_if_lt (tgt := 75) hx hb dX6_solve_54 (by decide) (fun c40 => ?_) (fun c40 => ?_)
            · have f40 : v34.toInt < 0 := f_lt rfl (by decide) c40
              rw [hQ]
              exact x_v cx hr ((sh 0 0), g35, g36, g37, g38) hP hD hS ⟨(show (sh 0 0).toInt = (sh 0 0).toInt from by omega), (show ((sh 0 0), g35, g36, g37, g38) = J_X6_solve spl tpl sh from ((hrr10_1.trans (LT_r hzrr10_1 (hrr53_2.trans (LT_r hzrr53_2 (exl_X6_solve_2 c40)))))).symm)⟩ dX6_solve_75
            · have f40 : 0 ≤ v34.toInt := f_nlt rfl (by decide) c40
              refine lv_aload_n hx hb dX6_solve_57 rfl (lv_at hl 1 rfl) ?_
              refine lv_aload_n hx hb dX6_solve_58 rfl (lv_at hl 2 rfl) ?_
              refine lv_iload_n hx hb dX6_solve_59 rfl (lv_at hl 0 rfl) ?_
              refine g_vF (w1 := fun (u : (Nat → Int64) × (Nat → Int32)) => [cell65_ qpl sh, (qpl 1, .inl (k 1, 630, .inr (.inl g35))), (qpl 2, .inl (k 0, 525, .inl g36)), cell115_ k qpl (u.1), cell116_ k qpl (u.2), cell32_ qh sh, cell0_ k qh sh, cell1_ k qh sh, cell4_ k qh sh, cell3_ k qh sh, cell2_ k qh sh]) (g_runVF (ws := [cell65_ qpl sh, (qpl 1, .inl (k 1, 630, .inr (.inl g35))), (qpl 2, .inl (k 0, 525, .inl g36)), (qpl 3, .inl (k 1, 35, .inr (.inl g37))), (qpl 4, .inl (k 0, 35, .inl g38)), cell32_ qh sh, cell0_ k qh sh, cell1_ k qh sh, cell4_ k qh sh, cell3_ k qh sh, cell2_ k qh sh]) (rest := []) cx hP hD hS [.ref (qh 0), .int v34] (c_X6_chooseOrders l D k b qpl (up2 (up2 (up2 spl 0 (upd (spl 0) 0 (sh 0 0))) 2 g36) 4 g38) (up2L (up2L tpl 1 g35) 3 g37) qh sh H.size v34 (show SUok (sh 5) from by assumption) (show 0 ≤ (sh 0 0).toInt ∧ (sh 0 0).toInt ≤ 5 from by first | decide | omega) (show 0 ≤ v34.toInt ∧ v34.toInt ≤ 4 from by first | decide | omega)) gX6_solve_X6_chooseOrders rfl rfl rfl nd_X6_chooseOrders ⟨Nat.le_of_ble_eq_true rfl, Nat.le_of_ble_eq_true rfl⟩ (ci := 4) (q0 := 0) rfl rfl rfl hl.1 rfl (Nat.le_of_ble_eq_true rfl) ⟨Nat.zero_le _, Nat.zero_le _⟩ dX6_solve_60) cx.2.2.1 hD hS (fun u42 H locs hw41 hP hD hS => ?_)
              obtain ⟨m43, m44⟩ := u42
              have hP : va_P D vwCl [cell65_ qpl sh, (qpl 1, .inl (k 1, 630, .inr (.inl g35))), (qpl 2, .inl (k 0, 525, .inl g36)), (qpl 3, .inl (k 1, 35, .inr (.inl m43))), (qpl 4, .inl (k 0, 35, .inl m44)), cell32_ qh sh, cell0_ k qh sh, cell1_ k qh sh, cell4_ k qh sh, cell3_ k qh sh, cell2_ k qh sh] H := hP
              have hD : va_D A [cell65_ qpl sh, (qpl 1, .inl (k 1, 630, .inr (.inl g35))), (qpl 2, .inl (k 0, 525, .inl g36)), (qpl 3, .inl (k 1, 35, .inr (.inl m43))), (qpl 4, .inl (k 0, 35, .inl m44)), cell32_ qh sh, cell0_ k qh sh, cell1_ k qh sh, cell4_ k qh sh, cell3_ k qh sh, cell2_ k qh sh] := hD
              have w45 : (m43, m44) = J_X6_chooseOrders (up2 (up2 (up2 spl 0 (upd (spl 0) 0 (sh 0 0))) 2 g36) 4 g38) (up2L (up2L tpl 1 g35) 3 g37) sh v34 := hw41
              clear hw41
              refine lv_aload_n hx hb dX6_solve_63 rfl (lv_at hl 1 rfl) ?_
              refine lv_aload_n hx hb dX6_solve_64 rfl (lv_at hl 2 rfl) ?_
              refine lv_iload_n hx hb dX6_solve_65 rfl (lv_at hl 0 rfl) ?_
              refine g_vF (w1 := fun (u : (Nat → Int64) × (Nat → Int32)) => [cell65_ qpl sh, cell108_ k qpl (u.1), cell109_ k qpl (u.2), (qpl 3, .inl (k 1, 35, .inr (.inl m43))), (qpl 4, .inl (k 0, 35, .inl m44)), cell32_ qh sh, cell0_ k qh sh, cell1_ k qh sh, cell4_ k qh sh, cell3_ k qh sh, cell2_ k qh sh]) (g_runVF (ws := [cell65_ qpl sh, (qpl 1, .inl (k 1, 630, .inr (.inl g35))), (qpl 2, .inl (k 0, 525, .inl g36)), (qpl 3, .inl (k 1, 35, .inr (.inl m43))), (qpl 4, .inl (k 0, 35, .inl m44)), cell32_ qh sh, cell0_ k qh sh, cell1_ k qh sh, cell4_ k qh sh, cell3_ k qh sh, cell2_ k qh sh]) (rest := []) cx hP hD hS [.ref (qh 0), .int v34] (c_X6_chooseActs l D k b qpl (up2 (up2 (up2 spl 0 (upd (spl 0) 0 (sh 0 0))) 2 g36) 4 m44) (up2L (up2L tpl 1 g35) 3 m43) qh sh H.size v34 (show 0 ≤ (sh 0 0).toInt ∧ (sh 0 0).toInt ≤ 5 from by first | decide | omega) (show v34.toInt ≤ (sh 0 0).toInt from by first | decide | omega) (show 0 ≤ (sh 0 1).toInt ∧ (sh 0 1).toInt ≤ 4 from by first | decide | omega) h_of (show 0 ≤ v34.toInt ∧ v34.toInt ≤ 4 from by first | decide | omega)) gX6_solve_X6_chooseActs rfl rfl rfl nd_X6_chooseActs ⟨Nat.le_of_ble_eq_true rfl, Nat.le_of_ble_eq_true rfl⟩ (ci := 4) (q0 := 0) rfl rfl rfl hl.1 rfl (Nat.le_of_ble_eq_true rfl) ⟨Nat.zero_le _, Nat.zero_le _⟩ dX6_solve_66) cx.2.2.1 hD hS (fun u48 H locs hw47 hP hD hS => ?_)
              obtain ⟨m49, m50⟩ := u48
              have hP : va_P D vwCl [cell65_ qpl sh, (qpl 1, .inl (k 1, 630, .inr (.inl m49))), (qpl 2, .inl (k 0, 525, .inl m50)), (qpl 3, .inl (k 1, 35, .inr (.inl m43))), (qpl 4, .inl (k 0, 35, .inl m44)), cell32_ qh sh, cell0_ k qh sh, cell1_ k qh sh, cell4_ k qh sh, cell3_ k qh sh, cell2_ k qh sh] H := hP
              have hD : va_D A [cell65_ qpl sh, (qpl 1, .inl (k 1, 630, .inr (.inl m49))), (qpl 2, .inl (k 0, 525, .inl m50)), (qpl 3, .inl (k 1, 35, .inr (.inl m43))), (qpl 4, .inl (k 0, 35, .inl m44)), cell32_ qh sh, cell0_ k qh sh, cell1_ k qh sh, cell4_ k qh sh, cell3_ k qh sh, cell2_ k qh sh] := hD
              have w51 : (m49, m50) = J_X6_chooseActs (up2 (up2 (up2 spl 0 (upd (spl 0) 0 (sh 0 0))) 2 g36) 4 m44) (up2L (up2L tpl 1 g35) 3 m43) sh v34 := hw47
              clear hw47
              obtain ⟨v53, e53⟩ : ∃ z : Int32, z = v34 + (-1) := ⟨_, rfl⟩
              refine lv_iinc (v := v53) (lv' := [(2, .int v53), (0, .ref (qpl 0)), (1, .ref (qh 0))]) hx hb dX6_solve_69 hl (k := 0) rfl (by rw [e53]; rfl) (by decide) rfl (fun ls hl => ?_)
              have t53 : v53.toInt = v34.toInt + (-1) := by rw [e53]; exact i_add rfl (by decide) (by omega) (by omega)
              refine lv_goto (tgt := 53) hx hb dX6_solve_72 (by decide) ?_
              exact ih53 v53 m49 m50 m43 m44 _ _ _ (by omega) (by first | decide | omega) (by first | decide | omega) (LT_g hzrr53_2 (exl_X6_solve_3 e53 c40 w45 w51)) hP hD hS (lv_sub hl [0, 1, 2] rfl)
        exact hL53 (6) v20 g17 (spl 2) (tpl 3) (spl 4) _ _ _ (by omega) (by first | decide | omega) (by first | decide | omega) err53_2 hP hD hS (lv_sub hl [0, 1, 2] rfl)
      · have f19 : v16.toInt < 35 := f_nle (by decide) rfl c19
        refine lv_aload_n hx hb dX6_solve_16 rfl (lv_at hl 1 rfl) ?_
        refine g_get cx hP iw_X6_solve_X6 0 rfl rfl 1 (by decide) rfl fw_X6_solve_13 rfl dX6_solve_17 ?_
        refine lv_aload_n hx hb dX6_solve_20 rfl (lv_at hl 1 rfl) ?_
        refine g_get cx hP iw_X6_solve_X6 0 rfl rfl 0 (by decide) rfl fw_X6_solve_38 rfl dX6_solve_21 ?_
        refine lv_iload_n hx hb dX6_solve_24 rfl (lv_at hl 0 rfl) ?_
        refine lv_iconst (v := 0) hx hb dX6_solve_25 (by decide) ?_
        have hlit54 : (0 : Int32).toInt = 0 := by decide
        refine g_ir (g_runS (wc := []) (rest := [.ref (qpl 1)]) cx hP hD hS [] rfl (by decide) [.int (sh 0 0), .int v16, .int 0] (c_X6_place l D k b H.size (sh 0 0) v16 0) gX6_solve_X6_place rfl rfl rfl nd_X6_place ⟨Nat.le_of_ble_eq_true rfl, Nat.le_of_ble_eq_true rfl⟩ rfl hl.1 rfl (Nat.le_of_ble_eq_true rfl) ⟨Nat.zero_le _, Nat.zero_le _⟩ dX6_solve_26) cx.2.2.1 hP hD hS [] rfl rfl (fun r56 H locs hw55 hP hS => ?_)
        have w57 : r56 = J_X6_place (sh 0 0) v16 (0 : Int32) := hw55
        clear hw55
        have zr56 : r56.toInt = ((sh 0 0).toInt * 3 + 0) * 35 + v16.toInt := place_t w57 ⟨by omega, by omega⟩ ⟨by omega, by omega⟩ ⟨by decide, by decide⟩
        refine lv_aload_n hx hb dX6_solve_29 rfl (lv_at hl 2 rfl) ?_
        refine va_gets hx hb cx.2.2.2.t0.1 hS cx.1.2.2.2.1 (cx.1.2.2.2.2 _ fw_X6_solve_45) (fun _ h => h) dX6_solve_30 ?_
        refine lv_iload_n hx hb dX6_solve_33 rfl (lv_at hl 0 rfl) ?_
        have hn58 : vp_in v16 35 := f_in (a := v16.toInt) rfl (by omega) (by omega)
        refine va_ti hx hb cx.2.2.2.t0.2 hS hn58 rfl dX6_solve_34 (lv_topi (fun v59 e59 => ?_))
        have t59 : 0 ≤ v59.toInt ∧ v59.toInt ≤ 400 ∧ v59.toInt / 100 + v59.toInt / 10 % 10 + v59.toInt % 10 ≤ 4 := by rw [e59]; exact zALL_v _
        refine g_ir (g_runV (wc := [cell32_ qh sh, cell0_ k qh sh, cell1_ k qh sh, cell4_ k qh sh, cell3_ k qh sh, cell2_ k qh sh]) (rest := [.int r56, .ref (qpl 1)]) cx hP hD hS [5, 6, 7, 8, 9, 10] rfl (by decide) [.int v59] (c_X4_bonusFor l D k b qh sh H.size v59) gX6_solve_X4_bonusFor rfl rfl rfl nd_X4_bonusFor ⟨Nat.le_of_ble_eq_true rfl, Nat.le_of_ble_eq_true rfl⟩ (ci := 2) (q0 := 0) rfl rfl rfl hl.1 rfl (Nat.le_of_ble_eq_true rfl) ⟨Nat.zero_le _, Nat.zero_le _⟩ dX6_solve_35) cx.2.2.1 hP hD hS [5, 6, 7, 8, 9, 10] rfl rfl (fun r61 H locs hw60 hP hS => ?_)
        have w62 : r61 = J_X4_bonusFor sh v59 := hw60
        clear hw60
        obtain ⟨v64, e64⟩ : ∃ z : Int64, z = (r61 : Int32).toInt64 := ⟨_, rfl⟩
        refine lv_i2l (v := v64) hx hb dX6_solve_38 e64.symm ?_
        have hn65 : vp_in r56 630 := f_in (a := r56.toInt) rfl (by omega) (by omega)
        refine va_last hx hb cx.2.1 hP hD hS 1 1 rfl rfl hn65 dX6_solve_39 (fun H locs hP hD hS => ?_)
        obtain ⟨g66, eg66⟩ : ∃ g : Nat → Int64, g = vp_updL g17 (r56).toNatClampNeg v64 := ⟨_, rfl⟩
        rw [← eg66] at hP hD
        have hP : va_P D vwCl [cell65_ qpl sh, (qpl 1, .inl (k 1, 630, .inr (.inl g66))), cell23_ k qpl spl, cell24_ k qpl tpl, cell25_ k qpl spl, cell32_ qh sh, cell0_ k qh sh, cell1_ k qh sh, cell4_ k qh sh, cell3_ k qh sh, cell2_ k qh sh] H := hP
        have hD : va_D A [cell65_ qpl sh, (qpl 1, .inl (k 1, 630, .inr (.inl g66))), cell23_ k qpl spl, cell24_ k qpl tpl, cell25_ k qpl spl, cell32_ qh sh, cell0_ k qh sh, cell1_ k qh sh, cell4_ k qh sh, cell3_ k qh sh, cell2_ k qh sh] := hD
        obtain ⟨v67, e67⟩ : ∃ z : Int32, z = v16 + 1 := ⟨_, rfl⟩
        refine lv_iinc (v := v67) (lv' := [(2, .int v67), (0, .ref (qpl 0)), (1, .ref (qh 0))]) hx hb dX6_solve_40 hl (k := 0) rfl (by rw [e67]; rfl) (by decide) rfl (fun ls hl => ?_)
        have t67 : v67.toInt = v16.toInt + 1 := by rw [e67]; exact i_add rfl (by decide) (by omega) (by omega)
        refine lv_goto (tgt := 10) hx hb dX6_solve_43 (by decide) ?_
        exact ih10 v67 g66 _ _ _ (by omega) (by first | decide | omega) (LT_g hzrr10_1 (exl_X6_solve_4 w57 e59 e64 eg66 e67 c19 w62)) hP hD hS (lv_sub hl [0, 1, 2] rfl)
  have hlit68 : (0 : Int32).toInt = 0 := by decide
  exact hL10 (36) 0 (tpl 1) _ _ _ (by omega) (by first | decide | omega) err10_1 hP hD hS (lv_sub hl [0, 1, 2] rfl)
