theorem fw_X1_start_11 : Cond.fieldLink RX1 11 "StillInAugust$Course" "ahead" "[J" ∈ wsX1_start := by decide +kernel
theorem fw_X1_start_30 : Cond.fieldLink RX1 30 "StillInAugust$Course" "scale" "J" ∈ wsX1_start := by decide +kernel
theorem fw_X1_start_34 : Cond.fieldLink RX1 34 "StillInAugust$Course" "costs" "J" ∈ wsX1_start := by decide +kernel
theorem nd_J7_fill_d0a16 : yJ7_fill_d0a16.cls ≠ "java/lang/invoke/MethodHandle" ∧ yJ7_fill_d0a16.cls ≠ "java/lang/invoke/VarHandle" ∧ (parseMethodDescriptor yJ7_fill_d0a16.desc).map (fun d => d.parameters.length) = some 2 := by decide +kernel
theorem iw_X1_start_X1 : ∀ w ∈ u_ws RX1 TX1 6, w ∈ wsX1_start := fun _ h => List.mem_cons_of_mem _ (List.mem_append_right _ h)
def J_X1_start (sco : Nat → Nat → Int32) (tco : Nat → Nat → Int64) (p0 : Int32) : (Nat → Int64) × Int64 × Int64 := LetF (J_J7_fill_d0a16_35 (fun _ _ => 0) (fun _ => (tco 1)) 0) (fun y6 => ((vp_updL y6 ((J_X3_kind p0)).toNatClampNeg 1), (1 : Int64), (0 : Int64)))
theorem exl_X1_start_0 {sco : Nat → Nat → Int32} {tco : Nat → Nat → Int64} {p0 : Int32} {g11 : Nat → Int64} {r8 : Int32} {m3 : Nat → Int64} (w9 : r8 = J_X3_kind p0) (eg11 : g11 = vp_updL m3 (r8).toNatClampNeg (1 : Int64)) (w5 : m3 = J_J7_fill_d0a16_35 (fun _ _ => 0) (fun _ => (tco 1)) (0 : Int64)) : (g11, (1 : Int64), (0 : Int64)) = J_X1_start sco tco p0 := by subst w9 eg11; refine Eq.symm ?_; unfold J_X1_start; refine lt_e w5 ?_; rfl
set_option maxHeartbeats 4000000 in
set_option maxRecDepth 100000 in
theorem c_X1_start (l : Launch) (D : va_G) (k : Nat → ClassId) (b : Nat → Nat) (qco : Nat → Nat) (sco : Nat → Nat → Int32) (tco : Nat → Nat → Int64) (sz : Nat) (p0 : Int32) (hv : 0 ≤ p0.toInt ∧ p0.toInt ≤ 400 ∧ tot p0 ≤ 4) : MetV l D k b yX1_start wsX1_start ({ frames := 1, cells := 0, slots := 0, locals := 24 } : Room) [cell86_ qco tco, cell35_ k qco tco, cell34_ k qco tco] sz [.ref (qco 0), .int p0] (fun (u : (Nat → Int64) × Int64 × Int64) => (∀ H : Int, tot p0 ≤ H → CUok (u.1) H) ∧ (((u.1), (u.2.1), (u.2.2)) = J_X1_start sco tco p0)) (fun u => [cell194_ qco tco (u.2.1) (u.2.2), cell98_ k qco (u.1), cell34_ k qco tco]) := by
  refine g_enter (cc := cX1_start) (maxL := 2) (ret := none) (by decide) rfl (Nat.le_of_ble_eq_true rfl) ?_
  intro p e s m below meth c A hsz hAe cx hr hP hD hS ls hl
  rw [hAe]
  refine g_q (fun Q hQ => ?_)
  have hx := cx.1.1
  have hb := cx.1.2.1
  have bp0 := i_rng p0
  have hl : lv_has ls 2 [(0, .ref (qco 0)), (1, .int p0)] := hl
  obtain ⟨H, eH⟩ : ∃ H : Heap, H = s.heap := ⟨_, rfl⟩
  obtain ⟨locs, el⟩ : ∃ L : List Loc, L = [] := ⟨_, rfl⟩
  have hP : va_P D vwCl [cell86_ qco tco, cell35_ k qco tco, cell34_ k qco tco] H := by rw [eH]; exact hP
  have hD : va_D A [cell86_ qco tco, cell35_ k qco tco, cell34_ k qco tco] := hD
  have hS : va_S A s.heap H locs := by rw [eH, el]; exact hS
  suffices goal : W p l e ({ frames := 1, cells := 0, slots := 0, locals := 24 } : Room) s m ([.ref (qco 0), .int p0] : List Value).toArray below meth c H locs 0 0 Q (F0 m 0 ls []) by rw [eH, el] at goal; exact goal
  refine lv_aload_n hx hb dX1_start_0 rfl (lv_at hl 0 rfl) ?_
  refine g_get cx hP iw_X1_start_X1 0 rfl rfl 0 (by decide) rfl fw_X1_start_11 rfl dX1_start_1 ?_
  refine lv_lconst (v := 0) hx hb dX1_start_4 (by decide) ?_
  refine g_v (w1 := fun (u : (Nat → Int64)) => [(qco 1, .inl (k 1, 35, .inr (.inl u)))]) (g_runS (wc := [cell35_ k qco tco]) (rest := []) cx hP hD hS [1] rfl (by decide) [.ref (qco 1), .long 0] (c_J7_fill_d0a16_35 l D k b (fun _ => qco 1) (fun _ _ => 0) (fun _ => (tco 1)) H.size 0) gX1_start_J7_fill_d0a16 rfl rfl rfl nd_J7_fill_d0a16 ⟨Nat.le_of_ble_eq_true rfl, Nat.le_of_ble_eq_true rfl⟩ rfl hl.1 rfl (Nat.le_of_ble_eq_true rfl) ⟨Nat.zero_le _, Nat.zero_le _⟩ dX1_start_5) cx.2.2.1 hP hD hS [1] rfl (fun _ => rfl) (fun u2 H locs hw1 hP hD hS => ?_)
  obtain ⟨m3, rfl⟩ : ∃ z, z = u2 := ⟨_, rfl⟩
  have hP : va_P D vwCl [cell86_ qco tco, (qco 1, .inl (k 1, 35, .inr (.inl m3))), cell34_ k qco tco] H := hP
  have hD : va_D A [cell86_ qco tco, (qco 1, .inl (k 1, 35, .inr (.inl m3))), cell34_ k qco tco] := hD
  replace hw1 : (m3 = fillJ 35 (0 : Int64) (tco 1)) ∧ (m3 = J_J7_fill_d0a16_35 (fun _ _ => 0) (fun _ => (tco 1)) (0 : Int64)) := hw1
  obtain ⟨w4, w5⟩ := hw1
  have cf : ∀ h : Int, CUok m3 h := fun h => CU_fill w4
  refine lv_aload_n hx hb dX1_start_8 rfl (lv_at hl 0 rfl) ?_
  refine g_get cx hP iw_X1_start_X1 0 rfl rfl 0 (by decide) rfl fw_X1_start_11 rfl dX1_start_9 ?_
  refine lv_iload_n hx hb dX1_start_12 rfl (lv_at hl 1 rfl) ?_
  refine g_ir (g_runS (wc := []) (rest := [.ref (qco 1)]) cx hP hD hS [] rfl (by decide) [.int p0] (c_X3_kind l D k b H.size p0 ⟨by first | decide | omega, by first | decide | omega, (show tot p0 ≤ 4 from by first | decide | omega)⟩) gX1_start_X3_kind rfl rfl rfl nd_X3_kind ⟨Nat.le_of_ble_eq_true rfl, Nat.le_of_ble_eq_true rfl⟩ rfl hl.1 rfl (Nat.le_of_ble_eq_true rfl) ⟨Nat.zero_le _, Nat.zero_le _⟩ dX1_start_13) cx.2.2.1 hP hD hS [] rfl rfl (fun r8 H locs hw7 hP hS => ?_)
  have w9 : r8 = J_X3_kind p0 := hw7
  clear hw7
  have zr8 := kind_t w9 ⟨by first | decide | omega, by first | decide | omega, (show tot p0 ≤ 4 from by first | decide | omega)⟩
  have ka : totN r8.toNatClampNeg = tot p0 := kind_all w9 hv
  refine lv_lconst (v := 1) hx hb dX1_start_16 (by decide) ?_
  have hn10 : vp_in r8 35 := f_in (a := r8.toInt) rfl (by omega) (by omega)
  refine va_last hx hb cx.2.1 hP hD hS 1 1 rfl rfl hn10 dX1_start_17 (fun H locs hP hD hS => ?_)
  obtain ⟨g11, eg11⟩ : ∃ g : Nat → Int64, g = vp_updL m3 (r8).toNatClampNeg 1 := ⟨_, rfl⟩
  rw [← eg11] at hP hD
  have hP : va_P D vwCl [cell86_ qco tco, (qco 1, .inl (k 1, 35, .inr (.inl g11))), cell34_ k qco tco] H := hP
  have hD : va_D A [cell86_ qco tco, (qco 1, .inl (k 1, 35, .inr (.inl g11))), cell34_ k qco tco] := hD
  have cu : ∀ H : Int, tot p0 ≤ H → CUok g11 H := fun H hH => CU_st eg11 (cf H) (Or.inr (by omega))
  refine lv_aload_n hx hb dX1_start_18 rfl (lv_at hl 0 rfl) ?_
  refine lv_lconst (v := 1) hx hb dX1_start_19 (by decide) ?_
  refine g_pt cx hP hD hS iw_X1_start_X1 tyX1 tyX1_ok nmX1 0 rfl rfl 2 (by decide) rfl fw_X1_start_30 (ty := .long) rfl rfl rfl (Nat.le_of_ble_eq_true rfl) dX1_start_20 (fun H locs hP hD hS => ?_)
  have hP : va_P D vwCl [cell203_ qco tco 1, (qco 1, .inl (k 1, 35, .inr (.inl g11))), cell34_ k qco tco] H := hP
  have hD : va_D A [cell203_ qco tco 1, (qco 1, .inl (k 1, 35, .inr (.inl g11))), cell34_ k qco tco] := hD
  refine lv_aload_n hx hb dX1_start_23 rfl (lv_at hl 0 rfl) ?_
  refine lv_lconst (v := 0) hx hb dX1_start_24 (by decide) ?_
  refine g_pt cx hP hD hS iw_X1_start_X1 tyX1 tyX1_ok nmX1 0 rfl rfl 3 (by decide) rfl fw_X1_start_34 (ty := .long) rfl rfl rfl (Nat.le_of_ble_eq_true rfl) dX1_start_25 (fun H locs hP hD hS => ?_)
  have hP : va_P D vwCl [cell194_ qco tco 1 0, (qco 1, .inl (k 1, 35, .inr (.inl g11))), cell34_ k qco tco] H := hP
  have hD : va_D A [cell194_ qco tco 1 0, (qco 1, .inl (k 1, 35, .inr (.inl g11))), cell34_ k qco tco] := hD
  rw [hQ]
  exact x_v cx hr (g11, 1, 0) hP hD hS ⟨(show ∀ H : Int, tot p0 ≤ H → CUok g11 H from cu), (show (g11, (1 : Int64), (0 : Int64)) = J_X1_start sco tco p0 from (exl_X1_start_0 w9 eg11 w5))⟩ dX1_start_28
theorem mw_X1_passWeekWith_maxL64 : Cond.methodLink RX1 64 Lib.Math.max.name ∈ wsX1_passWeekWith := by decide +kernel
theorem mw_X1_passWeekWith_maxS : Cond.static Lib.Math.max.name ∈ wsX1_passWeekWith := by decide +kernel
theorem mw_X1_passWeekWith_maxI : Cond.initialized "java/lang/Math" ∈ wsX1_passWeekWith := by decide +kernel
theorem mw_X1_passWeekWith_maxC : Cond.code Lib.Math.max.name Lib.Math.max.code 2 (some .int) ∈ wsX1_passWeekWith := by decide +kernel
theorem fw_X1_passWeekWith_17 : Cond.fieldLink RX1 17 "StillInAugust$Course" "during" "[J" ∈ wsX1_passWeekWith := by decide +kernel
theorem fw_X1_passWeekWith_34 : Cond.fieldLink RX1 34 "StillInAugust$Course" "costs" "J" ∈ wsX1_passWeekWith := by decide +kernel
theorem fw_X1_passWeekWith_37 : Cond.fieldLink RX1 37 "StillInAugust$Course" "shortShare" "J" ∈ wsX1_passWeekWith := by decide +kernel
theorem fw_X1_passWeekWith_40 : Cond.fieldLink RX1 40 "StillInAugust$Course" "idleSum" "J" ∈ wsX1_passWeekWith := by decide +kernel
theorem nd_X4_weekCost : yX4_weekCost.cls = RX4 ∧ yX4_weekCost.cls ≠ "java/lang/invoke/MethodHandle" ∧ yX4_weekCost.cls ≠ "java/lang/invoke/VarHandle" ∧ (parseMethodDescriptor yX4_weekCost.desc).map (fun d => d.parameters.length) = some 4 := by decide +kernel
theorem iw_X1_passWeekWith_X1 : ∀ w ∈ u_ws RX1 TX1 6, w ∈ wsX1_passWeekWith := fun _ h => List.mem_cons_of_mem _ (List.mem_append_left _ (List.mem_append_right _ h))
def J_X1_passWeekWith (sco : Nat → Nat → Int32) (tco : Nat → Nat → Int64) (sh : Nat → Nat → Int32) (p0 : Int32) (p1 : Int32) (p2 : Int32) (p3 : Int64) : (Nat → Int64) × Int64 × Int64 × Int64 := LetF (J_X4_lack sh p0 p1 p2 0) (fun y5 => LetF (J_X4_weekCost sh p0 p1 p2 0) (fun y10 => if y5 ≤ 0 then ((vp_updL (tco 2) ((J_X3_kind p1)).toNatClampNeg ((((tco 2) ((J_X3_kind p1)).toNatClampNeg) + p3))), ((tco 0 3) + (p3 * (y10.toInt64))), ((tco 0 4) + (0 : Int64)), ((tco 0 5) + (p3 * ((if 0 < (-y5) then (-y5) else 0).toInt64)))) else ((vp_updL (tco 2) ((J_X3_kind p1)).toNatClampNeg ((((tco 2) ((J_X3_kind p1)).toNatClampNeg) + p3))), ((tco 0 3) + (p3 * (y10.toInt64))), ((tco 0 4) + p3), ((tco 0 5) + (p3 * ((if 0 < (-y5) then (-y5) else 0).toInt64))))))
theorem exl_X1_passWeekWith_0 {sco : Nat → Nat → Int32} {tco : Nat → Nat → Int64} {sh : Nat → Nat → Int32} {p0 : Int32} {p1 : Int32} {p2 : Int32} {p3 : Int64} {g28 : Nat → Int64} {v13 : Int64} {v15 : Int64} {v20 : Int64} {v11 : Int64} {r8 : Int32} {v12 : Int64} {v16 : Int32} {r3 : Int32} {v17 : Int32} {v18 : Int64} {v19 : Int64} {r22 : Int32} {v25 : Int64} {v26 : Int64} (e11 : v11 = (r8 : Int32).toInt64) (e12 : v12 = (p3 * v11)) (e13 : v13 = ((tco 0 3) + v12)) (e15 : v15 = ((tco 0 4) + (0 : Int64))) (e16 : v16 = (-r3)) (e17 : v17 = (if (0 : Int32) < v16 then v16 else (0 : Int32))) (e18 : v18 = (v17 : Int32).toInt64) (e19 : v19 = (p3 * v18)) (e20 : v20 = ((tco 0 5) + v19)) (w23 : r22 = J_X3_kind p1) (e25 : v25 = ((tco 2) (r22).toNatClampNeg)) (e26 : v26 = (v25 + p3)) (eg28 : g28 = vp_updL (tco 2) (r22).toNatClampNeg v26) (w4 : r3 = J_X4_lack sh p0 p1 p2 (0 : Int32)) (w9 : r8 = J_X4_weekCost sh p0 p1 p2 (0 : Int32)) (c14 : r3 ≤ (0 : Int32)) : (g28, v13, v15, v20) = J_X1_passWeekWith sco tco sh p0 p1 p2 p3 := by subst e11 e12 e13 e15 e16 e17 e18 e19 e20 w23 e25 e26 eg28; refine Eq.symm ?_; unfold J_X1_passWeekWith; refine lt_e w4 ?_; refine lt_e w9 ?_; refine Eq.trans (if_pos c14) ?_; rfl
theorem exl_X1_passWeekWith_1 {sco : Nat → Nat → Int32} {tco : Nat → Nat → Int64} {sh : Nat → Nat → Int32} {p0 : Int32} {p1 : Int32} {p2 : Int32} {p3 : Int64} {g42 : Nat → Int64} {v13 : Int64} {v29 : Int64} {v34 : Int64} {v11 : Int64} {r8 : Int32} {v12 : Int64} {v30 : Int32} {r3 : Int32} {v31 : Int32} {v32 : Int64} {v33 : Int64} {r36 : Int32} {v39 : Int64} {v40 : Int64} (e11 : v11 = (r8 : Int32).toInt64) (e12 : v12 = (p3 * v11)) (e13 : v13 = ((tco 0 3) + v12)) (e29 : v29 = ((tco 0 4) + p3)) (e30 : v30 = (-r3)) (e31 : v31 = (if (0 : Int32) < v30 then v30 else (0 : Int32))) (e32 : v32 = (v31 : Int32).toInt64) (e33 : v33 = (p3 * v32)) (e34 : v34 = ((tco 0 5) + v33)) (w37 : r36 = J_X3_kind p1) (e39 : v39 = ((tco 2) (r36).toNatClampNeg)) (e40 : v40 = (v39 + p3)) (eg42 : g42 = vp_updL (tco 2) (r36).toNatClampNeg v40) (w4 : r3 = J_X4_lack sh p0 p1 p2 (0 : Int32)) (w9 : r8 = J_X4_weekCost sh p0 p1 p2 (0 : Int32)) (c14 : ¬ (r3 ≤ (0 : Int32))) : (g42, v13, v29, v34) = J_X1_passWeekWith sco tco sh p0 p1 p2 p3 := by subst e11 e12 e13 e29 e30 e31 e32 e33 e34 w37 e39 e40 eg42; refine Eq.symm ?_; unfold J_X1_passWeekWith; refine lt_e w4 ?_; refine lt_e w9 ?_; refine Eq.trans (if_neg c14) ?_; rfl
set_option maxHeartbeats 4000000 in
set_option maxRecDepth 100000 in
theorem c_X1_passWeekWith (l : Launch) (D : va_G) (k : Nat → ClassId) (b : Nat → Nat) (qco : Nat → Nat) (sco : Nat → Nat → Int32) (tco : Nat → Nat → Int64) (qh : Nat → Nat) (sh : Nat → Nat → Int32) (sz : Nat) (p0 : Int32) (p1 : Int32) (p2 : Int32) (p3 : Int64) (hv : 0 ≤ p1.toInt ∧ p1.toInt ≤ 400 ∧ tot p1 ≤ 4) (ht : tot p1 ≤ (sh 0 1).toInt) (h_cu : CUok (tco 2) (sh 0 1).toInt) (hp0 : 0 ≤ p0.toInt ∧ p0.toInt ≤ 4) : MetV l D k b yX1_passWeekWith wsX1_passWeekWith ({ frames := 2, cells := 0, slots := 0, locals := 51 } : Room) [cell86_ qco tco, cell35_ k qco tco, cell34_ k qco tco, cell32_ qh sh, cell0_ k qh sh, cell1_ k qh sh, cell4_ k qh sh, cell3_ k qh sh, cell2_ k qh sh] sz [.ref (qco 0), .ref (qh 0), .int p0, .int p1, .int p2, .long p3] (fun (u : (Nat → Int64) × Int64 × Int64 × Int64) => (CUok (u.1) (sh 0 1).toInt) ∧ (((u.1), (u.2.1), (u.2.2.1), (u.2.2.2)) = J_X1_passWeekWith sco tco sh p0 p1 p2 p3)) (fun u => [cell133_ qco tco (u.2.1) (u.2.2.1) (u.2.2.2), cell35_ k qco tco, cell99_ k qco (u.1), cell32_ qh sh, cell0_ k qh sh, cell1_ k qh sh, cell4_ k qh sh, cell3_ k qh sh, cell2_ k qh sh]) := by
  refine g_enter (cc := cX1_passWeekWith) (maxL := 8) (ret := none) (by decide) rfl (Nat.le_of_ble_eq_true rfl) ?_
  intro p e s m below meth c A hsz hAe cx hr hP hD hS ls hl
  rw [hAe]
  refine g_q (fun Q hQ => ?_)
  have hx := cx.1.1
  have hb := cx.1.2.1
  have bp0 := i_rng p0
  have bp1 := i_rng p1
  have bp2 := i_rng p2
  have hl : lv_has ls 8 [(0, .ref (qco 0)), (1, .ref (qh 0)), (2, .int p0), (3, .int p1), (4, .int p2), (5, .long p3)] := hl
  obtain ⟨H, eH⟩ : ∃ H : Heap, H = s.heap := ⟨_, rfl⟩
  obtain ⟨locs, el⟩ : ∃ L : List Loc, L = [] := ⟨_, rfl⟩
  have hP : va_P D vwCl [cell86_ qco tco, cell35_ k qco tco, cell34_ k qco tco, cell32_ qh sh, cell0_ k qh sh, cell1_ k qh sh, cell4_ k qh sh, cell3_ k qh sh, cell2_ k qh sh] H := by rw [eH]; exact hP
  have hD : va_D A [cell86_ qco tco, cell35_ k qco tco, cell34_ k qco tco, cell32_ qh sh, cell0_ k qh sh, cell1_ k qh sh, cell4_ k qh sh, cell3_ k qh sh, cell2_ k qh sh] := hD
  have hS : va_S A s.heap H locs := by rw [eH, el]; exact hS
  suffices goal : W p l e ({ frames := 2, cells := 0, slots := 0, locals := 51 } : Room) s m ([.ref (qco 0), .ref (qh 0), .int p0, .int p1, .int p2, .long p3] : List Value).toArray below meth c H locs 0 0 Q (F0 m 0 ls []) by rw [eH, el] at goal; exact goal
  refine lv_aload_n hx hb dX1_passWeekWith_0 rfl (lv_at hl 1 rfl) ?_
  refine lv_iload_n hx hb dX1_passWeekWith_1 rfl (lv_at hl 2 rfl) ?_
  refine lv_iload_n hx hb dX1_passWeekWith_2 rfl (lv_at hl 3 rfl) ?_
  refine lv_iload hx hb dX1_passWeekWith_3 (lv_at hl 4 rfl) ?_
  refine lv_iconst (v := 0) hx hb dX1_passWeekWith_5 (by decide) ?_
  have hlit1 : (0 : Int32).toInt = 0 := by decide
  refine g_ir (g_runV (wc := [cell32_ qh sh, cell0_ k qh sh, cell1_ k qh sh, cell4_ k qh sh, cell3_ k qh sh, cell2_ k qh sh]) (rest := []) cx hP hD hS [3, 4, 5, 6, 7, 8] rfl (by decide) [.int p0, .int p1, .int p2, .int 0] (c_X4_lack l D k b qh sh H.size p0 p1 p2 0 (show 0 ≤ p0.toInt ∧ p0.toInt ≤ 4 from by first | decide | omega)) gX1_passWeekWith_X4_lack rfl rfl rfl nd_X4_lack ⟨Nat.le_of_ble_eq_true rfl, Nat.le_of_ble_eq_true rfl⟩ (ci := 2) (q0 := 0) rfl rfl rfl hl.1 rfl (Nat.le_of_ble_eq_true rfl) ⟨Nat.zero_le _, Nat.zero_le _⟩ dX1_passWeekWith_6) cx.2.2.1 hP hD hS [3, 4, 5, 6, 7, 8] rfl rfl (fun r3 H locs hw2 hP hS => ?_)
  have w4 : r3 = J_X4_lack sh p0 p1 p2 (0 : Int32) := hw2
  clear hw2
  have rzr3 := i_rng r3
  refine lv_istore (lv' := [(7, .int r3), (0, .ref (qco 0)), (1, .ref (qh 0)), (2, .int p0), (3, .int p1), (4, .int p2), (5, .long p3)]) hx hb dX1_passWeekWith_9 hl (by decide) rfl (fun ls hl => ?_)
  refine lv_aload_n hx hb dX1_passWeekWith_11 rfl (lv_at hl 1 rfl) ?_
  refine lv_dup hx hb dX1_passWeekWith_12 rfl ?_
  refine g_get cx hP iw_X1_passWeekWith_X1 0 rfl rfl 3 (by decide) rfl fw_X1_passWeekWith_34 rfl dX1_passWeekWith_13 ?_
  refine lv_lload hx hb dX1_passWeekWith_16 (lv_at hl 6 rfl) ?_
  refine lv_aload_n hx hb dX1_passWeekWith_18 rfl (lv_at hl 2 rfl) ?_
  refine lv_iload_n hx hb dX1_passWeekWith_19 rfl (lv_at hl 3 rfl) ?_
  refine lv_iload_n hx hb dX1_passWeekWith_20 rfl (lv_at hl 4 rfl) ?_
  refine lv_iload hx hb dX1_passWeekWith_21 (lv_at hl 5 rfl) ?_
  refine lv_iconst (v := 0) hx hb dX1_passWeekWith_23 (by decide) ?_
  have hlit6 : (0 : Int32).toInt = 0 := by decide
  refine g_ir (g_runV (wc := [cell32_ qh sh, cell0_ k qh sh, cell1_ k qh sh, cell4_ k qh sh, cell3_ k qh sh, cell2_ k qh sh]) (rest := [.long p3, .long (tco 0 3), .ref (qco 0)]) cx hP hD hS [3, 4, 5, 6, 7, 8] rfl (by decide) [.int p0, .int p1, .int p2, .int 0] (c_X4_weekCost l D k b qh sh H.size p0 p1 p2 0 (show 0 ≤ p0.toInt ∧ p0.toInt ≤ 4 from by first | decide | omega)) gX1_passWeekWith_X4_weekCost rfl rfl rfl nd_X4_weekCost ⟨Nat.le_of_ble_eq_true rfl, Nat.le_of_ble_eq_true rfl⟩ (ci := 2) (q0 := 0) rfl rfl rfl hl.1 rfl (Nat.le_of_ble_eq_true rfl) ⟨Nat.zero_le _, Nat.zero_le _⟩ dX1_passWeekWith_24) cx.2.2.1 hP hD hS [3, 4, 5, 6, 7, 8] rfl rfl (fun r8 H locs hw7 hP hS => ?_)
  have w9 : r8 = J_X4_weekCost sh p0 p1 p2 (0 : Int32) := hw7
  clear hw7
  obtain ⟨v11, e11⟩ : ∃ z : Int64, z = (r8 : Int32).toInt64 := ⟨_, rfl⟩
  refine lv_i2l (v := v11) hx hb dX1_passWeekWith_27 e11.symm ?_
  refine lv_lmul hx hb dX1_passWeekWith_28 (lv_topl (fun v12 e12 => ?_))
  refine lv_ladd hx hb dX1_passWeekWith_29 (lv_topl (fun v13 e13 => ?_))
  refine g_pt cx hP hD hS iw_X1_passWeekWith_X1 tyX1 tyX1_ok nmX1 0 rfl rfl 3 (by decide) rfl fw_X1_passWeekWith_34 (ty := .long) rfl rfl rfl (Nat.le_of_ble_eq_true rfl) dX1_passWeekWith_30 (fun H locs hP hD hS => ?_)
  have hP : va_P D vwCl [cell165_ qco tco v13, cell35_ k qco tco, cell34_ k qco tco, cell32_ qh sh, cell0_ k qh sh, cell1_ k qh sh, cell4_ k qh sh, cell3_ k qh sh, cell2_ k qh sh] H := hP
  have hD : va_D A [cell165_ qco tco v13, cell35_ k qco tco, cell34_ k qco tco, cell32_ qh sh, cell0_ k qh sh, cell1_ k qh sh, cell4_ k qh sh, cell3_ k qh sh, cell2_ k qh sh] := hD
  refine lv_aload_n hx hb dX1_passWeekWith_33 rfl (lv_at hl 1 rfl) ?_
  refine lv_dup hx hb dX1_passWeekWith_34 rfl ?_
  refine g_get cx hP iw_X1_passWeekWith_X1 0 rfl rfl 4 (by decide) rfl fw_X1_passWeekWith_37 rfl dX1_passWeekWith_35 ?_
  refine lv_iload hx hb dX1_passWeekWith_38 (lv_at hl 0 rfl) ?_
  refine lv_if_le (tgt := 48) hx hb dX1_passWeekWith_40 (by decide) (fun c14 => ?_) (fun c14 => ?_)
  · have f14 : r3.toInt ≤ 0 := f_le rfl (by decide) c14
    refine lv_lconst (v := 0) hx hb dX1_passWeekWith_48 (by decide) ?_
    refine lv_ladd hx hb dX1_passWeekWith_49 (lv_topl (fun v15 e15 => ?_))
    refine g_pt cx hP hD hS iw_X1_passWeekWith_X1 tyX1 tyX1_ok nmX1 0 rfl rfl 4 (by decide) rfl fw_X1_passWeekWith_37 (ty := .long) rfl rfl rfl (Nat.le_of_ble_eq_true rfl) dX1_passWeekWith_50 (fun H locs hP hD hS => ?_)
    have hP : va_P D vwCl [cell204_ qco tco v13 v15, cell35_ k qco tco, cell34_ k qco tco, cell32_ qh sh, cell0_ k qh sh, cell1_ k qh sh, cell4_ k qh sh, cell3_ k qh sh, cell2_ k qh sh] H := hP
    have hD : va_D A [cell204_ qco tco v13 v15, cell35_ k qco tco, cell34_ k qco tco, cell32_ qh sh, cell0_ k qh sh, cell1_ k qh sh, cell4_ k qh sh, cell3_ k qh sh, cell2_ k qh sh] := hD
    refine lv_aload_n hx hb dX1_passWeekWith_53 rfl (lv_at hl 1 rfl) ?_
    refine lv_dup hx hb dX1_passWeekWith_54 rfl ?_
    refine g_get cx hP iw_X1_passWeekWith_X1 0 rfl rfl 5 (by decide) rfl fw_X1_passWeekWith_40 rfl dX1_passWeekWith_55 ?_
    refine lv_lload hx hb dX1_passWeekWith_58 (lv_at hl 6 rfl) ?_
    refine lv_iconst (v := 0) hx hb dX1_passWeekWith_60 (by decide) ?_
    refine lv_iload hx hb dX1_passWeekWith_61 (lv_at hl 0 rfl) ?_
    refine lv_ineg hx hb dX1_passWeekWith_63 (lv_topi (fun v16 e16 => ?_))
    refine va_mmax hx hb (cx.1.2.2.1.trans hl.1.symm) cx.1.2.2.2.1 (cx.1.2.2.2.2 _ mw_X1_passWeekWith_maxL64) (cx.1.2.2.2.2 _ mw_X1_passWeekWith_maxS) (cx.1.2.2.2.2 _ mw_X1_passWeekWith_maxI) (cx.1.2.2.2.2 _ mw_X1_passWeekWith_maxC) (Nat.le_of_ble_eq_true rfl) (Nat.le_of_ble_eq_true rfl) (Nat.zero_le _) (Nat.zero_le _) dX1_passWeekWith_64 (lv_topi (fun v17 e17 => ?_))
    have t17 := i_max (by decide) rfl (a := 0) (b := v16.toInt) e17
    obtain ⟨v18, e18⟩ : ∃ z : Int64, z = (v17 : Int32).toInt64 := ⟨_, rfl⟩
    refine lv_i2l (v := v18) hx hb dX1_passWeekWith_67 e18.symm ?_
    refine lv_lmul hx hb dX1_passWeekWith_68 (lv_topl (fun v19 e19 => ?_))
    refine lv_ladd hx hb dX1_passWeekWith_69 (lv_topl (fun v20 e20 => ?_))
    refine g_pt cx hP hD hS iw_X1_passWeekWith_X1 tyX1 tyX1_ok nmX1 0 rfl rfl 5 (by decide) rfl fw_X1_passWeekWith_40 (ty := .long) rfl rfl rfl (Nat.le_of_ble_eq_true rfl) dX1_passWeekWith_70 (fun H locs hP hD hS => ?_)
    have hP : va_P D vwCl [cell133_ qco tco v13 v15 v20, cell35_ k qco tco, cell34_ k qco tco, cell32_ qh sh, cell0_ k qh sh, cell1_ k qh sh, cell4_ k qh sh, cell3_ k qh sh, cell2_ k qh sh] H := hP
    have hD : va_D A [cell133_ qco tco v13 v15 v20, cell35_ k qco tco, cell34_ k qco tco, cell32_ qh sh, cell0_ k qh sh, cell1_ k qh sh, cell4_ k qh sh, cell3_ k qh sh, cell2_ k qh sh] := hD
    refine lv_aload_n hx hb dX1_passWeekWith_73 rfl (lv_at hl 1 rfl) ?_
    refine g_get cx hP iw_X1_passWeekWith_X1 0 rfl rfl 1 (by decide) rfl fw_X1_passWeekWith_17 rfl dX1_passWeekWith_74 ?_
    refine lv_iload_n hx hb dX1_passWeekWith_77 rfl (lv_at hl 4 rfl) ?_
    refine g_ir (g_runS (wc := []) (rest := [.ref (qco 2)]) cx hP hD hS [] rfl (by decide) [.int p1] (c_X3_kind l D k b H.size p1 ⟨by first | decide | omega, by first | decide | omega, (show tot p1 ≤ 4 from by first | decide | omega)⟩) gX1_passWeekWith_X3_kind rfl rfl rfl nd_X3_kind ⟨Nat.le_of_ble_eq_true rfl, Nat.le_of_ble_eq_true rfl⟩ rfl hl.1 rfl (Nat.le_of_ble_eq_true rfl) ⟨Nat.zero_le _, Nat.zero_le _⟩ dX1_passWeekWith_78) cx.2.2.1 hP hD hS [] rfl rfl (fun r22 H locs hw21 hP hS => ?_)
    have w23 : r22 = J_X3_kind p1 := hw21
    clear hw21
    have zr22 := kind_t w23 ⟨by first | decide | omega, by first | decide | omega, (show tot p1 ≤ 4 from by first | decide | omega)⟩
    have ka : totN r22.toNatClampNeg = tot p1 := kind_all w23 hv
    refine lv_dup2_11 hx hb dX1_passWeekWith_81 rfl rfl ?_
    have hn24 : vp_in r22 35 := f_in (a := r22.toInt) rfl (by omega) (by omega)
    refine va_lald hx hb cx.2.1 hP 2 1 rfl rfl hn24 dX1_passWeekWith_82 (lv_topl (fun v25 e25 => ?_))
    refine lv_lload hx hb dX1_passWeekWith_83 (lv_at hl 6 rfl) ?_
    refine lv_ladd hx hb dX1_passWeekWith_85 (lv_topl (fun v26 e26 => ?_))
    have hn27 : vp_in r22 35 := f_in (a := r22.toInt) rfl (by omega) (by omega)
    refine va_last hx hb cx.2.1 hP hD hS 2 1 rfl rfl hn27 dX1_passWeekWith_86 (fun H locs hP hD hS => ?_)
    obtain ⟨g28, eg28⟩ : ∃ g : Nat → Int64, g = vp_updL (tco 2) (r22).toNatClampNeg v26 := ⟨_, rfl⟩
    rw [← eg28] at hP hD
    have hP : va_P D vwCl [cell133_ qco tco v13 v15 v20, cell35_ k qco tco, (qco 2, .inl (k 1, 35, .inr (.inl g28))), cell32_ qh sh, cell0_ k qh sh, cell1_ k qh sh, cell4_ k qh sh, cell3_ k qh sh, cell2_ k qh sh] H := hP
    have hD : va_D A [cell133_ qco tco v13 v15 v20, cell35_ k qco tco, (qco 2, .inl (k 1, 35, .inr (.inl g28))), cell32_ qh sh, cell0_ k qh sh, cell1_ k qh sh, cell4_ k qh sh, cell3_ k qh sh, cell2_ k qh sh] := hD
    have cu := CU_st eg28 h_cu (Or.inr (by omega))
    rw [hQ]
    exact x_v cx hr (g28, v13, v15, v20) hP hD hS ⟨(show CUok g28 (sh 0 1).toInt from cu), (show (g28, v13, v15, v20) = J_X1_passWeekWith sco tco sh p0 p1 p2 p3 from (exl_X1_passWeekWith_0 e11 e12 e13 e15 e16 e17 e18 e19 e20 w23 e25 e26 eg28 w4 w9 c14))⟩ dX1_passWeekWith_87
  · have f14 : 0 < r3.toInt := f_nle rfl (by decide) c14
    refine lv_lload hx hb dX1_passWeekWith_43 (lv_at hl 6 rfl) ?_
    refine lv_goto (tgt := 49) hx hb dX1_passWeekWith_45 (by decide) ?_
    refine lv_ladd hx hb dX1_passWeekWith_49 (lv_topl (fun v29 e29 => ?_))
    refine g_pt cx hP hD hS iw_X1_passWeekWith_X1 tyX1 tyX1_ok nmX1 0 rfl rfl 4 (by decide) rfl fw_X1_passWeekWith_37 (ty := .long) rfl rfl rfl (Nat.le_of_ble_eq_true rfl) dX1_passWeekWith_50 (fun H locs hP hD hS => ?_)
    have hP : va_P D vwCl [cell204_ qco tco v13 v29, cell35_ k qco tco, cell34_ k qco tco, cell32_ qh sh, cell0_ k qh sh, cell1_ k qh sh, cell4_ k qh sh, cell3_ k qh sh, cell2_ k qh sh] H := hP
    have hD : va_D A [cell204_ qco tco v13 v29, cell35_ k qco tco, cell34_ k qco tco, cell32_ qh sh, cell0_ k qh sh, cell1_ k qh sh, cell4_ k qh sh, cell3_ k qh sh, cell2_ k qh sh] := hD
    refine lv_aload_n hx hb dX1_passWeekWith_53 rfl (lv_at hl 1 rfl) ?_
    refine lv_dup hx hb dX1_passWeekWith_54 rfl ?_
    refine g_get cx hP iw_X1_passWeekWith_X1 0 rfl rfl 5 (by decide) rfl fw_X1_passWeekWith_40 rfl dX1_passWeekWith_55 ?_
    refine lv_lload hx hb dX1_passWeekWith_58 (lv_at hl 6 rfl) ?_
    refine lv_iconst (v := 0) hx hb dX1_passWeekWith_60 (by decide) ?_
    refine lv_iload hx hb dX1_passWeekWith_61 (lv_at hl 0 rfl) ?_
    refine lv_ineg hx hb dX1_passWeekWith_63 (lv_topi (fun v30 e30 => ?_))
    have t30 : v30.toInt = -r3.toInt := by rw [e30]; exact i_neg rfl (by omega) (by omega)
    refine va_mmax hx hb (cx.1.2.2.1.trans hl.1.symm) cx.1.2.2.2.1 (cx.1.2.2.2.2 _ mw_X1_passWeekWith_maxL64) (cx.1.2.2.2.2 _ mw_X1_passWeekWith_maxS) (cx.1.2.2.2.2 _ mw_X1_passWeekWith_maxI) (cx.1.2.2.2.2 _ mw_X1_passWeekWith_maxC) (Nat.le_of_ble_eq_true rfl) (Nat.le_of_ble_eq_true rfl) (Nat.zero_le _) (Nat.zero_le _) dX1_passWeekWith_64 (lv_topi (fun v31 e31 => ?_))
    have t31 := i_max (by decide) rfl (a := 0) (b := v30.toInt) e31
    obtain ⟨v32, e32⟩ : ∃ z : Int64, z = (v31 : Int32).toInt64 := ⟨_, rfl⟩
    refine lv_i2l (v := v32) hx hb dX1_passWeekWith_67 e32.symm ?_
    refine lv_lmul hx hb dX1_passWeekWith_68 (lv_topl (fun v33 e33 => ?_))
    refine lv_ladd hx hb dX1_passWeekWith_69 (lv_topl (fun v34 e34 => ?_))
    refine g_pt cx hP hD hS iw_X1_passWeekWith_X1 tyX1 tyX1_ok nmX1 0 rfl rfl 5 (by decide) rfl fw_X1_passWeekWith_40 (ty := .long) rfl rfl rfl (Nat.le_of_ble_eq_true rfl) dX1_passWeekWith_70 (fun H locs hP hD hS => ?_)
    have hP : va_P D vwCl [cell133_ qco tco v13 v29 v34, cell35_ k qco tco, cell34_ k qco tco, cell32_ qh sh, cell0_ k qh sh, cell1_ k qh sh, cell4_ k qh sh, cell3_ k qh sh, cell2_ k qh sh] H := hP
    have hD : va_D A [cell133_ qco tco v13 v29 v34, cell35_ k qco tco, cell34_ k qco tco, cell32_ qh sh, cell0_ k qh sh, cell1_ k qh sh, cell4_ k qh sh, cell3_ k qh sh, cell2_ k qh sh] := hD
    refine lv_aload_n hx hb dX1_passWeekWith_73 rfl (lv_at hl 1 rfl) ?_
    refine g_get cx hP iw_X1_passWeekWith_X1 0 rfl rfl 1 (by decide) rfl fw_X1_passWeekWith_17 rfl dX1_passWeekWith_74 ?_
    refine lv_iload_n hx hb dX1_passWeekWith_77 rfl (lv_at hl 4 rfl) ?_
    refine g_ir (g_runS (wc := []) (rest := [.ref (qco 2)]) cx hP hD hS [] rfl (by decide) [.int p1] (c_X3_kind l D k b H.size p1 ⟨by first | decide | omega, by first | decide | omega, (show tot p1 ≤ 4 from by first | decide | omega)⟩) gX1_passWeekWith_X3_kind rfl rfl rfl nd_X3_kind ⟨Nat.le_of_ble_eq_true rfl, Nat.le_of_ble_eq_true rfl⟩ rfl hl.1 rfl (Nat.le_of_ble_eq_true rfl) ⟨Nat.zero_le _, Nat.zero_le _⟩ dX1_passWeekWith_78) cx.2.2.1 hP hD hS [] rfl rfl (fun r36 H locs hw35 hP hS => ?_)
    have w37 : r36 = J_X3_kind p1 := hw35
    clear hw35
    have zr36 := kind_t w37 ⟨by first | decide | omega, by first | decide | omega, (show tot p1 ≤ 4 from by first | decide | omega)⟩
    have ka : totN r36.toNatClampNeg = tot p1 := kind_all w37 hv
    refine lv_dup2_11 hx hb dX1_passWeekWith_81 rfl rfl ?_
    have hn38 : vp_in r36 35 := f_in (a := r36.toInt) rfl (by omega) (by omega)
    refine va_lald hx hb cx.2.1 hP 2 1 rfl rfl hn38 dX1_passWeekWith_82 (lv_topl (fun v39 e39 => ?_))
    refine lv_lload hx hb dX1_passWeekWith_83 (lv_at hl 6 rfl) ?_
    refine lv_ladd hx hb dX1_passWeekWith_85 (lv_topl (fun v40 e40 => ?_))
    have hn41 : vp_in r36 35 := f_in (a := r36.toInt) rfl (by omega) (by omega)
    refine va_last hx hb cx.2.1 hP hD hS 2 1 rfl rfl hn41 dX1_passWeekWith_86 (fun H locs hP hD hS => ?_)
    obtain ⟨g42, eg42⟩ : ∃ g : Nat → Int64, g = vp_updL (tco 2) (r36).toNatClampNeg v40 := ⟨_, rfl⟩
    rw [← eg42] at hP hD
    have hP : va_P D vwCl [cell133_ qco tco v13 v29 v34, cell35_ k qco tco, (qco 2, .inl (k 1, 35, .inr (.inl g42))), cell32_ qh sh, cell0_ k qh sh, cell1_ k qh sh, cell4_ k qh sh, cell3_ k qh sh, cell2_ k qh sh] H := hP
    have hD : va_D A [cell133_ qco tco v13 v29 v34, cell35_ k qco tco, (qco 2, .inl (k 1, 35, .inr (.inl g42))), cell32_ qh sh, cell0_ k qh sh, cell1_ k qh sh, cell4_ k qh sh, cell3_ k qh sh, cell2_ k qh sh] := hD
    have cu := CU_st eg42 h_cu (Or.inr (by omega))
    rw [hQ]
    exact x_v cx hr (g42, v13, v29, v34) hP hD hS ⟨(show CUok g42 (sh 0 1).toInt from cu), (show (g42, v13, v29, v34) = J_X1_passWeekWith sco tco sh p0 p1 p2 p3 from (exl_X1_passWeekWith_1 e11 e12 e13 e29 e30 e31 e32 e33 e34 w37 e39 e40 eg42 w4 w9 c14))⟩ dX1_passWeekWith_87
theorem fw_X1_passWeek_11 : Cond.fieldLink RX1 11 "StillInAugust$Course" "ahead" "[J" ∈ wsX1_passWeek := by decide +kernel
theorem fw_X1_passWeek_17 : Cond.fieldLink RX1 17 "StillInAugust$Course" "during" "[J" ∈ wsX1_passWeek := by decide +kernel
theorem fw_X1_passWeek_37 : Cond.fieldLink RX1 37 "StillInAugust$Course" "shortShare" "J" ∈ wsX1_passWeek := by decide +kernel
theorem fw_X1_passWeek_40 : Cond.fieldLink RX1 40 "StillInAugust$Course" "idleSum" "J" ∈ wsX1_passWeek := by decide +kernel
theorem fw_X1_passWeek_43 : Cond.fieldLink RX1 43 "StillInAugust$Hands" "ALL" "[I" ∈ wsX1_passWeek := by decide +kernel
theorem nd_X1_passWeekWith : yX1_passWeekWith.cls = RX1 ∧ yX1_passWeekWith.cls ≠ "java/lang/invoke/MethodHandle" ∧ yX1_passWeekWith.cls ≠ "java/lang/invoke/VarHandle" ∧ (parseMethodDescriptor yX1_passWeekWith.desc).map (fun d => d.parameters.length) = some 5 := by decide +kernel
theorem nd_X4_takenByLevel : yX4_takenByLevel.cls = RX4 ∧ yX4_takenByLevel.cls ≠ "java/lang/invoke/MethodHandle" ∧ yX4_takenByLevel.cls ≠ "java/lang/invoke/VarHandle" ∧ (parseMethodDescriptor yX4_takenByLevel.desc).map (fun d => d.parameters.length) = some 3 := by decide +kernel
theorem iw_X1_passWeek_X1 : ∀ w ∈ u_ws RX1 TX1 6, w ∈ wsX1_passWeek := fun _ h => List.mem_cons_of_mem _ (List.mem_append_left _ (List.mem_append_right _ h))
def B_X1_passWeek_21 (sco : Nat → Nat → Int32) (tco : Nat → Nat → Int64) (sh : Nat → Nat → Int32) (p0 : Int32) (p1 : Int32) (p2 : Int32) (y6 : (Nat → Int64)) (z : Int32 × Int64 × Int64 × Int64 × (Nat → Int64)) : Sum (Int32 × Int64 × Int64 × Int64 × (Nat → Int64)) ((Nat → Int64) × Int64 × Int64 × Int64) := let v31 := (z.1); let x32 := (z.2.1); let x33 := (z.2.2.1); let x34 := (z.2.2.2.1); let g35 := (z.2.2.2.2); if 35 ≤ v31 then Sum.inr ((g35, x32, x33, x34)) else if (lg_cmp ((tco 1) (v31).toNatClampNeg) 0) = 0 then Sum.inl (((v31 + 1), x32, x33, x34, g35)) else LetF (J_X4_takenByLevel sh p0 (zALL.getD (v31).toNatClampNeg 0) p1) (fun y49 => LetF (J_X1_passWeekWith sco (up2L (up2L tco 0 (vp_updL (vp_updL (vp_updL (tco 0) 3 x32) 4 x33) 5 x34)) 2 g35) sh p0 (((zALL.getD (v31).toNatClampNeg 0) + ((100 : Int32) * y49))) p2 (((tco 1) (v31).toNatClampNeg))) (fun y62 => Sum.inl (((v31 + 1), (y62.2.1), (y62.2.2.1), (y62.2.2.2), (y62.1)))))
def J_X1_passWeek (sco : Nat → Nat → Int32) (tco : Nat → Nat → Int64) (sh : Nat → Nat → Int32) (p0 : Int32) (p1 : Int32) (p2 : Int32) : (Nat → Int64) × Int64 × Int64 × Int64 := LetF (J_J7_fill_d0a16_35 (fun _ _ => 0) (fun _ => (tco 2)) 0) (fun y6 => LTs default (B_X1_passWeek_21 sco tco sh p0 p1 p2 y6) 36 ((0 : Int32), (tco 0 3), (0 : Int64), (0 : Int64), y6))
theorem exl_X1_passWeek_0 {sco : Nat → Nat → Int32} {tco : Nat → Nat → Int64} {sh : Nat → Nat → Int32} {p0 : Int32} {p1 : Int32} {p2 : Int32} {m3 : Nat → Int64} (w5 : m3 = J_J7_fill_d0a16_35 (fun _ _ => 0) (fun _ => (tco 2)) (0 : Int64)) : J_X1_passWeek sco tco sh p0 p1 p2 = LTs (default : (Nat → Int64) × Int64 × Int64 × Int64) (B_X1_passWeek_21 sco tco sh p0 p1 p2 m3) 36 ((0 : Int32), (tco 0 3), (0 : Int64), (0 : Int64), m3) := by unfold J_X1_passWeek; refine lt_e w5 ?_; rfl
theorem exl_X1_passWeek_1 {sco : Nat → Nat → Int32} {tco : Nat → Nat → Int64} {sh : Nat → Nat → Int32} {p0 : Int32} {p1 : Int32} {p2 : Int32} {m3 : Nat → Int64} {v31 : Int32} {x32 : Int64} {x33 : Int64} {x34 : Int64} {g35 : Nat → Int64} (c37 : (35 : Int32) ≤ v31) : (B_X1_passWeek_21 sco tco sh p0 p1 p2 m3) (v31, x32, x33, x34, g35) = Sum.inr ((g35, x32, x33, x34)) := by unfold B_X1_passWeek_21; refine Eq.trans (if_pos c37) ?_; rfl
theorem exl_X1_passWeek_2 {sco : Nat → Nat → Int32} {tco : Nat → Nat → Int64} {sh : Nat → Nat → Int32} {p0 : Int32} {p1 : Int32} {p2 : Int32} {m3 : Nat → Int64} {v31 : Int32} {x32 : Int64} {x33 : Int64} {x34 : Int64} {g35 : Nat → Int64} {v42 : Int32} {v39 : Int64} {v40 : Int32} (e39 : v39 = ((tco 1) (v31).toNatClampNeg)) (e40 : v40 = (lg_cmp v39 (0 : Int64))) (e42 : v42 = v31 + 1) (c37 : ¬ ((35 : Int32) ≤ v31)) (c41 : v40 = (0 : Int32)) : (B_X1_passWeek_21 sco tco sh p0 p1 p2 m3) (v31, x32, x33, x34, g35) = Sum.inl (v42, x32, x33, x34, g35) := by subst e39 e40 e42; unfold B_X1_passWeek_21; refine Eq.trans (if_neg c37) ?_; refine Eq.trans (if_pos c41) ?_; rfl
theorem exl_X1_passWeek_3 {sco : Nat → Nat → Int32} {tco : Nat → Nat → Int64} {sh : Nat → Nat → Int32} {p0 : Int32} {p1 : Int32} {p2 : Int32} {m3 : Nat → Int64} {v31 : Int32} {x32 : Int64} {x33 : Int64} {x34 : Int64} {g35 : Nat → Int64} {v63 : Int32} {m57 : Int64} {m58 : Int64} {m59 : Int64} {m56 : Nat → Int64} {v39 : Int64} {v40 : Int32} {v44 : Int32} {v50 : Int32} {r46 : Int32} {v51 : Int32} {v53 : Int64} (e39 : v39 = ((tco 1) (v31).toNatClampNeg)) (e40 : v40 = (lg_cmp v39 (0 : Int64))) (e44 : v44 = (zALL.getD (v31).toNatClampNeg 0)) (e50 : v50 = ((100 : Int32) * r46)) (e51 : v51 = (v44 + v50)) (e53 : v53 = ((tco 1) (v31).toNatClampNeg)) (e63 : v63 = v31 + 1) (c37 : ¬ ((35 : Int32) ≤ v31)) (c41 : ¬ (v40 = (0 : Int32))) (w48 : r46 = J_X4_takenByLevel sh p0 v44 p1) (w61 : (m56, m57, m58, m59) = J_X1_passWeekWith sco (up2L (up2L tco 0 (vp_updL (vp_updL (vp_updL (tco 0) 3 x32) 4 x33) 5 x34)) 2 g35) sh p0 v51 p2 v53) : (B_X1_passWeek_21 sco tco sh p0 p1 p2 m3) (v31, x32, x33, x34, g35) = Sum.inl (v63, m57, m58, m59, m56) := by subst e39 e40 e44 e50 e51 e53 e63; unfold B_X1_passWeek_21; refine Eq.trans (if_neg c37) ?_; refine Eq.trans (if_neg c41) ?_; refine lt_e w48 ?_; refine lt_e w61 ?_; rfl
set_option maxHeartbeats 4000000 in
set_option maxRecDepth 100000 in
theorem c_X1_passWeek (l : Launch) (D : va_G) (k : Nat → ClassId) (b : Nat → Nat) (qco : Nat → Nat) (sco : Nat → Nat → Int32) (tco : Nat → Nat → Int64) (qh : Nat → Nat) (sh : Nat → Nat → Int32) (sz : Nat) (p0 : Int32) (p1 : Int32) (p2 : Int32) (h_hk : 0 ≤ (sh 0 1).toInt ∧ (sh 0 1).toInt ≤ 4) (h_of : ∀ j, 0 ≤ (sh 2 j).toInt ∧ (sh 2 j).toInt ≤ 4) (h_cu : CUok (tco 1) (sh 0 1).toInt) (hp0 : 0 ≤ p0.toInt ∧ p0.toInt ≤ 4) : MetV l D k b yX1_passWeek wsX1_passWeek ({ frames := 3, cells := 0, slots := 0, locals := 78 } : Room) [cell86_ qco tco, cell35_ k qco tco, cell34_ k qco tco, cell32_ qh sh, cell0_ k qh sh, cell1_ k qh sh, cell4_ k qh sh, cell3_ k qh sh, cell2_ k qh sh] sz [.ref (qco 0), .ref (qh 0), .int p0, .int p1, .int p2] (fun (u : (Nat → Int64) × Int64 × Int64 × Int64) => (CUok (u.1) (sh 0 1).toInt) ∧ (((u.1), (u.2.1), (u.2.2.1), (u.2.2.2)) = J_X1_passWeek sco tco sh p0 p1 p2)) (fun u => [cell133_ qco tco (u.2.1) (u.2.2.1) (u.2.2.2), cell35_ k qco tco, cell99_ k qco (u.1), cell32_ qh sh, cell0_ k qh sh, cell1_ k qh sh, cell4_ k qh sh, cell3_ k qh sh, cell2_ k qh sh]) := by
  refine g_enter (cc := cX1_passWeek) (maxL := 8) (ret := none) (by decide) rfl (Nat.le_of_ble_eq_true rfl) ?_
  intro p e s m below meth c A hsz hAe cx hr hP hD hS ls hl
  rw [hAe]
  refine g_q (fun Q hQ => ?_)
  have hx := cx.1.1
  have hb := cx.1.2.1
  have bp0 := i_rng p0
  have bp1 := i_rng p1
  have bp2 := i_rng p2
  have hl : lv_has ls 8 [(0, .ref (qco 0)), (1, .ref (qh 0)), (2, .int p0), (3, .int p1), (4, .int p2)] := hl
  obtain ⟨H, eH⟩ : ∃ H : Heap, H = s.heap := ⟨_, rfl⟩
  obtain ⟨locs, el⟩ : ∃ L : List Loc, L = [] := ⟨_, rfl⟩
  have hP : va_P D vwCl [cell86_ qco tco, cell35_ k qco tco, cell34_ k qco tco, cell32_ qh sh, cell0_ k qh sh, cell1_ k qh sh, cell4_ k qh sh, cell3_ k qh sh, cell2_ k qh sh] H := by rw [eH]; exact hP
  have hD : va_D A [cell86_ qco tco, cell35_ k qco tco, cell34_ k qco tco, cell32_ qh sh, cell0_ k qh sh, cell1_ k qh sh, cell4_ k qh sh, cell3_ k qh sh, cell2_ k qh sh] := hD
  have hS : va_S A s.heap H locs := by rw [eH, el]; exact hS
  suffices goal : W p l e ({ frames := 3, cells := 0, slots := 0, locals := 78 } : Room) s m ([.ref (qco 0), .ref (qh 0), .int p0, .int p1, .int p2] : List Value).toArray below meth c H locs 0 0 Q (F0 m 0 ls []) by rw [eH, el] at goal; exact goal
  refine lv_aload_n hx hb dX1_passWeek_0 rfl (lv_at hl 0 rfl) ?_
  refine g_get cx hP iw_X1_passWeek_X1 0 rfl rfl 1 (by decide) rfl fw_X1_passWeek_17 rfl dX1_passWeek_1 ?_
  refine lv_lconst (v := 0) hx hb dX1_passWeek_4 (by decide) ?_
  refine g_v (w1 := fun (u : (Nat → Int64)) => [(qco 2, .inl (k 1, 35, .inr (.inl u)))]) (g_runS (wc := [cell34_ k qco tco]) (rest := []) cx hP hD hS [2] rfl (by decide) [.ref (qco 2), .long 0] (c_J7_fill_d0a16_35 l D k b (fun _ => qco 2) (fun _ _ => 0) (fun _ => (tco 2)) H.size 0) gX1_passWeek_J7_fill_d0a16 rfl rfl rfl nd_J7_fill_d0a16 ⟨Nat.le_of_ble_eq_true rfl, Nat.le_of_ble_eq_true rfl⟩ rfl hl.1 rfl (Nat.le_of_ble_eq_true rfl) ⟨Nat.zero_le _, Nat.zero_le _⟩ dX1_passWeek_5) cx.2.2.1 hP hD hS [2] rfl (fun _ => rfl) (fun u2 H locs hw1 hP hD hS => ?_)
  obtain ⟨m3, rfl⟩ : ∃ z, z = u2 := ⟨_, rfl⟩
  have hP : va_P D vwCl [cell86_ qco tco, cell35_ k qco tco, (qco 2, .inl (k 1, 35, .inr (.inl m3))), cell32_ qh sh, cell0_ k qh sh, cell1_ k qh sh, cell4_ k qh sh, cell3_ k qh sh, cell2_ k qh sh] H := hP
  have hD : va_D A [cell86_ qco tco, cell35_ k qco tco, (qco 2, .inl (k 1, 35, .inr (.inl m3))), cell32_ qh sh, cell0_ k qh sh, cell1_ k qh sh, cell4_ k qh sh, cell3_ k qh sh, cell2_ k qh sh] := hD
  replace hw1 : (m3 = fillJ 35 (0 : Int64) (tco 2)) ∧ (m3 = J_J7_fill_d0a16_35 (fun _ _ => 0) (fun _ => (tco 2)) (0 : Int64)) := hw1
  obtain ⟨w4, w5⟩ := hw1
  have cu : CUok m3 (sh 0 1).toInt := CU_fill w4
  refine lv_aload_n hx hb dX1_passWeek_8 rfl (lv_at hl 0 rfl) ?_
  refine lv_lconst (v := 0) hx hb dX1_passWeek_9 (by decide) ?_
  refine g_pt cx hP hD hS iw_X1_passWeek_X1 tyX1 tyX1_ok nmX1 0 rfl rfl 4 (by decide) rfl fw_X1_passWeek_37 (ty := .long) rfl rfl rfl (Nat.le_of_ble_eq_true rfl) dX1_passWeek_10 (fun H locs hP hD hS => ?_)
  have hP : va_P D vwCl [(qco 0, .inr (0, [.ref (qco 1), .ref (qco 2), .long (tco 0 2), .long (tco 0 3), .long 0, .long (tco 0 5)])), cell35_ k qco tco, (qco 2, .inl (k 1, 35, .inr (.inl m3))), cell32_ qh sh, cell0_ k qh sh, cell1_ k qh sh, cell4_ k qh sh, cell3_ k qh sh, cell2_ k qh sh] H := hP
  have hD : va_D A [(qco 0, .inr (0, [.ref (qco 1), .ref (qco 2), .long (tco 0 2), .long (tco 0 3), .long 0, .long (tco 0 5)])), cell35_ k qco tco, (qco 2, .inl (k 1, 35, .inr (.inl m3))), cell32_ qh sh, cell0_ k qh sh, cell1_ k qh sh, cell4_ k qh sh, cell3_ k qh sh, cell2_ k qh sh] := hD
  refine lv_aload_n hx hb dX1_passWeek_13 rfl (lv_at hl 0 rfl) ?_
  refine lv_lconst (v := 0) hx hb dX1_passWeek_14 (by decide) ?_
  refine g_pt cx hP hD hS iw_X1_passWeek_X1 tyX1 tyX1_ok nmX1 0 rfl rfl 5 (by decide) rfl fw_X1_passWeek_40 (ty := .long) rfl rfl rfl (Nat.le_of_ble_eq_true rfl) dX1_passWeek_15 (fun H locs hP hD hS => ?_)
  have hP : va_P D vwCl [(qco 0, .inr (0, [.ref (qco 1), .ref (qco 2), .long (tco 0 2), .long (tco 0 3), .long 0, .long 0])), cell35_ k qco tco, (qco 2, .inl (k 1, 35, .inr (.inl m3))), cell32_ qh sh, cell0_ k qh sh, cell1_ k qh sh, cell4_ k qh sh, cell3_ k qh sh, cell2_ k qh sh] H := hP
  have hD : va_D A [(qco 0, .inr (0, [.ref (qco 1), .ref (qco 2), .long (tco 0 2), .long (tco 0 3), .long 0, .long 0])), cell35_ k qco tco, (qco 2, .inl (k 1, 35, .inr (.inl m3))), cell32_ qh sh, cell0_ k qh sh, cell1_ k qh sh, cell4_ k qh sh, cell3_ k qh sh, cell2_ k qh sh] := hD
  refine lv_iconst (v := 0) hx hb dX1_passWeek_18 (by decide) ?_
  refine lv_istore (lv' := [(5, .int 0), (0, .ref (qco 0)), (1, .ref (qh 0)), (2, .int p0), (3, .int p1), (4, .int p2)]) hx hb dX1_passWeek_19 hl (by decide) rfl (fun ls hl => ?_)
  obtain ⟨rr21_1, err21_1⟩ : ∃ r : (Nat → Int64) × Int64 × Int64 × Int64, LTs (default : (Nat → Int64) × Int64 × Int64 × Int64) (B_X1_passWeek_21 sco tco sh p0 p1 p2 m3) 36 ((0 : Int32), (tco 0 3), (0 : Int64), (0 : Int64), m3) = r := ⟨_, rfl⟩
  have hrr21_1 : J_X1_passWeek sco tco sh p0 p1 p2 = rr21_1 := ((exl_X1_passWeek_0 w5)).trans err21_1
  have hL21 : ∀ (n36 : Nat) (v31 : Int32) (x32 : Int64) (x33 : Int64) (x34 : Int64) (g35 : Nat → Int64) (H : Heap) (locs : List Loc) (ls : Array Slot), 35 - v31.toInt < (n36 : Int) → (0 ≤ v31.toInt ∧ v31.toInt ≤ 35) → (CUok g35 (sh 0 1).toInt) → (LTs (default : (Nat → Int64) × Int64 × Int64 × Int64) (B_X1_passWeek_21 sco tco sh p0 p1 p2 m3) n36 (v31, x32, x33, x34, g35) = rr21_1) → va_P D vwCl [cell133_ qco tco x32 x33 x34, cell35_ k qco tco, (qco 2, .inl (k 1, 35, .inr (.inl g35))), cell32_ qh sh, cell0_ k qh sh, cell1_ k qh sh, cell4_ k qh sh, cell3_ k qh sh, cell2_ k qh sh] H → va_D A [cell133_ qco tco x32 x33 x34, cell35_ k qco tco, (qco 2, .inl (k 1, 35, .inr (.inl g35))), cell32_ qh sh, cell0_ k qh sh, cell1_ k qh sh, cell4_ k qh sh, cell3_ k qh sh, cell2_ k qh sh] → va_S A s.heap H locs → lv_has ls 8 [(5, .int v31), (0, .ref (qco 0)), (1, .ref (qh 0)), (2, .int p0), (3, .int p1), (4, .int p2)] → W p l e ({ frames := 3, cells := 0, slots := 0, locals := 78 } : Room) s m ([.ref (qco 0), .ref (qh 0), .int p0, .int p1, .int p2] : List Value).toArray below meth c H locs 0 0 Q (F0 m 21 ls []) := by
    intro n36
    induction n36 with
    | zero => intro v31 x32 x33 x34 g35 H locs ls hmn36 bv31 cu hzrr21_1 hP hD hS hl; exact absurd hmn36 (by omega)
    | succ n36 ih21 =>
      intro v31 x32 x33 x34 g35 H locs ls hmn36 bv31 cu hzrr21_1 hP hD hS hl
      refine lv_iload hx hb dX1_passWeek_21 (lv_at hl 0 rfl) ?_
      refine lv_bipush (v := 35) hx hb dX1_passWeek_23 (by decide) ?_
      refine lv_icmp_ge (tgt := 87) hx hb dX1_passWeek_25 (by decide) (fun c37 => ?_) (fun c37 => ?_)
      · have f37 : 35 ≤ v31.toInt := f_le (by decide) rfl c37
        rw [hQ]
        exact x_v cx hr (g35, x32, x33, x34) hP hD hS ⟨(show CUok g35 (sh 0 1).toInt from cu), (show (g35, x32, x33, x34) = J_X1_passWeek sco tco sh p0 p1 p2 from ((hrr21_1.trans (LT_r hzrr21_1 (exl_X1_passWeek_1 c37)))).symm)⟩ dX1_passWeek_87
      · have f37 : v31.toInt < 35 := f_nle (by decide) rfl c37
        refine lv_aload_n hx hb dX1_passWeek_28 rfl (lv_at hl 1 rfl) ?_
        refine g_get cx hP iw_X1_passWeek_X1 0 rfl rfl 0 (by decide) rfl fw_X1_passWeek_11 rfl dX1_passWeek_29 ?_
        refine lv_iload hx hb dX1_passWeek_32 (lv_at hl 0 rfl) ?_
        have hn38 : vp_in v31 35 := f_in (a := v31.toInt) rfl (by omega) (by omega)
        refine va_lald hx hb cx.2.1 hP 1 1 rfl rfl hn38 dX1_passWeek_34 (lv_topl (fun v39 e39 => ?_))
        refine lv_lconst (v := 0) hx hb dX1_passWeek_35 (by decide) ?_
        refine W.lcmp hx hb dX1_passWeek_36 (lv_topi (fun v40 e40 => ?_))
        refine lv_if_eq (tgt := 81) hx hb dX1_passWeek_37 (by decide) (fun c41 => ?_) (fun c41 => ?_)
        · have f41 : v40.toInt = 0 := f_eq rfl (by decide) c41
          obtain ⟨v42, e42⟩ : ∃ z : Int32, z = v31 + 1 := ⟨_, rfl⟩
          refine lv_iinc (v := v42) (lv' := [(5, .int v42), (0, .ref (qco 0)), (1, .ref (qh 0)), (2, .int p0), (3, .int p1), (4, .int p2)]) hx hb dX1_passWeek_81 hl (k := 0) rfl (by rw [e42]; rfl) (by decide) rfl (fun ls hl => ?_)
          have t42 : v42.toInt = v31.toInt + 1 := by rw [e42]; exact i_add rfl (by decide) (by omega) (by omega)
          refine lv_goto (tgt := 21) hx hb dX1_passWeek_84 (by decide) ?_
          exact ih21 v42 x32 x33 x34 g35 _ _ _ (by omega) (by first | decide | omega) (by assumption) (LT_g hzrr21_1 (exl_X1_passWeek_2 e39 e40 e42 c37 c41)) hP hD hS (lv_sub hl [0, 1, 2, 3, 4, 5] rfl)
        · have f41 : ¬ v40.toInt = 0 := f_ne rfl (by decide) c41
          have nz := lcnz0 e40 c41
          have tc := (CU_get e39 h_cu ⟨by omega, by omega⟩).resolve_left nz
          refine va_gets hx hb cx.2.2.2.t0.1 hS cx.1.2.2.2.1 (cx.1.2.2.2.2 _ fw_X1_passWeek_43) (fun _ h => h) dX1_passWeek_40 ?_
          refine lv_iload hx hb dX1_passWeek_43 (lv_at hl 0 rfl) ?_
          have hn43 : vp_in v31 35 := f_in (a := v31.toInt) rfl (by omega) (by omega)
          refine va_ti hx hb cx.2.2.2.t0.2 hS hn43 rfl dX1_passWeek_45 (lv_topi (fun v44 e44 => ?_))
          have t44 : 0 ≤ v44.toInt ∧ v44.toInt ≤ 400 ∧ tot v44 ≤ 4 := by rw [e44]; exact zALL_v _
          have tk : totN v31.toNatClampNeg = tot v44 := totN_of e44
          refine lv_istore (lv' := [(6, .int v44), (5, .int v31), (0, .ref (qco 0)), (1, .ref (qh 0)), (2, .int p0), (3, .int p1), (4, .int p2)]) hx hb dX1_passWeek_46 hl (by decide) rfl (fun ls hl => ?_)
          refine lv_bipush (v := 100) hx hb dX1_passWeek_48 (by decide) ?_
          refine lv_aload_n hx hb dX1_passWeek_50 rfl (lv_at hl 3 rfl) ?_
          refine lv_iload_n hx hb dX1_passWeek_51 rfl (lv_at hl 4 rfl) ?_
          refine lv_iload hx hb dX1_passWeek_52 (lv_at hl 0 rfl) ?_
          refine lv_iload_n hx hb dX1_passWeek_54 rfl (lv_at hl 5 rfl) ?_
          refine g_ir (g_runV (wc := [cell32_ qh sh, cell0_ k qh sh, cell1_ k qh sh, cell4_ k qh sh, cell3_ k qh sh, cell2_ k qh sh]) (rest := [.int 100]) cx hP hD hS [3, 4, 5, 6, 7, 8] rfl (by decide) [.int p0, .int v44, .int p1] (c_X4_takenByLevel l D k b qh sh H.size p0 v44 p1 (show 0 ≤ (sh 0 1).toInt ∧ (sh 0 1).toInt ≤ 4 from by first | decide | omega) h_of (show 0 ≤ v44.toInt ∧ v44.toInt ≤ 400 ∧ tot v44 ≤ 4 from by first | decide | omega) (show tot v44 ≤ (sh 0 1).toInt from by first | decide | omega) (show 0 ≤ p0.toInt ∧ p0.toInt ≤ 4 from by first | decide | omega)) gX1_passWeek_X4_takenByLevel rfl rfl rfl nd_X4_takenByLevel ⟨Nat.le_of_ble_eq_true rfl, Nat.le_of_ble_eq_true rfl⟩ (ci := 2) (q0 := 0) rfl rfl rfl hl.1 rfl (Nat.le_of_ble_eq_true rfl) ⟨Nat.zero_le _, Nat.zero_le _⟩ dX1_passWeek_55) cx.2.2.1 hP hD hS [3, 4, 5, 6, 7, 8] rfl rfl (fun r46 H locs hw45 hP hS => ?_)
          replace hw45 : (0 ≤ r46.toInt ∧ r46.toInt ≤ 4 ∧ r46.toInt ≤ (sh 0 1).toInt - (tot v44)) ∧ (r46 = J_X4_takenByLevel sh p0 v44 p1) := hw45
          obtain ⟨w47, w48⟩ := hw45
          refine lv_imul hx hb dX1_passWeek_58 (lv_topi (fun v50 e50 => ?_))
          have t50 : v50.toInt = 100 * r46.toInt := by rw [e50]; exact i_mul (by decide) rfl (by omega) (by omega)
          refine lv_istore (lv' := [(7, .int v50), (6, .int v44), (5, .int v31), (0, .ref (qco 0)), (1, .ref (qh 0)), (2, .int p0), (3, .int p1), (4, .int p2)]) hx hb dX1_passWeek_59 hl (by decide) rfl (fun ls hl => ?_)
          refine lv_aload_n hx hb dX1_passWeek_61 rfl (lv_at hl 3 rfl) ?_
          refine lv_aload_n hx hb dX1_passWeek_62 rfl (lv_at hl 4 rfl) ?_
          refine lv_iload_n hx hb dX1_passWeek_63 rfl (lv_at hl 5 rfl) ?_
          refine lv_iload hx hb dX1_passWeek_64 (lv_at hl 1 rfl) ?_
          refine lv_iload hx hb dX1_passWeek_66 (lv_at hl 0 rfl) ?_
          refine lv_iadd hx hb dX1_passWeek_68 (lv_topi (fun v51 e51 => ?_))
          have t51 : v51.toInt = v44.toInt + v50.toInt := by rw [e51]; exact i_add rfl rfl (by omega) (by omega)
          have ta : (0 ≤ v51.toInt ∧ v51.toInt ≤ 400 ∧ tot v51 ≤ 4) ∧ tot v51 ≤ (sh 0 1).toInt := tot_add (h := v44) (t := r46.toInt) ⟨by omega, by omega, by omega⟩ (by omega) (by omega) (by omega) (by omega)
          refine lv_iload hx hb dX1_passWeek_69 (lv_at hl 7 rfl) ?_
          refine lv_aload_n hx hb dX1_passWeek_71 rfl (lv_at hl 3 rfl) ?_
          refine g_get cx hP iw_X1_passWeek_X1 0 rfl rfl 0 (by decide) rfl fw_X1_passWeek_11 rfl dX1_passWeek_72 ?_
          refine lv_iload hx hb dX1_passWeek_75 (lv_at hl 2 rfl) ?_
          have hn52 : vp_in v31 35 := f_in (a := v31.toInt) rfl (by omega) (by omega)
          refine va_lald hx hb cx.2.1 hP 1 1 rfl rfl hn52 dX1_passWeek_77 (lv_topl (fun v53 e53 => ?_))
          have qv53_ : v53.toInt = v39.toInt := congrArg Int64.toInt (e53.trans e39.symm)
          refine g_vF (w1 := fun (u : (Nat → Int64) × Int64 × Int64 × Int64) => [cell133_ qco tco (u.2.1) (u.2.2.1) (u.2.2.2), cell35_ k qco tco, cell99_ k qco (u.1), cell32_ qh sh, cell0_ k qh sh, cell1_ k qh sh, cell4_ k qh sh, cell3_ k qh sh, cell2_ k qh sh]) (g_runVF (ws := [cell133_ qco tco x32 x33 x34, cell35_ k qco tco, (qco 2, .inl (k 1, 35, .inr (.inl g35))), cell32_ qh sh, cell0_ k qh sh, cell1_ k qh sh, cell4_ k qh sh, cell3_ k qh sh, cell2_ k qh sh]) (rest := []) cx hP hD hS [.ref (qh 0), .int p0, .int v51, .int p2, .long v53] (c_X1_passWeekWith l D k b qco sco (up2L (up2L tco 0 (vp_updL (vp_updL (vp_updL (tco 0) 3 x32) 4 x33) 5 x34)) 2 g35) qh sh H.size p0 v51 p2 v53 (show 0 ≤ v51.toInt ∧ v51.toInt ≤ 400 ∧ tot v51 ≤ 4 from by first | decide | omega) (show tot v51 ≤ (sh 0 1).toInt from by first | decide | omega) (show CUok g35 (sh 0 1).toInt from by assumption) (show 0 ≤ p0.toInt ∧ p0.toInt ≤ 4 from by first | decide | omega)) gX1_passWeek_X1_passWeekWith rfl rfl rfl nd_X1_passWeekWith ⟨Nat.le_of_ble_eq_true rfl, Nat.le_of_ble_eq_true rfl⟩ (ci := 0) (q0 := 0) rfl rfl rfl hl.1 rfl (Nat.le_of_ble_eq_true rfl) ⟨Nat.zero_le _, Nat.zero_le _⟩ dX1_passWeek_78) cx.2.2.1 hD hS (fun u55 H locs hw54 hP hD hS => ?_)
          obtain ⟨m56, m57, m58, m59⟩ := u55
          have hP : va_P D vwCl [cell133_ qco tco m57 m58 m59, cell35_ k qco tco, (qco 2, .inl (k 1, 35, .inr (.inl m56))), cell32_ qh sh, cell0_ k qh sh, cell1_ k qh sh, cell4_ k qh sh, cell3_ k qh sh, cell2_ k qh sh] H := hP
          have hD : va_D A [cell133_ qco tco m57 m58 m59, cell35_ k qco tco, (qco 2, .inl (k 1, 35, .inr (.inl m56))), cell32_ qh sh, cell0_ k qh sh, cell1_ k qh sh, cell4_ k qh sh, cell3_ k qh sh, cell2_ k qh sh] := hD
          replace hw54 : (CUok m56 (sh 0 1).toInt) ∧ ((m56, m57, m58, m59) = J_X1_passWeekWith sco (up2L (up2L tco 0 (vp_updL (vp_updL (vp_updL (tco 0) 3 x32) 4 x33) 5 x34)) 2 g35) sh p0 v51 p2 v53) := hw54
          obtain ⟨w60, w61⟩ := hw54
          obtain ⟨v63, e63⟩ : ∃ z : Int32, z = v31 + 1 := ⟨_, rfl⟩
          refine lv_iinc (v := v63) (lv' := [(5, .int v63), (7, .int v50), (6, .int v44), (0, .ref (qco 0)), (1, .ref (qh 0)), (2, .int p0), (3, .int p1), (4, .int p2)]) hx hb dX1_passWeek_81 hl (k := 2) rfl (by rw [e63]; rfl) (by decide) rfl (fun ls hl => ?_)
          have t63 : v63.toInt = v31.toInt + 1 := by rw [e63]; exact i_add rfl (by decide) (by omega) (by omega)
          refine lv_goto (tgt := 21) hx hb dX1_passWeek_84 (by decide) ?_
          exact ih21 v63 m57 m58 m59 m56 _ _ _ (by omega) (by first | decide | omega) (by assumption) (LT_g hzrr21_1 (exl_X1_passWeek_3 e39 e40 e44 e50 e51 e53 e63 c37 c41 w48 w61)) hP hD hS (lv_sub hl [0, 3, 4, 5, 6, 7] rfl)
  have hlit64 : (0 : Int32).toInt = 0 := by decide
  have hlit65 : (0 : Int32).toInt = 0 := by decide
  have hlit66 : (0 : Int32).toInt = 0 := by decide
  exact hL21 (36) 0 (tco 0 3) 0 0 m3 _ _ _ (by omega) (by first | decide | omega) (by assumption) err21_1 hP hD hS (lv_sub hl [0, 1, 2, 3, 4, 5] rfl)
theorem fw_X1_passSunday_11 : Cond.fieldLink RX1 11 "StillInAugust$Course" "ahead" "[J" ∈ wsX1_passSunday := by decide +kernel
theorem fw_X1_passSunday_17 : Cond.fieldLink RX1 17 "StillInAugust$Course" "during" "[J" ∈ wsX1_passSunday := by decide +kernel
theorem fw_X1_passSunday_30 : Cond.fieldLink RX1 30 "StillInAugust$Course" "scale" "J" ∈ wsX1_passSunday := by decide +kernel
theorem fw_X1_passSunday_34 : Cond.fieldLink RX1 34 "StillInAugust$Course" "costs" "J" ∈ wsX1_passSunday := by decide +kernel
theorem kJ_X1_passSunday_73 : Cond.constantLong RX1 73 (625) ∈ wsX1_passSunday := by decide +kernel
theorem iw_X1_passSunday_X1 : ∀ w ∈ u_ws RX1 TX1 6, w ∈ wsX1_passSunday := fun _ h => List.mem_cons_of_mem _ (List.mem_append_left _ (List.mem_append_right _ h))
def B_X1_passSunday_29_2 (sco : Nat → Nat → Int32) (tco : Nat → Nat → Int64) (sh : Nat → Nat → Int32) (v28 : Int32) (g29 : Nat → Int64) (y6 : (Nat → Int64)) (z : Int32 × (Nat → Int64)) : Sum (Int32 × (Nat → Int64)) (Sum (Int32 × (Nat → Int64)) ((Nat → Int64) × Int64 × Int64)) := let v55 := (z.1); let g56 := (z.2); if 15 ≤ v55 then Sum.inr (Sum.inl (((v28 + 1), g56))) else LetF (J_X4_partsTo sh v28 v55) (fun y68 => Sum.inl (((v55 + 1), (vp_updL g56 (v55).toNatClampNeg (((g56 (v55).toNatClampNeg) + (((tco 2) (v28).toNatClampNeg) * (y68.toInt64))))))))
def B_X1_passSunday_10 (sco : Nat → Nat → Int32) (tco : Nat → Nat → Int64) (sh : Nat → Nat → Int32) (y6 : (Nat → Int64)) (z : Int32 × (Nat → Int64)) : Sum (Int32 × (Nat → Int64)) ((Nat → Int64) × Int64 × Int64) := let v28 := (z.1); let g29 := (z.2); if 35 ≤ v28 then Sum.inr ((g29, ((tco 0 2) * (625 : Int64)), ((tco 0 3) * (625 : Int64)))) else if (lg_cmp ((tco 2) (v28).toNatClampNeg) 0) = 0 then Sum.inl (((v28 + 1), g29)) else LTs (Sum.inl default) (B_X1_passSunday_29_2 sco tco sh v28 g29 y6) 16 ((0 : Int32), g29)
def J_X1_passSunday (sco : Nat → Nat → Int32) (tco : Nat → Nat → Int64) (sh : Nat → Nat → Int32) : (Nat → Int64) × Int64 × Int64 := LetF (J_J7_fill_d0a16_35 (fun _ _ => 0) (fun _ => (tco 1)) 0) (fun y6 => LTs default (B_X1_passSunday_10 sco tco sh y6) 36 ((0 : Int32), y6))
theorem exl_X1_passSunday_0 {sco : Nat → Nat → Int32} {tco : Nat → Nat → Int64} {sh : Nat → Nat → Int32} {m3 : Nat → Int64} (w5 : m3 = J_J7_fill_d0a16_35 (fun _ _ => 0) (fun _ => (tco 1)) (0 : Int64)) : J_X1_passSunday sco tco sh = LTs (default : (Nat → Int64) × Int64 × Int64) (B_X1_passSunday_10 sco tco sh m3) 36 ((0 : Int32), m3) := by unfold J_X1_passSunday; refine lt_e w5 ?_; rfl
theorem exl_X1_passSunday_1 {sco : Nat → Nat → Int32} {tco : Nat → Nat → Int64} {sh : Nat → Nat → Int32} {m3 : Nat → Int64} {v28 : Int32} {g29 : Nat → Int64} {v32 : Int64} {v33 : Int64} (e32 : v32 = ((tco 0 2) * (625 : Int64))) (e33 : v33 = ((tco 0 3) * (625 : Int64))) (c31 : (35 : Int32) ≤ v28) : (B_X1_passSunday_10 sco tco sh m3) (v28, g29) = Sum.inr ((g29, v32, v33)) := by subst e32 e33; unfold B_X1_passSunday_10; refine Eq.trans (if_pos c31) ?_; rfl
theorem exl_X1_passSunday_2 {sco : Nat → Nat → Int32} {tco : Nat → Nat → Int64} {sh : Nat → Nat → Int32} {m3 : Nat → Int64} {v28 : Int32} {g29 : Nat → Int64} {v38 : Int32} {v35 : Int64} {v36 : Int32} (e35 : v35 = ((tco 2) (v28).toNatClampNeg)) (e36 : v36 = (lg_cmp v35 (0 : Int64))) (e38 : v38 = v28 + 1) (c31 : ¬ ((35 : Int32) ≤ v28)) (c37 : v36 = (0 : Int32)) : (B_X1_passSunday_10 sco tco sh m3) (v28, g29) = Sum.inl (v38, g29) := by subst e35 e36 e38; unfold B_X1_passSunday_10; refine Eq.trans (if_neg c31) ?_; refine Eq.trans (if_pos c37) ?_; rfl
theorem exl_X1_passSunday_3 {sco : Nat → Nat → Int32} {tco : Nat → Nat → Int64} {sh : Nat → Nat → Int32} {m3 : Nat → Int64} {v28 : Int32} {g29 : Nat → Int64} {v35 : Int64} {v36 : Int32} (e35 : v35 = ((tco 2) (v28).toNatClampNeg)) (e36 : v36 = (lg_cmp v35 (0 : Int64))) (c31 : ¬ ((35 : Int32) ≤ v28)) (c37 : ¬ (v36 = (0 : Int32))) : (B_X1_passSunday_10 sco tco sh m3) (v28, g29) = LTs (Sum.inl default : Sum (Int32 × (Nat → Int64)) ((Nat → Int64) × Int64 × Int64)) (B_X1_passSunday_29_2 sco tco sh v28 g29 m3) 16 ((0 : Int32), g29) := by subst e35 e36; unfold B_X1_passSunday_10; refine Eq.trans (if_neg c31) ?_; refine Eq.trans (if_neg c37) ?_; rfl
theorem exl_X1_passSunday_4 {sco : Nat → Nat → Int32} {tco : Nat → Nat → Int64} {sh : Nat → Nat → Int32} {v28 : Int32} {g29 : Nat → Int64} {m3 : Nat → Int64} {v55 : Int32} {g56 : Nat → Int64} {v59 : Int32} (e59 : v59 = v28 + 1) (c58 : (15 : Int32) ≤ v55) : (B_X1_passSunday_29_2 sco tco sh v28 g29 m3) (v55, g56) = Sum.inr (Sum.inl (v59, g56)) := by subst e59; unfold B_X1_passSunday_29_2; refine Eq.trans (if_pos c58) ?_; rfl
theorem exl_X1_passSunday_5 {sco : Nat → Nat → Int32} {tco : Nat → Nat → Int64} {sh : Nat → Nat → Int32} {v28 : Int32} {g29 : Nat → Int64} {m3 : Nat → Int64} {v55 : Int32} {g56 : Nat → Int64} {v74 : Int32} {g73 : Nat → Int64} {v61 : Int64} {v63 : Int64} {v69 : Int64} {r65 : Int32} {v70 : Int64} {v71 : Int64} (e61 : v61 = (g56 (v55).toNatClampNeg)) (e63 : v63 = ((tco 2) (v28).toNatClampNeg)) (e69 : v69 = (r65 : Int32).toInt64) (e70 : v70 = (v63 * v69)) (e71 : v71 = (v61 + v70)) (eg73 : g73 = vp_updL g56 (v55).toNatClampNeg v71) (e74 : v74 = v55 + 1) (c58 : ¬ ((15 : Int32) ≤ v55)) (w67 : r65 = J_X4_partsTo sh v28 v55) : (B_X1_passSunday_29_2 sco tco sh v28 g29 m3) (v55, g56) = Sum.inl (v74, g73) := by subst e61 e63 e69 e70 e71 eg73 e74; unfold B_X1_passSunday_29_2; refine Eq.trans (if_neg c58) ?_; refine lt_e w67 ?_; rfl
set_option maxHeartbeats 4000000 in
set_option maxRecDepth 100000 in
theorem c_X1_passSunday (l : Launch) (D : va_G) (k : Nat → ClassId) (b : Nat → Nat) (qco : Nat → Nat) (sco : Nat → Nat → Int32) (tco : Nat → Nat → Int64) (qh : Nat → Nat) (sh : Nat → Nat → Int32) (sz : Nat) (h_su : SUok (sh 5)) (h_cu : CUok (tco 2) (sh 0 1).toInt) : MetV l D k b yX1_passSunday wsX1_passSunday ({ frames := 1, cells := 0, slots := 0, locals := 24 } : Room) [cell86_ qco tco, cell35_ k qco tco, cell34_ k qco tco, cell32_ qh sh, cell0_ k qh sh, cell1_ k qh sh, cell4_ k qh sh, cell3_ k qh sh, cell2_ k qh sh] sz [.ref (qco 0), .ref (qh 0)] (fun (u : (Nat → Int64) × Int64 × Int64) => (CUok (u.1) (sh 0 1).toInt) ∧ (((u.1), (u.2.1), (u.2.2)) = J_X1_passSunday sco tco sh)) (fun u => [cell194_ qco tco (u.2.1) (u.2.2), cell98_ k qco (u.1), cell34_ k qco tco, cell32_ qh sh, cell0_ k qh sh, cell1_ k qh sh, cell4_ k qh sh, cell3_ k qh sh, cell2_ k qh sh]) := by
  refine g_enter (cc := cX1_passSunday) (maxL := 4) (ret := none) (by decide) rfl (Nat.le_of_ble_eq_true rfl) ?_
  intro p e s m below meth c A hsz hAe cx hr hP hD hS ls hl
  rw [hAe]
  refine g_q (fun Q hQ => ?_)
  have hx := cx.1.1
  have hb := cx.1.2.1
  have hl : lv_has ls 4 [(0, .ref (qco 0)), (1, .ref (qh 0))] := hl
  obtain ⟨H, eH⟩ : ∃ H : Heap, H = s.heap := ⟨_, rfl⟩
  obtain ⟨locs, el⟩ : ∃ L : List Loc, L = [] := ⟨_, rfl⟩
  have hP : va_P D vwCl [cell86_ qco tco, cell35_ k qco tco, cell34_ k qco tco, cell32_ qh sh, cell0_ k qh sh, cell1_ k qh sh, cell4_ k qh sh, cell3_ k qh sh, cell2_ k qh sh] H := by rw [eH]; exact hP
  have hD : va_D A [cell86_ qco tco, cell35_ k qco tco, cell34_ k qco tco, cell32_ qh sh, cell0_ k qh sh, cell1_ k qh sh, cell4_ k qh sh, cell3_ k qh sh, cell2_ k qh sh] := hD
  have hS : va_S A s.heap H locs := by rw [eH, el]; exact hS
  suffices goal : W p l e ({ frames := 1, cells := 0, slots := 0, locals := 24 } : Room) s m ([.ref (qco 0), .ref (qh 0)] : List Value).toArray below meth c H locs 0 0 Q (F0 m 0 ls []) by rw [eH, el] at goal; exact goal
  refine lv_aload_n hx hb dX1_passSunday_0 rfl (lv_at hl 0 rfl) ?_
  refine g_get cx hP iw_X1_passSunday_X1 0 rfl rfl 0 (by decide) rfl fw_X1_passSunday_11 rfl dX1_passSunday_1 ?_
  refine lv_lconst (v := 0) hx hb dX1_passSunday_4 (by decide) ?_
  refine g_v (w1 := fun (u : (Nat → Int64)) => [(qco 1, .inl (k 1, 35, .inr (.inl u)))]) (g_runS (wc := [cell35_ k qco tco]) (rest := []) cx hP hD hS [1] rfl (by decide) [.ref (qco 1), .long 0] (c_J7_fill_d0a16_35 l D k b (fun _ => qco 1) (fun _ _ => 0) (fun _ => (tco 1)) H.size 0) gX1_passSunday_J7_fill_d0a16 rfl rfl rfl nd_J7_fill_d0a16 ⟨Nat.le_of_ble_eq_true rfl, Nat.le_of_ble_eq_true rfl⟩ rfl hl.1 rfl (Nat.le_of_ble_eq_true rfl) ⟨Nat.zero_le _, Nat.zero_le _⟩ dX1_passSunday_5) cx.2.2.1 hP hD hS [1] rfl (fun _ => rfl) (fun u2 H locs hw1 hP hD hS => ?_)
  obtain ⟨m3, rfl⟩ : ∃ z, z = u2 := ⟨_, rfl⟩
  have hP : va_P D vwCl [cell86_ qco tco, (qco 1, .inl (k 1, 35, .inr (.inl m3))), cell34_ k qco tco, cell32_ qh sh, cell0_ k qh sh, cell1_ k qh sh, cell4_ k qh sh, cell3_ k qh sh, cell2_ k qh sh] H := hP
  have hD : va_D A [cell86_ qco tco, (qco 1, .inl (k 1, 35, .inr (.inl m3))), cell34_ k qco tco, cell32_ qh sh, cell0_ k qh sh, cell1_ k qh sh, cell4_ k qh sh, cell3_ k qh sh, cell2_ k qh sh] := hD
  replace hw1 : (m3 = fillJ 35 (0 : Int64) (tco 1)) ∧ (m3 = J_J7_fill_d0a16_35 (fun _ _ => 0) (fun _ => (tco 1)) (0 : Int64)) := hw1
  obtain ⟨w4, w5⟩ := hw1
  have cu : CUok m3 (sh 0 1).toInt := CU_fill w4
  refine lv_iconst (v := 0) hx hb dX1_passSunday_8 (by decide) ?_
  refine lv_istore_n (lv' := [(2, .int 0), (0, .ref (qco 0)), (1, .ref (qh 0))]) hx hb dX1_passSunday_9 rfl hl (by decide) rfl (fun ls hl => ?_)
  obtain ⟨rr10_1, err10_1⟩ : ∃ r : (Nat → Int64) × Int64 × Int64, LTs (default : (Nat → Int64) × Int64 × Int64) (B_X1_passSunday_10 sco tco sh m3) 36 ((0 : Int32), m3) = r := ⟨_, rfl⟩
  have hrr10_1 : J_X1_passSunday sco tco sh = rr10_1 := ((exl_X1_passSunday_0 w5)).trans err10_1
  have hL10 : ∀ (n30 : Nat) (v28 : Int32) (g29 : Nat → Int64) (H : Heap) (locs : List Loc) (ls : Array Slot), 35 - v28.toInt < (n30 : Int) → (0 ≤ v28.toInt ∧ v28.toInt ≤ 35) → (CUok g29 (sh 0 1).toInt) → (LTs (default : (Nat → Int64) × Int64 × Int64) (B_X1_passSunday_10 sco tco sh m3) n30 (v28, g29) = rr10_1) → va_P D vwCl [cell86_ qco tco, (qco 1, .inl (k 1, 35, .inr (.inl g29))), cell34_ k qco tco, cell32_ qh sh, cell0_ k qh sh, cell1_ k qh sh, cell4_ k qh sh, cell3_ k qh sh, cell2_ k qh sh] H → va_D A [cell86_ qco tco, (qco 1, .inl (k 1, 35, .inr (.inl g29))), cell34_ k qco tco, cell32_ qh sh, cell0_ k qh sh, cell1_ k qh sh, cell4_ k qh sh, cell3_ k qh sh, cell2_ k qh sh] → va_S A s.heap H locs → lv_has ls 4 [(2, .int v28), (0, .ref (qco 0)), (1, .ref (qh 0))] → W p l e ({ frames := 1, cells := 0, slots := 0, locals := 24 } : Room) s m ([.ref (qco 0), .ref (qh 0)] : List Value).toArray below meth c H locs 0 0 Q (F0 m 10 ls []) := by
    intro n30
    induction n30 with
    | zero => intro v28 g29 H locs ls hmn30 bv28 cu hzrr10_1 hP hD hS hl; exact absurd hmn30 (by omega)
    | succ n30 ih10 =>
      intro v28 g29 H locs ls hmn30 bv28 cu hzrr10_1 hP hD hS hl
      refine lv_iload_n hx hb dX1_passSunday_10 rfl (lv_at hl 0 rfl) ?_
      refine lv_bipush (v := 35) hx hb dX1_passSunday_11 (by decide) ?_
      refine lv_icmp_ge (tgt := 70) hx hb dX1_passSunday_13 (by decide) (fun c31 => ?_) (fun c31 => ?_)
      · have f31 : 35 ≤ v28.toInt := f_le (by decide) rfl c31
        refine lv_aload_n hx hb dX1_passSunday_70 rfl (lv_at hl 1 rfl) ?_
        refine lv_dup hx hb dX1_passSunday_71 rfl ?_
        refine g_get cx hP iw_X1_passSunday_X1 0 rfl rfl 2 (by decide) rfl fw_X1_passSunday_30 rfl dX1_passSunday_72 ?_
        refine lv_ldc2 (v := 625) hx hb cx.1.2.2.2.1 (cx.1.2.2.2.2 _ kJ_X1_passSunday_73) dX1_passSunday_75 ?_
        refine lv_lmul hx hb dX1_passSunday_78 (lv_topl (fun v32 e32 => ?_))
        refine g_pt cx hP hD hS iw_X1_passSunday_X1 tyX1 tyX1_ok nmX1 0 rfl rfl 2 (by decide) rfl fw_X1_passSunday_30 (ty := .long) rfl rfl rfl (Nat.le_of_ble_eq_true rfl) dX1_passSunday_79 (fun H locs hP hD hS => ?_)
        have hP : va_P D vwCl [cell203_ qco tco v32, (qco 1, .inl (k 1, 35, .inr (.inl g29))), cell34_ k qco tco, cell32_ qh sh, cell0_ k qh sh, cell1_ k qh sh, cell4_ k qh sh, cell3_ k qh sh, cell2_ k qh sh] H := hP
        have hD : va_D A [cell203_ qco tco v32, (qco 1, .inl (k 1, 35, .inr (.inl g29))), cell34_ k qco tco, cell32_ qh sh, cell0_ k qh sh, cell1_ k qh sh, cell4_ k qh sh, cell3_ k qh sh, cell2_ k qh sh] := hD
        refine lv_aload_n hx hb dX1_passSunday_82 rfl (lv_at hl 1 rfl) ?_
        refine lv_dup hx hb dX1_passSunday_83 rfl ?_
        refine g_get cx hP iw_X1_passSunday_X1 0 rfl rfl 3 (by decide) rfl fw_X1_passSunday_34 rfl dX1_passSunday_84 ?_
        refine lv_ldc2 (v := 625) hx hb cx.1.2.2.2.1 (cx.1.2.2.2.2 _ kJ_X1_passSunday_73) dX1_passSunday_87 ?_
        refine lv_lmul hx hb dX1_passSunday_90 (lv_topl (fun v33 e33 => ?_))
        refine g_pt cx hP hD hS iw_X1_passSunday_X1 tyX1 tyX1_ok nmX1 0 rfl rfl 3 (by decide) rfl fw_X1_passSunday_34 (ty := .long) rfl rfl rfl (Nat.le_of_ble_eq_true rfl) dX1_passSunday_91 (fun H locs hP hD hS => ?_)
        have hP : va_P D vwCl [cell194_ qco tco v32 v33, (qco 1, .inl (k 1, 35, .inr (.inl g29))), cell34_ k qco tco, cell32_ qh sh, cell0_ k qh sh, cell1_ k qh sh, cell4_ k qh sh, cell3_ k qh sh, cell2_ k qh sh] H := hP
        have hD : va_D A [cell194_ qco tco v32 v33, (qco 1, .inl (k 1, 35, .inr (.inl g29))), cell34_ k qco tco, cell32_ qh sh, cell0_ k qh sh, cell1_ k qh sh, cell4_ k qh sh, cell3_ k qh sh, cell2_ k qh sh] := hD
        rw [hQ]
        exact x_v cx hr (g29, v32, v33) hP hD hS ⟨(show CUok g29 (sh 0 1).toInt from cu), (show (g29, v32, v33) = J_X1_passSunday sco tco sh from ((hrr10_1.trans (LT_r hzrr10_1 (exl_X1_passSunday_1 e32 e33 c31)))).symm)⟩ dX1_passSunday_94
      · have f31 : v28.toInt < 35 := f_nle (by decide) rfl c31
        refine lv_aload_n hx hb dX1_passSunday_16 rfl (lv_at hl 1 rfl) ?_
        refine g_get cx hP iw_X1_passSunday_X1 0 rfl rfl 1 (by decide) rfl fw_X1_passSunday_17 rfl dX1_passSunday_17 ?_
        refine lv_iload_n hx hb dX1_passSunday_20 rfl (lv_at hl 0 rfl) ?_
        have hn34 : vp_in v28 35 := f_in (a := v28.toInt) rfl (by omega) (by omega)
        refine va_lald hx hb cx.2.1 hP 2 1 rfl rfl hn34 dX1_passSunday_21 (lv_topl (fun v35 e35 => ?_))
        refine lv_lconst (v := 0) hx hb dX1_passSunday_22 (by decide) ?_
        refine W.lcmp hx hb dX1_passSunday_23 (lv_topi (fun v36 e36 => ?_))
        refine lv_if_eq (tgt := 64) hx hb dX1_passSunday_24 (by decide) (fun c37 => ?_) (fun c37 => ?_)
        · have f37 : v36.toInt = 0 := f_eq rfl (by decide) c37
          obtain ⟨v38, e38⟩ : ∃ z : Int32, z = v28 + 1 := ⟨_, rfl⟩
          refine lv_iinc (v := v38) (lv' := [(2, .int v38), (0, .ref (qco 0)), (1, .ref (qh 0))]) hx hb dX1_passSunday_64 hl (k := 0) rfl (by rw [e38]; rfl) (by decide) rfl (fun ls hl => ?_)
          have t38 : v38.toInt = v28.toInt + 1 := by rw [e38]; exact i_add rfl (by decide) (by omega) (by omega)
          refine lv_goto (tgt := 10) hx hb dX1_passSunday_67 (by decide) ?_
          exact ih10 v38 g29 _ _ _ (by omega) (by first | decide | omega) (by assumption) (LT_g hzrr10_1 (exl_X1_passSunday_2 e35 e36 e38 c31 c37)) hP hD hS (lv_sub hl [0, 1, 2] rfl)
        · have f37 : ¬ v36.toInt = 0 := f_ne rfl (by decide) c37
          have nz := lcnz0 e36 c37
          have tc := (CU_get e35 h_cu ⟨by omega, by omega⟩).resolve_left nz
          refine lv_iconst (v := 0) hx hb dX1_passSunday_27 (by decide) ?_
          refine lv_istore_n (lv' := [(3, .int 0), (2, .int v28), (0, .ref (qco 0)), (1, .ref (qh 0))]) hx hb dX1_passSunday_28 rfl hl (by decide) rfl (fun ls hl => ?_)
          obtain ⟨rr29_2, err29_2⟩ : ∃ r : Sum (Int32 × (Nat → Int64)) ((Nat → Int64) × Int64 × Int64), LTs (Sum.inl default : Sum (Int32 × (Nat → Int64)) ((Nat → Int64) × Int64 × Int64)) (B_X1_passSunday_29_2 sco tco sh v28 g29 m3) 16 ((0 : Int32), g29) = r := ⟨_, rfl⟩
          have hrr29_2 : (B_X1_passSunday_10 sco tco sh m3) (v28, g29) = rr29_2 := ((exl_X1_passSunday_3 e35 e36 c31 c37)).trans err29_2
          have hL29 : ∀ (n57 : Nat) (v55 : Int32) (g56 : Nat → Int64) (H : Heap) (locs : List Loc) (ls : Array Slot), 15 - v55.toInt < (n57 : Int) → (0 ≤ v55.toInt ∧ v55.toInt ≤ 15) → (CUok g56 (sh 0 1).toInt) → (LTs (Sum.inl default : Sum (Int32 × (Nat → Int64)) ((Nat → Int64) × Int64 × Int64)) (B_X1_passSunday_29_2 sco tco sh v28 g29 m3) n57 (v55, g56) = rr29_2) → va_P D vwCl [cell86_ qco tco, (qco 1, .inl (k 1, 35, .inr (.inl g56))), cell34_ k qco tco, cell32_ qh sh, cell0_ k qh sh, cell1_ k qh sh, cell4_ k qh sh, cell3_ k qh sh, cell2_ k qh sh] H → va_D A [cell86_ qco tco, (qco 1, .inl (k 1, 35, .inr (.inl g56))), cell34_ k qco tco, cell32_ qh sh, cell0_ k qh sh, cell1_ k qh sh, cell4_ k qh sh, cell3_ k qh sh, cell2_ k qh sh] → va_S A s.heap H locs → lv_has ls 4 [(3, .int v55), (2, .int v28), (0, .ref (qco 0)), (1, .ref (qh 0))] → W p l e ({ frames := 1, cells := 0, slots := 0, locals := 24 } : Room) s m ([.ref (qco 0), .ref (qh 0)] : List Value).toArray below meth c H locs 0 0 Q (F0 m 29 ls []) := by
            intro n57
            induction n57 with
            | zero => intro v55 g56 H locs ls hmn57 bv55 cu hzrr29_2 hP hD hS hl; exact absurd hmn57 (by omega)
            | succ n57 ih29 =>
              intro v55 g56 H locs ls hmn57 bv55 cu hzrr29_2 hP hD hS hl
              refine lv_iload_n hx hb dX1_passSunday_29 rfl (lv_at hl 0 rfl) ?_
              refine lv_bipush (v := 15) hx hb dX1_passSunday_30 (by decide) ?_
              refine lv_icmp_ge (tgt := 64) hx hb dX1_passSunday_32 (by decide) (fun c58 => ?_) (fun c58 => ?_)
              · have f58 : 15 ≤ v55.toInt := f_le (by decide) rfl c58
                obtain ⟨v59, e59⟩ : ∃ z : Int32, z = v28 + 1 := ⟨_, rfl⟩
                refine lv_iinc (v := v59) (lv' := [(2, .int v59), (3, .int v55), (0, .ref (qco 0)), (1, .ref (qh 0))]) hx hb dX1_passSunday_64 hl (k := 1) rfl (by rw [e59]; rfl) (by decide) rfl (fun ls hl => ?_)
                have t59 : v59.toInt = v28.toInt + 1 := by rw [e59]; exact i_add rfl (by decide) (by omega) (by omega)
                refine lv_goto (tgt := 10) hx hb dX1_passSunday_67 (by decide) ?_
                exact ih10 v59 g56 _ _ _ (by omega) (by first | decide | omega) (by assumption) (LT_g hzrr10_1 (hrr29_2.trans (LT_r hzrr29_2 (exl_X1_passSunday_4 e59 c58)))) hP hD hS (lv_sub hl [0, 2, 3] rfl)
              · have f58 : v55.toInt < 15 := f_nle (by decide) rfl c58
                refine lv_aload_n hx hb dX1_passSunday_35 rfl (lv_at hl 2 rfl) ?_
                refine g_get cx hP iw_X1_passSunday_X1 0 rfl rfl 0 (by decide) rfl fw_X1_passSunday_11 rfl dX1_passSunday_36 ?_
                refine lv_iload_n hx hb dX1_passSunday_39 rfl (lv_at hl 0 rfl) ?_
                refine lv_dup2_11 hx hb dX1_passSunday_40 rfl rfl ?_
                have hn60 : vp_in v55 35 := f_in (a := v55.toInt) rfl (by omega) (by omega)
                refine va_lald hx hb cx.2.1 hP 1 1 rfl rfl hn60 dX1_passSunday_41 (lv_topl (fun v61 e61 => ?_))
                have oc := CU_get e61 cu ⟨by omega, by omega⟩
                refine lv_aload_n hx hb dX1_passSunday_42 rfl (lv_at hl 2 rfl) ?_
                refine g_get cx hP iw_X1_passSunday_X1 0 rfl rfl 1 (by decide) rfl fw_X1_passSunday_17 rfl dX1_passSunday_43 ?_
                refine lv_iload_n hx hb dX1_passSunday_46 rfl (lv_at hl 1 rfl) ?_
                have hn62 : vp_in v28 35 := f_in (a := v28.toInt) rfl (by omega) (by omega)
                refine va_lald hx hb cx.2.1 hP 2 1 rfl rfl hn62 dX1_passSunday_47 (lv_topl (fun v63 e63 => ?_))
                have qv63_ : v63.toInt = v35.toInt := congrArg Int64.toInt (e63.trans e35.symm)
                refine lv_aload_n hx hb dX1_passSunday_48 rfl (lv_at hl 3 rfl) ?_
                refine lv_iload_n hx hb dX1_passSunday_49 rfl (lv_at hl 1 rfl) ?_
                refine lv_iload_n hx hb dX1_passSunday_50 rfl (lv_at hl 0 rfl) ?_
                refine g_ir (g_runV (wc := [cell32_ qh sh, cell0_ k qh sh, cell1_ k qh sh, cell4_ k qh sh, cell3_ k qh sh, cell2_ k qh sh]) (rest := [.long v63, .long v61, .int v55, .ref (qco 1)]) cx hP hD hS [3, 4, 5, 6, 7, 8] rfl (by decide) [.int v28, .int v55] (c_X4_partsTo l D k b qh sh H.size v28 v55 (show SUok (sh 5) from by assumption) (show 0 ≤ v28.toInt ∧ v28.toInt ≤ 34 from by first | decide | omega) (show 0 ≤ v55.toInt ∧ v55.toInt ≤ 14 from by first | decide | omega)) gX1_passSunday_X4_partsTo rfl rfl rfl nd_X4_partsTo ⟨Nat.le_of_ble_eq_true rfl, Nat.le_of_ble_eq_true rfl⟩ (ci := 2) (q0 := 0) rfl rfl rfl hl.1 rfl (Nat.le_of_ble_eq_true rfl) ⟨Nat.zero_le _, Nat.zero_le _⟩ dX1_passSunday_51) cx.2.2.1 hP hD hS [3, 4, 5, 6, 7, 8] rfl rfl (fun r65 H locs hw64 hP hS => ?_)
                replace hw64 : (r65 = 0 ∨ totN v55.toNatClampNeg ≤ totN v28.toNatClampNeg) ∧ (r65 = J_X4_partsTo sh v28 v55) := hw64
                obtain ⟨w66, w67⟩ := hw64
                have ps := w66
                obtain ⟨v69, e69⟩ : ∃ z : Int64, z = (r65 : Int32).toInt64 := ⟨_, rfl⟩
                refine lv_i2l (v := v69) hx hb dX1_passSunday_54 e69.symm ?_
                have pe := e69
                refine lv_lmul hx hb dX1_passSunday_55 (lv_topl (fun v70 e70 => ?_))
                have pm := e70
                refine lv_ladd hx hb dX1_passSunday_56 (lv_topl (fun v71 e71 => ?_))
                have pa := e71
                have hn72 : vp_in v55 35 := f_in (a := v55.toInt) rfl (by omega) (by omega)
                refine va_last hx hb cx.2.1 hP hD hS 1 1 rfl rfl hn72 dX1_passSunday_57 (fun H locs hP hD hS => ?_)
                obtain ⟨g73, eg73⟩ : ∃ g : Nat → Int64, g = vp_updL g56 (v55).toNatClampNeg v71 := ⟨_, rfl⟩
                rw [← eg73] at hP hD
                have hP : va_P D vwCl [cell86_ qco tco, (qco 1, .inl (k 1, 35, .inr (.inl g73))), cell34_ k qco tco, cell32_ qh sh, cell0_ k qh sh, cell1_ k qh sh, cell4_ k qh sh, cell3_ k qh sh, cell2_ k qh sh] H := hP
                have hD : va_D A [cell86_ qco tco, (qco 1, .inl (k 1, 35, .inr (.inl g73))), cell34_ k qco tco, cell32_ qh sh, cell0_ k qh sh, cell1_ k qh sh, cell4_ k qh sh, cell3_ k qh sh, cell2_ k qh sh] := hD
                have cu2 := CU_st eg73 cu (CU_add oc ps tc pe pm pa)
                obtain ⟨v74, e74⟩ : ∃ z : Int32, z = v55 + 1 := ⟨_, rfl⟩
                refine lv_iinc (v := v74) (lv' := [(3, .int v74), (2, .int v28), (0, .ref (qco 0)), (1, .ref (qh 0))]) hx hb dX1_passSunday_58 hl (k := 0) rfl (by rw [e74]; rfl) (by decide) rfl (fun ls hl => ?_)
                have t74 : v74.toInt = v55.toInt + 1 := by rw [e74]; exact i_add rfl (by decide) (by omega) (by omega)
                refine lv_goto (tgt := 29) hx hb dX1_passSunday_61 (by decide) ?_
                exact ih29 v74 g73 _ _ _ (by omega) (by first | decide | omega) (by assumption) (LT_g hzrr29_2 (exl_X1_passSunday_5 e61 e63 e69 e70 e71 eg73 e74 c58 w67)) hP hD hS (lv_sub hl [0, 1, 2, 3] rfl)
          have hlit75 : (0 : Int32).toInt = 0 := by decide
          exact hL29 (16) 0 g29 _ _ _ (by omega) (by first | decide | omega) (by assumption) err29_2 hP hD hS (lv_sub hl [0, 1, 2, 3] rfl)
  have hlit76 : (0 : Int32).toInt = 0 := by decide
  exact hL10 (36) 0 m3 _ _ _ (by omega) (by first | decide | omega) (by assumption) err10_1 hP hD hS (lv_sub hl [0, 1, 2] rfl)
theorem fw_X1_payBonus_11 : Cond.fieldLink RX1 11 "StillInAugust$Course" "ahead" "[J" ∈ wsX1_payBonus := by decide +kernel
theorem fw_X1_payBonus_34 : Cond.fieldLink RX1 34 "StillInAugust$Course" "costs" "J" ∈ wsX1_payBonus := by decide +kernel
theorem fw_X1_payBonus_43 : Cond.fieldLink RX1 43 "StillInAugust$Hands" "ALL" "[I" ∈ wsX1_payBonus := by decide +kernel
theorem nd_X4_bonusFor : yX4_bonusFor.cls = RX4 ∧ yX4_bonusFor.cls ≠ "java/lang/invoke/MethodHandle" ∧ yX4_bonusFor.cls ≠ "java/lang/invoke/VarHandle" ∧ (parseMethodDescriptor yX4_bonusFor.desc).map (fun d => d.parameters.length) = some 1 := by decide +kernel
theorem iw_X1_payBonus_X1 : ∀ w ∈ u_ws RX1 TX1 6, w ∈ wsX1_payBonus := fun _ h => List.mem_cons_of_mem _ (List.mem_append_left _ (List.mem_append_right _ h))
def B_X1_payBonus_2 (sco : Nat → Nat → Int32) (tco : Nat → Nat → Int64) (sh : Nat → Nat → Int32) (z : Int32 × Int64) : Sum (Int32 × Int64) (Int64) := let v13 := (z.1); let x14 := (z.2); if 35 ≤ v13 then Sum.inr (x14) else LetF (J_X4_bonusFor sh (zALL.getD (v13).toNatClampNeg 0)) (fun y24 => Sum.inl (((v13 + 1), (x14 + (((tco 1) (v13).toNatClampNeg) * (y24.toInt64))))))
def J_X1_payBonus (sco : Nat → Nat → Int32) (tco : Nat → Nat → Int64) (sh : Nat → Nat → Int32) : Int64 := LTs default (B_X1_payBonus_2 sco tco sh) 36 ((0 : Int32), (tco 0 3))
theorem exl_X1_payBonus_0 {sco : Nat → Nat → Int32} {tco : Nat → Nat → Int64} {sh : Nat → Nat → Int32} : J_X1_payBonus sco tco sh = LTs (default : Int64) (B_X1_payBonus_2 sco tco sh) 36 ((0 : Int32), (tco 0 3)) := by unfold J_X1_payBonus; rfl
theorem exl_X1_payBonus_1 {sco : Nat → Nat → Int32} {tco : Nat → Nat → Int64} {sh : Nat → Nat → Int32} {v13 : Int32} {x14 : Int64} (c16 : (35 : Int32) ≤ v13) : (B_X1_payBonus_2 sco tco sh) (v13, x14) = Sum.inr (x14) := by unfold B_X1_payBonus_2; refine Eq.trans (if_pos c16) ?_; rfl
theorem exl_X1_payBonus_2 {sco : Nat → Nat → Int32} {tco : Nat → Nat → Int64} {sh : Nat → Nat → Int32} {v13 : Int32} {x14 : Int64} {v28 : Int32} {v27 : Int64} {v18 : Int64} {v20 : Int32} {v25 : Int64} {r22 : Int32} {v26 : Int64} (e18 : v18 = ((tco 1) (v13).toNatClampNeg)) (e20 : v20 = (zALL.getD (v13).toNatClampNeg 0)) (e25 : v25 = (r22 : Int32).toInt64) (e26 : v26 = (v18 * v25)) (e27 : v27 = (x14 + v26)) (e28 : v28 = v13 + 1) (c16 : ¬ ((35 : Int32) ≤ v13)) (w23 : r22 = J_X4_bonusFor sh v20) : (B_X1_payBonus_2 sco tco sh) (v13, x14) = Sum.inl (v28, v27) := by subst e18 e20 e25 e26 e27 e28; unfold B_X1_payBonus_2; refine Eq.trans (if_neg c16) ?_; refine lt_e w23 ?_; rfl
set_option maxHeartbeats 4000000 in
set_option maxRecDepth 100000 in
theorem c_X1_payBonus (l : Launch) (D : va_G) (k : Nat → ClassId) (b : Nat → Nat) (qco : Nat → Nat) (sco : Nat → Nat → Int32) (tco : Nat → Nat → Int64) (qh : Nat → Nat) (sh : Nat → Nat → Int32) (sz : Nat) : MetV l D k b yX1_payBonus wsX1_payBonus ({ frames := 2, cells := 0, slots := 0, locals := 41 } : Room) [cell86_ qco tco, cell35_ k qco tco, cell34_ k qco tco, cell32_ qh sh, cell0_ k qh sh, cell1_ k qh sh, cell4_ k qh sh, cell3_ k qh sh, cell2_ k qh sh] sz [.ref (qco 0), .ref (qh 0)] (fun (u : Int64) => u = J_X1_payBonus sco tco sh) (fun u => [cell165_ qco tco u, cell35_ k qco tco, cell34_ k qco tco, cell32_ qh sh, cell0_ k qh sh, cell1_ k qh sh, cell4_ k qh sh, cell3_ k qh sh, cell2_ k qh sh]) := by
  refine g_enter (cc := cX1_payBonus) (maxL := 3) (ret := none) (by decide) rfl (Nat.le_of_ble_eq_true rfl) ?_
  intro p e s m below meth c A hsz hAe cx hr hP hD hS ls hl
  rw [hAe]
  refine g_q (fun Q hQ => ?_)
  have hx := cx.1.1
  have hb := cx.1.2.1
  have hl : lv_has ls 3 [(0, .ref (qco 0)), (1, .ref (qh 0))] := hl
  obtain ⟨H, eH⟩ : ∃ H : Heap, H = s.heap := ⟨_, rfl⟩
  obtain ⟨locs, el⟩ : ∃ L : List Loc, L = [] := ⟨_, rfl⟩
  have hP : va_P D vwCl [cell86_ qco tco, cell35_ k qco tco, cell34_ k qco tco, cell32_ qh sh, cell0_ k qh sh, cell1_ k qh sh, cell4_ k qh sh, cell3_ k qh sh, cell2_ k qh sh] H := by rw [eH]; exact hP
  have hD : va_D A [cell86_ qco tco, cell35_ k qco tco, cell34_ k qco tco, cell32_ qh sh, cell0_ k qh sh, cell1_ k qh sh, cell4_ k qh sh, cell3_ k qh sh, cell2_ k qh sh] := hD
  have hS : va_S A s.heap H locs := by rw [eH, el]; exact hS
  suffices goal : W p l e ({ frames := 2, cells := 0, slots := 0, locals := 41 } : Room) s m ([.ref (qco 0), .ref (qh 0)] : List Value).toArray below meth c H locs 0 0 Q (F0 m 0 ls []) by rw [eH, el] at goal; exact goal
  refine lv_iconst (v := 0) hx hb dX1_payBonus_0 (by decide) ?_
  refine lv_istore_n (lv' := [(2, .int 0), (0, .ref (qco 0)), (1, .ref (qh 0))]) hx hb dX1_payBonus_1 rfl hl (by decide) rfl (fun ls hl => ?_)
  obtain ⟨rr2_1, err2_1⟩ : ∃ r : Int64, LTs (default : Int64) (B_X1_payBonus_2 sco tco sh) 36 ((0 : Int32), (tco 0 3)) = r := ⟨_, rfl⟩
  have hrr2_1 : J_X1_payBonus sco tco sh = rr2_1 := ((exl_X1_payBonus_0)).trans err2_1
  have hL2 : ∀ (n15 : Nat) (v13 : Int32) (x14 : Int64) (H : Heap) (locs : List Loc) (ls : Array Slot), 35 - v13.toInt < (n15 : Int) → (0 ≤ v13.toInt ∧ v13.toInt ≤ 35) → (LTs (default : Int64) (B_X1_payBonus_2 sco tco sh) n15 (v13, x14) = rr2_1) → va_P D vwCl [cell165_ qco tco x14, cell35_ k qco tco, cell34_ k qco tco, cell32_ qh sh, cell0_ k qh sh, cell1_ k qh sh, cell4_ k qh sh, cell3_ k qh sh, cell2_ k qh sh] H → va_D A [cell165_ qco tco x14, cell35_ k qco tco, cell34_ k qco tco, cell32_ qh sh, cell0_ k qh sh, cell1_ k qh sh, cell4_ k qh sh, cell3_ k qh sh, cell2_ k qh sh] → va_S A s.heap H locs → lv_has ls 3 [(2, .int v13), (0, .ref (qco 0)), (1, .ref (qh 0))] → W p l e ({ frames := 2, cells := 0, slots := 0, locals := 41 } : Room) s m ([.ref (qco 0), .ref (qh 0)] : List Value).toArray below meth c H locs 0 0 Q (F0 m 2 ls []) := by
    intro n15
    induction n15 with
    | zero => intro v13 x14 H locs ls hmn15 bv13 hzrr2_1 hP hD hS hl; exact absurd hmn15 (by omega)
    | succ n15 ih2 =>
      intro v13 x14 H locs ls hmn15 bv13 hzrr2_1 hP hD hS hl
      refine lv_iload_n hx hb dX1_payBonus_2 rfl (lv_at hl 0 rfl) ?_
      refine lv_bipush (v := 35) hx hb dX1_payBonus_3 (by decide) ?_
      refine lv_icmp_ge (tgt := 40) hx hb dX1_payBonus_5 (by decide) (fun c16 => ?_) (fun c16 => ?_)
      · have f16 : 35 ≤ v13.toInt := f_le (by decide) rfl c16
        rw [hQ]
        exact x_v cx hr x14 hP hD hS (show x14 = J_X1_payBonus sco tco sh from ((hrr2_1.trans (LT_r hzrr2_1 (exl_X1_payBonus_1 c16)))).symm) dX1_payBonus_40
      · have f16 : v13.toInt < 35 := f_nle (by decide) rfl c16
        refine lv_aload_n hx hb dX1_payBonus_8 rfl (lv_at hl 1 rfl) ?_
        refine lv_dup hx hb dX1_payBonus_9 rfl ?_
        refine g_get cx hP iw_X1_payBonus_X1 0 rfl rfl 3 (by decide) rfl fw_X1_payBonus_34 rfl dX1_payBonus_10 ?_
        refine lv_aload_n hx hb dX1_payBonus_13 rfl (lv_at hl 1 rfl) ?_
        refine g_get cx hP iw_X1_payBonus_X1 0 rfl rfl 0 (by decide) rfl fw_X1_payBonus_11 rfl dX1_payBonus_14 ?_
        refine lv_iload_n hx hb dX1_payBonus_17 rfl (lv_at hl 0 rfl) ?_
        have hn17 : vp_in v13 35 := f_in (a := v13.toInt) rfl (by omega) (by omega)
        refine va_lald hx hb cx.2.1 hP 1 1 rfl rfl hn17 dX1_payBonus_18 (lv_topl (fun v18 e18 => ?_))
        refine lv_aload_n hx hb dX1_payBonus_19 rfl (lv_at hl 2 rfl) ?_
        refine va_gets hx hb cx.2.2.2.t0.1 hS cx.1.2.2.2.1 (cx.1.2.2.2.2 _ fw_X1_payBonus_43) (fun _ h => h) dX1_payBonus_20 ?_
        refine lv_iload_n hx hb dX1_payBonus_23 rfl (lv_at hl 0 rfl) ?_
        have hn19 : vp_in v13 35 := f_in (a := v13.toInt) rfl (by omega) (by omega)
        refine va_ti hx hb cx.2.2.2.t0.2 hS hn19 rfl dX1_payBonus_24 (lv_topi (fun v20 e20 => ?_))
        have t20 : 0 ≤ v20.toInt ∧ v20.toInt ≤ 400 ∧ v20.toInt / 100 + v20.toInt / 10 % 10 + v20.toInt % 10 ≤ 4 := by rw [e20]; exact zALL_v _
        refine g_ir (g_runV (wc := [cell32_ qh sh, cell0_ k qh sh, cell1_ k qh sh, cell4_ k qh sh, cell3_ k qh sh, cell2_ k qh sh]) (rest := [.long v18, .long x14, .ref (qco 0)]) cx hP hD hS [3, 4, 5, 6, 7, 8] rfl (by decide) [.int v20] (c_X4_bonusFor l D k b qh sh H.size v20) gX1_payBonus_X4_bonusFor rfl rfl rfl nd_X4_bonusFor ⟨Nat.le_of_ble_eq_true rfl, Nat.le_of_ble_eq_true rfl⟩ (ci := 2) (q0 := 0) rfl rfl rfl hl.1 rfl (Nat.le_of_ble_eq_true rfl) ⟨Nat.zero_le _, Nat.zero_le _⟩ dX1_payBonus_25) cx.2.2.1 hP hD hS [3, 4, 5, 6, 7, 8] rfl rfl (fun r22 H locs hw21 hP hS => ?_)
        have w23 : r22 = J_X4_bonusFor sh v20 := hw21
        clear hw21
        obtain ⟨v25, e25⟩ : ∃ z : Int64, z = (r22 : Int32).toInt64 := ⟨_, rfl⟩
        refine lv_i2l (v := v25) hx hb dX1_payBonus_28 e25.symm ?_
        refine lv_lmul hx hb dX1_payBonus_29 (lv_topl (fun v26 e26 => ?_))
        refine lv_ladd hx hb dX1_payBonus_30 (lv_topl (fun v27 e27 => ?_))
        refine g_pt cx hP hD hS iw_X1_payBonus_X1 tyX1 tyX1_ok nmX1 0 rfl rfl 3 (by decide) rfl fw_X1_payBonus_34 (ty := .long) rfl rfl rfl (Nat.le_of_ble_eq_true rfl) dX1_payBonus_31 (fun H locs hP hD hS => ?_)
        have hP : va_P D vwCl [cell165_ qco tco v27, cell35_ k qco tco, cell34_ k qco tco, cell32_ qh sh, cell0_ k qh sh, cell1_ k qh sh, cell4_ k qh sh, cell3_ k qh sh, cell2_ k qh sh] H := hP
        have hD : va_D A [cell165_ qco tco v27, cell35_ k qco tco, cell34_ k qco tco, cell32_ qh sh, cell0_ k qh sh, cell1_ k qh sh, cell4_ k qh sh, cell3_ k qh sh, cell2_ k qh sh] := hD
        obtain ⟨v28, e28⟩ : ∃ z : Int32, z = v13 + 1 := ⟨_, rfl⟩
        refine lv_iinc (v := v28) (lv' := [(2, .int v28), (0, .ref (qco 0)), (1, .ref (qh 0))]) hx hb dX1_payBonus_34 hl (k := 0) rfl (by rw [e28]; rfl) (by decide) rfl (fun ls hl => ?_)
        have t28 : v28.toInt = v13.toInt + 1 := by rw [e28]; exact i_add rfl (by decide) (by omega) (by omega)
        refine lv_goto (tgt := 2) hx hb dX1_payBonus_37 (by decide) ?_
        exact ih2 v28 v27 _ _ _ (by omega) (by first | decide | omega) (LT_g hzrr2_1 (exl_X1_payBonus_2 e18 e20 e25 e26 e27 e28 c16 w23)) hP hD hS (lv_sub hl [0, 1, 2] rfl)
  have hlit29 : (0 : Int32).toInt = 0 := by decide
  exact hL2 (36) 0 (tco 0 3) _ _ _ (by omega) (by first | decide | omega) err2_1 hP hD hS (lv_sub hl [0, 1, 2] rfl)
theorem fw_X1_shareOf_11 : Cond.fieldLink RX1 11 "StillInAugust$Course" "ahead" "[J" ∈ wsX1_shareOf := by decide +kernel
theorem fw_X1_shareOf_43 : Cond.fieldLink RX1 43 "StillInAugust$Hands" "ALL" "[I" ∈ wsX1_shareOf := by decide +kernel
theorem iw_X1_shareOf_X1 : ∀ w ∈ u_ws RX1 TX1 6, w ∈ wsX1_shareOf := fun _ h => List.mem_cons_of_mem _ (List.mem_append_right _ h)
def B_X1_shareOf_5 (sco : Nat → Nat → Int32) (tco : Nat → Nat → Int64) (p0 : Int32) (z : Int32 × Int64) : Sum (Int32 × Int64) (Int64) := let v10 := (z.1); let v11 := (z.2); if 35 ≤ v10 then Sum.inr (v11) else if (J_X3_total (zALL.getD (v10).toNatClampNeg 0)) = p0 then Sum.inl (((v10 + 1), (v11 + ((tco 1) (v10).toNatClampNeg)))) else Sum.inl (((v10 + 1), v11))
def J_X1_shareOf (sco : Nat → Nat → Int32) (tco : Nat → Nat → Int64) (p0 : Int32) : Int64 := LTs default (B_X1_shareOf_5 sco tco p0) 36 ((0 : Int32), (0 : Int64))
theorem exl_X1_shareOf_0 {sco : Nat → Nat → Int32} {tco : Nat → Nat → Int64} {p0 : Int32} : J_X1_shareOf sco tco p0 = LTs (default : Int64) (B_X1_shareOf_5 sco tco p0) 36 ((0 : Int32), (0 : Int64)) := by unfold J_X1_shareOf; rfl
theorem exl_X1_shareOf_1 {sco : Nat → Nat → Int32} {tco : Nat → Nat → Int64} {p0 : Int32} {v10 : Int32} {v11 : Int64} (c13 : (35 : Int32) ≤ v10) : (B_X1_shareOf_5 sco tco p0) (v10, v11) = Sum.inr (v11) := by unfold B_X1_shareOf_5; refine Eq.trans (if_pos c13) ?_; rfl
theorem exl_X1_shareOf_2 {sco : Nat → Nat → Int32} {tco : Nat → Nat → Int64} {p0 : Int32} {v10 : Int32} {v11 : Int64} {v20 : Int32} {v15 : Int32} {r17 : Int32} (e15 : v15 = (zALL.getD (v10).toNatClampNeg 0)) (w18 : r17 = J_X3_total v15) (e20 : v20 = v10 + 1) (c13 : ¬ ((35 : Int32) ≤ v10)) (c19 : ¬ (r17 = p0)) : (B_X1_shareOf_5 sco tco p0) (v10, v11) = Sum.inl (v20, v11) := by subst e15 w18 e20; unfold B_X1_shareOf_5; refine Eq.trans (if_neg c13) ?_; refine Eq.trans (if_neg c19) ?_; rfl
theorem exl_X1_shareOf_3 {sco : Nat → Nat → Int32} {tco : Nat → Nat → Int64} {p0 : Int32} {v10 : Int32} {v11 : Int64} {v24 : Int32} {v23 : Int64} {v15 : Int32} {r17 : Int32} {v22 : Int64} (e15 : v15 = (zALL.getD (v10).toNatClampNeg 0)) (w18 : r17 = J_X3_total v15) (e22 : v22 = ((tco 1) (v10).toNatClampNeg)) (e23 : v23 = (v11 + v22)) (e24 : v24 = v10 + 1) (c13 : ¬ ((35 : Int32) ≤ v10)) (c19 : r17 = p0) : (B_X1_shareOf_5 sco tco p0) (v10, v11) = Sum.inl (v24, v23) := by subst e15 w18 e22 e23 e24; unfold B_X1_shareOf_5; refine Eq.trans (if_neg c13) ?_; refine Eq.trans (if_pos c19) ?_; rfl
set_option maxHeartbeats 4000000 in
set_option maxRecDepth 100000 in
theorem c_X1_shareOf (l : Launch) (D : va_G) (k : Nat → ClassId) (b : Nat → Nat) (qco : Nat → Nat) (sco : Nat → Nat → Int32) (tco : Nat → Nat → Int64) (sz : Nat) (p0 : Int32) : MetL l D k b yX1_shareOf wsX1_shareOf ({ frames := 1, cells := 0, slots := 0, locals := 20 } : Room) [cell86_ qco tco, cell35_ k qco tco, cell34_ k qco tco] sz [.ref (qco 0), .int p0] (fun (r : Int64) (u : Unit) => r = J_X1_shareOf sco tco p0) (fun u => [cell86_ qco tco, cell35_ k qco tco, cell34_ k qco tco]) := by
  refine g_enter (cc := cX1_shareOf) (maxL := 5) (ret := (some .long)) (by decide) rfl (Nat.le_of_ble_eq_true rfl) ?_
  intro p e s m below meth c A hsz hAe cx hr hP hD hS ls hl
  rw [hAe]
  refine g_q (fun Q hQ => ?_)
  have hx := cx.1.1
  have hb := cx.1.2.1
  have bp0 := i_rng p0
  have hl : lv_has ls 5 [(0, .ref (qco 0)), (1, .int p0)] := hl
  obtain ⟨H, eH⟩ : ∃ H : Heap, H = s.heap := ⟨_, rfl⟩
  obtain ⟨locs, el⟩ : ∃ L : List Loc, L = [] := ⟨_, rfl⟩
  have hP : va_P D vwCl [cell86_ qco tco, cell35_ k qco tco, cell34_ k qco tco] H := by rw [eH]; exact hP
  have hD : va_D A [cell86_ qco tco, cell35_ k qco tco, cell34_ k qco tco] := hD
  have hS : va_S A s.heap H locs := by rw [eH, el]; exact hS
  suffices goal : W p l e ({ frames := 1, cells := 0, slots := 0, locals := 20 } : Room) s m ([.ref (qco 0), .int p0] : List Value).toArray below meth c H locs 0 0 Q (F0 m 0 ls []) by rw [eH, el] at goal; exact goal
  refine lv_lconst (v := 0) hx hb dX1_shareOf_0 (by decide) ?_
  refine lv_lstore_n (lv' := [(2, .long 0), (0, .ref (qco 0)), (1, .int p0)]) hx hb dX1_shareOf_1 rfl hl (by decide) rfl (fun ls hl => ?_)
  refine lv_iconst (v := 0) hx hb dX1_shareOf_2 (by decide) ?_
  refine lv_istore (lv' := [(4, .int 0), (2, .long 0), (0, .ref (qco 0)), (1, .int p0)]) hx hb dX1_shareOf_3 hl (by decide) rfl (fun ls hl => ?_)
  obtain ⟨rr5_1, err5_1⟩ : ∃ r : Int64, LTs (default : Int64) (B_X1_shareOf_5 sco tco p0) 36 ((0 : Int32), (0 : Int64)) = r := ⟨_, rfl⟩
  have hrr5_1 : J_X1_shareOf sco tco p0 = rr5_1 := ((exl_X1_shareOf_0)).trans err5_1
  have hL5 : ∀ (n12 : Nat) (v10 : Int32) (v11 : Int64) (H : Heap) (locs : List Loc) (ls : Array Slot), 35 - v10.toInt < (n12 : Int) → (0 ≤ v10.toInt ∧ v10.toInt ≤ 35) → (LTs (default : Int64) (B_X1_shareOf_5 sco tco p0) n12 (v10, v11) = rr5_1) → va_P D vwCl [cell86_ qco tco, cell35_ k qco tco, cell34_ k qco tco] H → va_D A [cell86_ qco tco, cell35_ k qco tco, cell34_ k qco tco] → va_S A s.heap H locs → lv_has ls 5 [(4, .int v10), (2, .long v11), (0, .ref (qco 0)), (1, .int p0)] → W p l e ({ frames := 1, cells := 0, slots := 0, locals := 20 } : Room) s m ([.ref (qco 0), .int p0] : List Value).toArray below meth c H locs 0 0 Q (F0 m 5 ls []) := by
    intro n12
    induction n12 with
    | zero => intro v10 v11 H locs ls hmn12 bv10 hzrr5_1 hP hD hS hl; exact absurd hmn12 (by omega)
    | succ n12 ih5 =>
      intro v10 v11 H locs ls hmn12 bv10 hzrr5_1 hP hD hS hl
      refine lv_iload hx hb dX1_shareOf_5 (lv_at hl 0 rfl) ?_
      refine lv_bipush (v := 35) hx hb dX1_shareOf_7 (by decide) ?_
      refine lv_icmp_ge (tgt := 41) hx hb dX1_shareOf_9 (by decide) (fun c13 => ?_) (fun c13 => ?_)
      · have f13 : 35 ≤ v10.toInt := f_le (by decide) rfl c13
        refine lv_lload_n hx hb dX1_shareOf_41 rfl (lv_at hl 1 rfl) ?_
        rw [hQ]
        exact x_l cx hr () hP hD hS (show v11 = J_X1_shareOf sco tco p0 from ((hrr5_1.trans (LT_r hzrr5_1 (exl_X1_shareOf_1 c13)))).symm) dX1_shareOf_42
      · have f13 : v10.toInt < 35 := f_nle (by decide) rfl c13
        refine va_gets hx hb cx.2.2.2.t0.1 hS cx.1.2.2.2.1 (cx.1.2.2.2.2 _ fw_X1_shareOf_43) (fun _ h => h) dX1_shareOf_12 ?_
        refine lv_iload hx hb dX1_shareOf_15 (lv_at hl 0 rfl) ?_
        have hn14 : vp_in v10 35 := f_in (a := v10.toInt) rfl (by omega) (by omega)
        refine va_ti hx hb cx.2.2.2.t0.2 hS hn14 rfl dX1_shareOf_17 (lv_topi (fun v15 e15 => ?_))
        have t15 : 0 ≤ v15.toInt ∧ v15.toInt ≤ 400 ∧ v15.toInt / 100 + v15.toInt / 10 % 10 + v15.toInt % 10 ≤ 4 := by rw [e15]; exact zALL_v _
        refine g_ir (g_runS (wc := []) (rest := []) cx hP hD hS [] rfl (by decide) [.int v15] (c_X3_total l D k b H.size v15) gX1_shareOf_X3_total rfl rfl rfl nd_X3_total ⟨Nat.le_of_ble_eq_true rfl, Nat.le_of_ble_eq_true rfl⟩ rfl hl.1 rfl (Nat.le_of_ble_eq_true rfl) ⟨Nat.zero_le _, Nat.zero_le _⟩ dX1_shareOf_18) cx.2.2.1 hP hD hS [] rfl rfl (fun r17 H locs hw16 hP hS => ?_)
        have w18 : r17 = J_X3_total v15 := hw16
        clear hw16
        have zr17 : r17.toInt = tot v15 := tot3 w18 (show 0 ≤ v15.toInt from by first | decide | omega)
        have yr17 := tot_0 (x := v15) (by first | decide | omega)
        refine lv_iload_n hx hb dX1_shareOf_21 rfl (lv_at hl 3 rfl) ?_
        refine lv_icmp_ne (tgt := 35) hx hb dX1_shareOf_22 (by decide) (fun c19 => ?_) (fun c19 => ?_)
        · have f19 : ¬ r17.toInt = p0.toInt := f_ne rfl rfl c19
          obtain ⟨v20, e20⟩ : ∃ z : Int32, z = v10 + 1 := ⟨_, rfl⟩
          refine lv_iinc (v := v20) (lv' := [(4, .int v20), (2, .long v11), (0, .ref (qco 0)), (1, .int p0)]) hx hb dX1_shareOf_35 hl (k := 0) rfl (by rw [e20]; rfl) (by decide) rfl (fun ls hl => ?_)
          have t20 : v20.toInt = v10.toInt + 1 := by rw [e20]; exact i_add rfl (by decide) (by omega) (by omega)
          refine lv_goto (tgt := 5) hx hb dX1_shareOf_38 (by decide) ?_
          exact ih5 v20 v11 _ _ _ (by omega) (by first | decide | omega) (LT_g hzrr5_1 (exl_X1_shareOf_2 e15 w18 e20 c13 c19)) hP hD hS (lv_sub hl [0, 1, 2, 3] rfl)
        · have f19 : r17.toInt = p0.toInt := f_eq rfl rfl c19
          refine lv_lload_n hx hb dX1_shareOf_25 rfl (lv_at hl 1 rfl) ?_
          refine lv_aload_n hx hb dX1_shareOf_26 rfl (lv_at hl 2 rfl) ?_
          refine g_get cx hP iw_X1_shareOf_X1 0 rfl rfl 0 (by decide) rfl fw_X1_shareOf_11 rfl dX1_shareOf_27 ?_
          refine lv_iload hx hb dX1_shareOf_30 (lv_at hl 0 rfl) ?_
          have hn21 : vp_in v10 35 := f_in (a := v10.toInt) rfl (by omega) (by omega)
          refine va_lald hx hb cx.2.1 hP 1 1 rfl rfl hn21 dX1_shareOf_32 (lv_topl (fun v22 e22 => ?_))
          refine lv_ladd hx hb dX1_shareOf_33 (lv_topl (fun v23 e23 => ?_))
          refine lv_lstore_n (lv' := [(2, .long v23), (4, .int v10), (0, .ref (qco 0)), (1, .int p0)]) hx hb dX1_shareOf_34 rfl hl (by decide) rfl (fun ls hl => ?_)
          obtain ⟨v24, e24⟩ : ∃ z : Int32, z = v10 + 1 := ⟨_, rfl⟩
          refine lv_iinc (v := v24) (lv' := [(4, .int v24), (2, .long v23), (0, .ref (qco 0)), (1, .int p0)]) hx hb dX1_shareOf_35 hl (k := 1) rfl (by rw [e24]; rfl) (by decide) rfl (fun ls hl => ?_)
          have t24 : v24.toInt = v10.toInt + 1 := by rw [e24]; exact i_add rfl (by decide) (by omega) (by omega)
          refine lv_goto (tgt := 5) hx hb dX1_shareOf_38 (by decide) ?_
          exact ih5 v24 v23 _ _ _ (by omega) (by first | decide | omega) (LT_g hzrr5_1 (exl_X1_shareOf_3 e15 w18 e22 e23 e24 c13 c19)) hP hD hS (lv_sub hl [0, 1, 2, 3] rfl)
  have hlit25 : (0 : Int32).toInt = 0 := by decide
  have hlit26 : (0 : Int32).toInt = 0 := by decide
  exact hL5 (36) 0 0 _ _ _ (by omega) (by first | decide | omega) err5_1 hP hD hS (lv_sub hl [0, 1, 2, 3] rfl)
