theorem nd_X11_may : yX11_may.cls = RX11 ∧ yX11_may.cls ≠ "java/lang/invoke/MethodHandle" ∧ yX11_may.cls ≠ "java/lang/invoke/VarHandle" ∧ (parseMethodDescriptor yX11_may.desc).map (fun d => d.parameters.length) = some 3 := by decide +kernel
theorem nd_X12_may : yX12_may.cls = RX12 ∧ yX12_may.cls ≠ "java/lang/invoke/MethodHandle" ∧ yX12_may.cls ≠ "java/lang/invoke/VarHandle" ∧ (parseMethodDescriptor yX12_may.desc).map (fun d => d.parameters.length) = some 3 := by decide +kernel
set_option maxHeartbeats 8000000 in
set_option maxRecDepth 100000 in
theorem law_c9 {p : Program} {l : Launch} {e : Env} {s : State} {m : MethodId} {below : List Frame} {meth : Method} {c : Code} {Q : State → Prop} {A : Nat → Prop} {D : va_G} {k : Nat → ClassId} {b : Nat → Nat} {b0 L : Nat} {xs : Nat → Int32} (cx : Cx p s m #[Value.ref b0] c cL_law 4 wsL_law RL D k b A) (hX : va_X b0 L xs s s.heap) (hbl : b0 < s.heap.size) (hbA : ¬ A b0) (hL : L ≤ 384) (Qa : Nat → Nat → Nat) (v : Int32) (hv : 0 ≤ v.toInt ∧ v.toInt + 6 ≤ (L : Int)) (K : Kont p l e s m below meth c Q A D k b0 Qa v) (S : Nat → Nat → Nat → Int32) (T : Nat → Nat → Nat → Int64) (H : Heap) (locs : List Loc) (ls : Array Slot) (hI : INV S) (hP : va_P D vwCl (wX k Qa S T) H) (hD : va_D A (wX k Qa S T)) (hS : va_S A s.heap H locs) (hl : lv_has ls 4 [(3, .int v), (2, .ref (Qa 17 0)), (1, .ref (Qa 0 0)), (0, .ref b0)]) : W p l e room_1 s m #[Value.ref b0] below meth c H locs 67 11187 Q (F0 m 469 ls []) := by
  obtain ⟨ln, u0, u_a, u_3, u_16, d_of, d_go, h_wk, h_hk, h_fl, h_of, h_go, h_su, b_of, b_go, h_pl, h_bp, su_s_h, su_s_w, su_s_k, su_s_x, k1_s_h, k1_s_w, k1_s_k, k1_s_x, k2_s_h, k2_s_w, k2_s_k, k2_s_x, r_l, r_a, r_g, m_ln, m_at, m_rw, m_r0, m_r1, m_w0, m_k1, rel, h_tx, rel2, h_vk, h_rg, h_lv, h_li, h_wl, h_kp, h_a1, h_a2, h_b1, h_b2, h_ro, h_tb, h_nn, h_rw⟩ := hI
  have hx := cx.1.1
  have hb := cx.1.2.1
  have hP : va_P D vwCl [cell30_ (Qa 0) (S 0), cell28_ k (Qa 0) (S 0), cell29_ k (Qa 0) (S 0), cell37_ (Qa 0) (Qa 1) (S 1), cell27_ k (Qa 1) (S 1), cell39_ (Qa 0) (Qa 3) (Qa 2), cell5_ k (Qa 2) (S 2), cell33_ (Qa 3) (Qa 0) (S 3), cell46_ (Qa 0) (Qa 5) (Qa 4) (S 4), cell0_ k (Qa 4) (S 4), cell33_ (Qa 5) (Qa 0) (S 5), cell45_ (Qa 0) (S 6) (Qa 6), cell0_ k (Qa 6) (S 6), cell1_ k (Qa 6) (S 6), cell4_ k (Qa 6) (S 6), cell3_ k (Qa 6) (S 6), cell2_ k (Qa 6) (S 6), cell31_ (Qa 0) (S 7) (Qa 7), cell0_ k (Qa 7) (S 7), cell1_ k (Qa 7) (S 7), cell4_ k (Qa 7) (S 7), cell3_ k (Qa 7) (S 7), cell2_ k (Qa 7) (S 7), cell44_ (Qa 0) (S 8) (Qa 8), cell0_ k (Qa 8) (S 8), cell1_ k (Qa 8) (S 8), cell4_ k (Qa 8) (S 8), cell3_ k (Qa 8) (S 8), cell2_ k (Qa 8) (S 8), cell47_ (Qa 0) (Qa 9) (T 9), cell35_ k (Qa 9) (T 9), cell34_ k (Qa 9) (T 9), cell42_ (Qa 0) (S 10) (Qa 10), cell26_ k (Qa 10) (T 10), cell23_ k (Qa 10) (S 10), cell24_ k (Qa 10) (T 10), cell25_ k (Qa 10) (S 10), cell43_ (Qa 0) (S 11) (Qa 11), cell26_ k (Qa 11) (T 11), cell23_ k (Qa 11) (S 11), cell24_ k (Qa 11) (T 11), cell25_ k (Qa 11) (S 11), cell38_ (Qa 0) (S 12), cell40_ (Qa 0) (S 13), cell41_ (Qa 0) (S 14), cell48_ (Qa 0) (Qa 15) (S 15) (Qa 16) (T 15), cell0_ k (Qa 15) (S 15), cell1_ k (Qa 15) (S 15), cell36_ (Qa 16) (S 16), cell22_ (Qa 17) (S 17) (T 17), cell5_ k (Qa 17) (S 17), cell13_ k (Qa 17) (S 17), cell8_ k (Qa 17) (S 17), cell6_ k (Qa 17) (S 17), cell15_ k (Qa 17) (S 17), cell14_ k (Qa 17) (T 17), cell12_ k (Qa 17) (T 17), cell18_ k (Qa 17) (T 17), cell17_ k (Qa 17) (T 17), cell19_ k (Qa 17) (T 17), cell21_ k (Qa 17) (T 17), cell20_ k (Qa 17) (S 17), cell16_ k (Qa 17) (S 17), cell11_ k (Qa 17) (S 17), cell10_ k (Qa 17) (S 17), cell9_ k (Qa 17) (S 17), cell7_ k (Qa 17) (S 17)] H := hP
  have hD : va_D A [cell30_ (Qa 0) (S 0), cell28_ k (Qa 0) (S 0), cell29_ k (Qa 0) (S 0), cell37_ (Qa 0) (Qa 1) (S 1), cell27_ k (Qa 1) (S 1), cell39_ (Qa 0) (Qa 3) (Qa 2), cell5_ k (Qa 2) (S 2), cell33_ (Qa 3) (Qa 0) (S 3), cell46_ (Qa 0) (Qa 5) (Qa 4) (S 4), cell0_ k (Qa 4) (S 4), cell33_ (Qa 5) (Qa 0) (S 5), cell45_ (Qa 0) (S 6) (Qa 6), cell0_ k (Qa 6) (S 6), cell1_ k (Qa 6) (S 6), cell4_ k (Qa 6) (S 6), cell3_ k (Qa 6) (S 6), cell2_ k (Qa 6) (S 6), cell31_ (Qa 0) (S 7) (Qa 7), cell0_ k (Qa 7) (S 7), cell1_ k (Qa 7) (S 7), cell4_ k (Qa 7) (S 7), cell3_ k (Qa 7) (S 7), cell2_ k (Qa 7) (S 7), cell44_ (Qa 0) (S 8) (Qa 8), cell0_ k (Qa 8) (S 8), cell1_ k (Qa 8) (S 8), cell4_ k (Qa 8) (S 8), cell3_ k (Qa 8) (S 8), cell2_ k (Qa 8) (S 8), cell47_ (Qa 0) (Qa 9) (T 9), cell35_ k (Qa 9) (T 9), cell34_ k (Qa 9) (T 9), cell42_ (Qa 0) (S 10) (Qa 10), cell26_ k (Qa 10) (T 10), cell23_ k (Qa 10) (S 10), cell24_ k (Qa 10) (T 10), cell25_ k (Qa 10) (S 10), cell43_ (Qa 0) (S 11) (Qa 11), cell26_ k (Qa 11) (T 11), cell23_ k (Qa 11) (S 11), cell24_ k (Qa 11) (T 11), cell25_ k (Qa 11) (S 11), cell38_ (Qa 0) (S 12), cell40_ (Qa 0) (S 13), cell41_ (Qa 0) (S 14), cell48_ (Qa 0) (Qa 15) (S 15) (Qa 16) (T 15), cell0_ k (Qa 15) (S 15), cell1_ k (Qa 15) (S 15), cell36_ (Qa 16) (S 16), cell22_ (Qa 17) (S 17) (T 17), cell5_ k (Qa 17) (S 17), cell13_ k (Qa 17) (S 17), cell8_ k (Qa 17) (S 17), cell6_ k (Qa 17) (S 17), cell15_ k (Qa 17) (S 17), cell14_ k (Qa 17) (T 17), cell12_ k (Qa 17) (T 17), cell18_ k (Qa 17) (T 17), cell17_ k (Qa 17) (T 17), cell19_ k (Qa 17) (T 17), cell21_ k (Qa 17) (T 17), cell20_ k (Qa 17) (S 17), cell16_ k (Qa 17) (S 17), cell11_ k (Qa 17) (S 17), cell10_ k (Qa 17) (S 17), cell9_ k (Qa 17) (S 17), cell7_ k (Qa 17) (S 17)] := hD
  have hl : lv_has ls 4 [(3, .int v), (2, .ref ((Qa 17) 0)), (1, .ref ((Qa 0) 0)), (0, .ref b0)] := hl
  refine lv_aload_n hx hb dL_law_469 rfl (lv_at hl 2 rfl) ?_
  refine lv_aload_n hx hb dL_law_470 rfl (lv_at hl 3 rfl) ?_
  refine lv_iload_n hx hb dL_law_471 rfl (lv_at hl 0 rfl) ?_
  refine lv_iconst (v := 1) hx hb dL_law_472 (by decide) ?_
  refine lv_iadd hx hb dL_law_473 (lv_topi (fun v1 e1 => ?_))
  have t1 : v1.toInt = v.toInt + 1 := by rw [e1]; exact i_add rfl (by decide) (by omega) (by omega)
  have hn2 : vp_in v1 L := f_in (a := v1.toInt) rfl (by omega) (by omega)
  refine va_sld hx hb hX hbl hbA hS hn2 dL_law_474 (lv_topi (fun v3 e3 => ?_))
  have rgv3 := i_rng v3
  refine lv_aload_n hx hb dL_law_475 rfl (lv_at hl 3 rfl) ?_
  refine lv_iload_n hx hb dL_law_476 rfl (lv_at hl 0 rfl) ?_
  refine lv_iconst (v := 2) hx hb dL_law_477 (by decide) ?_
  refine lv_iadd hx hb dL_law_478 (lv_topi (fun v4 e4 => ?_))
  have t4 : v4.toInt = v.toInt + 2 := by rw [e4]; exact i_add rfl (by decide) (by omega) (by omega)
  have hn5 : vp_in v4 L := f_in (a := v4.toInt) rfl (by omega) (by omega)
  refine va_sld hx hb hX hbl hbA hS hn5 dL_law_479 (lv_topi (fun v6 e6 => ?_))
  have rgv6 := i_rng v6
  refine lv_aload_n hx hb dL_law_480 rfl (lv_at hl 3 rfl) ?_
  refine lv_iload_n hx hb dL_law_481 rfl (lv_at hl 0 rfl) ?_
  refine lv_iconst (v := 3) hx hb dL_law_482 (by decide) ?_
  refine lv_iadd hx hb dL_law_483 (lv_topi (fun v7 e7 => ?_))
  have t7 : v7.toInt = v.toInt + 3 := by rw [e7]; exact i_add rfl (by decide) (by omega) (by omega)
  have hn8 : vp_in v7 L := f_in (a := v7.toInt) rfl (by omega) (by omega)
  refine va_sld hx hb hX hbl hbA hS hn8 dL_law_484 (lv_topi (fun v9 e9 => ?_))
  have rgv9 := i_rng v9
  refine g_ir (g_runV (wc := [cell30_ (Qa 0) (S 0), cell28_ k (Qa 0) (S 0), cell29_ k (Qa 0) (S 0), cell31_ (Qa 0) (S 7) (Qa 7), cell0_ k (Qa 7) (S 7), cell1_ k (Qa 7) (S 7), cell4_ k (Qa 7) (S 7), cell3_ k (Qa 7) (S 7), cell2_ k (Qa 7) (S 7)]) (rest := []) cx hP hD hS [0, 1, 2, 17, 18, 19, 20, 21, 22] rfl (by decide) [.int v3, .int v6, .int v9] (c_X11_may l D k b (Qa 0) (S 0) (lq [0, (Qa 7) 1, (Qa 7) 2, (Qa 7) 3, (Qa 7) 4, (Qa 7) 5]) (lS [(lI [((S 7) 0 0), ((S 7) 0 1), 0, 0, 0, 0, ((S 7) 0 6), ((S 7) 0 7), ((S 7) 0 8), ((S 7) 0 9), ((S 7) 0 10), ((S 7) 0 11), ((S 7) 0 12)]), ((S 7) 1), ((S 7) 2), ((S 7) 3), ((S 7) 4), ((S 7) 5)]) H.size v3 v6 v9 (show 0 ≤ ((S 7) 0 0).toInt ∧ ((S 7) 0 0).toInt ≤ 5 from by first | decide | omega) (show 0 ≤ ((S 7) 0 1).toInt ∧ ((S 7) 0 1).toInt ≤ 4 from by first | decide | omega) (show 0 ≤ ((S 7) 0 12).toInt ∧ ((S 7) 0 12).toInt ≤ 5 from by first | decide | omega) h_of h_go) gL_law_X11_may rfl rfl rfl nd_X11_may ⟨Nat.le_of_ble_eq_true rfl, Nat.le_of_ble_eq_true rfl⟩ (ci := 9) (q0 := 0) rfl rfl rfl hl.1 rfl (Nat.le_of_ble_eq_true rfl) ⟨Nat.le_of_ble_eq_true rfl, Nat.le_of_ble_eq_true rfl⟩ dL_law_485) cx.2.2.1 hP hD hS [0, 1, 2, 17, 18, 19, 20, 21, 22] rfl rfl (fun r11 H locs hw10 hP hS => ?_)
  have w12 : r11 = J_X11_may (S 0) (lS [(lI [((S 7) 0 0), ((S 7) 0 1), 0, 0, 0, 0, ((S 7) 0 6), ((S 7) 0 7), ((S 7) 0 8), ((S 7) 0 9), ((S 7) 0 10), ((S 7) 0 11), ((S 7) 0 12)]), ((S 7) 1), ((S 7) 2), ((S 7) 3), ((S 7) 4), ((S 7) 5)]) v3 v6 v9 := hw10
  clear hw10
  refine lv_pop hx hb dL_law_488 rfl ?_
  refine lv_aload_n hx hb dL_law_489 rfl (lv_at hl 1 rfl) ?_
  refine lv_aload_n hx hb dL_law_490 rfl (lv_at hl 3 rfl) ?_
  refine lv_iload_n hx hb dL_law_491 rfl (lv_at hl 0 rfl) ?_
  refine lv_iconst (v := 1) hx hb dL_law_492 (by decide) ?_
  refine lv_iadd hx hb dL_law_493 (lv_topi (fun v13 e13 => ?_))
  have t13 : v13.toInt = v.toInt + 1 := by rw [e13]; exact i_add rfl (by decide) (by omega) (by omega)
  have hn14 : vp_in v13 L := f_in (a := v13.toInt) rfl (by omega) (by omega)
  refine va_sld hx hb hX hbl hbA hS hn14 dL_law_494 (lv_topi (fun v15 e15 => ?_))
  have qv15 : v15 = v3 := by rw [e15, e3, e13, e1]
  have qiv15 := congrArg Int32.toInt qv15
  have rgv15 := i_rng v15
  refine lv_aload_n hx hb dL_law_495 rfl (lv_at hl 3 rfl) ?_
  refine lv_iload_n hx hb dL_law_496 rfl (lv_at hl 0 rfl) ?_
  refine lv_iconst (v := 2) hx hb dL_law_497 (by decide) ?_
  refine lv_iadd hx hb dL_law_498 (lv_topi (fun v16 e16 => ?_))
  have t16 : v16.toInt = v.toInt + 2 := by rw [e16]; exact i_add rfl (by decide) (by omega) (by omega)
  have hn17 : vp_in v16 L := f_in (a := v16.toInt) rfl (by omega) (by omega)
  refine va_sld hx hb hX hbl hbA hS hn17 dL_law_499 (lv_topi (fun v18 e18 => ?_))
  have qv18 : v18 = v6 := by rw [e18, e6, e16, e4]
  have qiv18 := congrArg Int32.toInt qv18
  have rgv18 := i_rng v18
  refine lv_aload_n hx hb dL_law_500 rfl (lv_at hl 3 rfl) ?_
  refine lv_iload_n hx hb dL_law_501 rfl (lv_at hl 0 rfl) ?_
  refine lv_iconst (v := 3) hx hb dL_law_502 (by decide) ?_
  refine lv_iadd hx hb dL_law_503 (lv_topi (fun v19 e19 => ?_))
  have t19 : v19.toInt = v.toInt + 3 := by rw [e19]; exact i_add rfl (by decide) (by omega) (by omega)
  have hn20 : vp_in v19 L := f_in (a := v19.toInt) rfl (by omega) (by omega)
  refine va_sld hx hb hX hbl hbA hS hn20 dL_law_504 (lv_topi (fun v21 e21 => ?_))
  have qv21 : v21 = v9 := by rw [e21, e9, e19, e7]
  have qiv21 := congrArg Int32.toInt qv21
  have rgv21 := i_rng v21
  refine g_ir (g_runV (wc := [cell22_ (Qa 17) (S 17) (T 17), cell5_ k (Qa 17) (S 17), cell13_ k (Qa 17) (S 17), cell8_ k (Qa 17) (S 17), cell6_ k (Qa 17) (S 17), cell15_ k (Qa 17) (S 17), cell14_ k (Qa 17) (T 17), cell12_ k (Qa 17) (T 17), cell18_ k (Qa 17) (T 17), cell17_ k (Qa 17) (T 17), cell19_ k (Qa 17) (T 17), cell21_ k (Qa 17) (T 17), cell20_ k (Qa 17) (S 17), cell16_ k (Qa 17) (S 17), cell11_ k (Qa 17) (S 17), cell10_ k (Qa 17) (S 17), cell9_ k (Qa 17) (S 17), cell7_ k (Qa 17) (S 17)]) (rest := []) cx hP hD hS [49, 50, 51, 52, 53, 54, 55, 56, 57, 58, 59, 60, 61, 62, 63, 64, 65, 66] rfl (by decide) [.int v15, .int v18, .int v21] (c_X12_may l D k b (Qa 17) (S 17) (T 17) H.size v15 v18 v21 (show 0 ≤ (((S 17) 2) 0).toInt ∧ (((S 17) 2) 0).toInt ≤ 5 from by first | decide | omega) (show 0 ≤ (((S 17) 2) 1).toInt ∧ (((S 17) 2) 1).toInt ≤ 4 from by first | decide | omega)) gL_law_X12_may rfl rfl rfl nd_X12_may ⟨Nat.le_of_ble_eq_true rfl, Nat.le_of_ble_eq_true rfl⟩ (ci := 10) (q0 := 0) rfl rfl rfl hl.1 rfl (Nat.le_of_ble_eq_true rfl) ⟨Nat.le_of_ble_eq_true rfl, Nat.le_of_ble_eq_true rfl⟩ dL_law_505) cx.2.2.1 hP hD hS [49, 50, 51, 52, 53, 54, 55, 56, 57, 58, 59, 60, 61, 62, 63, 64, 65, 66] rfl rfl (fun r23 H locs hw22 hP hS => ?_)
  have w24 : r23 = J_X12_may (S 17) (T 17) v15 v18 v21 := hw22
  clear hw22
  have hok_ : HOK (S 7) (S 17) := ⟨vokw_of h_vk, h_rg, h_wk, h_hk, h_fl, h_of, h_go⟩
  have fr_ : r11.toInt = r23.toInt := by rw [w12, w24, qv15, qv18, qv21]; exact congrArg Int32.toInt (may_alike hok_)
  refine lv_pop hx hb dL_law_508 rfl ?_
  refine lv_goto (tgt := 1548) hx hb dL_law_509 (by decide) ?_
  exact K S T _ _ _ (inv_mk ln u0 u_a u_3 u_16 d_of d_go h_wk h_hk h_fl h_of h_go h_su b_of b_go h_pl h_bp su_s_h su_s_w su_s_k su_s_x k1_s_h k1_s_w k1_s_k k1_s_x k2_s_h k2_s_w k2_s_k k2_s_x r_l r_a r_g m_ln m_at m_rw m_r0 m_r1 m_w0 m_k1 rel h_tx rel2 h_vk h_rg h_lv h_li h_wl h_kp h_a1 h_a2 h_b1 h_b2 h_ro h_tb h_nn h_rw) hP hD hS (lv_sub hl [0, 1, 2, 3] rfl)
theorem nd_X11_then : yX11_then.cls = RX11 ∧ yX11_then.cls ≠ "java/lang/invoke/MethodHandle" ∧ yX11_then.cls ≠ "java/lang/invoke/VarHandle" ∧ (parseMethodDescriptor yX11_then.desc).map (fun d => d.parameters.length) = some 3 := by decide +kernel
theorem nd_X12_then : yX12_then.cls = RX12 ∧ yX12_then.cls ≠ "java/lang/invoke/MethodHandle" ∧ yX12_then.cls ≠ "java/lang/invoke/VarHandle" ∧ (parseMethodDescriptor yX12_then.desc).map (fun d => d.parameters.length) = some 3 := by decide +kernel
set_option maxHeartbeats 8000000 in
set_option maxRecDepth 100000 in
theorem law_c10 {p : Program} {l : Launch} {e : Env} {s : State} {m : MethodId} {below : List Frame} {meth : Method} {c : Code} {Q : State → Prop} {A : Nat → Prop} {D : va_G} {k : Nat → ClassId} {b : Nat → Nat} {b0 L : Nat} {xs : Nat → Int32} (cx : Cx p s m #[Value.ref b0] c cL_law 4 wsL_law RL D k b A) (hX : va_X b0 L xs s s.heap) (hbl : b0 < s.heap.size) (hbA : ¬ A b0) (hL : L ≤ 384) (Qa : Nat → Nat → Nat) (v : Int32) (hv : 0 ≤ v.toInt ∧ v.toInt + 6 ≤ (L : Int)) (K : Kont p l e s m below meth c Q A D k b0 Qa v) (S : Nat → Nat → Nat → Int32) (T : Nat → Nat → Nat → Int64) (H : Heap) (locs : List Loc) (ls : Array Slot) (hI : INV S) (hP : va_P D vwCl (wX k Qa S T) H) (hD : va_D A (wX k Qa S T)) (hS : va_S A s.heap H locs) (hl : lv_has ls 4 [(3, .int v), (2, .ref (Qa 17 0)), (1, .ref (Qa 0 0)), (0, .ref b0)]) : W p l e room_1 s m #[Value.ref b0] below meth c H locs 67 11187 Q (F0 m 512 ls []) := by
  obtain ⟨ln, u0, u_a, u_3, u_16, d_of, d_go, h_wk, h_hk, h_fl, h_of, h_go, h_su, b_of, b_go, h_pl, h_bp, su_s_h, su_s_w, su_s_k, su_s_x, k1_s_h, k1_s_w, k1_s_k, k1_s_x, k2_s_h, k2_s_w, k2_s_k, k2_s_x, r_l, r_a, r_g, m_ln, m_at, m_rw, m_r0, m_r1, m_w0, m_k1, rel, h_tx, rel2, h_vk, h_rg, h_lv, h_li, h_wl, h_kp, h_a1, h_a2, h_b1, h_b2, h_ro, h_tb, h_nn, h_rw⟩ := hI
  have hx := cx.1.1
  have hb := cx.1.2.1
  have hP : va_P D vwCl [cell30_ (Qa 0) (S 0), cell28_ k (Qa 0) (S 0), cell29_ k (Qa 0) (S 0), cell37_ (Qa 0) (Qa 1) (S 1), cell27_ k (Qa 1) (S 1), cell39_ (Qa 0) (Qa 3) (Qa 2), cell5_ k (Qa 2) (S 2), cell33_ (Qa 3) (Qa 0) (S 3), cell46_ (Qa 0) (Qa 5) (Qa 4) (S 4), cell0_ k (Qa 4) (S 4), cell33_ (Qa 5) (Qa 0) (S 5), cell45_ (Qa 0) (S 6) (Qa 6), cell0_ k (Qa 6) (S 6), cell1_ k (Qa 6) (S 6), cell4_ k (Qa 6) (S 6), cell3_ k (Qa 6) (S 6), cell2_ k (Qa 6) (S 6), cell31_ (Qa 0) (S 7) (Qa 7), cell0_ k (Qa 7) (S 7), cell1_ k (Qa 7) (S 7), cell4_ k (Qa 7) (S 7), cell3_ k (Qa 7) (S 7), cell2_ k (Qa 7) (S 7), cell44_ (Qa 0) (S 8) (Qa 8), cell0_ k (Qa 8) (S 8), cell1_ k (Qa 8) (S 8), cell4_ k (Qa 8) (S 8), cell3_ k (Qa 8) (S 8), cell2_ k (Qa 8) (S 8), cell47_ (Qa 0) (Qa 9) (T 9), cell35_ k (Qa 9) (T 9), cell34_ k (Qa 9) (T 9), cell42_ (Qa 0) (S 10) (Qa 10), cell26_ k (Qa 10) (T 10), cell23_ k (Qa 10) (S 10), cell24_ k (Qa 10) (T 10), cell25_ k (Qa 10) (S 10), cell43_ (Qa 0) (S 11) (Qa 11), cell26_ k (Qa 11) (T 11), cell23_ k (Qa 11) (S 11), cell24_ k (Qa 11) (T 11), cell25_ k (Qa 11) (S 11), cell38_ (Qa 0) (S 12), cell40_ (Qa 0) (S 13), cell41_ (Qa 0) (S 14), cell48_ (Qa 0) (Qa 15) (S 15) (Qa 16) (T 15), cell0_ k (Qa 15) (S 15), cell1_ k (Qa 15) (S 15), cell36_ (Qa 16) (S 16), cell22_ (Qa 17) (S 17) (T 17), cell5_ k (Qa 17) (S 17), cell13_ k (Qa 17) (S 17), cell8_ k (Qa 17) (S 17), cell6_ k (Qa 17) (S 17), cell15_ k (Qa 17) (S 17), cell14_ k (Qa 17) (T 17), cell12_ k (Qa 17) (T 17), cell18_ k (Qa 17) (T 17), cell17_ k (Qa 17) (T 17), cell19_ k (Qa 17) (T 17), cell21_ k (Qa 17) (T 17), cell20_ k (Qa 17) (S 17), cell16_ k (Qa 17) (S 17), cell11_ k (Qa 17) (S 17), cell10_ k (Qa 17) (S 17), cell9_ k (Qa 17) (S 17), cell7_ k (Qa 17) (S 17)] H := hP
  have hD : va_D A [cell30_ (Qa 0) (S 0), cell28_ k (Qa 0) (S 0), cell29_ k (Qa 0) (S 0), cell37_ (Qa 0) (Qa 1) (S 1), cell27_ k (Qa 1) (S 1), cell39_ (Qa 0) (Qa 3) (Qa 2), cell5_ k (Qa 2) (S 2), cell33_ (Qa 3) (Qa 0) (S 3), cell46_ (Qa 0) (Qa 5) (Qa 4) (S 4), cell0_ k (Qa 4) (S 4), cell33_ (Qa 5) (Qa 0) (S 5), cell45_ (Qa 0) (S 6) (Qa 6), cell0_ k (Qa 6) (S 6), cell1_ k (Qa 6) (S 6), cell4_ k (Qa 6) (S 6), cell3_ k (Qa 6) (S 6), cell2_ k (Qa 6) (S 6), cell31_ (Qa 0) (S 7) (Qa 7), cell0_ k (Qa 7) (S 7), cell1_ k (Qa 7) (S 7), cell4_ k (Qa 7) (S 7), cell3_ k (Qa 7) (S 7), cell2_ k (Qa 7) (S 7), cell44_ (Qa 0) (S 8) (Qa 8), cell0_ k (Qa 8) (S 8), cell1_ k (Qa 8) (S 8), cell4_ k (Qa 8) (S 8), cell3_ k (Qa 8) (S 8), cell2_ k (Qa 8) (S 8), cell47_ (Qa 0) (Qa 9) (T 9), cell35_ k (Qa 9) (T 9), cell34_ k (Qa 9) (T 9), cell42_ (Qa 0) (S 10) (Qa 10), cell26_ k (Qa 10) (T 10), cell23_ k (Qa 10) (S 10), cell24_ k (Qa 10) (T 10), cell25_ k (Qa 10) (S 10), cell43_ (Qa 0) (S 11) (Qa 11), cell26_ k (Qa 11) (T 11), cell23_ k (Qa 11) (S 11), cell24_ k (Qa 11) (T 11), cell25_ k (Qa 11) (S 11), cell38_ (Qa 0) (S 12), cell40_ (Qa 0) (S 13), cell41_ (Qa 0) (S 14), cell48_ (Qa 0) (Qa 15) (S 15) (Qa 16) (T 15), cell0_ k (Qa 15) (S 15), cell1_ k (Qa 15) (S 15), cell36_ (Qa 16) (S 16), cell22_ (Qa 17) (S 17) (T 17), cell5_ k (Qa 17) (S 17), cell13_ k (Qa 17) (S 17), cell8_ k (Qa 17) (S 17), cell6_ k (Qa 17) (S 17), cell15_ k (Qa 17) (S 17), cell14_ k (Qa 17) (T 17), cell12_ k (Qa 17) (T 17), cell18_ k (Qa 17) (T 17), cell17_ k (Qa 17) (T 17), cell19_ k (Qa 17) (T 17), cell21_ k (Qa 17) (T 17), cell20_ k (Qa 17) (S 17), cell16_ k (Qa 17) (S 17), cell11_ k (Qa 17) (S 17), cell10_ k (Qa 17) (S 17), cell9_ k (Qa 17) (S 17), cell7_ k (Qa 17) (S 17)] := hD
  have hl : lv_has ls 4 [(3, .int v), (2, .ref ((Qa 17) 0)), (1, .ref ((Qa 0) 0)), (0, .ref b0)] := hl
  refine lv_aload_n hx hb dL_law_512 rfl (lv_at hl 2 rfl) ?_
  refine lv_aload_n hx hb dL_law_513 rfl (lv_at hl 3 rfl) ?_
  refine lv_iload_n hx hb dL_law_514 rfl (lv_at hl 0 rfl) ?_
  refine lv_iconst (v := 1) hx hb dL_law_515 (by decide) ?_
  refine lv_iadd hx hb dL_law_516 (lv_topi (fun v1 e1 => ?_))
  have t1 : v1.toInt = v.toInt + 1 := by rw [e1]; exact i_add rfl (by decide) (by omega) (by omega)
  have hn2 : vp_in v1 L := f_in (a := v1.toInt) rfl (by omega) (by omega)
  refine va_sld hx hb hX hbl hbA hS hn2 dL_law_517 (lv_topi (fun v3 e3 => ?_))
  have rgv3 := i_rng v3
  refine lv_aload_n hx hb dL_law_518 rfl (lv_at hl 3 rfl) ?_
  refine lv_iload_n hx hb dL_law_519 rfl (lv_at hl 0 rfl) ?_
  refine lv_iconst (v := 2) hx hb dL_law_520 (by decide) ?_
  refine lv_iadd hx hb dL_law_521 (lv_topi (fun v4 e4 => ?_))
  have t4 : v4.toInt = v.toInt + 2 := by rw [e4]; exact i_add rfl (by decide) (by omega) (by omega)
  have hn5 : vp_in v4 L := f_in (a := v4.toInt) rfl (by omega) (by omega)
  refine va_sld hx hb hX hbl hbA hS hn5 dL_law_522 (lv_topi (fun v6 e6 => ?_))
  have rgv6 := i_rng v6
  refine lv_aload_n hx hb dL_law_523 rfl (lv_at hl 3 rfl) ?_
  refine lv_iload_n hx hb dL_law_524 rfl (lv_at hl 0 rfl) ?_
  refine lv_iconst (v := 3) hx hb dL_law_525 (by decide) ?_
  refine lv_iadd hx hb dL_law_526 (lv_topi (fun v7 e7 => ?_))
  have t7 : v7.toInt = v.toInt + 3 := by rw [e7]; exact i_add rfl (by decide) (by omega) (by omega)
  have hn8 : vp_in v7 L := f_in (a := v7.toInt) rfl (by omega) (by omega)
  refine va_sld hx hb hX hbl hbA hS hn8 dL_law_527 (lv_topi (fun v9 e9 => ?_))
  have rgv9 := i_rng v9
  refine g_ir (g_runV (wc := [cell30_ (Qa 0) (S 0), cell28_ k (Qa 0) (S 0), cell29_ k (Qa 0) (S 0), cell31_ (Qa 0) (S 7) (Qa 7), cell0_ k (Qa 7) (S 7), cell1_ k (Qa 7) (S 7), cell4_ k (Qa 7) (S 7), cell3_ k (Qa 7) (S 7), cell2_ k (Qa 7) (S 7)]) (rest := []) cx hP hD hS [0, 1, 2, 17, 18, 19, 20, 21, 22] rfl (by decide) [.int v3, .int v6, .int v9] (c_X11_then l D k b (Qa 0) (S 0) (lq [0, (Qa 7) 1, (Qa 7) 2, (Qa 7) 3, (Qa 7) 4, (Qa 7) 5]) (lS [(lI [((S 7) 0 0), ((S 7) 0 1), 0, 0, 0, 0, ((S 7) 0 6), ((S 7) 0 7), ((S 7) 0 8), ((S 7) 0 9), ((S 7) 0 10), ((S 7) 0 11), ((S 7) 0 12)]), ((S 7) 1), ((S 7) 2), ((S 7) 3), ((S 7) 4), ((S 7) 5)]) H.size v3 v6 v9 (show 0 ≤ ((S 7) 0 0).toInt ∧ ((S 7) 0 0).toInt ≤ 5 from by first | decide | omega) (show 0 ≤ ((S 7) 0 1).toInt ∧ ((S 7) 0 1).toInt ≤ 4 from by first | decide | omega) (show 0 ≤ ((S 7) 0 12).toInt ∧ ((S 7) 0 12).toInt ≤ 5 from by first | decide | omega) h_of h_go) gL_law_X11_then rfl rfl rfl nd_X11_then ⟨Nat.le_of_ble_eq_true rfl, Nat.le_of_ble_eq_true rfl⟩ (ci := 9) (q0 := 0) rfl rfl rfl hl.1 rfl (Nat.le_of_ble_eq_true rfl) ⟨Nat.le_of_ble_eq_true rfl, Nat.le_of_ble_eq_true rfl⟩ dL_law_528) cx.2.2.1 hP hD hS [0, 1, 2, 17, 18, 19, 20, 21, 22] rfl rfl (fun r11 H locs hw10 hP hS => ?_)
  have w12 : r11 = J_X11_then (S 0) (lS [(lI [((S 7) 0 0), ((S 7) 0 1), 0, 0, 0, 0, ((S 7) 0 6), ((S 7) 0 7), ((S 7) 0 8), ((S 7) 0 9), ((S 7) 0 10), ((S 7) 0 11), ((S 7) 0 12)]), ((S 7) 1), ((S 7) 2), ((S 7) 3), ((S 7) 4), ((S 7) 5)]) v3 v6 v9 := hw10
  clear hw10
  refine lv_pop hx hb dL_law_531 rfl ?_
  refine lv_aload_n hx hb dL_law_532 rfl (lv_at hl 1 rfl) ?_
  refine lv_aload_n hx hb dL_law_533 rfl (lv_at hl 3 rfl) ?_
  refine lv_iload_n hx hb dL_law_534 rfl (lv_at hl 0 rfl) ?_
  refine lv_iconst (v := 1) hx hb dL_law_535 (by decide) ?_
  refine lv_iadd hx hb dL_law_536 (lv_topi (fun v13 e13 => ?_))
  have t13 : v13.toInt = v.toInt + 1 := by rw [e13]; exact i_add rfl (by decide) (by omega) (by omega)
  have hn14 : vp_in v13 L := f_in (a := v13.toInt) rfl (by omega) (by omega)
  refine va_sld hx hb hX hbl hbA hS hn14 dL_law_537 (lv_topi (fun v15 e15 => ?_))
  have qv15 : v15 = v3 := by rw [e15, e3, e13, e1]
  have qiv15 := congrArg Int32.toInt qv15
  have rgv15 := i_rng v15
  refine lv_aload_n hx hb dL_law_538 rfl (lv_at hl 3 rfl) ?_
  refine lv_iload_n hx hb dL_law_539 rfl (lv_at hl 0 rfl) ?_
  refine lv_iconst (v := 2) hx hb dL_law_540 (by decide) ?_
  refine lv_iadd hx hb dL_law_541 (lv_topi (fun v16 e16 => ?_))
  have t16 : v16.toInt = v.toInt + 2 := by rw [e16]; exact i_add rfl (by decide) (by omega) (by omega)
  have hn17 : vp_in v16 L := f_in (a := v16.toInt) rfl (by omega) (by omega)
  refine va_sld hx hb hX hbl hbA hS hn17 dL_law_542 (lv_topi (fun v18 e18 => ?_))
  have qv18 : v18 = v6 := by rw [e18, e6, e16, e4]
  have qiv18 := congrArg Int32.toInt qv18
  have rgv18 := i_rng v18
  refine lv_aload_n hx hb dL_law_543 rfl (lv_at hl 3 rfl) ?_
  refine lv_iload_n hx hb dL_law_544 rfl (lv_at hl 0 rfl) ?_
  refine lv_iconst (v := 3) hx hb dL_law_545 (by decide) ?_
  refine lv_iadd hx hb dL_law_546 (lv_topi (fun v19 e19 => ?_))
  have t19 : v19.toInt = v.toInt + 3 := by rw [e19]; exact i_add rfl (by decide) (by omega) (by omega)
  have hn20 : vp_in v19 L := f_in (a := v19.toInt) rfl (by omega) (by omega)
  refine va_sld hx hb hX hbl hbA hS hn20 dL_law_547 (lv_topi (fun v21 e21 => ?_))
  have qv21 : v21 = v9 := by rw [e21, e9, e19, e7]
  have qiv21 := congrArg Int32.toInt qv21
  have rgv21 := i_rng v21
  refine g_ir (g_runV (wc := [cell22_ (Qa 17) (S 17) (T 17), cell5_ k (Qa 17) (S 17), cell13_ k (Qa 17) (S 17), cell8_ k (Qa 17) (S 17), cell6_ k (Qa 17) (S 17), cell15_ k (Qa 17) (S 17), cell14_ k (Qa 17) (T 17), cell12_ k (Qa 17) (T 17), cell18_ k (Qa 17) (T 17), cell17_ k (Qa 17) (T 17), cell19_ k (Qa 17) (T 17), cell21_ k (Qa 17) (T 17), cell20_ k (Qa 17) (S 17), cell16_ k (Qa 17) (S 17), cell11_ k (Qa 17) (S 17), cell10_ k (Qa 17) (S 17), cell9_ k (Qa 17) (S 17), cell7_ k (Qa 17) (S 17)]) (rest := []) cx hP hD hS [49, 50, 51, 52, 53, 54, 55, 56, 57, 58, 59, 60, 61, 62, 63, 64, 65, 66] rfl (by decide) [.int v15, .int v18, .int v21] (c_X12_then l D k b (Qa 17) (S 17) (T 17) H.size v15 v18 v21 (show 0 ≤ (((S 17) 2) 0).toInt ∧ (((S 17) 2) 0).toInt ≤ 5 from by first | decide | omega) (show 0 ≤ (((S 17) 2) 1).toInt ∧ (((S 17) 2) 1).toInt ≤ 4 from by first | decide | omega)) gL_law_X12_then rfl rfl rfl nd_X12_then ⟨Nat.le_of_ble_eq_true rfl, Nat.le_of_ble_eq_true rfl⟩ (ci := 10) (q0 := 0) rfl rfl rfl hl.1 rfl (Nat.le_of_ble_eq_true rfl) ⟨Nat.le_of_ble_eq_true rfl, Nat.le_of_ble_eq_true rfl⟩ dL_law_548) cx.2.2.1 hP hD hS [49, 50, 51, 52, 53, 54, 55, 56, 57, 58, 59, 60, 61, 62, 63, 64, 65, 66] rfl rfl (fun r23 H locs hw22 hP hS => ?_)
  have w24 : r23 = J_X12_then (S 17) (T 17) v15 v18 v21 := hw22
  clear hw22
  have hok_ : HOK (S 7) (S 17) := ⟨vokw_of h_vk, h_rg, h_wk, h_hk, h_fl, h_of, h_go⟩
  have fr_ : r11.toInt = r23.toInt := by rw [w12, w24, qv15, qv18, qv21]; exact congrArg Int32.toInt (then_alike hok_)
  refine lv_pop hx hb dL_law_551 rfl ?_
  refine lv_goto (tgt := 1548) hx hb dL_law_552 (by decide) ?_
  exact K S T _ _ _ (inv_mk ln u0 u_a u_3 u_16 d_of d_go h_wk h_hk h_fl h_of h_go h_su b_of b_go h_pl h_bp su_s_h su_s_w su_s_k su_s_x k1_s_h k1_s_w k1_s_k k1_s_x k2_s_h k2_s_w k2_s_k k2_s_x r_l r_a r_g m_ln m_at m_rw m_r0 m_r1 m_w0 m_k1 rel h_tx rel2 h_vk h_rg h_lv h_li h_wl h_kp h_a1 h_a2 h_b1 h_b2 h_ro h_tb h_nn h_rw) hP hD hS (lv_sub hl [0, 1, 2, 3] rfl)
theorem nd_X11_costs : yX11_costs.cls = RX11 ∧ yX11_costs.cls ≠ "java/lang/invoke/MethodHandle" ∧ yX11_costs.cls ≠ "java/lang/invoke/VarHandle" ∧ (parseMethodDescriptor yX11_costs.desc).map (fun d => d.parameters.length) = some 4 := by decide +kernel
theorem nd_X12_costs : yX12_costs.cls = RX12 ∧ yX12_costs.cls ≠ "java/lang/invoke/MethodHandle" ∧ yX12_costs.cls ≠ "java/lang/invoke/VarHandle" ∧ (parseMethodDescriptor yX12_costs.desc).map (fun d => d.parameters.length) = some 4 := by decide +kernel
set_option maxHeartbeats 8000000 in
set_option maxRecDepth 100000 in
theorem law_c11 {p : Program} {l : Launch} {e : Env} {s : State} {m : MethodId} {below : List Frame} {meth : Method} {c : Code} {Q : State → Prop} {A : Nat → Prop} {D : va_G} {k : Nat → ClassId} {b : Nat → Nat} {b0 L : Nat} {xs : Nat → Int32} (cx : Cx p s m #[Value.ref b0] c cL_law 4 wsL_law RL D k b A) (hX : va_X b0 L xs s s.heap) (hbl : b0 < s.heap.size) (hbA : ¬ A b0) (hL : L ≤ 384) (Qa : Nat → Nat → Nat) (v : Int32) (hv : 0 ≤ v.toInt ∧ v.toInt + 6 ≤ (L : Int)) (K : Kont p l e s m below meth c Q A D k b0 Qa v) (S : Nat → Nat → Nat → Int32) (T : Nat → Nat → Nat → Int64) (H : Heap) (locs : List Loc) (ls : Array Slot) (hI : INV S) (hP : va_P D vwCl (wX k Qa S T) H) (hD : va_D A (wX k Qa S T)) (hS : va_S A s.heap H locs) (hl : lv_has ls 4 [(3, .int v), (2, .ref (Qa 17 0)), (1, .ref (Qa 0 0)), (0, .ref b0)]) : W p l e room_1 s m #[Value.ref b0] below meth c H locs 67 11187 Q (F0 m 555 ls []) := by
  obtain ⟨ln, u0, u_a, u_3, u_16, d_of, d_go, h_wk, h_hk, h_fl, h_of, h_go, h_su, b_of, b_go, h_pl, h_bp, su_s_h, su_s_w, su_s_k, su_s_x, k1_s_h, k1_s_w, k1_s_k, k1_s_x, k2_s_h, k2_s_w, k2_s_k, k2_s_x, r_l, r_a, r_g, m_ln, m_at, m_rw, m_r0, m_r1, m_w0, m_k1, rel, h_tx, rel2, h_vk, h_rg, h_lv, h_li, h_wl, h_kp, h_a1, h_a2, h_b1, h_b2, h_ro, h_tb, h_nn, h_rw⟩ := hI
  have hx := cx.1.1
  have hb := cx.1.2.1
  have hP : va_P D vwCl [cell30_ (Qa 0) (S 0), cell28_ k (Qa 0) (S 0), cell29_ k (Qa 0) (S 0), cell37_ (Qa 0) (Qa 1) (S 1), cell27_ k (Qa 1) (S 1), cell39_ (Qa 0) (Qa 3) (Qa 2), cell5_ k (Qa 2) (S 2), cell33_ (Qa 3) (Qa 0) (S 3), cell46_ (Qa 0) (Qa 5) (Qa 4) (S 4), cell0_ k (Qa 4) (S 4), cell33_ (Qa 5) (Qa 0) (S 5), cell45_ (Qa 0) (S 6) (Qa 6), cell0_ k (Qa 6) (S 6), cell1_ k (Qa 6) (S 6), cell4_ k (Qa 6) (S 6), cell3_ k (Qa 6) (S 6), cell2_ k (Qa 6) (S 6), cell31_ (Qa 0) (S 7) (Qa 7), cell0_ k (Qa 7) (S 7), cell1_ k (Qa 7) (S 7), cell4_ k (Qa 7) (S 7), cell3_ k (Qa 7) (S 7), cell2_ k (Qa 7) (S 7), cell44_ (Qa 0) (S 8) (Qa 8), cell0_ k (Qa 8) (S 8), cell1_ k (Qa 8) (S 8), cell4_ k (Qa 8) (S 8), cell3_ k (Qa 8) (S 8), cell2_ k (Qa 8) (S 8), cell47_ (Qa 0) (Qa 9) (T 9), cell35_ k (Qa 9) (T 9), cell34_ k (Qa 9) (T 9), cell42_ (Qa 0) (S 10) (Qa 10), cell26_ k (Qa 10) (T 10), cell23_ k (Qa 10) (S 10), cell24_ k (Qa 10) (T 10), cell25_ k (Qa 10) (S 10), cell43_ (Qa 0) (S 11) (Qa 11), cell26_ k (Qa 11) (T 11), cell23_ k (Qa 11) (S 11), cell24_ k (Qa 11) (T 11), cell25_ k (Qa 11) (S 11), cell38_ (Qa 0) (S 12), cell40_ (Qa 0) (S 13), cell41_ (Qa 0) (S 14), cell48_ (Qa 0) (Qa 15) (S 15) (Qa 16) (T 15), cell0_ k (Qa 15) (S 15), cell1_ k (Qa 15) (S 15), cell36_ (Qa 16) (S 16), cell22_ (Qa 17) (S 17) (T 17), cell5_ k (Qa 17) (S 17), cell13_ k (Qa 17) (S 17), cell8_ k (Qa 17) (S 17), cell6_ k (Qa 17) (S 17), cell15_ k (Qa 17) (S 17), cell14_ k (Qa 17) (T 17), cell12_ k (Qa 17) (T 17), cell18_ k (Qa 17) (T 17), cell17_ k (Qa 17) (T 17), cell19_ k (Qa 17) (T 17), cell21_ k (Qa 17) (T 17), cell20_ k (Qa 17) (S 17), cell16_ k (Qa 17) (S 17), cell11_ k (Qa 17) (S 17), cell10_ k (Qa 17) (S 17), cell9_ k (Qa 17) (S 17), cell7_ k (Qa 17) (S 17)] H := hP
  have hD : va_D A [cell30_ (Qa 0) (S 0), cell28_ k (Qa 0) (S 0), cell29_ k (Qa 0) (S 0), cell37_ (Qa 0) (Qa 1) (S 1), cell27_ k (Qa 1) (S 1), cell39_ (Qa 0) (Qa 3) (Qa 2), cell5_ k (Qa 2) (S 2), cell33_ (Qa 3) (Qa 0) (S 3), cell46_ (Qa 0) (Qa 5) (Qa 4) (S 4), cell0_ k (Qa 4) (S 4), cell33_ (Qa 5) (Qa 0) (S 5), cell45_ (Qa 0) (S 6) (Qa 6), cell0_ k (Qa 6) (S 6), cell1_ k (Qa 6) (S 6), cell4_ k (Qa 6) (S 6), cell3_ k (Qa 6) (S 6), cell2_ k (Qa 6) (S 6), cell31_ (Qa 0) (S 7) (Qa 7), cell0_ k (Qa 7) (S 7), cell1_ k (Qa 7) (S 7), cell4_ k (Qa 7) (S 7), cell3_ k (Qa 7) (S 7), cell2_ k (Qa 7) (S 7), cell44_ (Qa 0) (S 8) (Qa 8), cell0_ k (Qa 8) (S 8), cell1_ k (Qa 8) (S 8), cell4_ k (Qa 8) (S 8), cell3_ k (Qa 8) (S 8), cell2_ k (Qa 8) (S 8), cell47_ (Qa 0) (Qa 9) (T 9), cell35_ k (Qa 9) (T 9), cell34_ k (Qa 9) (T 9), cell42_ (Qa 0) (S 10) (Qa 10), cell26_ k (Qa 10) (T 10), cell23_ k (Qa 10) (S 10), cell24_ k (Qa 10) (T 10), cell25_ k (Qa 10) (S 10), cell43_ (Qa 0) (S 11) (Qa 11), cell26_ k (Qa 11) (T 11), cell23_ k (Qa 11) (S 11), cell24_ k (Qa 11) (T 11), cell25_ k (Qa 11) (S 11), cell38_ (Qa 0) (S 12), cell40_ (Qa 0) (S 13), cell41_ (Qa 0) (S 14), cell48_ (Qa 0) (Qa 15) (S 15) (Qa 16) (T 15), cell0_ k (Qa 15) (S 15), cell1_ k (Qa 15) (S 15), cell36_ (Qa 16) (S 16), cell22_ (Qa 17) (S 17) (T 17), cell5_ k (Qa 17) (S 17), cell13_ k (Qa 17) (S 17), cell8_ k (Qa 17) (S 17), cell6_ k (Qa 17) (S 17), cell15_ k (Qa 17) (S 17), cell14_ k (Qa 17) (T 17), cell12_ k (Qa 17) (T 17), cell18_ k (Qa 17) (T 17), cell17_ k (Qa 17) (T 17), cell19_ k (Qa 17) (T 17), cell21_ k (Qa 17) (T 17), cell20_ k (Qa 17) (S 17), cell16_ k (Qa 17) (S 17), cell11_ k (Qa 17) (S 17), cell10_ k (Qa 17) (S 17), cell9_ k (Qa 17) (S 17), cell7_ k (Qa 17) (S 17)] := hD
  have hl : lv_has ls 4 [(3, .int v), (2, .ref ((Qa 17) 0)), (1, .ref ((Qa 0) 0)), (0, .ref b0)] := hl
  refine lv_aload_n hx hb dL_law_555 rfl (lv_at hl 2 rfl) ?_
  refine lv_aload_n hx hb dL_law_556 rfl (lv_at hl 3 rfl) ?_
  refine lv_iload_n hx hb dL_law_557 rfl (lv_at hl 0 rfl) ?_
  refine lv_iconst (v := 1) hx hb dL_law_558 (by decide) ?_
  refine lv_iadd hx hb dL_law_559 (lv_topi (fun v1 e1 => ?_))
  have t1 : v1.toInt = v.toInt + 1 := by rw [e1]; exact i_add rfl (by decide) (by omega) (by omega)
  have hn2 : vp_in v1 L := f_in (a := v1.toInt) rfl (by omega) (by omega)
  refine va_sld hx hb hX hbl hbA hS hn2 dL_law_560 (lv_topi (fun v3 e3 => ?_))
  have rgv3 := i_rng v3
  refine lv_aload_n hx hb dL_law_561 rfl (lv_at hl 3 rfl) ?_
  refine lv_iload_n hx hb dL_law_562 rfl (lv_at hl 0 rfl) ?_
  refine lv_iconst (v := 2) hx hb dL_law_563 (by decide) ?_
  refine lv_iadd hx hb dL_law_564 (lv_topi (fun v4 e4 => ?_))
  have t4 : v4.toInt = v.toInt + 2 := by rw [e4]; exact i_add rfl (by decide) (by omega) (by omega)
  have hn5 : vp_in v4 L := f_in (a := v4.toInt) rfl (by omega) (by omega)
  refine va_sld hx hb hX hbl hbA hS hn5 dL_law_565 (lv_topi (fun v6 e6 => ?_))
  have rgv6 := i_rng v6
  refine lv_aload_n hx hb dL_law_566 rfl (lv_at hl 3 rfl) ?_
  refine lv_iload_n hx hb dL_law_567 rfl (lv_at hl 0 rfl) ?_
  refine lv_iconst (v := 3) hx hb dL_law_568 (by decide) ?_
  refine lv_iadd hx hb dL_law_569 (lv_topi (fun v7 e7 => ?_))
  have t7 : v7.toInt = v.toInt + 3 := by rw [e7]; exact i_add rfl (by decide) (by omega) (by omega)
  have hn8 : vp_in v7 L := f_in (a := v7.toInt) rfl (by omega) (by omega)
  refine va_sld hx hb hX hbl hbA hS hn8 dL_law_570 (lv_topi (fun v9 e9 => ?_))
  have rgv9 := i_rng v9
  refine lv_aload_n hx hb dL_law_571 rfl (lv_at hl 3 rfl) ?_
  refine lv_iload_n hx hb dL_law_572 rfl (lv_at hl 0 rfl) ?_
  refine lv_iconst (v := 4) hx hb dL_law_573 (by decide) ?_
  refine lv_iadd hx hb dL_law_574 (lv_topi (fun v10 e10 => ?_))
  have t10 : v10.toInt = v.toInt + 4 := by rw [e10]; exact i_add rfl (by decide) (by omega) (by omega)
  have hn11 : vp_in v10 L := f_in (a := v10.toInt) rfl (by omega) (by omega)
  refine va_sld hx hb hX hbl hbA hS hn11 dL_law_575 (lv_topi (fun v12 e12 => ?_))
  have rgv12 := i_rng v12
  refine g_ir (g_runV (wc := [cell30_ (Qa 0) (S 0), cell28_ k (Qa 0) (S 0), cell29_ k (Qa 0) (S 0), cell31_ (Qa 0) (S 7) (Qa 7), cell0_ k (Qa 7) (S 7), cell1_ k (Qa 7) (S 7), cell4_ k (Qa 7) (S 7), cell3_ k (Qa 7) (S 7), cell2_ k (Qa 7) (S 7)]) (rest := []) cx hP hD hS [0, 1, 2, 17, 18, 19, 20, 21, 22] rfl (by decide) [.int v3, .int v6, .int v9, .int v12] (c_X11_costs l D k b (Qa 0) (S 0) (lq [0, (Qa 7) 1, (Qa 7) 2, (Qa 7) 3, (Qa 7) 4, (Qa 7) 5]) (lS [(lI [((S 7) 0 0), ((S 7) 0 1), 0, 0, 0, 0, ((S 7) 0 6), ((S 7) 0 7), ((S 7) 0 8), ((S 7) 0 9), ((S 7) 0 10), ((S 7) 0 11), ((S 7) 0 12)]), ((S 7) 1), ((S 7) 2), ((S 7) 3), ((S 7) 4), ((S 7) 5)]) H.size v3 v6 v9 v12 (show 0 ≤ ((S 7) 0 0).toInt ∧ ((S 7) 0 0).toInt ≤ 5 from by first | decide | omega) (show 0 ≤ ((S 7) 0 1).toInt ∧ ((S 7) 0 1).toInt ≤ 4 from by first | decide | omega) (show 0 ≤ ((S 7) 0 12).toInt ∧ ((S 7) 0 12).toInt ≤ 5 from by first | decide | omega) h_of h_go) gL_law_X11_costs rfl rfl rfl nd_X11_costs ⟨Nat.le_of_ble_eq_true rfl, Nat.le_of_ble_eq_true rfl⟩ (ci := 9) (q0 := 0) rfl rfl rfl hl.1 rfl (Nat.le_of_ble_eq_true rfl) ⟨Nat.le_of_ble_eq_true rfl, Nat.le_of_ble_eq_true rfl⟩ dL_law_576) cx.2.2.1 hP hD hS [0, 1, 2, 17, 18, 19, 20, 21, 22] rfl rfl (fun r14 H locs hw13 hP hS => ?_)
  have w15 : r14 = J_X11_costs (S 0) (lS [(lI [((S 7) 0 0), ((S 7) 0 1), 0, 0, 0, 0, ((S 7) 0 6), ((S 7) 0 7), ((S 7) 0 8), ((S 7) 0 9), ((S 7) 0 10), ((S 7) 0 11), ((S 7) 0 12)]), ((S 7) 1), ((S 7) 2), ((S 7) 3), ((S 7) 4), ((S 7) 5)]) v3 v6 v9 v12 := hw13
  clear hw13
  refine lv_pop hx hb dL_law_579 rfl ?_
  refine lv_aload_n hx hb dL_law_580 rfl (lv_at hl 1 rfl) ?_
  refine lv_aload_n hx hb dL_law_581 rfl (lv_at hl 3 rfl) ?_
  refine lv_iload_n hx hb dL_law_582 rfl (lv_at hl 0 rfl) ?_
  refine lv_iconst (v := 1) hx hb dL_law_583 (by decide) ?_
  refine lv_iadd hx hb dL_law_584 (lv_topi (fun v16 e16 => ?_))
  have t16 : v16.toInt = v.toInt + 1 := by rw [e16]; exact i_add rfl (by decide) (by omega) (by omega)
  have hn17 : vp_in v16 L := f_in (a := v16.toInt) rfl (by omega) (by omega)
  refine va_sld hx hb hX hbl hbA hS hn17 dL_law_585 (lv_topi (fun v18 e18 => ?_))
  have qv18 : v18 = v3 := by rw [e18, e3, e16, e1]
  have qiv18 := congrArg Int32.toInt qv18
  have rgv18 := i_rng v18
  refine lv_aload_n hx hb dL_law_586 rfl (lv_at hl 3 rfl) ?_
  refine lv_iload_n hx hb dL_law_587 rfl (lv_at hl 0 rfl) ?_
  refine lv_iconst (v := 2) hx hb dL_law_588 (by decide) ?_
  refine lv_iadd hx hb dL_law_589 (lv_topi (fun v19 e19 => ?_))
  have t19 : v19.toInt = v.toInt + 2 := by rw [e19]; exact i_add rfl (by decide) (by omega) (by omega)
  have hn20 : vp_in v19 L := f_in (a := v19.toInt) rfl (by omega) (by omega)
  refine va_sld hx hb hX hbl hbA hS hn20 dL_law_590 (lv_topi (fun v21 e21 => ?_))
  have qv21 : v21 = v6 := by rw [e21, e6, e19, e4]
  have qiv21 := congrArg Int32.toInt qv21
  have rgv21 := i_rng v21
  refine lv_aload_n hx hb dL_law_591 rfl (lv_at hl 3 rfl) ?_
  refine lv_iload_n hx hb dL_law_592 rfl (lv_at hl 0 rfl) ?_
  refine lv_iconst (v := 3) hx hb dL_law_593 (by decide) ?_
  refine lv_iadd hx hb dL_law_594 (lv_topi (fun v22 e22 => ?_))
  have t22 : v22.toInt = v.toInt + 3 := by rw [e22]; exact i_add rfl (by decide) (by omega) (by omega)
  have hn23 : vp_in v22 L := f_in (a := v22.toInt) rfl (by omega) (by omega)
  refine va_sld hx hb hX hbl hbA hS hn23 dL_law_595 (lv_topi (fun v24 e24 => ?_))
  have qv24 : v24 = v9 := by rw [e24, e9, e22, e7]
  have qiv24 := congrArg Int32.toInt qv24
  have rgv24 := i_rng v24
  refine lv_aload_n hx hb dL_law_596 rfl (lv_at hl 3 rfl) ?_
  refine lv_iload_n hx hb dL_law_597 rfl (lv_at hl 0 rfl) ?_
  refine lv_iconst (v := 4) hx hb dL_law_598 (by decide) ?_
  refine lv_iadd hx hb dL_law_599 (lv_topi (fun v25 e25 => ?_))
  have t25 : v25.toInt = v.toInt + 4 := by rw [e25]; exact i_add rfl (by decide) (by omega) (by omega)
  have hn26 : vp_in v25 L := f_in (a := v25.toInt) rfl (by omega) (by omega)
  refine va_sld hx hb hX hbl hbA hS hn26 dL_law_600 (lv_topi (fun v27 e27 => ?_))
  have qv27 : v27 = v12 := by rw [e27, e12, e25, e10]
  have qiv27 := congrArg Int32.toInt qv27
  have rgv27 := i_rng v27
  refine g_ir (g_runV (wc := [cell22_ (Qa 17) (S 17) (T 17), cell5_ k (Qa 17) (S 17), cell13_ k (Qa 17) (S 17), cell8_ k (Qa 17) (S 17), cell6_ k (Qa 17) (S 17), cell15_ k (Qa 17) (S 17), cell14_ k (Qa 17) (T 17), cell12_ k (Qa 17) (T 17), cell18_ k (Qa 17) (T 17), cell17_ k (Qa 17) (T 17), cell19_ k (Qa 17) (T 17), cell21_ k (Qa 17) (T 17), cell20_ k (Qa 17) (S 17), cell16_ k (Qa 17) (S 17), cell11_ k (Qa 17) (S 17), cell10_ k (Qa 17) (S 17), cell9_ k (Qa 17) (S 17), cell7_ k (Qa 17) (S 17)]) (rest := []) cx hP hD hS [49, 50, 51, 52, 53, 54, 55, 56, 57, 58, 59, 60, 61, 62, 63, 64, 65, 66] rfl (by decide) [.int v18, .int v21, .int v24, .int v27] (c_X12_costs l D k b (Qa 17) (S 17) (T 17) H.size v18 v21 v24 v27 (show 0 ≤ (((S 17) 2) 0).toInt ∧ (((S 17) 2) 0).toInt ≤ 5 from by first | decide | omega) (show 0 ≤ (((S 17) 2) 1).toInt ∧ (((S 17) 2) 1).toInt ≤ 4 from by first | decide | omega)) gL_law_X12_costs rfl rfl rfl nd_X12_costs ⟨Nat.le_of_ble_eq_true rfl, Nat.le_of_ble_eq_true rfl⟩ (ci := 10) (q0 := 0) rfl rfl rfl hl.1 rfl (Nat.le_of_ble_eq_true rfl) ⟨Nat.le_of_ble_eq_true rfl, Nat.le_of_ble_eq_true rfl⟩ dL_law_601) cx.2.2.1 hP hD hS [49, 50, 51, 52, 53, 54, 55, 56, 57, 58, 59, 60, 61, 62, 63, 64, 65, 66] rfl rfl (fun r29 H locs hw28 hP hS => ?_)
  have w30 : r29 = J_X12_costs (S 17) (T 17) v18 v21 v24 v27 := hw28
  clear hw28
  have hok_ : HOK (S 7) (S 17) := ⟨vokw_of h_vk, h_rg, h_wk, h_hk, h_fl, h_of, h_go⟩
  have fr_ : r14.toInt = r29.toInt := by rw [w15, w30, qv18, qv21, qv24, qv27]; exact congrArg Int32.toInt (costs_alike hok_)
  refine lv_pop hx hb dL_law_604 rfl ?_
  refine lv_goto (tgt := 1548) hx hb dL_law_605 (by decide) ?_
  exact K S T _ _ _ (inv_mk ln u0 u_a u_3 u_16 d_of d_go h_wk h_hk h_fl h_of h_go h_su b_of b_go h_pl h_bp su_s_h su_s_w su_s_k su_s_x k1_s_h k1_s_w k1_s_k k1_s_x k2_s_h k2_s_w k2_s_k k2_s_x r_l r_a r_g m_ln m_at m_rw m_r0 m_r1 m_w0 m_k1 rel h_tx rel2 h_vk h_rg h_lv h_li h_wl h_kp h_a1 h_a2 h_b1 h_b2 h_ro h_tb h_nn h_rw) hP hD hS (lv_sub hl [0, 1, 2, 3] rfl)
theorem nd_X11_work : yX11_work.cls = RX11 ∧ yX11_work.cls ≠ "java/lang/invoke/MethodHandle" ∧ yX11_work.cls ≠ "java/lang/invoke/VarHandle" ∧ (parseMethodDescriptor yX11_work.desc).map (fun d => d.parameters.length) = some 5 := by decide +kernel
theorem nd_X12_work : yX12_work.cls = RX12 ∧ yX12_work.cls ≠ "java/lang/invoke/MethodHandle" ∧ yX12_work.cls ≠ "java/lang/invoke/VarHandle" ∧ (parseMethodDescriptor yX12_work.desc).map (fun d => d.parameters.length) = some 5 := by decide +kernel
set_option maxHeartbeats 8000000 in
set_option maxRecDepth 100000 in
theorem law_c12 {p : Program} {l : Launch} {e : Env} {s : State} {m : MethodId} {below : List Frame} {meth : Method} {c : Code} {Q : State → Prop} {A : Nat → Prop} {D : va_G} {k : Nat → ClassId} {b : Nat → Nat} {b0 L : Nat} {xs : Nat → Int32} (cx : Cx p s m #[Value.ref b0] c cL_law 4 wsL_law RL D k b A) (hX : va_X b0 L xs s s.heap) (hbl : b0 < s.heap.size) (hbA : ¬ A b0) (hL : L ≤ 384) (Qa : Nat → Nat → Nat) (v : Int32) (hv : 0 ≤ v.toInt ∧ v.toInt + 6 ≤ (L : Int)) (K : Kont p l e s m below meth c Q A D k b0 Qa v) (S : Nat → Nat → Nat → Int32) (T : Nat → Nat → Nat → Int64) (H : Heap) (locs : List Loc) (ls : Array Slot) (hI : INV S) (hP : va_P D vwCl (wX k Qa S T) H) (hD : va_D A (wX k Qa S T)) (hS : va_S A s.heap H locs) (hl : lv_has ls 4 [(3, .int v), (2, .ref (Qa 17 0)), (1, .ref (Qa 0 0)), (0, .ref b0)]) : W p l e room_1 s m #[Value.ref b0] below meth c H locs 67 11187 Q (F0 m 608 ls []) := by
  obtain ⟨ln, u0, u_a, u_3, u_16, d_of, d_go, h_wk, h_hk, h_fl, h_of, h_go, h_su, b_of, b_go, h_pl, h_bp, su_s_h, su_s_w, su_s_k, su_s_x, k1_s_h, k1_s_w, k1_s_k, k1_s_x, k2_s_h, k2_s_w, k2_s_k, k2_s_x, r_l, r_a, r_g, m_ln, m_at, m_rw, m_r0, m_r1, m_w0, m_k1, rel, h_tx, rel2, h_vk, h_rg, h_lv, h_li, h_wl, h_kp, h_a1, h_a2, h_b1, h_b2, h_ro, h_tb, h_nn, h_rw⟩ := hI
  have hx := cx.1.1
  have hb := cx.1.2.1
  have hP : va_P D vwCl [cell30_ (Qa 0) (S 0), cell28_ k (Qa 0) (S 0), cell29_ k (Qa 0) (S 0), cell37_ (Qa 0) (Qa 1) (S 1), cell27_ k (Qa 1) (S 1), cell39_ (Qa 0) (Qa 3) (Qa 2), cell5_ k (Qa 2) (S 2), cell33_ (Qa 3) (Qa 0) (S 3), cell46_ (Qa 0) (Qa 5) (Qa 4) (S 4), cell0_ k (Qa 4) (S 4), cell33_ (Qa 5) (Qa 0) (S 5), cell45_ (Qa 0) (S 6) (Qa 6), cell0_ k (Qa 6) (S 6), cell1_ k (Qa 6) (S 6), cell4_ k (Qa 6) (S 6), cell3_ k (Qa 6) (S 6), cell2_ k (Qa 6) (S 6), cell31_ (Qa 0) (S 7) (Qa 7), cell0_ k (Qa 7) (S 7), cell1_ k (Qa 7) (S 7), cell4_ k (Qa 7) (S 7), cell3_ k (Qa 7) (S 7), cell2_ k (Qa 7) (S 7), cell44_ (Qa 0) (S 8) (Qa 8), cell0_ k (Qa 8) (S 8), cell1_ k (Qa 8) (S 8), cell4_ k (Qa 8) (S 8), cell3_ k (Qa 8) (S 8), cell2_ k (Qa 8) (S 8), cell47_ (Qa 0) (Qa 9) (T 9), cell35_ k (Qa 9) (T 9), cell34_ k (Qa 9) (T 9), cell42_ (Qa 0) (S 10) (Qa 10), cell26_ k (Qa 10) (T 10), cell23_ k (Qa 10) (S 10), cell24_ k (Qa 10) (T 10), cell25_ k (Qa 10) (S 10), cell43_ (Qa 0) (S 11) (Qa 11), cell26_ k (Qa 11) (T 11), cell23_ k (Qa 11) (S 11), cell24_ k (Qa 11) (T 11), cell25_ k (Qa 11) (S 11), cell38_ (Qa 0) (S 12), cell40_ (Qa 0) (S 13), cell41_ (Qa 0) (S 14), cell48_ (Qa 0) (Qa 15) (S 15) (Qa 16) (T 15), cell0_ k (Qa 15) (S 15), cell1_ k (Qa 15) (S 15), cell36_ (Qa 16) (S 16), cell22_ (Qa 17) (S 17) (T 17), cell5_ k (Qa 17) (S 17), cell13_ k (Qa 17) (S 17), cell8_ k (Qa 17) (S 17), cell6_ k (Qa 17) (S 17), cell15_ k (Qa 17) (S 17), cell14_ k (Qa 17) (T 17), cell12_ k (Qa 17) (T 17), cell18_ k (Qa 17) (T 17), cell17_ k (Qa 17) (T 17), cell19_ k (Qa 17) (T 17), cell21_ k (Qa 17) (T 17), cell20_ k (Qa 17) (S 17), cell16_ k (Qa 17) (S 17), cell11_ k (Qa 17) (S 17), cell10_ k (Qa 17) (S 17), cell9_ k (Qa 17) (S 17), cell7_ k (Qa 17) (S 17)] H := hP
  have hD : va_D A [cell30_ (Qa 0) (S 0), cell28_ k (Qa 0) (S 0), cell29_ k (Qa 0) (S 0), cell37_ (Qa 0) (Qa 1) (S 1), cell27_ k (Qa 1) (S 1), cell39_ (Qa 0) (Qa 3) (Qa 2), cell5_ k (Qa 2) (S 2), cell33_ (Qa 3) (Qa 0) (S 3), cell46_ (Qa 0) (Qa 5) (Qa 4) (S 4), cell0_ k (Qa 4) (S 4), cell33_ (Qa 5) (Qa 0) (S 5), cell45_ (Qa 0) (S 6) (Qa 6), cell0_ k (Qa 6) (S 6), cell1_ k (Qa 6) (S 6), cell4_ k (Qa 6) (S 6), cell3_ k (Qa 6) (S 6), cell2_ k (Qa 6) (S 6), cell31_ (Qa 0) (S 7) (Qa 7), cell0_ k (Qa 7) (S 7), cell1_ k (Qa 7) (S 7), cell4_ k (Qa 7) (S 7), cell3_ k (Qa 7) (S 7), cell2_ k (Qa 7) (S 7), cell44_ (Qa 0) (S 8) (Qa 8), cell0_ k (Qa 8) (S 8), cell1_ k (Qa 8) (S 8), cell4_ k (Qa 8) (S 8), cell3_ k (Qa 8) (S 8), cell2_ k (Qa 8) (S 8), cell47_ (Qa 0) (Qa 9) (T 9), cell35_ k (Qa 9) (T 9), cell34_ k (Qa 9) (T 9), cell42_ (Qa 0) (S 10) (Qa 10), cell26_ k (Qa 10) (T 10), cell23_ k (Qa 10) (S 10), cell24_ k (Qa 10) (T 10), cell25_ k (Qa 10) (S 10), cell43_ (Qa 0) (S 11) (Qa 11), cell26_ k (Qa 11) (T 11), cell23_ k (Qa 11) (S 11), cell24_ k (Qa 11) (T 11), cell25_ k (Qa 11) (S 11), cell38_ (Qa 0) (S 12), cell40_ (Qa 0) (S 13), cell41_ (Qa 0) (S 14), cell48_ (Qa 0) (Qa 15) (S 15) (Qa 16) (T 15), cell0_ k (Qa 15) (S 15), cell1_ k (Qa 15) (S 15), cell36_ (Qa 16) (S 16), cell22_ (Qa 17) (S 17) (T 17), cell5_ k (Qa 17) (S 17), cell13_ k (Qa 17) (S 17), cell8_ k (Qa 17) (S 17), cell6_ k (Qa 17) (S 17), cell15_ k (Qa 17) (S 17), cell14_ k (Qa 17) (T 17), cell12_ k (Qa 17) (T 17), cell18_ k (Qa 17) (T 17), cell17_ k (Qa 17) (T 17), cell19_ k (Qa 17) (T 17), cell21_ k (Qa 17) (T 17), cell20_ k (Qa 17) (S 17), cell16_ k (Qa 17) (S 17), cell11_ k (Qa 17) (S 17), cell10_ k (Qa 17) (S 17), cell9_ k (Qa 17) (S 17), cell7_ k (Qa 17) (S 17)] := hD
  have hl : lv_has ls 4 [(3, .int v), (2, .ref ((Qa 17) 0)), (1, .ref ((Qa 0) 0)), (0, .ref b0)] := hl
  refine lv_aload_n hx hb dL_law_608 rfl (lv_at hl 2 rfl) ?_
  refine lv_aload_n hx hb dL_law_609 rfl (lv_at hl 3 rfl) ?_
  refine lv_iload_n hx hb dL_law_610 rfl (lv_at hl 0 rfl) ?_
  refine lv_iconst (v := 1) hx hb dL_law_611 (by decide) ?_
  refine lv_iadd hx hb dL_law_612 (lv_topi (fun v1 e1 => ?_))
  have t1 : v1.toInt = v.toInt + 1 := by rw [e1]; exact i_add rfl (by decide) (by omega) (by omega)
  have hn2 : vp_in v1 L := f_in (a := v1.toInt) rfl (by omega) (by omega)
  refine va_sld hx hb hX hbl hbA hS hn2 dL_law_613 (lv_topi (fun v3 e3 => ?_))
  have rgv3 := i_rng v3
  refine lv_aload_n hx hb dL_law_614 rfl (lv_at hl 3 rfl) ?_
  refine lv_iload_n hx hb dL_law_615 rfl (lv_at hl 0 rfl) ?_
  refine lv_iconst (v := 2) hx hb dL_law_616 (by decide) ?_
  refine lv_iadd hx hb dL_law_617 (lv_topi (fun v4 e4 => ?_))
  have t4 : v4.toInt = v.toInt + 2 := by rw [e4]; exact i_add rfl (by decide) (by omega) (by omega)
  have hn5 : vp_in v4 L := f_in (a := v4.toInt) rfl (by omega) (by omega)
  refine va_sld hx hb hX hbl hbA hS hn5 dL_law_618 (lv_topi (fun v6 e6 => ?_))
  have rgv6 := i_rng v6
  refine lv_aload_n hx hb dL_law_619 rfl (lv_at hl 3 rfl) ?_
  refine lv_iload_n hx hb dL_law_620 rfl (lv_at hl 0 rfl) ?_
  refine lv_iconst (v := 3) hx hb dL_law_621 (by decide) ?_
  refine lv_iadd hx hb dL_law_622 (lv_topi (fun v7 e7 => ?_))
  have t7 : v7.toInt = v.toInt + 3 := by rw [e7]; exact i_add rfl (by decide) (by omega) (by omega)
  have hn8 : vp_in v7 L := f_in (a := v7.toInt) rfl (by omega) (by omega)
  refine va_sld hx hb hX hbl hbA hS hn8 dL_law_623 (lv_topi (fun v9 e9 => ?_))
  have rgv9 := i_rng v9
  refine lv_aload_n hx hb dL_law_624 rfl (lv_at hl 3 rfl) ?_
  refine lv_iload_n hx hb dL_law_625 rfl (lv_at hl 0 rfl) ?_
  refine lv_iconst (v := 4) hx hb dL_law_626 (by decide) ?_
  refine lv_iadd hx hb dL_law_627 (lv_topi (fun v10 e10 => ?_))
  have t10 : v10.toInt = v.toInt + 4 := by rw [e10]; exact i_add rfl (by decide) (by omega) (by omega)
  have hn11 : vp_in v10 L := f_in (a := v10.toInt) rfl (by omega) (by omega)
  refine va_sld hx hb hX hbl hbA hS hn11 dL_law_628 (lv_topi (fun v12 e12 => ?_))
  have rgv12 := i_rng v12
  refine lv_aload_n hx hb dL_law_629 rfl (lv_at hl 3 rfl) ?_
  refine lv_iload_n hx hb dL_law_630 rfl (lv_at hl 0 rfl) ?_
  refine lv_iconst (v := 5) hx hb dL_law_631 (by decide) ?_
  refine lv_iadd hx hb dL_law_632 (lv_topi (fun v13 e13 => ?_))
  have t13 : v13.toInt = v.toInt + 5 := by rw [e13]; exact i_add rfl (by decide) (by omega) (by omega)
  have hn14 : vp_in v13 L := f_in (a := v13.toInt) rfl (by omega) (by omega)
  refine va_sld hx hb hX hbl hbA hS hn14 dL_law_633 (lv_topi (fun v15 e15 => ?_))
  have rgv15 := i_rng v15
  have hJ642 : ∀ (v16 : Int32) (H : Heap) (locs : List Loc) (ls : Array Slot), (0 ≤ v16.toInt ∧ v16.toInt ≤ 1) → (v16 = bo v15) → va_P D vwCl [cell30_ (Qa 0) (S 0), cell28_ k (Qa 0) (S 0), cell29_ k (Qa 0) (S 0), cell37_ (Qa 0) (Qa 1) (S 1), cell27_ k (Qa 1) (S 1), cell39_ (Qa 0) (Qa 3) (Qa 2), cell5_ k (Qa 2) (S 2), cell33_ (Qa 3) (Qa 0) (S 3), cell46_ (Qa 0) (Qa 5) (Qa 4) (S 4), cell0_ k (Qa 4) (S 4), cell33_ (Qa 5) (Qa 0) (S 5), cell45_ (Qa 0) (S 6) (Qa 6), cell0_ k (Qa 6) (S 6), cell1_ k (Qa 6) (S 6), cell4_ k (Qa 6) (S 6), cell3_ k (Qa 6) (S 6), cell2_ k (Qa 6) (S 6), cell31_ (Qa 0) (S 7) (Qa 7), cell0_ k (Qa 7) (S 7), cell1_ k (Qa 7) (S 7), cell4_ k (Qa 7) (S 7), cell3_ k (Qa 7) (S 7), cell2_ k (Qa 7) (S 7), cell44_ (Qa 0) (S 8) (Qa 8), cell0_ k (Qa 8) (S 8), cell1_ k (Qa 8) (S 8), cell4_ k (Qa 8) (S 8), cell3_ k (Qa 8) (S 8), cell2_ k (Qa 8) (S 8), cell47_ (Qa 0) (Qa 9) (T 9), cell35_ k (Qa 9) (T 9), cell34_ k (Qa 9) (T 9), cell42_ (Qa 0) (S 10) (Qa 10), cell26_ k (Qa 10) (T 10), cell23_ k (Qa 10) (S 10), cell24_ k (Qa 10) (T 10), cell25_ k (Qa 10) (S 10), cell43_ (Qa 0) (S 11) (Qa 11), cell26_ k (Qa 11) (T 11), cell23_ k (Qa 11) (S 11), cell24_ k (Qa 11) (T 11), cell25_ k (Qa 11) (S 11), cell38_ (Qa 0) (S 12), cell40_ (Qa 0) (S 13), cell41_ (Qa 0) (S 14), cell48_ (Qa 0) (Qa 15) (S 15) (Qa 16) (T 15), cell0_ k (Qa 15) (S 15), cell1_ k (Qa 15) (S 15), cell36_ (Qa 16) (S 16), cell22_ (Qa 17) (S 17) (T 17), cell5_ k (Qa 17) (S 17), cell13_ k (Qa 17) (S 17), cell8_ k (Qa 17) (S 17), cell6_ k (Qa 17) (S 17), cell15_ k (Qa 17) (S 17), cell14_ k (Qa 17) (T 17), cell12_ k (Qa 17) (T 17), cell18_ k (Qa 17) (T 17), cell17_ k (Qa 17) (T 17), cell19_ k (Qa 17) (T 17), cell21_ k (Qa 17) (T 17), cell20_ k (Qa 17) (S 17), cell16_ k (Qa 17) (S 17), cell11_ k (Qa 17) (S 17), cell10_ k (Qa 17) (S 17), cell9_ k (Qa 17) (S 17), cell7_ k (Qa 17) (S 17)] H → va_D A [cell30_ (Qa 0) (S 0), cell28_ k (Qa 0) (S 0), cell29_ k (Qa 0) (S 0), cell37_ (Qa 0) (Qa 1) (S 1), cell27_ k (Qa 1) (S 1), cell39_ (Qa 0) (Qa 3) (Qa 2), cell5_ k (Qa 2) (S 2), cell33_ (Qa 3) (Qa 0) (S 3), cell46_ (Qa 0) (Qa 5) (Qa 4) (S 4), cell0_ k (Qa 4) (S 4), cell33_ (Qa 5) (Qa 0) (S 5), cell45_ (Qa 0) (S 6) (Qa 6), cell0_ k (Qa 6) (S 6), cell1_ k (Qa 6) (S 6), cell4_ k (Qa 6) (S 6), cell3_ k (Qa 6) (S 6), cell2_ k (Qa 6) (S 6), cell31_ (Qa 0) (S 7) (Qa 7), cell0_ k (Qa 7) (S 7), cell1_ k (Qa 7) (S 7), cell4_ k (Qa 7) (S 7), cell3_ k (Qa 7) (S 7), cell2_ k (Qa 7) (S 7), cell44_ (Qa 0) (S 8) (Qa 8), cell0_ k (Qa 8) (S 8), cell1_ k (Qa 8) (S 8), cell4_ k (Qa 8) (S 8), cell3_ k (Qa 8) (S 8), cell2_ k (Qa 8) (S 8), cell47_ (Qa 0) (Qa 9) (T 9), cell35_ k (Qa 9) (T 9), cell34_ k (Qa 9) (T 9), cell42_ (Qa 0) (S 10) (Qa 10), cell26_ k (Qa 10) (T 10), cell23_ k (Qa 10) (S 10), cell24_ k (Qa 10) (T 10), cell25_ k (Qa 10) (S 10), cell43_ (Qa 0) (S 11) (Qa 11), cell26_ k (Qa 11) (T 11), cell23_ k (Qa 11) (S 11), cell24_ k (Qa 11) (T 11), cell25_ k (Qa 11) (S 11), cell38_ (Qa 0) (S 12), cell40_ (Qa 0) (S 13), cell41_ (Qa 0) (S 14), cell48_ (Qa 0) (Qa 15) (S 15) (Qa 16) (T 15), cell0_ k (Qa 15) (S 15), cell1_ k (Qa 15) (S 15), cell36_ (Qa 16) (S 16), cell22_ (Qa 17) (S 17) (T 17), cell5_ k (Qa 17) (S 17), cell13_ k (Qa 17) (S 17), cell8_ k (Qa 17) (S 17), cell6_ k (Qa 17) (S 17), cell15_ k (Qa 17) (S 17), cell14_ k (Qa 17) (T 17), cell12_ k (Qa 17) (T 17), cell18_ k (Qa 17) (T 17), cell17_ k (Qa 17) (T 17), cell19_ k (Qa 17) (T 17), cell21_ k (Qa 17) (T 17), cell20_ k (Qa 17) (S 17), cell16_ k (Qa 17) (S 17), cell11_ k (Qa 17) (S 17), cell10_ k (Qa 17) (S 17), cell9_ k (Qa 17) (S 17), cell7_ k (Qa 17) (S 17)] → va_S A s.heap H locs → lv_has ls 4 [(3, .int v), (2, .ref ((Qa 17) 0)), (1, .ref ((Qa 0) 0)), (0, .ref b0)] → W p l e room_1 s m #[Value.ref b0] below meth c H locs 67 11187 Q (F0 m 642 ls [.int v16, .int v12, .int v9, .int v6, .int v3, .ref ((Qa 0) 0)]) := by
    intro v16 H locs ls bv16 qb642 hP hD hS hl
    refine g_ir (g_runV (wc := [cell30_ (Qa 0) (S 0), cell28_ k (Qa 0) (S 0), cell29_ k (Qa 0) (S 0), cell31_ (Qa 0) (S 7) (Qa 7), cell0_ k (Qa 7) (S 7), cell1_ k (Qa 7) (S 7), cell4_ k (Qa 7) (S 7), cell3_ k (Qa 7) (S 7), cell2_ k (Qa 7) (S 7)]) (rest := []) cx hP hD hS [0, 1, 2, 17, 18, 19, 20, 21, 22] rfl (by decide) [.int v3, .int v6, .int v9, .int v12, .int v16] (c_X11_work l D k b (Qa 0) (S 0) (lq [0, (Qa 7) 1, (Qa 7) 2, (Qa 7) 3, (Qa 7) 4, (Qa 7) 5]) (lS [(lI [((S 7) 0 0), ((S 7) 0 1), 0, 0, 0, 0, ((S 7) 0 6), ((S 7) 0 7), ((S 7) 0 8), ((S 7) 0 9), ((S 7) 0 10), ((S 7) 0 11), ((S 7) 0 12)]), ((S 7) 1), ((S 7) 2), ((S 7) 3), ((S 7) 4), ((S 7) 5)]) H.size v3 v6 v9 v12 v16 (show 0 ≤ ((S 7) 0 0).toInt ∧ ((S 7) 0 0).toInt ≤ 5 from by first | decide | omega) (show 0 ≤ ((S 7) 0 1).toInt ∧ ((S 7) 0 1).toInt ≤ 4 from by first | decide | omega) (show 0 ≤ ((S 7) 0 12).toInt ∧ ((S 7) 0 12).toInt ≤ 5 from by first | decide | omega) h_of h_go) gL_law_X11_work rfl rfl rfl nd_X11_work ⟨Nat.le_of_ble_eq_true rfl, Nat.le_of_ble_eq_true rfl⟩ (ci := 9) (q0 := 0) rfl rfl rfl hl.1 rfl (Nat.le_of_ble_eq_true rfl) ⟨Nat.le_of_ble_eq_true rfl, Nat.le_of_ble_eq_true rfl⟩ dL_law_642) cx.2.2.1 hP hD hS [0, 1, 2, 17, 18, 19, 20, 21, 22] rfl rfl (fun r18 H locs hw17 hP hS => ?_)
    have w19 : r18 = J_X11_work (S 0) (lS [(lI [((S 7) 0 0), ((S 7) 0 1), 0, 0, 0, 0, ((S 7) 0 6), ((S 7) 0 7), ((S 7) 0 8), ((S 7) 0 9), ((S 7) 0 10), ((S 7) 0 11), ((S 7) 0 12)]), ((S 7) 1), ((S 7) 2), ((S 7) 3), ((S 7) 4), ((S 7) 5)]) v3 v6 v9 v12 v16 := hw17
    clear hw17
    refine lv_pop hx hb dL_law_645 rfl ?_
    refine lv_aload_n hx hb dL_law_646 rfl (lv_at hl 1 rfl) ?_
    refine lv_aload_n hx hb dL_law_647 rfl (lv_at hl 3 rfl) ?_
    refine lv_iload_n hx hb dL_law_648 rfl (lv_at hl 0 rfl) ?_
    refine lv_iconst (v := 1) hx hb dL_law_649 (by decide) ?_
    refine lv_iadd hx hb dL_law_650 (lv_topi (fun v20 e20 => ?_))
    have t20 : v20.toInt = v.toInt + 1 := by rw [e20]; exact i_add rfl (by decide) (by omega) (by omega)
    have hn21 : vp_in v20 L := f_in (a := v20.toInt) rfl (by omega) (by omega)
    refine va_sld hx hb hX hbl hbA hS hn21 dL_law_651 (lv_topi (fun v22 e22 => ?_))
    have qv22 : v22 = v3 := by rw [e22, e3, e20, e1]
    have qiv22 := congrArg Int32.toInt qv22
    have rgv22 := i_rng v22
    refine lv_aload_n hx hb dL_law_652 rfl (lv_at hl 3 rfl) ?_
    refine lv_iload_n hx hb dL_law_653 rfl (lv_at hl 0 rfl) ?_
    refine lv_iconst (v := 2) hx hb dL_law_654 (by decide) ?_
    refine lv_iadd hx hb dL_law_655 (lv_topi (fun v23 e23 => ?_))
    have t23 : v23.toInt = v.toInt + 2 := by rw [e23]; exact i_add rfl (by decide) (by omega) (by omega)
    have hn24 : vp_in v23 L := f_in (a := v23.toInt) rfl (by omega) (by omega)
    refine va_sld hx hb hX hbl hbA hS hn24 dL_law_656 (lv_topi (fun v25 e25 => ?_))
    have qv25 : v25 = v6 := by rw [e25, e6, e23, e4]
    have qiv25 := congrArg Int32.toInt qv25
    have rgv25 := i_rng v25
    refine lv_aload_n hx hb dL_law_657 rfl (lv_at hl 3 rfl) ?_
    refine lv_iload_n hx hb dL_law_658 rfl (lv_at hl 0 rfl) ?_
    refine lv_iconst (v := 3) hx hb dL_law_659 (by decide) ?_
    refine lv_iadd hx hb dL_law_660 (lv_topi (fun v26 e26 => ?_))
    have t26 : v26.toInt = v.toInt + 3 := by rw [e26]; exact i_add rfl (by decide) (by omega) (by omega)
    have hn27 : vp_in v26 L := f_in (a := v26.toInt) rfl (by omega) (by omega)
    refine va_sld hx hb hX hbl hbA hS hn27 dL_law_661 (lv_topi (fun v28 e28 => ?_))
    have qv28 : v28 = v9 := by rw [e28, e9, e26, e7]
    have qiv28 := congrArg Int32.toInt qv28
    have rgv28 := i_rng v28
    refine lv_aload_n hx hb dL_law_662 rfl (lv_at hl 3 rfl) ?_
    refine lv_iload_n hx hb dL_law_663 rfl (lv_at hl 0 rfl) ?_
    refine lv_iconst (v := 4) hx hb dL_law_664 (by decide) ?_
    refine lv_iadd hx hb dL_law_665 (lv_topi (fun v29 e29 => ?_))
    have t29 : v29.toInt = v.toInt + 4 := by rw [e29]; exact i_add rfl (by decide) (by omega) (by omega)
    have hn30 : vp_in v29 L := f_in (a := v29.toInt) rfl (by omega) (by omega)
    refine va_sld hx hb hX hbl hbA hS hn30 dL_law_666 (lv_topi (fun v31 e31 => ?_))
    have qv31 : v31 = v12 := by rw [e31, e12, e29, e10]
    have qiv31 := congrArg Int32.toInt qv31
    have rgv31 := i_rng v31
    refine lv_aload_n hx hb dL_law_667 rfl (lv_at hl 3 rfl) ?_
    refine lv_iload_n hx hb dL_law_668 rfl (lv_at hl 0 rfl) ?_
    refine lv_iconst (v := 5) hx hb dL_law_669 (by decide) ?_
    refine lv_iadd hx hb dL_law_670 (lv_topi (fun v32 e32 => ?_))
    have t32 : v32.toInt = v.toInt + 5 := by rw [e32]; exact i_add rfl (by decide) (by omega) (by omega)
    have hn33 : vp_in v32 L := f_in (a := v32.toInt) rfl (by omega) (by omega)
    refine va_sld hx hb hX hbl hbA hS hn33 dL_law_671 (lv_topi (fun v34 e34 => ?_))
    have qv34 : v34 = v15 := by rw [e34, e15, e32, e13]
    have qiv34 := congrArg Int32.toInt qv34
    have rgv34 := i_rng v34
    have hJ680 : ∀ (v35 : Int32) (H : Heap) (locs : List Loc) (ls : Array Slot), (0 ≤ v35.toInt ∧ v35.toInt ≤ 1) → (v35 = bo v34) → va_P D vwCl [cell30_ (Qa 0) (S 0), cell28_ k (Qa 0) (S 0), cell29_ k (Qa 0) (S 0), cell37_ (Qa 0) (Qa 1) (S 1), cell27_ k (Qa 1) (S 1), cell39_ (Qa 0) (Qa 3) (Qa 2), cell5_ k (Qa 2) (S 2), cell33_ (Qa 3) (Qa 0) (S 3), cell46_ (Qa 0) (Qa 5) (Qa 4) (S 4), cell0_ k (Qa 4) (S 4), cell33_ (Qa 5) (Qa 0) (S 5), cell45_ (Qa 0) (S 6) (Qa 6), cell0_ k (Qa 6) (S 6), cell1_ k (Qa 6) (S 6), cell4_ k (Qa 6) (S 6), cell3_ k (Qa 6) (S 6), cell2_ k (Qa 6) (S 6), cell31_ (Qa 0) (S 7) (Qa 7), cell0_ k (Qa 7) (S 7), cell1_ k (Qa 7) (S 7), cell4_ k (Qa 7) (S 7), cell3_ k (Qa 7) (S 7), cell2_ k (Qa 7) (S 7), cell44_ (Qa 0) (S 8) (Qa 8), cell0_ k (Qa 8) (S 8), cell1_ k (Qa 8) (S 8), cell4_ k (Qa 8) (S 8), cell3_ k (Qa 8) (S 8), cell2_ k (Qa 8) (S 8), cell47_ (Qa 0) (Qa 9) (T 9), cell35_ k (Qa 9) (T 9), cell34_ k (Qa 9) (T 9), cell42_ (Qa 0) (S 10) (Qa 10), cell26_ k (Qa 10) (T 10), cell23_ k (Qa 10) (S 10), cell24_ k (Qa 10) (T 10), cell25_ k (Qa 10) (S 10), cell43_ (Qa 0) (S 11) (Qa 11), cell26_ k (Qa 11) (T 11), cell23_ k (Qa 11) (S 11), cell24_ k (Qa 11) (T 11), cell25_ k (Qa 11) (S 11), cell38_ (Qa 0) (S 12), cell40_ (Qa 0) (S 13), cell41_ (Qa 0) (S 14), cell48_ (Qa 0) (Qa 15) (S 15) (Qa 16) (T 15), cell0_ k (Qa 15) (S 15), cell1_ k (Qa 15) (S 15), cell36_ (Qa 16) (S 16), cell22_ (Qa 17) (S 17) (T 17), cell5_ k (Qa 17) (S 17), cell13_ k (Qa 17) (S 17), cell8_ k (Qa 17) (S 17), cell6_ k (Qa 17) (S 17), cell15_ k (Qa 17) (S 17), cell14_ k (Qa 17) (T 17), cell12_ k (Qa 17) (T 17), cell18_ k (Qa 17) (T 17), cell17_ k (Qa 17) (T 17), cell19_ k (Qa 17) (T 17), cell21_ k (Qa 17) (T 17), cell20_ k (Qa 17) (S 17), cell16_ k (Qa 17) (S 17), cell11_ k (Qa 17) (S 17), cell10_ k (Qa 17) (S 17), cell9_ k (Qa 17) (S 17), cell7_ k (Qa 17) (S 17)] H → va_D A [cell30_ (Qa 0) (S 0), cell28_ k (Qa 0) (S 0), cell29_ k (Qa 0) (S 0), cell37_ (Qa 0) (Qa 1) (S 1), cell27_ k (Qa 1) (S 1), cell39_ (Qa 0) (Qa 3) (Qa 2), cell5_ k (Qa 2) (S 2), cell33_ (Qa 3) (Qa 0) (S 3), cell46_ (Qa 0) (Qa 5) (Qa 4) (S 4), cell0_ k (Qa 4) (S 4), cell33_ (Qa 5) (Qa 0) (S 5), cell45_ (Qa 0) (S 6) (Qa 6), cell0_ k (Qa 6) (S 6), cell1_ k (Qa 6) (S 6), cell4_ k (Qa 6) (S 6), cell3_ k (Qa 6) (S 6), cell2_ k (Qa 6) (S 6), cell31_ (Qa 0) (S 7) (Qa 7), cell0_ k (Qa 7) (S 7), cell1_ k (Qa 7) (S 7), cell4_ k (Qa 7) (S 7), cell3_ k (Qa 7) (S 7), cell2_ k (Qa 7) (S 7), cell44_ (Qa 0) (S 8) (Qa 8), cell0_ k (Qa 8) (S 8), cell1_ k (Qa 8) (S 8), cell4_ k (Qa 8) (S 8), cell3_ k (Qa 8) (S 8), cell2_ k (Qa 8) (S 8), cell47_ (Qa 0) (Qa 9) (T 9), cell35_ k (Qa 9) (T 9), cell34_ k (Qa 9) (T 9), cell42_ (Qa 0) (S 10) (Qa 10), cell26_ k (Qa 10) (T 10), cell23_ k (Qa 10) (S 10), cell24_ k (Qa 10) (T 10), cell25_ k (Qa 10) (S 10), cell43_ (Qa 0) (S 11) (Qa 11), cell26_ k (Qa 11) (T 11), cell23_ k (Qa 11) (S 11), cell24_ k (Qa 11) (T 11), cell25_ k (Qa 11) (S 11), cell38_ (Qa 0) (S 12), cell40_ (Qa 0) (S 13), cell41_ (Qa 0) (S 14), cell48_ (Qa 0) (Qa 15) (S 15) (Qa 16) (T 15), cell0_ k (Qa 15) (S 15), cell1_ k (Qa 15) (S 15), cell36_ (Qa 16) (S 16), cell22_ (Qa 17) (S 17) (T 17), cell5_ k (Qa 17) (S 17), cell13_ k (Qa 17) (S 17), cell8_ k (Qa 17) (S 17), cell6_ k (Qa 17) (S 17), cell15_ k (Qa 17) (S 17), cell14_ k (Qa 17) (T 17), cell12_ k (Qa 17) (T 17), cell18_ k (Qa 17) (T 17), cell17_ k (Qa 17) (T 17), cell19_ k (Qa 17) (T 17), cell21_ k (Qa 17) (T 17), cell20_ k (Qa 17) (S 17), cell16_ k (Qa 17) (S 17), cell11_ k (Qa 17) (S 17), cell10_ k (Qa 17) (S 17), cell9_ k (Qa 17) (S 17), cell7_ k (Qa 17) (S 17)] → va_S A s.heap H locs → lv_has ls 4 [(3, .int v), (2, .ref ((Qa 17) 0)), (1, .ref ((Qa 0) 0)), (0, .ref b0)] → W p l e room_1 s m #[Value.ref b0] below meth c H locs 67 11187 Q (F0 m 680 ls [.int v35, .int v31, .int v28, .int v25, .int v22, .ref ((Qa 17) 0)]) := by
      intro v35 H locs ls bv35 qb680 hP hD hS hl
      refine g_ir (g_runV (wc := [cell22_ (Qa 17) (S 17) (T 17), cell5_ k (Qa 17) (S 17), cell13_ k (Qa 17) (S 17), cell8_ k (Qa 17) (S 17), cell6_ k (Qa 17) (S 17), cell15_ k (Qa 17) (S 17), cell14_ k (Qa 17) (T 17), cell12_ k (Qa 17) (T 17), cell18_ k (Qa 17) (T 17), cell17_ k (Qa 17) (T 17), cell19_ k (Qa 17) (T 17), cell21_ k (Qa 17) (T 17), cell20_ k (Qa 17) (S 17), cell16_ k (Qa 17) (S 17), cell11_ k (Qa 17) (S 17), cell10_ k (Qa 17) (S 17), cell9_ k (Qa 17) (S 17), cell7_ k (Qa 17) (S 17)]) (rest := []) cx hP hD hS [49, 50, 51, 52, 53, 54, 55, 56, 57, 58, 59, 60, 61, 62, 63, 64, 65, 66] rfl (by decide) [.int v22, .int v25, .int v28, .int v31, .int v35] (c_X12_work l D k b (Qa 17) (S 17) (T 17) H.size v22 v25 v28 v31 v35 (show 0 ≤ (((S 17) 2) 0).toInt ∧ (((S 17) 2) 0).toInt ≤ 5 from by first | decide | omega) (show 0 ≤ (((S 17) 2) 1).toInt ∧ (((S 17) 2) 1).toInt ≤ 4 from by first | decide | omega)) gL_law_X12_work rfl rfl rfl nd_X12_work ⟨Nat.le_of_ble_eq_true rfl, Nat.le_of_ble_eq_true rfl⟩ (ci := 10) (q0 := 0) rfl rfl rfl hl.1 rfl (Nat.le_of_ble_eq_true rfl) ⟨Nat.le_of_ble_eq_true rfl, Nat.le_of_ble_eq_true rfl⟩ dL_law_680) cx.2.2.1 hP hD hS [49, 50, 51, 52, 53, 54, 55, 56, 57, 58, 59, 60, 61, 62, 63, 64, 65, 66] rfl rfl (fun r37 H locs hw36 hP hS => ?_)
      have w38 : r37 = J_X12_work (S 17) (T 17) v22 v25 v28 v31 v35 := hw36
      clear hw36
      have hok_ : HOK (S 7) (S 17) := ⟨vokw_of h_vk, h_rg, h_wk, h_hk, h_fl, h_of, h_go⟩
      have fr_ : r18.toInt = r37.toInt := by rw [w19, w38, qv22, qv25, qv28, qv31, (qb680.trans ((congrArg bo qv34).trans qb642.symm))]; exact congrArg Int32.toInt (work_alike hok_)
      refine lv_pop hx hb dL_law_683 rfl ?_
      refine lv_goto (tgt := 1548) hx hb dL_law_684 (by decide) ?_
      exact K S T _ _ _ (inv_mk ln u0 u_a u_3 u_16 d_of d_go h_wk h_hk h_fl h_of h_go h_su b_of b_go h_pl h_bp su_s_h su_s_w su_s_k su_s_x k1_s_h k1_s_w k1_s_k k1_s_x k2_s_h k2_s_w k2_s_k k2_s_x r_l r_a r_g m_ln m_at m_rw m_r0 m_r1 m_w0 m_k1 rel h_tx rel2 h_vk h_rg h_lv h_li h_wl h_kp h_a1 h_a2 h_b1 h_b2 h_ro h_tb h_nn h_rw) hP hD hS (lv_sub hl [0, 1, 2, 3] rfl)
    refine lv_if_eq (tgt := 679) hx hb dL_law_672 (by decide) (fun c39 => ?_) (fun c39 => ?_)
    · have f39 : v34.toInt = 0 := f_eq rfl (by decide) c39
      refine lv_iconst (v := 0) hx hb dL_law_679 (by decide) ?_
      have hlit40 : (0 : Int32).toInt = 0 := by decide
      exact hJ680 0 _ _ _ (by first | decide | omega) (by first | exact (if_pos (by assumption)).symm | exact (if_neg (by assumption)).symm) hP hD hS (lv_sub hl [0, 1, 2, 3] rfl)
    · have f39 : ¬ v34.toInt = 0 := f_ne rfl (by decide) c39
      refine lv_iconst (v := 1) hx hb dL_law_675 (by decide) ?_
      refine lv_goto (tgt := 680) hx hb dL_law_676 (by decide) ?_
      have hlit41 : (1 : Int32).toInt = 1 := by decide
      exact hJ680 1 _ _ _ (by first | decide | omega) (by first | exact (if_pos (by assumption)).symm | exact (if_neg (by assumption)).symm) hP hD hS (lv_sub hl [0, 1, 2, 3] rfl)
  refine lv_if_eq (tgt := 641) hx hb dL_law_634 (by decide) (fun c42 => ?_) (fun c42 => ?_)
  · have f42 : v15.toInt = 0 := f_eq rfl (by decide) c42
    refine lv_iconst (v := 0) hx hb dL_law_641 (by decide) ?_
    have hlit43 : (0 : Int32).toInt = 0 := by decide
    exact hJ642 0 _ _ _ (by first | decide | omega) (by first | exact (if_pos (by assumption)).symm | exact (if_neg (by assumption)).symm) hP hD hS (lv_sub hl [0, 1, 2, 3] rfl)
  · have f42 : ¬ v15.toInt = 0 := f_ne rfl (by decide) c42
    refine lv_iconst (v := 1) hx hb dL_law_637 (by decide) ?_
    refine lv_goto (tgt := 642) hx hb dL_law_638 (by decide) ?_
    have hlit44 : (1 : Int32).toInt = 1 := by decide
    exact hJ642 1 _ _ _ (by first | decide | omega) (by first | exact (if_pos (by assumption)).symm | exact (if_neg (by assumption)).symm) hP hD hS (lv_sub hl [0, 1, 2, 3] rfl)
theorem nd_X11_sunday : yX11_sunday.cls = RX11 ∧ yX11_sunday.cls ≠ "java/lang/invoke/MethodHandle" ∧ yX11_sunday.cls ≠ "java/lang/invoke/VarHandle" ∧ (parseMethodDescriptor yX11_sunday.desc).map (fun d => d.parameters.length) = some 3 := by decide +kernel
theorem nd_X12_sunday : yX12_sunday.cls = RX12 ∧ yX12_sunday.cls ≠ "java/lang/invoke/MethodHandle" ∧ yX12_sunday.cls ≠ "java/lang/invoke/VarHandle" ∧ (parseMethodDescriptor yX12_sunday.desc).map (fun d => d.parameters.length) = some 3 := by decide +kernel
set_option maxHeartbeats 8000000 in
set_option maxRecDepth 100000 in
theorem law_c13 {p : Program} {l : Launch} {e : Env} {s : State} {m : MethodId} {below : List Frame} {meth : Method} {c : Code} {Q : State → Prop} {A : Nat → Prop} {D : va_G} {k : Nat → ClassId} {b : Nat → Nat} {b0 L : Nat} {xs : Nat → Int32} (cx : Cx p s m #[Value.ref b0] c cL_law 4 wsL_law RL D k b A) (hX : va_X b0 L xs s s.heap) (hbl : b0 < s.heap.size) (hbA : ¬ A b0) (hL : L ≤ 384) (Qa : Nat → Nat → Nat) (v : Int32) (hv : 0 ≤ v.toInt ∧ v.toInt + 6 ≤ (L : Int)) (K : Kont p l e s m below meth c Q A D k b0 Qa v) (S : Nat → Nat → Nat → Int32) (T : Nat → Nat → Nat → Int64) (H : Heap) (locs : List Loc) (ls : Array Slot) (hI : INV S) (hP : va_P D vwCl (wX k Qa S T) H) (hD : va_D A (wX k Qa S T)) (hS : va_S A s.heap H locs) (hl : lv_has ls 4 [(3, .int v), (2, .ref (Qa 17 0)), (1, .ref (Qa 0 0)), (0, .ref b0)]) : W p l e room_1 s m #[Value.ref b0] below meth c H locs 67 11187 Q (F0 m 687 ls []) := by
  obtain ⟨ln, u0, u_a, u_3, u_16, d_of, d_go, h_wk, h_hk, h_fl, h_of, h_go, h_su, b_of, b_go, h_pl, h_bp, su_s_h, su_s_w, su_s_k, su_s_x, k1_s_h, k1_s_w, k1_s_k, k1_s_x, k2_s_h, k2_s_w, k2_s_k, k2_s_x, r_l, r_a, r_g, m_ln, m_at, m_rw, m_r0, m_r1, m_w0, m_k1, rel, h_tx, rel2, h_vk, h_rg, h_lv, h_li, h_wl, h_kp, h_a1, h_a2, h_b1, h_b2, h_ro, h_tb, h_nn, h_rw⟩ := hI
  have hx := cx.1.1
  have hb := cx.1.2.1
  have hP : va_P D vwCl [cell30_ (Qa 0) (S 0), cell28_ k (Qa 0) (S 0), cell29_ k (Qa 0) (S 0), cell37_ (Qa 0) (Qa 1) (S 1), cell27_ k (Qa 1) (S 1), cell39_ (Qa 0) (Qa 3) (Qa 2), cell5_ k (Qa 2) (S 2), cell33_ (Qa 3) (Qa 0) (S 3), cell46_ (Qa 0) (Qa 5) (Qa 4) (S 4), cell0_ k (Qa 4) (S 4), cell33_ (Qa 5) (Qa 0) (S 5), cell45_ (Qa 0) (S 6) (Qa 6), cell0_ k (Qa 6) (S 6), cell1_ k (Qa 6) (S 6), cell4_ k (Qa 6) (S 6), cell3_ k (Qa 6) (S 6), cell2_ k (Qa 6) (S 6), cell31_ (Qa 0) (S 7) (Qa 7), cell0_ k (Qa 7) (S 7), cell1_ k (Qa 7) (S 7), cell4_ k (Qa 7) (S 7), cell3_ k (Qa 7) (S 7), cell2_ k (Qa 7) (S 7), cell44_ (Qa 0) (S 8) (Qa 8), cell0_ k (Qa 8) (S 8), cell1_ k (Qa 8) (S 8), cell4_ k (Qa 8) (S 8), cell3_ k (Qa 8) (S 8), cell2_ k (Qa 8) (S 8), cell47_ (Qa 0) (Qa 9) (T 9), cell35_ k (Qa 9) (T 9), cell34_ k (Qa 9) (T 9), cell42_ (Qa 0) (S 10) (Qa 10), cell26_ k (Qa 10) (T 10), cell23_ k (Qa 10) (S 10), cell24_ k (Qa 10) (T 10), cell25_ k (Qa 10) (S 10), cell43_ (Qa 0) (S 11) (Qa 11), cell26_ k (Qa 11) (T 11), cell23_ k (Qa 11) (S 11), cell24_ k (Qa 11) (T 11), cell25_ k (Qa 11) (S 11), cell38_ (Qa 0) (S 12), cell40_ (Qa 0) (S 13), cell41_ (Qa 0) (S 14), cell48_ (Qa 0) (Qa 15) (S 15) (Qa 16) (T 15), cell0_ k (Qa 15) (S 15), cell1_ k (Qa 15) (S 15), cell36_ (Qa 16) (S 16), cell22_ (Qa 17) (S 17) (T 17), cell5_ k (Qa 17) (S 17), cell13_ k (Qa 17) (S 17), cell8_ k (Qa 17) (S 17), cell6_ k (Qa 17) (S 17), cell15_ k (Qa 17) (S 17), cell14_ k (Qa 17) (T 17), cell12_ k (Qa 17) (T 17), cell18_ k (Qa 17) (T 17), cell17_ k (Qa 17) (T 17), cell19_ k (Qa 17) (T 17), cell21_ k (Qa 17) (T 17), cell20_ k (Qa 17) (S 17), cell16_ k (Qa 17) (S 17), cell11_ k (Qa 17) (S 17), cell10_ k (Qa 17) (S 17), cell9_ k (Qa 17) (S 17), cell7_ k (Qa 17) (S 17)] H := hP
  have hD : va_D A [cell30_ (Qa 0) (S 0), cell28_ k (Qa 0) (S 0), cell29_ k (Qa 0) (S 0), cell37_ (Qa 0) (Qa 1) (S 1), cell27_ k (Qa 1) (S 1), cell39_ (Qa 0) (Qa 3) (Qa 2), cell5_ k (Qa 2) (S 2), cell33_ (Qa 3) (Qa 0) (S 3), cell46_ (Qa 0) (Qa 5) (Qa 4) (S 4), cell0_ k (Qa 4) (S 4), cell33_ (Qa 5) (Qa 0) (S 5), cell45_ (Qa 0) (S 6) (Qa 6), cell0_ k (Qa 6) (S 6), cell1_ k (Qa 6) (S 6), cell4_ k (Qa 6) (S 6), cell3_ k (Qa 6) (S 6), cell2_ k (Qa 6) (S 6), cell31_ (Qa 0) (S 7) (Qa 7), cell0_ k (Qa 7) (S 7), cell1_ k (Qa 7) (S 7), cell4_ k (Qa 7) (S 7), cell3_ k (Qa 7) (S 7), cell2_ k (Qa 7) (S 7), cell44_ (Qa 0) (S 8) (Qa 8), cell0_ k (Qa 8) (S 8), cell1_ k (Qa 8) (S 8), cell4_ k (Qa 8) (S 8), cell3_ k (Qa 8) (S 8), cell2_ k (Qa 8) (S 8), cell47_ (Qa 0) (Qa 9) (T 9), cell35_ k (Qa 9) (T 9), cell34_ k (Qa 9) (T 9), cell42_ (Qa 0) (S 10) (Qa 10), cell26_ k (Qa 10) (T 10), cell23_ k (Qa 10) (S 10), cell24_ k (Qa 10) (T 10), cell25_ k (Qa 10) (S 10), cell43_ (Qa 0) (S 11) (Qa 11), cell26_ k (Qa 11) (T 11), cell23_ k (Qa 11) (S 11), cell24_ k (Qa 11) (T 11), cell25_ k (Qa 11) (S 11), cell38_ (Qa 0) (S 12), cell40_ (Qa 0) (S 13), cell41_ (Qa 0) (S 14), cell48_ (Qa 0) (Qa 15) (S 15) (Qa 16) (T 15), cell0_ k (Qa 15) (S 15), cell1_ k (Qa 15) (S 15), cell36_ (Qa 16) (S 16), cell22_ (Qa 17) (S 17) (T 17), cell5_ k (Qa 17) (S 17), cell13_ k (Qa 17) (S 17), cell8_ k (Qa 17) (S 17), cell6_ k (Qa 17) (S 17), cell15_ k (Qa 17) (S 17), cell14_ k (Qa 17) (T 17), cell12_ k (Qa 17) (T 17), cell18_ k (Qa 17) (T 17), cell17_ k (Qa 17) (T 17), cell19_ k (Qa 17) (T 17), cell21_ k (Qa 17) (T 17), cell20_ k (Qa 17) (S 17), cell16_ k (Qa 17) (S 17), cell11_ k (Qa 17) (S 17), cell10_ k (Qa 17) (S 17), cell9_ k (Qa 17) (S 17), cell7_ k (Qa 17) (S 17)] := hD
  have hl : lv_has ls 4 [(3, .int v), (2, .ref ((Qa 17) 0)), (1, .ref ((Qa 0) 0)), (0, .ref b0)] := hl
  refine lv_aload_n hx hb dL_law_687 rfl (lv_at hl 2 rfl) ?_
  refine lv_aload_n hx hb dL_law_688 rfl (lv_at hl 3 rfl) ?_
  refine lv_iload_n hx hb dL_law_689 rfl (lv_at hl 0 rfl) ?_
  refine lv_iconst (v := 1) hx hb dL_law_690 (by decide) ?_
  refine lv_iadd hx hb dL_law_691 (lv_topi (fun v1 e1 => ?_))
  have t1 : v1.toInt = v.toInt + 1 := by rw [e1]; exact i_add rfl (by decide) (by omega) (by omega)
  have hn2 : vp_in v1 L := f_in (a := v1.toInt) rfl (by omega) (by omega)
  refine va_sld hx hb hX hbl hbA hS hn2 dL_law_692 (lv_topi (fun v3 e3 => ?_))
  have rgv3 := i_rng v3
  refine lv_aload_n hx hb dL_law_693 rfl (lv_at hl 3 rfl) ?_
  refine lv_iload_n hx hb dL_law_694 rfl (lv_at hl 0 rfl) ?_
  refine lv_iconst (v := 2) hx hb dL_law_695 (by decide) ?_
  refine lv_iadd hx hb dL_law_696 (lv_topi (fun v4 e4 => ?_))
  have t4 : v4.toInt = v.toInt + 2 := by rw [e4]; exact i_add rfl (by decide) (by omega) (by omega)
  have hn5 : vp_in v4 L := f_in (a := v4.toInt) rfl (by omega) (by omega)
  refine va_sld hx hb hX hbl hbA hS hn5 dL_law_697 (lv_topi (fun v6 e6 => ?_))
  have rgv6 := i_rng v6
  refine lv_aload_n hx hb dL_law_698 rfl (lv_at hl 3 rfl) ?_
  refine lv_iload_n hx hb dL_law_699 rfl (lv_at hl 0 rfl) ?_
  refine lv_iconst (v := 3) hx hb dL_law_700 (by decide) ?_
  refine lv_iadd hx hb dL_law_701 (lv_topi (fun v7 e7 => ?_))
  have t7 : v7.toInt = v.toInt + 3 := by rw [e7]; exact i_add rfl (by decide) (by omega) (by omega)
  have hn8 : vp_in v7 L := f_in (a := v7.toInt) rfl (by omega) (by omega)
  refine va_sld hx hb hX hbl hbA hS hn8 dL_law_702 (lv_topi (fun v9 e9 => ?_))
  have rgv9 := i_rng v9
  have hJ711 : ∀ (v10 : Int32) (H : Heap) (locs : List Loc) (ls : Array Slot), (0 ≤ v10.toInt ∧ v10.toInt ≤ 1) → (v10 = bo v9) → va_P D vwCl [cell30_ (Qa 0) (S 0), cell28_ k (Qa 0) (S 0), cell29_ k (Qa 0) (S 0), cell37_ (Qa 0) (Qa 1) (S 1), cell27_ k (Qa 1) (S 1), cell39_ (Qa 0) (Qa 3) (Qa 2), cell5_ k (Qa 2) (S 2), cell33_ (Qa 3) (Qa 0) (S 3), cell46_ (Qa 0) (Qa 5) (Qa 4) (S 4), cell0_ k (Qa 4) (S 4), cell33_ (Qa 5) (Qa 0) (S 5), cell45_ (Qa 0) (S 6) (Qa 6), cell0_ k (Qa 6) (S 6), cell1_ k (Qa 6) (S 6), cell4_ k (Qa 6) (S 6), cell3_ k (Qa 6) (S 6), cell2_ k (Qa 6) (S 6), cell31_ (Qa 0) (S 7) (Qa 7), cell0_ k (Qa 7) (S 7), cell1_ k (Qa 7) (S 7), cell4_ k (Qa 7) (S 7), cell3_ k (Qa 7) (S 7), cell2_ k (Qa 7) (S 7), cell44_ (Qa 0) (S 8) (Qa 8), cell0_ k (Qa 8) (S 8), cell1_ k (Qa 8) (S 8), cell4_ k (Qa 8) (S 8), cell3_ k (Qa 8) (S 8), cell2_ k (Qa 8) (S 8), cell47_ (Qa 0) (Qa 9) (T 9), cell35_ k (Qa 9) (T 9), cell34_ k (Qa 9) (T 9), cell42_ (Qa 0) (S 10) (Qa 10), cell26_ k (Qa 10) (T 10), cell23_ k (Qa 10) (S 10), cell24_ k (Qa 10) (T 10), cell25_ k (Qa 10) (S 10), cell43_ (Qa 0) (S 11) (Qa 11), cell26_ k (Qa 11) (T 11), cell23_ k (Qa 11) (S 11), cell24_ k (Qa 11) (T 11), cell25_ k (Qa 11) (S 11), cell38_ (Qa 0) (S 12), cell40_ (Qa 0) (S 13), cell41_ (Qa 0) (S 14), cell48_ (Qa 0) (Qa 15) (S 15) (Qa 16) (T 15), cell0_ k (Qa 15) (S 15), cell1_ k (Qa 15) (S 15), cell36_ (Qa 16) (S 16), cell22_ (Qa 17) (S 17) (T 17), cell5_ k (Qa 17) (S 17), cell13_ k (Qa 17) (S 17), cell8_ k (Qa 17) (S 17), cell6_ k (Qa 17) (S 17), cell15_ k (Qa 17) (S 17), cell14_ k (Qa 17) (T 17), cell12_ k (Qa 17) (T 17), cell18_ k (Qa 17) (T 17), cell17_ k (Qa 17) (T 17), cell19_ k (Qa 17) (T 17), cell21_ k (Qa 17) (T 17), cell20_ k (Qa 17) (S 17), cell16_ k (Qa 17) (S 17), cell11_ k (Qa 17) (S 17), cell10_ k (Qa 17) (S 17), cell9_ k (Qa 17) (S 17), cell7_ k (Qa 17) (S 17)] H → va_D A [cell30_ (Qa 0) (S 0), cell28_ k (Qa 0) (S 0), cell29_ k (Qa 0) (S 0), cell37_ (Qa 0) (Qa 1) (S 1), cell27_ k (Qa 1) (S 1), cell39_ (Qa 0) (Qa 3) (Qa 2), cell5_ k (Qa 2) (S 2), cell33_ (Qa 3) (Qa 0) (S 3), cell46_ (Qa 0) (Qa 5) (Qa 4) (S 4), cell0_ k (Qa 4) (S 4), cell33_ (Qa 5) (Qa 0) (S 5), cell45_ (Qa 0) (S 6) (Qa 6), cell0_ k (Qa 6) (S 6), cell1_ k (Qa 6) (S 6), cell4_ k (Qa 6) (S 6), cell3_ k (Qa 6) (S 6), cell2_ k (Qa 6) (S 6), cell31_ (Qa 0) (S 7) (Qa 7), cell0_ k (Qa 7) (S 7), cell1_ k (Qa 7) (S 7), cell4_ k (Qa 7) (S 7), cell3_ k (Qa 7) (S 7), cell2_ k (Qa 7) (S 7), cell44_ (Qa 0) (S 8) (Qa 8), cell0_ k (Qa 8) (S 8), cell1_ k (Qa 8) (S 8), cell4_ k (Qa 8) (S 8), cell3_ k (Qa 8) (S 8), cell2_ k (Qa 8) (S 8), cell47_ (Qa 0) (Qa 9) (T 9), cell35_ k (Qa 9) (T 9), cell34_ k (Qa 9) (T 9), cell42_ (Qa 0) (S 10) (Qa 10), cell26_ k (Qa 10) (T 10), cell23_ k (Qa 10) (S 10), cell24_ k (Qa 10) (T 10), cell25_ k (Qa 10) (S 10), cell43_ (Qa 0) (S 11) (Qa 11), cell26_ k (Qa 11) (T 11), cell23_ k (Qa 11) (S 11), cell24_ k (Qa 11) (T 11), cell25_ k (Qa 11) (S 11), cell38_ (Qa 0) (S 12), cell40_ (Qa 0) (S 13), cell41_ (Qa 0) (S 14), cell48_ (Qa 0) (Qa 15) (S 15) (Qa 16) (T 15), cell0_ k (Qa 15) (S 15), cell1_ k (Qa 15) (S 15), cell36_ (Qa 16) (S 16), cell22_ (Qa 17) (S 17) (T 17), cell5_ k (Qa 17) (S 17), cell13_ k (Qa 17) (S 17), cell8_ k (Qa 17) (S 17), cell6_ k (Qa 17) (S 17), cell15_ k (Qa 17) (S 17), cell14_ k (Qa 17) (T 17), cell12_ k (Qa 17) (T 17), cell18_ k (Qa 17) (T 17), cell17_ k (Qa 17) (T 17), cell19_ k (Qa 17) (T 17), cell21_ k (Qa 17) (T 17), cell20_ k (Qa 17) (S 17), cell16_ k (Qa 17) (S 17), cell11_ k (Qa 17) (S 17), cell10_ k (Qa 17) (S 17), cell9_ k (Qa 17) (S 17), cell7_ k (Qa 17) (S 17)] → va_S A s.heap H locs → lv_has ls 4 [(3, .int v), (2, .ref ((Qa 17) 0)), (1, .ref ((Qa 0) 0)), (0, .ref b0)] → W p l e room_1 s m #[Value.ref b0] below meth c H locs 67 11187 Q (F0 m 711 ls [.int v10, .int v6, .int v3, .ref ((Qa 0) 0)]) := by
    intro v10 H locs ls bv10 qb711 hP hD hS hl
    refine g_lr (g_runV (wc := [cell30_ (Qa 0) (S 0), cell28_ k (Qa 0) (S 0), cell29_ k (Qa 0) (S 0), cell31_ (Qa 0) (S 7) (Qa 7), cell0_ k (Qa 7) (S 7), cell1_ k (Qa 7) (S 7), cell4_ k (Qa 7) (S 7), cell3_ k (Qa 7) (S 7), cell2_ k (Qa 7) (S 7)]) (rest := []) cx hP hD hS [0, 1, 2, 17, 18, 19, 20, 21, 22] rfl (by decide) [.int v3, .int v6, .int v10] (c_X11_sunday l D k b (Qa 0) (S 0) (lq [0, (Qa 7) 1, (Qa 7) 2, (Qa 7) 3, (Qa 7) 4, (Qa 7) 5]) (lS [(lI [((S 7) 0 0), ((S 7) 0 1), 0, 0, 0, 0, ((S 7) 0 6), ((S 7) 0 7), ((S 7) 0 8), ((S 7) 0 9), ((S 7) 0 10), ((S 7) 0 11), ((S 7) 0 12)]), ((S 7) 1), ((S 7) 2), ((S 7) 3), ((S 7) 4), ((S 7) 5)]) H.size v3 v6 v10 (show 0 ≤ ((S 7) 0 0).toInt ∧ ((S 7) 0 0).toInt ≤ 5 from by first | decide | omega) (show 0 ≤ ((S 7) 0 1).toInt ∧ ((S 7) 0 1).toInt ≤ 4 from by first | decide | omega) (show 0 ≤ ((S 7) 0 12).toInt ∧ ((S 7) 0 12).toInt ≤ 5 from by first | decide | omega) h_of h_go (show SUok ((S 7) 5) from by assumption)) gL_law_X11_sunday rfl rfl rfl nd_X11_sunday ⟨Nat.le_of_ble_eq_true rfl, Nat.le_of_ble_eq_true rfl⟩ (ci := 9) (q0 := 0) rfl rfl rfl hl.1 rfl (Nat.le_of_ble_eq_true rfl) ⟨Nat.le_of_ble_eq_true rfl, Nat.le_of_ble_eq_true rfl⟩ dL_law_711) cx.2.2.1 hP hD hS [0, 1, 2, 17, 18, 19, 20, 21, 22] rfl rfl (fun r12 H locs hw11 hP hS => ?_)
    clear hw11
    refine lv_pop2_2 hx hb dL_law_714 rfl ?_
    refine lv_aload_n hx hb dL_law_715 rfl (lv_at hl 1 rfl) ?_
    refine lv_aload_n hx hb dL_law_716 rfl (lv_at hl 3 rfl) ?_
    refine lv_iload_n hx hb dL_law_717 rfl (lv_at hl 0 rfl) ?_
    refine lv_iconst (v := 1) hx hb dL_law_718 (by decide) ?_
    refine lv_iadd hx hb dL_law_719 (lv_topi (fun v13 e13 => ?_))
    have t13 : v13.toInt = v.toInt + 1 := by rw [e13]; exact i_add rfl (by decide) (by omega) (by omega)
    have hn14 : vp_in v13 L := f_in (a := v13.toInt) rfl (by omega) (by omega)
    refine va_sld hx hb hX hbl hbA hS hn14 dL_law_720 (lv_topi (fun v15 e15 => ?_))
    have qv15 : v15 = v3 := by rw [e15, e3, e13, e1]
    have qiv15 := congrArg Int32.toInt qv15
    have rgv15 := i_rng v15
    refine lv_aload_n hx hb dL_law_721 rfl (lv_at hl 3 rfl) ?_
    refine lv_iload_n hx hb dL_law_722 rfl (lv_at hl 0 rfl) ?_
    refine lv_iconst (v := 2) hx hb dL_law_723 (by decide) ?_
    refine lv_iadd hx hb dL_law_724 (lv_topi (fun v16 e16 => ?_))
    have t16 : v16.toInt = v.toInt + 2 := by rw [e16]; exact i_add rfl (by decide) (by omega) (by omega)
    have hn17 : vp_in v16 L := f_in (a := v16.toInt) rfl (by omega) (by omega)
    refine va_sld hx hb hX hbl hbA hS hn17 dL_law_725 (lv_topi (fun v18 e18 => ?_))
    have qv18 : v18 = v6 := by rw [e18, e6, e16, e4]
    have qiv18 := congrArg Int32.toInt qv18
    have rgv18 := i_rng v18
    refine lv_aload_n hx hb dL_law_726 rfl (lv_at hl 3 rfl) ?_
    refine lv_iload_n hx hb dL_law_727 rfl (lv_at hl 0 rfl) ?_
    refine lv_iconst (v := 3) hx hb dL_law_728 (by decide) ?_
    refine lv_iadd hx hb dL_law_729 (lv_topi (fun v19 e19 => ?_))
    have t19 : v19.toInt = v.toInt + 3 := by rw [e19]; exact i_add rfl (by decide) (by omega) (by omega)
    have hn20 : vp_in v19 L := f_in (a := v19.toInt) rfl (by omega) (by omega)
    refine va_sld hx hb hX hbl hbA hS hn20 dL_law_730 (lv_topi (fun v21 e21 => ?_))
    have qv21 : v21 = v9 := by rw [e21, e9, e19, e7]
    have qiv21 := congrArg Int32.toInt qv21
    have rgv21 := i_rng v21
    have hJ739 : ∀ (v22 : Int32) (H : Heap) (locs : List Loc) (ls : Array Slot), (0 ≤ v22.toInt ∧ v22.toInt ≤ 1) → (v22 = bo v21) → va_P D vwCl [cell30_ (Qa 0) (S 0), cell28_ k (Qa 0) (S 0), cell29_ k (Qa 0) (S 0), cell37_ (Qa 0) (Qa 1) (S 1), cell27_ k (Qa 1) (S 1), cell39_ (Qa 0) (Qa 3) (Qa 2), cell5_ k (Qa 2) (S 2), cell33_ (Qa 3) (Qa 0) (S 3), cell46_ (Qa 0) (Qa 5) (Qa 4) (S 4), cell0_ k (Qa 4) (S 4), cell33_ (Qa 5) (Qa 0) (S 5), cell45_ (Qa 0) (S 6) (Qa 6), cell0_ k (Qa 6) (S 6), cell1_ k (Qa 6) (S 6), cell4_ k (Qa 6) (S 6), cell3_ k (Qa 6) (S 6), cell2_ k (Qa 6) (S 6), cell31_ (Qa 0) (S 7) (Qa 7), cell0_ k (Qa 7) (S 7), cell1_ k (Qa 7) (S 7), cell4_ k (Qa 7) (S 7), cell3_ k (Qa 7) (S 7), cell2_ k (Qa 7) (S 7), cell44_ (Qa 0) (S 8) (Qa 8), cell0_ k (Qa 8) (S 8), cell1_ k (Qa 8) (S 8), cell4_ k (Qa 8) (S 8), cell3_ k (Qa 8) (S 8), cell2_ k (Qa 8) (S 8), cell47_ (Qa 0) (Qa 9) (T 9), cell35_ k (Qa 9) (T 9), cell34_ k (Qa 9) (T 9), cell42_ (Qa 0) (S 10) (Qa 10), cell26_ k (Qa 10) (T 10), cell23_ k (Qa 10) (S 10), cell24_ k (Qa 10) (T 10), cell25_ k (Qa 10) (S 10), cell43_ (Qa 0) (S 11) (Qa 11), cell26_ k (Qa 11) (T 11), cell23_ k (Qa 11) (S 11), cell24_ k (Qa 11) (T 11), cell25_ k (Qa 11) (S 11), cell38_ (Qa 0) (S 12), cell40_ (Qa 0) (S 13), cell41_ (Qa 0) (S 14), cell48_ (Qa 0) (Qa 15) (S 15) (Qa 16) (T 15), cell0_ k (Qa 15) (S 15), cell1_ k (Qa 15) (S 15), cell36_ (Qa 16) (S 16), cell22_ (Qa 17) (S 17) (T 17), cell5_ k (Qa 17) (S 17), cell13_ k (Qa 17) (S 17), cell8_ k (Qa 17) (S 17), cell6_ k (Qa 17) (S 17), cell15_ k (Qa 17) (S 17), cell14_ k (Qa 17) (T 17), cell12_ k (Qa 17) (T 17), cell18_ k (Qa 17) (T 17), cell17_ k (Qa 17) (T 17), cell19_ k (Qa 17) (T 17), cell21_ k (Qa 17) (T 17), cell20_ k (Qa 17) (S 17), cell16_ k (Qa 17) (S 17), cell11_ k (Qa 17) (S 17), cell10_ k (Qa 17) (S 17), cell9_ k (Qa 17) (S 17), cell7_ k (Qa 17) (S 17)] H → va_D A [cell30_ (Qa 0) (S 0), cell28_ k (Qa 0) (S 0), cell29_ k (Qa 0) (S 0), cell37_ (Qa 0) (Qa 1) (S 1), cell27_ k (Qa 1) (S 1), cell39_ (Qa 0) (Qa 3) (Qa 2), cell5_ k (Qa 2) (S 2), cell33_ (Qa 3) (Qa 0) (S 3), cell46_ (Qa 0) (Qa 5) (Qa 4) (S 4), cell0_ k (Qa 4) (S 4), cell33_ (Qa 5) (Qa 0) (S 5), cell45_ (Qa 0) (S 6) (Qa 6), cell0_ k (Qa 6) (S 6), cell1_ k (Qa 6) (S 6), cell4_ k (Qa 6) (S 6), cell3_ k (Qa 6) (S 6), cell2_ k (Qa 6) (S 6), cell31_ (Qa 0) (S 7) (Qa 7), cell0_ k (Qa 7) (S 7), cell1_ k (Qa 7) (S 7), cell4_ k (Qa 7) (S 7), cell3_ k (Qa 7) (S 7), cell2_ k (Qa 7) (S 7), cell44_ (Qa 0) (S 8) (Qa 8), cell0_ k (Qa 8) (S 8), cell1_ k (Qa 8) (S 8), cell4_ k (Qa 8) (S 8), cell3_ k (Qa 8) (S 8), cell2_ k (Qa 8) (S 8), cell47_ (Qa 0) (Qa 9) (T 9), cell35_ k (Qa 9) (T 9), cell34_ k (Qa 9) (T 9), cell42_ (Qa 0) (S 10) (Qa 10), cell26_ k (Qa 10) (T 10), cell23_ k (Qa 10) (S 10), cell24_ k (Qa 10) (T 10), cell25_ k (Qa 10) (S 10), cell43_ (Qa 0) (S 11) (Qa 11), cell26_ k (Qa 11) (T 11), cell23_ k (Qa 11) (S 11), cell24_ k (Qa 11) (T 11), cell25_ k (Qa 11) (S 11), cell38_ (Qa 0) (S 12), cell40_ (Qa 0) (S 13), cell41_ (Qa 0) (S 14), cell48_ (Qa 0) (Qa 15) (S 15) (Qa 16) (T 15), cell0_ k (Qa 15) (S 15), cell1_ k (Qa 15) (S 15), cell36_ (Qa 16) (S 16), cell22_ (Qa 17) (S 17) (T 17), cell5_ k (Qa 17) (S 17), cell13_ k (Qa 17) (S 17), cell8_ k (Qa 17) (S 17), cell6_ k (Qa 17) (S 17), cell15_ k (Qa 17) (S 17), cell14_ k (Qa 17) (T 17), cell12_ k (Qa 17) (T 17), cell18_ k (Qa 17) (T 17), cell17_ k (Qa 17) (T 17), cell19_ k (Qa 17) (T 17), cell21_ k (Qa 17) (T 17), cell20_ k (Qa 17) (S 17), cell16_ k (Qa 17) (S 17), cell11_ k (Qa 17) (S 17), cell10_ k (Qa 17) (S 17), cell9_ k (Qa 17) (S 17), cell7_ k (Qa 17) (S 17)] → va_S A s.heap H locs → lv_has ls 4 [(3, .int v), (2, .ref ((Qa 17) 0)), (1, .ref ((Qa 0) 0)), (0, .ref b0)] → W p l e room_1 s m #[Value.ref b0] below meth c H locs 67 11187 Q (F0 m 739 ls [.int v22, .int v18, .int v15, .ref ((Qa 17) 0)]) := by
      intro v22 H locs ls bv22 qb739 hP hD hS hl
      refine g_lr (g_runV (wc := [cell22_ (Qa 17) (S 17) (T 17), cell5_ k (Qa 17) (S 17), cell13_ k (Qa 17) (S 17), cell8_ k (Qa 17) (S 17), cell6_ k (Qa 17) (S 17), cell15_ k (Qa 17) (S 17), cell14_ k (Qa 17) (T 17), cell12_ k (Qa 17) (T 17), cell18_ k (Qa 17) (T 17), cell17_ k (Qa 17) (T 17), cell19_ k (Qa 17) (T 17), cell21_ k (Qa 17) (T 17), cell20_ k (Qa 17) (S 17), cell16_ k (Qa 17) (S 17), cell11_ k (Qa 17) (S 17), cell10_ k (Qa 17) (S 17), cell9_ k (Qa 17) (S 17), cell7_ k (Qa 17) (S 17)]) (rest := []) cx hP hD hS [49, 50, 51, 52, 53, 54, 55, 56, 57, 58, 59, 60, 61, 62, 63, 64, 65, 66] rfl (by decide) [.int v15, .int v18, .int v22] (c_X12_sunday l D k b (Qa 17) (S 17) (T 17) H.size v15 v18 v22 (show 0 ≤ (((S 17) 2) 1).toInt ∧ (((S 17) 2) 1).toInt ≤ 4 from by first | decide | omega)) gL_law_X12_sunday rfl rfl rfl nd_X12_sunday ⟨Nat.le_of_ble_eq_true rfl, Nat.le_of_ble_eq_true rfl⟩ (ci := 10) (q0 := 0) rfl rfl rfl hl.1 rfl (Nat.le_of_ble_eq_true rfl) ⟨Nat.le_of_ble_eq_true rfl, Nat.le_of_ble_eq_true rfl⟩ dL_law_739) cx.2.2.1 hP hD hS [49, 50, 51, 52, 53, 54, 55, 56, 57, 58, 59, 60, 61, 62, 63, 64, 65, 66] rfl rfl (fun r24 H locs hw23 hP hS => ?_)
      clear hw23
      refine lv_pop2_2 hx hb dL_law_742 rfl ?_
      refine lv_goto (tgt := 1548) hx hb dL_law_743 (by decide) ?_
      exact K S T _ _ _ (inv_mk ln u0 u_a u_3 u_16 d_of d_go h_wk h_hk h_fl h_of h_go h_su b_of b_go h_pl h_bp su_s_h su_s_w su_s_k su_s_x k1_s_h k1_s_w k1_s_k k1_s_x k2_s_h k2_s_w k2_s_k k2_s_x r_l r_a r_g m_ln m_at m_rw m_r0 m_r1 m_w0 m_k1 rel h_tx rel2 h_vk h_rg h_lv h_li h_wl h_kp h_a1 h_a2 h_b1 h_b2 h_ro h_tb h_nn h_rw) hP hD hS (lv_sub hl [0, 1, 2, 3] rfl)
    refine lv_if_eq (tgt := 738) hx hb dL_law_731 (by decide) (fun c25 => ?_) (fun c25 => ?_)
    · have f25 : v21.toInt = 0 := f_eq rfl (by decide) c25
      refine lv_iconst (v := 0) hx hb dL_law_738 (by decide) ?_
      have hlit26 : (0 : Int32).toInt = 0 := by decide
      exact hJ739 0 _ _ _ (by first | decide | omega) (by first | exact (if_pos (by assumption)).symm | exact (if_neg (by assumption)).symm) hP hD hS (lv_sub hl [0, 1, 2, 3] rfl)
    · have f25 : ¬ v21.toInt = 0 := f_ne rfl (by decide) c25
      refine lv_iconst (v := 1) hx hb dL_law_734 (by decide) ?_
      refine lv_goto (tgt := 739) hx hb dL_law_735 (by decide) ?_
      have hlit27 : (1 : Int32).toInt = 1 := by decide
      exact hJ739 1 _ _ _ (by first | decide | omega) (by first | exact (if_pos (by assumption)).symm | exact (if_neg (by assumption)).symm) hP hD hS (lv_sub hl [0, 1, 2, 3] rfl)
  refine lv_if_eq (tgt := 710) hx hb dL_law_703 (by decide) (fun c28 => ?_) (fun c28 => ?_)
  · have f28 : v9.toInt = 0 := f_eq rfl (by decide) c28
    refine lv_iconst (v := 0) hx hb dL_law_710 (by decide) ?_
    have hlit29 : (0 : Int32).toInt = 0 := by decide
    exact hJ711 0 _ _ _ (by first | decide | omega) (by first | exact (if_pos (by assumption)).symm | exact (if_neg (by assumption)).symm) hP hD hS (lv_sub hl [0, 1, 2, 3] rfl)
  · have f28 : ¬ v9.toInt = 0 := f_ne rfl (by decide) c28
    refine lv_iconst (v := 1) hx hb dL_law_706 (by decide) ?_
    refine lv_goto (tgt := 711) hx hb dL_law_707 (by decide) ?_
    have hlit30 : (1 : Int32).toInt = 1 := by decide
    exact hJ711 1 _ _ _ (by first | decide | omega) (by first | exact (if_pos (by assumption)).symm | exact (if_neg (by assumption)).symm) hP hD hS (lv_sub hl [0, 1, 2, 3] rfl)
theorem nd_X11_takes : yX11_takes.cls = RX11 ∧ yX11_takes.cls ≠ "java/lang/invoke/MethodHandle" ∧ yX11_takes.cls ≠ "java/lang/invoke/VarHandle" ∧ (parseMethodDescriptor yX11_takes.desc).map (fun d => d.parameters.length) = some 3 := by decide +kernel
theorem nd_X12_takes : yX12_takes.cls = RX12 ∧ yX12_takes.cls ≠ "java/lang/invoke/MethodHandle" ∧ yX12_takes.cls ≠ "java/lang/invoke/VarHandle" ∧ (parseMethodDescriptor yX12_takes.desc).map (fun d => d.parameters.length) = some 3 := by decide +kernel
set_option maxHeartbeats 8000000 in
set_option maxRecDepth 100000 in
theorem law_c14 {p : Program} {l : Launch} {e : Env} {s : State} {m : MethodId} {below : List Frame} {meth : Method} {c : Code} {Q : State → Prop} {A : Nat → Prop} {D : va_G} {k : Nat → ClassId} {b : Nat → Nat} {b0 L : Nat} {xs : Nat → Int32} (cx : Cx p s m #[Value.ref b0] c cL_law 4 wsL_law RL D k b A) (hX : va_X b0 L xs s s.heap) (hbl : b0 < s.heap.size) (hbA : ¬ A b0) (hL : L ≤ 384) (Qa : Nat → Nat → Nat) (v : Int32) (hv : 0 ≤ v.toInt ∧ v.toInt + 6 ≤ (L : Int)) (K : Kont p l e s m below meth c Q A D k b0 Qa v) (S : Nat → Nat → Nat → Int32) (T : Nat → Nat → Nat → Int64) (H : Heap) (locs : List Loc) (ls : Array Slot) (hI : INV S) (hP : va_P D vwCl (wX k Qa S T) H) (hD : va_D A (wX k Qa S T)) (hS : va_S A s.heap H locs) (hl : lv_has ls 4 [(3, .int v), (2, .ref (Qa 17 0)), (1, .ref (Qa 0 0)), (0, .ref b0)]) : W p l e room_1 s m #[Value.ref b0] below meth c H locs 67 11187 Q (F0 m 746 ls []) := by
  obtain ⟨ln, u0, u_a, u_3, u_16, d_of, d_go, h_wk, h_hk, h_fl, h_of, h_go, h_su, b_of, b_go, h_pl, h_bp, su_s_h, su_s_w, su_s_k, su_s_x, k1_s_h, k1_s_w, k1_s_k, k1_s_x, k2_s_h, k2_s_w, k2_s_k, k2_s_x, r_l, r_a, r_g, m_ln, m_at, m_rw, m_r0, m_r1, m_w0, m_k1, rel, h_tx, rel2, h_vk, h_rg, h_lv, h_li, h_wl, h_kp, h_a1, h_a2, h_b1, h_b2, h_ro, h_tb, h_nn, h_rw⟩ := hI
  have hx := cx.1.1
  have hb := cx.1.2.1
  have hP : va_P D vwCl [cell30_ (Qa 0) (S 0), cell28_ k (Qa 0) (S 0), cell29_ k (Qa 0) (S 0), cell37_ (Qa 0) (Qa 1) (S 1), cell27_ k (Qa 1) (S 1), cell39_ (Qa 0) (Qa 3) (Qa 2), cell5_ k (Qa 2) (S 2), cell33_ (Qa 3) (Qa 0) (S 3), cell46_ (Qa 0) (Qa 5) (Qa 4) (S 4), cell0_ k (Qa 4) (S 4), cell33_ (Qa 5) (Qa 0) (S 5), cell45_ (Qa 0) (S 6) (Qa 6), cell0_ k (Qa 6) (S 6), cell1_ k (Qa 6) (S 6), cell4_ k (Qa 6) (S 6), cell3_ k (Qa 6) (S 6), cell2_ k (Qa 6) (S 6), cell31_ (Qa 0) (S 7) (Qa 7), cell0_ k (Qa 7) (S 7), cell1_ k (Qa 7) (S 7), cell4_ k (Qa 7) (S 7), cell3_ k (Qa 7) (S 7), cell2_ k (Qa 7) (S 7), cell44_ (Qa 0) (S 8) (Qa 8), cell0_ k (Qa 8) (S 8), cell1_ k (Qa 8) (S 8), cell4_ k (Qa 8) (S 8), cell3_ k (Qa 8) (S 8), cell2_ k (Qa 8) (S 8), cell47_ (Qa 0) (Qa 9) (T 9), cell35_ k (Qa 9) (T 9), cell34_ k (Qa 9) (T 9), cell42_ (Qa 0) (S 10) (Qa 10), cell26_ k (Qa 10) (T 10), cell23_ k (Qa 10) (S 10), cell24_ k (Qa 10) (T 10), cell25_ k (Qa 10) (S 10), cell43_ (Qa 0) (S 11) (Qa 11), cell26_ k (Qa 11) (T 11), cell23_ k (Qa 11) (S 11), cell24_ k (Qa 11) (T 11), cell25_ k (Qa 11) (S 11), cell38_ (Qa 0) (S 12), cell40_ (Qa 0) (S 13), cell41_ (Qa 0) (S 14), cell48_ (Qa 0) (Qa 15) (S 15) (Qa 16) (T 15), cell0_ k (Qa 15) (S 15), cell1_ k (Qa 15) (S 15), cell36_ (Qa 16) (S 16), cell22_ (Qa 17) (S 17) (T 17), cell5_ k (Qa 17) (S 17), cell13_ k (Qa 17) (S 17), cell8_ k (Qa 17) (S 17), cell6_ k (Qa 17) (S 17), cell15_ k (Qa 17) (S 17), cell14_ k (Qa 17) (T 17), cell12_ k (Qa 17) (T 17), cell18_ k (Qa 17) (T 17), cell17_ k (Qa 17) (T 17), cell19_ k (Qa 17) (T 17), cell21_ k (Qa 17) (T 17), cell20_ k (Qa 17) (S 17), cell16_ k (Qa 17) (S 17), cell11_ k (Qa 17) (S 17), cell10_ k (Qa 17) (S 17), cell9_ k (Qa 17) (S 17), cell7_ k (Qa 17) (S 17)] H := hP
  have hD : va_D A [cell30_ (Qa 0) (S 0), cell28_ k (Qa 0) (S 0), cell29_ k (Qa 0) (S 0), cell37_ (Qa 0) (Qa 1) (S 1), cell27_ k (Qa 1) (S 1), cell39_ (Qa 0) (Qa 3) (Qa 2), cell5_ k (Qa 2) (S 2), cell33_ (Qa 3) (Qa 0) (S 3), cell46_ (Qa 0) (Qa 5) (Qa 4) (S 4), cell0_ k (Qa 4) (S 4), cell33_ (Qa 5) (Qa 0) (S 5), cell45_ (Qa 0) (S 6) (Qa 6), cell0_ k (Qa 6) (S 6), cell1_ k (Qa 6) (S 6), cell4_ k (Qa 6) (S 6), cell3_ k (Qa 6) (S 6), cell2_ k (Qa 6) (S 6), cell31_ (Qa 0) (S 7) (Qa 7), cell0_ k (Qa 7) (S 7), cell1_ k (Qa 7) (S 7), cell4_ k (Qa 7) (S 7), cell3_ k (Qa 7) (S 7), cell2_ k (Qa 7) (S 7), cell44_ (Qa 0) (S 8) (Qa 8), cell0_ k (Qa 8) (S 8), cell1_ k (Qa 8) (S 8), cell4_ k (Qa 8) (S 8), cell3_ k (Qa 8) (S 8), cell2_ k (Qa 8) (S 8), cell47_ (Qa 0) (Qa 9) (T 9), cell35_ k (Qa 9) (T 9), cell34_ k (Qa 9) (T 9), cell42_ (Qa 0) (S 10) (Qa 10), cell26_ k (Qa 10) (T 10), cell23_ k (Qa 10) (S 10), cell24_ k (Qa 10) (T 10), cell25_ k (Qa 10) (S 10), cell43_ (Qa 0) (S 11) (Qa 11), cell26_ k (Qa 11) (T 11), cell23_ k (Qa 11) (S 11), cell24_ k (Qa 11) (T 11), cell25_ k (Qa 11) (S 11), cell38_ (Qa 0) (S 12), cell40_ (Qa 0) (S 13), cell41_ (Qa 0) (S 14), cell48_ (Qa 0) (Qa 15) (S 15) (Qa 16) (T 15), cell0_ k (Qa 15) (S 15), cell1_ k (Qa 15) (S 15), cell36_ (Qa 16) (S 16), cell22_ (Qa 17) (S 17) (T 17), cell5_ k (Qa 17) (S 17), cell13_ k (Qa 17) (S 17), cell8_ k (Qa 17) (S 17), cell6_ k (Qa 17) (S 17), cell15_ k (Qa 17) (S 17), cell14_ k (Qa 17) (T 17), cell12_ k (Qa 17) (T 17), cell18_ k (Qa 17) (T 17), cell17_ k (Qa 17) (T 17), cell19_ k (Qa 17) (T 17), cell21_ k (Qa 17) (T 17), cell20_ k (Qa 17) (S 17), cell16_ k (Qa 17) (S 17), cell11_ k (Qa 17) (S 17), cell10_ k (Qa 17) (S 17), cell9_ k (Qa 17) (S 17), cell7_ k (Qa 17) (S 17)] := hD
  have hl : lv_has ls 4 [(3, .int v), (2, .ref ((Qa 17) 0)), (1, .ref ((Qa 0) 0)), (0, .ref b0)] := hl
  refine lv_aload_n hx hb dL_law_746 rfl (lv_at hl 2 rfl) ?_
  refine lv_aload_n hx hb dL_law_747 rfl (lv_at hl 3 rfl) ?_
  refine lv_iload_n hx hb dL_law_748 rfl (lv_at hl 0 rfl) ?_
  refine lv_iconst (v := 1) hx hb dL_law_749 (by decide) ?_
  refine lv_iadd hx hb dL_law_750 (lv_topi (fun v1 e1 => ?_))
  have t1 : v1.toInt = v.toInt + 1 := by rw [e1]; exact i_add rfl (by decide) (by omega) (by omega)
  have hn2 : vp_in v1 L := f_in (a := v1.toInt) rfl (by omega) (by omega)
  refine va_sld hx hb hX hbl hbA hS hn2 dL_law_751 (lv_topi (fun v3 e3 => ?_))
  have rgv3 := i_rng v3
  refine lv_aload_n hx hb dL_law_752 rfl (lv_at hl 3 rfl) ?_
  refine lv_iload_n hx hb dL_law_753 rfl (lv_at hl 0 rfl) ?_
  refine lv_iconst (v := 2) hx hb dL_law_754 (by decide) ?_
  refine lv_iadd hx hb dL_law_755 (lv_topi (fun v4 e4 => ?_))
  have t4 : v4.toInt = v.toInt + 2 := by rw [e4]; exact i_add rfl (by decide) (by omega) (by omega)
  have hn5 : vp_in v4 L := f_in (a := v4.toInt) rfl (by omega) (by omega)
  refine va_sld hx hb hX hbl hbA hS hn5 dL_law_756 (lv_topi (fun v6 e6 => ?_))
  have rgv6 := i_rng v6
  refine lv_aload_n hx hb dL_law_757 rfl (lv_at hl 3 rfl) ?_
  refine lv_iload_n hx hb dL_law_758 rfl (lv_at hl 0 rfl) ?_
  refine lv_iconst (v := 3) hx hb dL_law_759 (by decide) ?_
  refine lv_iadd hx hb dL_law_760 (lv_topi (fun v7 e7 => ?_))
  have t7 : v7.toInt = v.toInt + 3 := by rw [e7]; exact i_add rfl (by decide) (by omega) (by omega)
  have hn8 : vp_in v7 L := f_in (a := v7.toInt) rfl (by omega) (by omega)
  refine va_sld hx hb hX hbl hbA hS hn8 dL_law_761 (lv_topi (fun v9 e9 => ?_))
  have rgv9 := i_rng v9
  refine g_ir (g_runV (wc := [cell30_ (Qa 0) (S 0), cell28_ k (Qa 0) (S 0), cell29_ k (Qa 0) (S 0), cell31_ (Qa 0) (S 7) (Qa 7), cell0_ k (Qa 7) (S 7), cell1_ k (Qa 7) (S 7), cell4_ k (Qa 7) (S 7), cell3_ k (Qa 7) (S 7), cell2_ k (Qa 7) (S 7)]) (rest := []) cx hP hD hS [0, 1, 2, 17, 18, 19, 20, 21, 22] rfl (by decide) [.int v3, .int v6, .int v9] (c_X11_takes l D k b (Qa 0) (S 0) (lq [0, (Qa 7) 1, (Qa 7) 2, (Qa 7) 3, (Qa 7) 4, (Qa 7) 5]) (lS [(lI [((S 7) 0 0), ((S 7) 0 1), 0, 0, 0, 0, ((S 7) 0 6), ((S 7) 0 7), ((S 7) 0 8), ((S 7) 0 9), ((S 7) 0 10), ((S 7) 0 11), ((S 7) 0 12)]), ((S 7) 1), ((S 7) 2), ((S 7) 3), ((S 7) 4), ((S 7) 5)]) H.size v3 v6 v9 (show 0 ≤ ((S 7) 0 0).toInt ∧ ((S 7) 0 0).toInt ≤ 5 from by first | decide | omega) (show 0 ≤ ((S 7) 0 1).toInt ∧ ((S 7) 0 1).toInt ≤ 4 from by first | decide | omega) (show 0 ≤ ((S 7) 0 12).toInt ∧ ((S 7) 0 12).toInt ≤ 5 from by first | decide | omega) h_of h_go) gL_law_X11_takes rfl rfl rfl nd_X11_takes ⟨Nat.le_of_ble_eq_true rfl, Nat.le_of_ble_eq_true rfl⟩ (ci := 9) (q0 := 0) rfl rfl rfl hl.1 rfl (Nat.le_of_ble_eq_true rfl) ⟨Nat.le_of_ble_eq_true rfl, Nat.le_of_ble_eq_true rfl⟩ dL_law_762) cx.2.2.1 hP hD hS [0, 1, 2, 17, 18, 19, 20, 21, 22] rfl rfl (fun r11 H locs hw10 hP hS => ?_)
  have w12 : r11 = J_X11_takes (S 0) (lS [(lI [((S 7) 0 0), ((S 7) 0 1), 0, 0, 0, 0, ((S 7) 0 6), ((S 7) 0 7), ((S 7) 0 8), ((S 7) 0 9), ((S 7) 0 10), ((S 7) 0 11), ((S 7) 0 12)]), ((S 7) 1), ((S 7) 2), ((S 7) 3), ((S 7) 4), ((S 7) 5)]) v3 v6 v9 := hw10
  clear hw10
  refine lv_pop hx hb dL_law_765 rfl ?_
  refine lv_aload_n hx hb dL_law_766 rfl (lv_at hl 1 rfl) ?_
  refine lv_aload_n hx hb dL_law_767 rfl (lv_at hl 3 rfl) ?_
  refine lv_iload_n hx hb dL_law_768 rfl (lv_at hl 0 rfl) ?_
  refine lv_iconst (v := 1) hx hb dL_law_769 (by decide) ?_
  refine lv_iadd hx hb dL_law_770 (lv_topi (fun v13 e13 => ?_))
  have t13 : v13.toInt = v.toInt + 1 := by rw [e13]; exact i_add rfl (by decide) (by omega) (by omega)
  have hn14 : vp_in v13 L := f_in (a := v13.toInt) rfl (by omega) (by omega)
  refine va_sld hx hb hX hbl hbA hS hn14 dL_law_771 (lv_topi (fun v15 e15 => ?_))
  have qv15 : v15 = v3 := by rw [e15, e3, e13, e1]
  have qiv15 := congrArg Int32.toInt qv15
  have rgv15 := i_rng v15
  refine lv_aload_n hx hb dL_law_772 rfl (lv_at hl 3 rfl) ?_
  refine lv_iload_n hx hb dL_law_773 rfl (lv_at hl 0 rfl) ?_
  refine lv_iconst (v := 2) hx hb dL_law_774 (by decide) ?_
  refine lv_iadd hx hb dL_law_775 (lv_topi (fun v16 e16 => ?_))
  have t16 : v16.toInt = v.toInt + 2 := by rw [e16]; exact i_add rfl (by decide) (by omega) (by omega)
  have hn17 : vp_in v16 L := f_in (a := v16.toInt) rfl (by omega) (by omega)
  refine va_sld hx hb hX hbl hbA hS hn17 dL_law_776 (lv_topi (fun v18 e18 => ?_))
  have qv18 : v18 = v6 := by rw [e18, e6, e16, e4]
  have qiv18 := congrArg Int32.toInt qv18
  have rgv18 := i_rng v18
  refine lv_aload_n hx hb dL_law_777 rfl (lv_at hl 3 rfl) ?_
  refine lv_iload_n hx hb dL_law_778 rfl (lv_at hl 0 rfl) ?_
  refine lv_iconst (v := 3) hx hb dL_law_779 (by decide) ?_
  refine lv_iadd hx hb dL_law_780 (lv_topi (fun v19 e19 => ?_))
  have t19 : v19.toInt = v.toInt + 3 := by rw [e19]; exact i_add rfl (by decide) (by omega) (by omega)
  have hn20 : vp_in v19 L := f_in (a := v19.toInt) rfl (by omega) (by omega)
  refine va_sld hx hb hX hbl hbA hS hn20 dL_law_781 (lv_topi (fun v21 e21 => ?_))
  have qv21 : v21 = v9 := by rw [e21, e9, e19, e7]
  have qiv21 := congrArg Int32.toInt qv21
  have rgv21 := i_rng v21
  refine g_ir (g_runV (wc := [cell22_ (Qa 17) (S 17) (T 17), cell5_ k (Qa 17) (S 17), cell13_ k (Qa 17) (S 17), cell8_ k (Qa 17) (S 17), cell6_ k (Qa 17) (S 17), cell15_ k (Qa 17) (S 17), cell14_ k (Qa 17) (T 17), cell12_ k (Qa 17) (T 17), cell18_ k (Qa 17) (T 17), cell17_ k (Qa 17) (T 17), cell19_ k (Qa 17) (T 17), cell21_ k (Qa 17) (T 17), cell20_ k (Qa 17) (S 17), cell16_ k (Qa 17) (S 17), cell11_ k (Qa 17) (S 17), cell10_ k (Qa 17) (S 17), cell9_ k (Qa 17) (S 17), cell7_ k (Qa 17) (S 17)]) (rest := []) cx hP hD hS [49, 50, 51, 52, 53, 54, 55, 56, 57, 58, 59, 60, 61, 62, 63, 64, 65, 66] rfl (by decide) [.int v15, .int v18, .int v21] (c_X12_takes l D k b (Qa 17) (S 17) (T 17) H.size v15 v18 v21 (show 0 ≤ (((S 17) 2) 0).toInt ∧ (((S 17) 2) 0).toInt ≤ 5 from by first | decide | omega) (show 0 ≤ (((S 17) 2) 1).toInt ∧ (((S 17) 2) 1).toInt ≤ 4 from by first | decide | omega)) gL_law_X12_takes rfl rfl rfl nd_X12_takes ⟨Nat.le_of_ble_eq_true rfl, Nat.le_of_ble_eq_true rfl⟩ (ci := 10) (q0 := 0) rfl rfl rfl hl.1 rfl (Nat.le_of_ble_eq_true rfl) ⟨Nat.le_of_ble_eq_true rfl, Nat.le_of_ble_eq_true rfl⟩ dL_law_782) cx.2.2.1 hP hD hS [49, 50, 51, 52, 53, 54, 55, 56, 57, 58, 59, 60, 61, 62, 63, 64, 65, 66] rfl rfl (fun r23 H locs hw22 hP hS => ?_)
  have w24 : r23 = J_X12_takes (S 17) (T 17) v15 v18 v21 := hw22
  clear hw22
  have hok_ : HOK (S 7) (S 17) := ⟨vokw_of h_vk, h_rg, h_wk, h_hk, h_fl, h_of, h_go⟩
  have fr_ : r11.toInt = r23.toInt := by rw [w12, w24, qv15, qv18, qv21]; exact congrArg Int32.toInt (takes_alike hok_ h_lv)
  refine lv_pop hx hb dL_law_785 rfl ?_
  refine lv_goto (tgt := 1548) hx hb dL_law_786 (by decide) ?_
  exact K S T _ _ _ (inv_mk ln u0 u_a u_3 u_16 d_of d_go h_wk h_hk h_fl h_of h_go h_su b_of b_go h_pl h_bp su_s_h su_s_w su_s_k su_s_x k1_s_h k1_s_w k1_s_k k1_s_x k2_s_h k2_s_w k2_s_k k2_s_x r_l r_a r_g m_ln m_at m_rw m_r0 m_r1 m_w0 m_k1 rel h_tx rel2 h_vk h_rg h_lv h_li h_wl h_kp h_a1 h_a2 h_b1 h_b2 h_ro h_tb h_nn h_rw) hP hD hS (lv_sub hl [0, 1, 2, 3] rfl)
