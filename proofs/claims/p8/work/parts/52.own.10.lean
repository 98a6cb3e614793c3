theorem fw_X11_goToTheEnd_126 : Cond.fieldLink RX11 126 "StillInAugust$House" "weeks" "I" ∈ wsX11_goToTheEnd := by decide +kernel
theorem fw_X11_goToTheEnd_39 : Cond.fieldLink RX11 39 "StillInAugust" "house" "LStillInAugust$House;" ∈ wsX11_goToTheEnd := by decide +kernel
theorem fw_X11_goToTheEnd_52 : Cond.fieldLink RX11 52 "StillInAugust" "course" "LStillInAugust$Course;" ∈ wsX11_goToTheEnd := by decide +kernel
theorem nd_X1_payBonus : yX1_payBonus.cls = RX1 ∧ yX1_payBonus.cls ≠ "java/lang/invoke/MethodHandle" ∧ yX1_payBonus.cls ≠ "java/lang/invoke/VarHandle" ∧ (parseMethodDescriptor yX1_payBonus.desc).map (fun d => d.parameters.length) = some 1 := by decide +kernel
theorem iw_X11_goToTheEnd_X11 : ∀ w ∈ u_ws RX11 TX11 17, w ∈ wsX11_goToTheEnd := fun _ h => List.mem_cons_of_mem _ (List.mem_append_left _ (List.mem_append_left _ (List.mem_append_right _ h)))
theorem iw_X11_goToTheEnd_X4 : ∀ w ∈ u_ws RX4 TX4 14, w ∈ wsX11_goToTheEnd := fun _ h => List.mem_cons_of_mem _ (List.mem_append_left _ (List.mem_append_right _ h))
set_option maxHeartbeats 4000000 in
set_option maxRecDepth 100000 in
theorem c_X11_goToTheEnd (l : Launch) (D : va_G) (k : Nat → ClassId) (b : Nat → Nat) (qx : Nat → Nat) (sx : Nat → Nat → Int32) (qh : Nat → Nat) (sh : Nat → Nat → Int32) (qco : Nat → Nat) (sco : Nat → Nat → Int32) (tco : Nat → Nat → Int64) (sz : Nat) (p0 : Int32) (p1 : Int32) (p2 : Int32) (p3 : Int32) (h_wk : 0 ≤ (sh 0 0).toInt ∧ (sh 0 0).toInt ≤ 5) (h_hk : 0 ≤ (sh 0 1).toInt ∧ (sh 0 1).toInt ≤ 4) (h_fl : 0 ≤ (sh 0 12).toInt ∧ (sh 0 12).toInt ≤ 5) (h_of : ∀ j, 0 ≤ (sh 2 j).toInt ∧ (sh 2 j).toInt ≤ 4) (h_go : ∀ j, 0 ≤ (sh 3 j).toInt ∧ (sh 3 j).toInt ≤ 5) (h_su : SUok (sh 5)) (hv : 0 ≤ p2.toInt ∧ p2.toInt ≤ 400 ∧ tot p2 ≤ 4) (ht : tot p2 ≤ (sh 0 1).toInt) (hp0 : 0 ≤ p0.toInt ∧ p0.toInt ≤ 2) (hp1 : 0 ≤ p1.toInt ∧ p1.toInt ≤ 5) : MetV l D k b yX11_goToTheEnd wsX11_goToTheEnd ({ frames := 4, cells := 0, slots := 0, locals := 105 } : Room) [cell30_ qx sx, cell28_ k qx sx, cell29_ k qx sx, cell31_ qx sh qh, cell0_ k qh sh, cell1_ k qh sh, cell4_ k qh sh, cell3_ k qh sh, cell2_ k qh sh, cell47_ qx qco tco, cell35_ k qco tco, cell34_ k qco tco] sz [.ref (qx 0), .int p0, .int p1, .int p2, .int p3] (fun (u : (Nat → Int64) × (Nat → Int64) × Int64 × Int64 × Int64 × Int64) => True) (fun u => [cell30_ qx sx, cell28_ k qx sx, cell29_ k qx sx, cell31_ qx sh qh, cell0_ k qh sh, cell1_ k qh sh, cell4_ k qh sh, cell3_ k qh sh, cell2_ k qh sh, cell57_ qx qco (u.2.2.1) (u.2.2.2.1) (u.2.2.2.2.1) (u.2.2.2.2.2), cell98_ k qco (u.1), cell99_ k qco (u.2.1)]) := by
  refine g_enter (cc := cX11_goToTheEnd) (maxL := 6) (ret := none) (by decide) rfl (Nat.le_of_ble_eq_true rfl) ?_
  intro p e s m below meth c A hsz hAe cx hr hP hD hS ls hl
  rw [hAe]
  refine g_q (fun Q hQ => ?_)
  have hx := cx.1.1
  have hb := cx.1.2.1
  have bp0 := i_rng p0
  have bp1 := i_rng p1
  have bp2 := i_rng p2
  have bp3 := i_rng p3
  have hl : lv_has ls 6 [(0, .ref (qx 0)), (1, .int p0), (2, .int p1), (3, .int p2), (4, .int p3)] := hl
  obtain ⟨H, eH⟩ : ∃ H : Heap, H = s.heap := ⟨_, rfl⟩
  obtain ⟨locs, el⟩ : ∃ L : List Loc, L = [] := ⟨_, rfl⟩
  have hP : va_P D vwCl [cell30_ qx sx, cell28_ k qx sx, cell29_ k qx sx, cell31_ qx sh qh, cell0_ k qh sh, cell1_ k qh sh, cell4_ k qh sh, cell3_ k qh sh, cell2_ k qh sh, cell47_ qx qco tco, cell35_ k qco tco, cell34_ k qco tco] H := by rw [eH]; exact hP
  have hD : va_D A [cell30_ qx sx, cell28_ k qx sx, cell29_ k qx sx, cell31_ qx sh qh, cell0_ k qh sh, cell1_ k qh sh, cell4_ k qh sh, cell3_ k qh sh, cell2_ k qh sh, cell47_ qx qco tco, cell35_ k qco tco, cell34_ k qco tco] := hD
  have hS : va_S A s.heap H locs := by rw [eH, el]; exact hS
  suffices goal : W p l e ({ frames := 4, cells := 0, slots := 0, locals := 105 } : Room) s m ([.ref (qx 0), .int p0, .int p1, .int p2, .int p3] : List Value).toArray below meth c H locs 0 0 Q (F0 m 0 ls []) by rw [eH, el] at goal; exact goal
  refine lv_aload_n hx hb dX11_goToTheEnd_0 rfl (lv_at hl 0 rfl) ?_
  refine g_get cx hP iw_X11_goToTheEnd_X11 0 rfl rfl 7 (by decide) rfl fw_X11_goToTheEnd_52 rfl dX11_goToTheEnd_1 ?_
  refine lv_iload_n hx hb dX11_goToTheEnd_4 rfl (lv_at hl 3 rfl) ?_
  refine g_v (w1 := fun (u : (Nat → Int64) × Int64 × Int64) => [cell195_ qx qco tco (u.2.1) (u.2.2), cell98_ k qco (u.1), cell34_ k qco tco]) (g_runV (wc := [cell47_ qx qco tco, cell35_ k qco tco, cell34_ k qco tco]) (rest := []) cx hP hD hS [9, 10, 11] rfl (by decide) [.int p2] (c_X1_start l D k b (lq [qx 9, qco 1, qco 2]) (lS [(lI []), (fun _ => 0), (fun _ => 0)]) (lT [(lJ [0, 0, (tco 0 2), (tco 0 3), (tco 0 4), (tco 0 5)]), (tco 1), (tco 2)]) H.size p2 (show 0 ≤ p2.toInt ∧ p2.toInt ≤ 400 ∧ tot p2 ≤ 4 from by first | decide | omega)) gX11_goToTheEnd_X1_start rfl rfl rfl nd_X1_start ⟨Nat.le_of_ble_eq_true rfl, Nat.le_of_ble_eq_true rfl⟩ (ci := 0) (q0 := 0) rfl rfl rfl hl.1 rfl (Nat.le_of_ble_eq_true rfl) ⟨Nat.zero_le _, Nat.zero_le _⟩ dX11_goToTheEnd_5) cx.2.2.1 hP hD hS [9, 10, 11] rfl (fun _ => rfl) (fun u2 H locs hw1 hP hD hS => ?_)
  obtain ⟨m3, m4, m5⟩ := u2
  have hP : va_P D vwCl [cell30_ qx sx, cell28_ k qx sx, cell29_ k qx sx, cell31_ qx sh qh, cell0_ k qh sh, cell1_ k qh sh, cell4_ k qh sh, cell3_ k qh sh, cell2_ k qh sh, cell195_ qx qco tco m4 m5, (qco 1, .inl (k 1, 35, .inr (.inl m3))), cell34_ k qco tco] H := hP
  have hD : va_D A [cell30_ qx sx, cell28_ k qx sx, cell29_ k qx sx, cell31_ qx sh qh, cell0_ k qh sh, cell1_ k qh sh, cell4_ k qh sh, cell3_ k qh sh, cell2_ k qh sh, cell195_ qx qco tco m4 m5, (qco 1, .inl (k 1, 35, .inr (.inl m3))), cell34_ k qco tco] := hD
  have w6 : ∀ H : Int, tot p2 ≤ H → CUok m3 H := hw1
  clear hw1
  have cu : CUok m3 (sh 0 1).toInt := w6 _ (by omega)
  refine lv_iload_n hx hb dX11_goToTheEnd_8 rfl (lv_at hl 2 rfl) ?_
  refine lv_istore (lv' := [(5, .int p1), (0, .ref (qx 0)), (1, .int p0), (2, .int p1), (3, .int p2), (4, .int p3)]) hx hb dX11_goToTheEnd_9 hl (by decide) rfl (fun ls hl => ?_)
  have hL11 : ∀ (n33 : Nat) (v26 : Int32) (x27 : Int64) (x28 : Int64) (x29 : Int64) (x30 : Int64) (g31 : Nat → Int64) (g32 : Nat → Int64) (H : Heap) (locs : List Loc) (ls : Array Slot), 5 - v26.toInt < (n33 : Int) → (0 ≤ v26.toInt ∧ v26.toInt ≤ 5) → (CUok g31 (sh 0 1).toInt) → va_P D vwCl [cell30_ qx sx, cell28_ k qx sx, cell29_ k qx sx, cell31_ qx sh qh, cell0_ k qh sh, cell1_ k qh sh, cell4_ k qh sh, cell3_ k qh sh, cell2_ k qh sh, cell57_ qx qco x27 x28 x29 x30, (qco 1, .inl (k 1, 35, .inr (.inl g31))), (qco 2, .inl (k 1, 35, .inr (.inl g32)))] H → va_D A [cell30_ qx sx, cell28_ k qx sx, cell29_ k qx sx, cell31_ qx sh qh, cell0_ k qh sh, cell1_ k qh sh, cell4_ k qh sh, cell3_ k qh sh, cell2_ k qh sh, cell57_ qx qco x27 x28 x29 x30, (qco 1, .inl (k 1, 35, .inr (.inl g31))), (qco 2, .inl (k 1, 35, .inr (.inl g32)))] → va_S A s.heap H locs → lv_has ls 6 [(5, .int v26), (0, .ref (qx 0)), (1, .int p0), (2, .int p1), (4, .int p3)] → W p l e ({ frames := 4, cells := 0, slots := 0, locals := 105 } : Room) s m ([.ref (qx 0), .int p0, .int p1, .int p2, .int p3] : List Value).toArray below meth c H locs 0 0 Q (F0 m 11 ls []) := by
    intro n33
    induction n33 with
    | zero => intro v26 x27 x28 x29 x30 g31 g32 H locs ls hmn33 bv26 cu hP hD hS hl; exact absurd hmn33 (by omega)
    | succ n33 ih11 =>
      intro v26 x27 x28 x29 x30 g31 g32 H locs ls hmn33 bv26 cu hP hD hS hl
      refine lv_iload hx hb dX11_goToTheEnd_11 (lv_at hl 0 rfl) ?_
      refine lv_aload_n hx hb dX11_goToTheEnd_13 rfl (lv_at hl 1 rfl) ?_
      refine g_get cx hP iw_X11_goToTheEnd_X11 0 rfl rfl 4 (by decide) rfl fw_X11_goToTheEnd_39 rfl dX11_goToTheEnd_14 ?_
      refine g_get cx hP iw_X11_goToTheEnd_X4 3 rfl rfl 0 (by decide) rfl fw_X11_goToTheEnd_126 rfl dX11_goToTheEnd_17 ?_
      refine lv_icmp_ge (tgt := 72) hx hb dX11_goToTheEnd_20 (by decide) (fun c34 => ?_) (fun c34 => ?_)
      · have f34 : (sh 0 0).toInt ≤ v26.toInt := f_le rfl rfl c34
        refine lv_aload_n hx hb dX11_goToTheEnd_72 rfl (lv_at hl 1 rfl) ?_
        refine g_get cx hP iw_X11_goToTheEnd_X11 0 rfl rfl 7 (by decide) rfl fw_X11_goToTheEnd_52 rfl dX11_goToTheEnd_73 ?_
        refine lv_aload_n hx hb dX11_goToTheEnd_76 rfl (lv_at hl 1 rfl) ?_
        refine g_get cx hP iw_X11_goToTheEnd_X11 0 rfl rfl 4 (by decide) rfl fw_X11_goToTheEnd_39 rfl dX11_goToTheEnd_77 ?_
        refine g_v (w1 := fun (u : Int64) => [cell57_ qx qco x27 u x29 x30, (qco 1, .inl (k 1, 35, .inr (.inl g31))), (qco 2, .inl (k 1, 35, .inr (.inl g32))), cell31_ qx sh qh, cell0_ k qh sh, cell1_ k qh sh, cell4_ k qh sh, cell3_ k qh sh, cell2_ k qh sh]) (g_runV (wc := [cell57_ qx qco x27 x28 x29 x30, (qco 1, .inl (k 1, 35, .inr (.inl g31))), (qco 2, .inl (k 1, 35, .inr (.inl g32))), cell31_ qx sh qh, cell0_ k qh sh, cell1_ k qh sh, cell4_ k qh sh, cell3_ k qh sh, cell2_ k qh sh]) (rest := []) cx hP hD hS [9, 10, 11, 3, 4, 5, 6, 7, 8] rfl (by decide) [.ref (qx 7)] (c_X1_payBonus l D k b (lq [qx 9, qco 1, qco 2]) (lS [(lI []), (fun _ => 0), (fun _ => 0)]) (lT [(lJ [0, 0, x27, x28, x29, x30]), g31, g32]) (lq [qx 7, qh 1, qh 2, qh 3, qh 4, qh 5]) (lS [(lI [(sh 0 0), (sh 0 1), 0, 0, 0, 0, (sh 0 6), (sh 0 7), (sh 0 8), (sh 0 9), (sh 0 10), (sh 0 11), (sh 0 12)]), (sh 1), (sh 2), (sh 3), (sh 4), (sh 5)]) H.size) gX11_goToTheEnd_X1_payBonus rfl rfl rfl nd_X1_payBonus ⟨Nat.le_of_ble_eq_true rfl, Nat.le_of_ble_eq_true rfl⟩ (ci := 0) (q0 := 0) rfl rfl rfl hl.1 rfl (Nat.le_of_ble_eq_true rfl) ⟨Nat.zero_le _, Nat.zero_le _⟩ dX11_goToTheEnd_80) cx.2.2.1 hP hD hS [9, 10, 11, 3, 4, 5, 6, 7, 8] rfl (fun _ => rfl) (fun u36 H locs hw35 hP hD hS => ?_)
        obtain ⟨m37, rfl⟩ : ∃ z, z = u36 := ⟨_, rfl⟩
        have hP : va_P D vwCl [cell30_ qx sx, cell28_ k qx sx, cell29_ k qx sx, cell31_ qx sh qh, cell0_ k qh sh, cell1_ k qh sh, cell4_ k qh sh, cell3_ k qh sh, cell2_ k qh sh, cell57_ qx qco x27 m37 x29 x30, (qco 1, .inl (k 1, 35, .inr (.inl g31))), (qco 2, .inl (k 1, 35, .inr (.inl g32)))] H := hP
        have hD : va_D A [cell30_ qx sx, cell28_ k qx sx, cell29_ k qx sx, cell31_ qx sh qh, cell0_ k qh sh, cell1_ k qh sh, cell4_ k qh sh, cell3_ k qh sh, cell2_ k qh sh, cell57_ qx qco x27 m37 x29 x30, (qco 1, .inl (k 1, 35, .inr (.inl g31))), (qco 2, .inl (k 1, 35, .inr (.inl g32)))] := hD
        clear hw35
        rw [hQ]
        exact x_v cx hr (g31, g32, x27, m37, x29, x30) hP hD hS trivial dX11_goToTheEnd_83
      · have f34 : v26.toInt < (sh 0 0).toInt := f_nle rfl rfl c34
        refine lv_aload_n hx hb dX11_goToTheEnd_23 rfl (lv_at hl 1 rfl) ?_
        refine g_get cx hP iw_X11_goToTheEnd_X11 0 rfl rfl 7 (by decide) rfl fw_X11_goToTheEnd_52 rfl dX11_goToTheEnd_24 ?_
        refine lv_aload_n hx hb dX11_goToTheEnd_27 rfl (lv_at hl 1 rfl) ?_
        refine g_get cx hP iw_X11_goToTheEnd_X11 0 rfl rfl 4 (by decide) rfl fw_X11_goToTheEnd_39 rfl dX11_goToTheEnd_28 ?_
        refine lv_iload hx hb dX11_goToTheEnd_31 (lv_at hl 0 rfl) ?_
        refine lv_aload_n hx hb dX11_goToTheEnd_33 rfl (lv_at hl 1 rfl) ?_
        refine lv_iload_n hx hb dX11_goToTheEnd_34 rfl (lv_at hl 2 rfl) ?_
        refine lv_iload hx hb dX11_goToTheEnd_35 (lv_at hl 0 rfl) ?_
        refine g_ir (g_runV (wc := [cell30_ qx sx, cell28_ k qx sx, cell29_ k qx sx]) (rest := [.int v26, .ref (qx 7), .ref (qx 9)]) cx hP hD hS [0, 1, 2] rfl (by decide) [.int p0, .int v26] (c_X11_levelBy l D k b qx sx H.size p0 v26 (show 0 ≤ p0.toInt ∧ p0.toInt ≤ 2 from by first | decide | omega) (show 0 ≤ v26.toInt ∧ v26.toInt ≤ 4 from by first | decide | omega)) gX11_goToTheEnd_X11_levelBy rfl rfl rfl nd_X11_levelBy ⟨Nat.le_of_ble_eq_true rfl, Nat.le_of_ble_eq_true rfl⟩ (ci := 9) (q0 := 0) rfl rfl rfl hl.1 rfl (Nat.le_of_ble_eq_true rfl) ⟨Nat.zero_le _, Nat.zero_le _⟩ dX11_goToTheEnd_37) cx.2.2.1 hP hD hS [0, 1, 2] rfl rfl (fun r39 H locs hw38 hP hS => ?_)
        have w40 : r39 = J_X11_levelBy sx p0 v26 := hw38
        clear hw38
        have k42 : r39 = (J_X11_levelBy sx p0 v26) := congrArg (fun z => z) w40
        refine lv_iload hx hb dX11_goToTheEnd_40 (lv_at hl 0 rfl) ?_
        refine lv_iload_n hx hb dX11_goToTheEnd_42 rfl (lv_at hl 3 rfl) ?_
        have hJ52 : ∀ (v43 : Int32) (H : Heap) (locs : List Loc) (ls : Array Slot), va_P D vwCl [cell30_ qx sx, cell28_ k qx sx, cell29_ k qx sx, cell31_ qx sh qh, cell0_ k qh sh, cell1_ k qh sh, cell4_ k qh sh, cell3_ k qh sh, cell2_ k qh sh, cell57_ qx qco x27 x28 x29 x30, (qco 1, .inl (k 1, 35, .inr (.inl g31))), (qco 2, .inl (k 1, 35, .inr (.inl g32)))] H → va_D A [cell30_ qx sx, cell28_ k qx sx, cell29_ k qx sx, cell31_ qx sh qh, cell0_ k qh sh, cell1_ k qh sh, cell4_ k qh sh, cell3_ k qh sh, cell2_ k qh sh, cell57_ qx qco x27 x28 x29 x30, (qco 1, .inl (k 1, 35, .inr (.inl g31))), (qco 2, .inl (k 1, 35, .inr (.inl g32)))] → va_S A s.heap H locs → lv_has ls 6 [(5, .int v26), (0, .ref (qx 0)), (1, .int p0), (2, .int p1), (4, .int p3)] → W p l e ({ frames := 4, cells := 0, slots := 0, locals := 105 } : Room) s m ([.ref (qx 0), .int p0, .int p1, .int p2, .int p3] : List Value).toArray below meth c H locs 0 0 Q (F0 m 52 ls [.int v43, .int r39, .int v26, .ref (qx 7), .ref (qx 9)]) := by
          intro v43 H locs ls  hP hD hS hl
          refine g_v (w1 := fun (u : (Nat → Int64) × Int64 × Int64 × Int64) => [cell57_ qx qco x27 (u.2.1) (u.2.2.1) (u.2.2.2), (qco 1, .inl (k 1, 35, .inr (.inl g31))), cell99_ k qco (u.1), cell31_ qx sh qh, cell0_ k qh sh, cell1_ k qh sh, cell4_ k qh sh, cell3_ k qh sh, cell2_ k qh sh]) (g_runV (wc := [cell57_ qx qco x27 x28 x29 x30, (qco 1, .inl (k 1, 35, .inr (.inl g31))), (qco 2, .inl (k 1, 35, .inr (.inl g32))), cell31_ qx sh qh, cell0_ k qh sh, cell1_ k qh sh, cell4_ k qh sh, cell3_ k qh sh, cell2_ k qh sh]) (rest := []) cx hP hD hS [9, 10, 11, 3, 4, 5, 6, 7, 8] rfl (by decide) [.ref (qx 7), .int v26, .int r39, .int v43] (c_X1_passWeek l D k b (lq [qx 9, qco 1, qco 2]) (lS [(lI []), (fun _ => 0), (fun _ => 0)]) (lT [(lJ [0, 0, x27, x28, x29, x30]), g31, g32]) (lq [qx 7, qh 1, qh 2, qh 3, qh 4, qh 5]) (lS [(lI [(sh 0 0), (sh 0 1), 0, 0, 0, 0, (sh 0 6), (sh 0 7), (sh 0 8), (sh 0 9), (sh 0 10), (sh 0 11), (sh 0 12)]), (sh 1), (sh 2), (sh 3), (sh 4), (sh 5)]) H.size v26 r39 v43 (show 0 ≤ (sh 0 1).toInt ∧ (sh 0 1).toInt ≤ 4 from by first | decide | omega) h_of (show CUok g31 (sh 0 1).toInt from by assumption) (show 0 ≤ v26.toInt ∧ v26.toInt ≤ 4 from by first | decide | omega)) gX11_goToTheEnd_X1_passWeek rfl rfl rfl nd_X1_passWeek ⟨Nat.le_of_ble_eq_true rfl, Nat.le_of_ble_eq_true rfl⟩ (ci := 0) (q0 := 0) rfl rfl rfl hl.1 rfl (Nat.le_of_ble_eq_true rfl) ⟨Nat.zero_le _, Nat.zero_le _⟩ dX11_goToTheEnd_52) cx.2.2.1 hP hD hS [9, 10, 11, 3, 4, 5, 6, 7, 8] rfl (fun _ => rfl) (fun u45 H locs hw44 hP hD hS => ?_)
          obtain ⟨m46, m47, m48, m49⟩ := u45
          have hP : va_P D vwCl [cell30_ qx sx, cell28_ k qx sx, cell29_ k qx sx, cell31_ qx sh qh, cell0_ k qh sh, cell1_ k qh sh, cell4_ k qh sh, cell3_ k qh sh, cell2_ k qh sh, cell57_ qx qco x27 m47 m48 m49, (qco 1, .inl (k 1, 35, .inr (.inl g31))), (qco 2, .inl (k 1, 35, .inr (.inl m46)))] H := hP
          have hD : va_D A [cell30_ qx sx, cell28_ k qx sx, cell29_ k qx sx, cell31_ qx sh qh, cell0_ k qh sh, cell1_ k qh sh, cell4_ k qh sh, cell3_ k qh sh, cell2_ k qh sh, cell57_ qx qco x27 m47 m48 m49, (qco 1, .inl (k 1, 35, .inr (.inl g31))), (qco 2, .inl (k 1, 35, .inr (.inl m46)))] := hD
          have w50 : CUok m46 (sh 0 1).toInt := hw44
          clear hw44
          refine lv_aload_n hx hb dX11_goToTheEnd_55 rfl (lv_at hl 1 rfl) ?_
          refine g_get cx hP iw_X11_goToTheEnd_X11 0 rfl rfl 7 (by decide) rfl fw_X11_goToTheEnd_52 rfl dX11_goToTheEnd_56 ?_
          refine lv_aload_n hx hb dX11_goToTheEnd_59 rfl (lv_at hl 1 rfl) ?_
          refine g_get cx hP iw_X11_goToTheEnd_X11 0 rfl rfl 4 (by decide) rfl fw_X11_goToTheEnd_39 rfl dX11_goToTheEnd_60 ?_
          refine g_v (w1 := fun (u : (Nat → Int64) × Int64 × Int64) => [cell57_ qx qco (u.2.1) (u.2.2) m48 m49, cell98_ k qco (u.1), (qco 2, .inl (k 1, 35, .inr (.inl m46))), cell31_ qx sh qh, cell0_ k qh sh, cell1_ k qh sh, cell4_ k qh sh, cell3_ k qh sh, cell2_ k qh sh]) (g_runV (wc := [cell57_ qx qco x27 m47 m48 m49, (qco 1, .inl (k 1, 35, .inr (.inl g31))), (qco 2, .inl (k 1, 35, .inr (.inl m46))), cell31_ qx sh qh, cell0_ k qh sh, cell1_ k qh sh, cell4_ k qh sh, cell3_ k qh sh, cell2_ k qh sh]) (rest := []) cx hP hD hS [9, 10, 11, 3, 4, 5, 6, 7, 8] rfl (by decide) [.ref (qx 7)] (c_X1_passSunday l D k b (lq [qx 9, qco 1, qco 2]) (lS [(lI []), (fun _ => 0), (fun _ => 0)]) (lT [(lJ [0, 0, x27, m47, m48, m49]), g31, m46]) (lq [qx 7, qh 1, qh 2, qh 3, qh 4, qh 5]) (lS [(lI [(sh 0 0), (sh 0 1), 0, 0, 0, 0, (sh 0 6), (sh 0 7), (sh 0 8), (sh 0 9), (sh 0 10), (sh 0 11), (sh 0 12)]), (sh 1), (sh 2), (sh 3), (sh 4), (sh 5)]) H.size (show SUok (sh 5) from by assumption) (show CUok m46 (sh 0 1).toInt from by assumption)) gX11_goToTheEnd_X1_passSunday rfl rfl rfl nd_X1_passSunday ⟨Nat.le_of_ble_eq_true rfl, Nat.le_of_ble_eq_true rfl⟩ (ci := 0) (q0 := 0) rfl rfl rfl hl.1 rfl (Nat.le_of_ble_eq_true rfl) ⟨Nat.zero_le _, Nat.zero_le _⟩ dX11_goToTheEnd_63) cx.2.2.1 hP hD hS [9, 10, 11, 3, 4, 5, 6, 7, 8] rfl (fun _ => rfl) (fun u52 H locs hw51 hP hD hS => ?_)
          obtain ⟨m53, m54, m55⟩ := u52
          have hP : va_P D vwCl [cell30_ qx sx, cell28_ k qx sx, cell29_ k qx sx, cell31_ qx sh qh, cell0_ k qh sh, cell1_ k qh sh, cell4_ k qh sh, cell3_ k qh sh, cell2_ k qh sh, cell57_ qx qco m54 m55 m48 m49, (qco 1, .inl (k 1, 35, .inr (.inl m53))), (qco 2, .inl (k 1, 35, .inr (.inl m46)))] H := hP
          have hD : va_D A [cell30_ qx sx, cell28_ k qx sx, cell29_ k qx sx, cell31_ qx sh qh, cell0_ k qh sh, cell1_ k qh sh, cell4_ k qh sh, cell3_ k qh sh, cell2_ k qh sh, cell57_ qx qco m54 m55 m48 m49, (qco 1, .inl (k 1, 35, .inr (.inl m53))), (qco 2, .inl (k 1, 35, .inr (.inl m46)))] := hD
          have w56 : CUok m53 (sh 0 1).toInt := hw51
          clear hw51
          obtain ⟨v57, e57⟩ : ∃ z : Int32, z = v26 + 1 := ⟨_, rfl⟩
          refine lv_iinc (v := v57) (lv' := [(5, .int v57), (0, .ref (qx 0)), (1, .int p0), (2, .int p1), (4, .int p3)]) hx hb dX11_goToTheEnd_66 hl (k := 0) rfl (by rw [e57]; rfl) (by decide) rfl (fun ls hl => ?_)
          have t57 : v57.toInt = v26.toInt + 1 := by rw [e57]; exact i_add rfl (by decide) (by omega) (by omega)
          refine lv_goto (tgt := 11) hx hb dX11_goToTheEnd_69 (by decide) ?_
          exact ih11 v57 m54 m55 m48 m49 m53 m46 _ _ _ (by omega) (by first | decide | omega) (by assumption) hP hD hS (lv_sub hl [0, 1, 2, 3, 4] rfl)
        refine lv_icmp_ne (tgt := 51) hx hb dX11_goToTheEnd_43 (by decide) (fun c58 => ?_) (fun c58 => ?_)
        · have f58 : ¬ v26.toInt = p1.toInt := f_ne rfl rfl c58
          refine lv_iconst (v := 0) hx hb dX11_goToTheEnd_51 (by decide) ?_
          have hlit59 : (0 : Int32).toInt = 0 := by decide
          exact hJ52 0 _ _ _  hP hD hS (lv_sub hl [0, 1, 2, 3, 4] rfl)
        · have f58 : v26.toInt = p1.toInt := f_eq rfl rfl c58
          refine lv_iload hx hb dX11_goToTheEnd_46 (lv_at hl 4 rfl) ?_
          refine lv_goto (tgt := 52) hx hb dX11_goToTheEnd_48 (by decide) ?_
          exact hJ52 p3 _ _ _  hP hD hS (lv_sub hl [0, 1, 2, 3, 4] rfl)
  exact hL11 (Int.toNat (5 - p1.toInt) + 1) p1 m4 m5 (tco 0 4) (tco 0 5) m3 (tco 2) _ _ _ (by omega) (by first | decide | omega) (by assumption) hP hD hS (lv_sub hl [0, 1, 2, 3, 5] rfl)
