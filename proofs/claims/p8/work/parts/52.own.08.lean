theorem fw_X11_goAheadOf_39 : Cond.fieldLink RX11 39 "StillInAugust" "house" "LStillInAugust$House;" ∈ wsX11_goAheadOf := by decide +kernel
theorem fw_X11_goAheadOf_52 : Cond.fieldLink RX11 52 "StillInAugust" "course" "LStillInAugust$Course;" ∈ wsX11_goAheadOf := by decide +kernel
theorem nd_X11_levelBy : yX11_levelBy.cls = RX11 ∧ yX11_levelBy.cls ≠ "java/lang/invoke/MethodHandle" ∧ yX11_levelBy.cls ≠ "java/lang/invoke/VarHandle" ∧ (parseMethodDescriptor yX11_levelBy.desc).map (fun d => d.parameters.length) = some 2 := by decide +kernel
theorem nd_X1_passSunday : yX1_passSunday.cls = RX1 ∧ yX1_passSunday.cls ≠ "java/lang/invoke/MethodHandle" ∧ yX1_passSunday.cls ≠ "java/lang/invoke/VarHandle" ∧ (parseMethodDescriptor yX1_passSunday.desc).map (fun d => d.parameters.length) = some 1 := by decide +kernel
theorem nd_X1_passWeek : yX1_passWeek.cls = RX1 ∧ yX1_passWeek.cls ≠ "java/lang/invoke/MethodHandle" ∧ yX1_passWeek.cls ≠ "java/lang/invoke/VarHandle" ∧ (parseMethodDescriptor yX1_passWeek.desc).map (fun d => d.parameters.length) = some 4 := by decide +kernel
theorem nd_X1_start : yX1_start.cls = RX1 ∧ yX1_start.cls ≠ "java/lang/invoke/MethodHandle" ∧ yX1_start.cls ≠ "java/lang/invoke/VarHandle" ∧ (parseMethodDescriptor yX1_start.desc).map (fun d => d.parameters.length) = some 1 := by decide +kernel
theorem iw_X11_goAheadOf_X11 : ∀ w ∈ u_ws RX11 TX11 17, w ∈ wsX11_goAheadOf := fun _ h => List.mem_cons_of_mem _ (List.mem_append_left _ (List.mem_append_left _ (List.mem_append_right _ h)))
set_option maxHeartbeats 4000000 in
set_option maxRecDepth 100000 in
theorem c_X11_goAheadOf (l : Launch) (D : va_G) (k : Nat → ClassId) (b : Nat → Nat) (qx : Nat → Nat) (sx : Nat → Nat → Int32) (qh : Nat → Nat) (sh : Nat → Nat → Int32) (qco : Nat → Nat) (sco : Nat → Nat → Int32) (tco : Nat → Nat → Int64) (sz : Nat) (p0 : Int32) (p1 : Int32) (h_wk : 0 ≤ (sh 0 0).toInt ∧ (sh 0 0).toInt ≤ 5) (h_hk : 0 ≤ (sh 0 1).toInt ∧ (sh 0 1).toInt ≤ 4) (h_fl : 0 ≤ (sh 0 12).toInt ∧ (sh 0 12).toInt ≤ 5) (h_of : ∀ j, 0 ≤ (sh 2 j).toInt ∧ (sh 2 j).toInt ≤ 4) (h_go : ∀ j, 0 ≤ (sh 3 j).toInt ∧ (sh 3 j).toInt ≤ 5) (h_su : SUok (sh 5)) (hp0 : 0 ≤ p0.toInt ∧ p0.toInt ≤ 2) (hp1 : 0 ≤ p1.toInt ∧ p1.toInt ≤ 5) : MetV l D k b yX11_goAheadOf wsX11_goAheadOf ({ frames := 4, cells := 0, slots := 0, locals := 105 } : Room) [cell30_ qx sx, cell28_ k qx sx, cell29_ k qx sx, cell31_ qx sh qh, cell0_ k qh sh, cell1_ k qh sh, cell4_ k qh sh, cell3_ k qh sh, cell2_ k qh sh, cell47_ qx qco tco, cell35_ k qco tco, cell34_ k qco tco] sz [.ref (qx 0), .int p0, .int p1] (fun (u : (Nat → Int64) × (Nat → Int64) × Int64 × Int64 × Int64 × Int64) => CUok (u.1) (sh 0 1).toInt) (fun u => [cell30_ qx sx, cell28_ k qx sx, cell29_ k qx sx, cell31_ qx sh qh, cell0_ k qh sh, cell1_ k qh sh, cell4_ k qh sh, cell3_ k qh sh, cell2_ k qh sh, cell57_ qx qco (u.2.2.1) (u.2.2.2.1) (u.2.2.2.2.1) (u.2.2.2.2.2), cell98_ k qco (u.1), cell99_ k qco (u.2.1)]) := by
  refine g_enter (cc := cX11_goAheadOf) (maxL := 4) (ret := none) (by decide) rfl (Nat.le_of_ble_eq_true rfl) ?_
  intro p e s m below meth c A hsz hAe cx hr hP hD hS ls hl
  rw [hAe]
  refine g_q (fun Q hQ => ?_)
  have hx := cx.1.1
  have hb := cx.1.2.1
  have bp0 := i_rng p0
  have bp1 := i_rng p1
  have hl : lv_has ls 4 [(0, .ref (qx 0)), (1, .int p0), (2, .int p1)] := hl
  obtain ⟨H, eH⟩ : ∃ H : Heap, H = s.heap := ⟨_, rfl⟩
  obtain ⟨locs, el⟩ : ∃ L : List Loc, L = [] := ⟨_, rfl⟩
  have hP : va_P D vwCl [cell30_ qx sx, cell28_ k qx sx, cell29_ k qx sx, cell31_ qx sh qh, cell0_ k qh sh, cell1_ k qh sh, cell4_ k qh sh, cell3_ k qh sh, cell2_ k qh sh, cell47_ qx qco tco, cell35_ k qco tco, cell34_ k qco tco] H := by rw [eH]; exact hP
  have hD : va_D A [cell30_ qx sx, cell28_ k qx sx, cell29_ k qx sx, cell31_ qx sh qh, cell0_ k qh sh, cell1_ k qh sh, cell4_ k qh sh, cell3_ k qh sh, cell2_ k qh sh, cell47_ qx qco tco, cell35_ k qco tco, cell34_ k qco tco] := hD
  have hS : va_S A s.heap H locs := by rw [eH, el]; exact hS
  suffices goal : W p l e ({ frames := 4, cells := 0, slots := 0, locals := 105 } : Room) s m ([.ref (qx 0), .int p0, .int p1] : List Value).toArray below meth c H locs 0 0 Q (F0 m 0 ls []) by rw [eH, el] at goal; exact goal
  refine lv_aload_n hx hb dX11_goAheadOf_0 rfl (lv_at hl 0 rfl) ?_
  refine g_get cx hP iw_X11_goAheadOf_X11 0 rfl rfl 7 (by decide) rfl fw_X11_goAheadOf_52 rfl dX11_goAheadOf_1 ?_
  refine lv_iconst (v := 0) hx hb dX11_goAheadOf_4 (by decide) ?_
  have hlit1 : (0 : Int32).toInt = 0 := by decide
  refine g_v (w1 := fun (u : (Nat → Int64) × Int64 × Int64) => [cell195_ qx qco tco (u.2.1) (u.2.2), cell98_ k qco (u.1), cell34_ k qco tco]) (g_runV (wc := [cell47_ qx qco tco, cell35_ k qco tco, cell34_ k qco tco]) (rest := []) cx hP hD hS [9, 10, 11] rfl (by decide) [.int 0] (c_X1_start l D k b (lq [qx 9, qco 1, qco 2]) (lS [(lI []), (fun _ => 0), (fun _ => 0)]) (lT [(lJ [0, 0, (tco 0 2), (tco 0 3), (tco 0 4), (tco 0 5)]), (tco 1), (tco 2)]) H.size 0 (show 0 ≤ (0 : Int32).toInt ∧ (0 : Int32).toInt ≤ 400 ∧ tot (0 : Int32) ≤ 4 from by first | decide | omega)) gX11_goAheadOf_X1_start rfl rfl rfl nd_X1_start ⟨Nat.le_of_ble_eq_true rfl, Nat.le_of_ble_eq_true rfl⟩ (ci := 0) (q0 := 0) rfl rfl rfl hl.1 rfl (Nat.le_of_ble_eq_true rfl) ⟨Nat.zero_le _, Nat.zero_le _⟩ dX11_goAheadOf_5) cx.2.2.1 hP hD hS [9, 10, 11] rfl (fun _ => rfl) (fun u3 H locs hw2 hP hD hS => ?_)
  obtain ⟨m4, m5, m6⟩ := u3
  have hP : va_P D vwCl [cell30_ qx sx, cell28_ k qx sx, cell29_ k qx sx, cell31_ qx sh qh, cell0_ k qh sh, cell1_ k qh sh, cell4_ k qh sh, cell3_ k qh sh, cell2_ k qh sh, cell195_ qx qco tco m5 m6, (qco 1, .inl (k 1, 35, .inr (.inl m4))), cell34_ k qco tco] H := hP
  have hD : va_D A [cell30_ qx sx, cell28_ k qx sx, cell29_ k qx sx, cell31_ qx sh qh, cell0_ k qh sh, cell1_ k qh sh, cell4_ k qh sh, cell3_ k qh sh, cell2_ k qh sh, cell195_ qx qco tco m5 m6, (qco 1, .inl (k 1, 35, .inr (.inl m4))), cell34_ k qco tco] := hD
  have w7 : ∀ H : Int, tot (0 : Int32) ≤ H → CUok m4 H := hw2
  clear hw2
  have cu : CUok m4 (sh 0 1).toInt := w7 _ (by rw [show tot (0 : Int32) = 0 from by decide]; omega)
  refine lv_iconst (v := 0) hx hb dX11_goAheadOf_8 (by decide) ?_
  refine lv_istore_n (lv' := [(3, .int 0), (0, .ref (qx 0)), (1, .int p0), (2, .int p1)]) hx hb dX11_goAheadOf_9 rfl hl (by decide) rfl (fun ls hl => ?_)
  have hL10 : ∀ (n37 : Nat) (v30 : Int32) (x31 : Int64) (x32 : Int64) (x33 : Int64) (x34 : Int64) (g35 : Nat → Int64) (g36 : Nat → Int64) (H : Heap) (locs : List Loc) (ls : Array Slot), 5 - v30.toInt < (n37 : Int) → (0 ≤ v30.toInt ∧ v30.toInt ≤ 5) → (CUok g35 (sh 0 1).toInt) → va_P D vwCl [cell30_ qx sx, cell28_ k qx sx, cell29_ k qx sx, cell31_ qx sh qh, cell0_ k qh sh, cell1_ k qh sh, cell4_ k qh sh, cell3_ k qh sh, cell2_ k qh sh, cell57_ qx qco x31 x32 x33 x34, (qco 1, .inl (k 1, 35, .inr (.inl g35))), (qco 2, .inl (k 1, 35, .inr (.inl g36)))] H → va_D A [cell30_ qx sx, cell28_ k qx sx, cell29_ k qx sx, cell31_ qx sh qh, cell0_ k qh sh, cell1_ k qh sh, cell4_ k qh sh, cell3_ k qh sh, cell2_ k qh sh, cell57_ qx qco x31 x32 x33 x34, (qco 1, .inl (k 1, 35, .inr (.inl g35))), (qco 2, .inl (k 1, 35, .inr (.inl g36)))] → va_S A s.heap H locs → lv_has ls 4 [(3, .int v30), (0, .ref (qx 0)), (1, .int p0), (2, .int p1)] → W p l e ({ frames := 4, cells := 0, slots := 0, locals := 105 } : Room) s m ([.ref (qx 0), .int p0, .int p1] : List Value).toArray below meth c H locs 0 0 Q (F0 m 10 ls []) := by
    intro n37
    induction n37 with
    | zero => intro v30 x31 x32 x33 x34 g35 g36 H locs ls hmn37 bv30 cu hP hD hS hl; exact absurd hmn37 (by omega)
    | succ n37 ih10 =>
      intro v30 x31 x32 x33 x34 g35 g36 H locs ls hmn37 bv30 cu hP hD hS hl
      refine lv_iload_n hx hb dX11_goAheadOf_10 rfl (lv_at hl 0 rfl) ?_
      refine lv_iload_n hx hb dX11_goAheadOf_11 rfl (lv_at hl 3 rfl) ?_
      refine lv_icmp_ge (tgt := 51) hx hb dX11_goAheadOf_12 (by decide) (fun c38 => ?_) (fun c38 => ?_)
      · have f38 : p1.toInt ≤ v30.toInt := f_le rfl rfl c38
        rw [hQ]
        exact x_v cx hr (g35, g36, x31, x32, x33, x34) hP hD hS (show CUok g35 (sh 0 1).toInt from cu) dX11_goAheadOf_51
      · have f38 : v30.toInt < p1.toInt := f_nle rfl rfl c38
        refine lv_aload_n hx hb dX11_goAheadOf_15 rfl (lv_at hl 1 rfl) ?_
        refine g_get cx hP iw_X11_goAheadOf_X11 0 rfl rfl 7 (by decide) rfl fw_X11_goAheadOf_52 rfl dX11_goAheadOf_16 ?_
        refine lv_aload_n hx hb dX11_goAheadOf_19 rfl (lv_at hl 1 rfl) ?_
        refine g_get cx hP iw_X11_goAheadOf_X11 0 rfl rfl 4 (by decide) rfl fw_X11_goAheadOf_39 rfl dX11_goAheadOf_20 ?_
        refine lv_iload_n hx hb dX11_goAheadOf_23 rfl (lv_at hl 0 rfl) ?_
        refine lv_aload_n hx hb dX11_goAheadOf_24 rfl (lv_at hl 1 rfl) ?_
        refine lv_iload_n hx hb dX11_goAheadOf_25 rfl (lv_at hl 2 rfl) ?_
        refine lv_iload_n hx hb dX11_goAheadOf_26 rfl (lv_at hl 0 rfl) ?_
        refine g_ir (g_runV (wc := [cell30_ qx sx, cell28_ k qx sx, cell29_ k qx sx]) (rest := [.int v30, .ref (qx 7), .ref (qx 9)]) cx hP hD hS [0, 1, 2] rfl (by decide) [.int p0, .int v30] (c_X11_levelBy l D k b qx sx H.size p0 v30 (show 0 ≤ p0.toInt ∧ p0.toInt ≤ 2 from by first | decide | omega) (show 0 ≤ v30.toInt ∧ v30.toInt ≤ 4 from by first | decide | omega)) gX11_goAheadOf_X11_levelBy rfl rfl rfl nd_X11_levelBy ⟨Nat.le_of_ble_eq_true rfl, Nat.le_of_ble_eq_true rfl⟩ (ci := 9) (q0 := 0) rfl rfl rfl hl.1 rfl (Nat.le_of_ble_eq_true rfl) ⟨Nat.zero_le _, Nat.zero_le _⟩ dX11_goAheadOf_27) cx.2.2.1 hP hD hS [0, 1, 2] rfl rfl (fun r40 H locs hw39 hP hS => ?_)
        have w41 : r40 = J_X11_levelBy sx p0 v30 := hw39
        clear hw39
        have k43 : r40 = (J_X11_levelBy sx p0 v30) := congrArg (fun z => z) w41
        refine lv_iconst (v := 0) hx hb dX11_goAheadOf_30 (by decide) ?_
        have hlit44 : (0 : Int32).toInt = 0 := by decide
        refine g_v (w1 := fun (u : (Nat → Int64) × Int64 × Int64 × Int64) => [cell57_ qx qco x31 (u.2.1) (u.2.2.1) (u.2.2.2), (qco 1, .inl (k 1, 35, .inr (.inl g35))), cell99_ k qco (u.1), cell31_ qx sh qh, cell0_ k qh sh, cell1_ k qh sh, cell4_ k qh sh, cell3_ k qh sh, cell2_ k qh sh]) (g_runV (wc := [cell57_ qx qco x31 x32 x33 x34, (qco 1, .inl (k 1, 35, .inr (.inl g35))), (qco 2, .inl (k 1, 35, .inr (.inl g36))), cell31_ qx sh qh, cell0_ k qh sh, cell1_ k qh sh, cell4_ k qh sh, cell3_ k qh sh, cell2_ k qh sh]) (rest := []) cx hP hD hS [9, 10, 11, 3, 4, 5, 6, 7, 8] rfl (by decide) [.ref (qx 7), .int v30, .int r40, .int 0] (c_X1_passWeek l D k b (lq [qx 9, qco 1, qco 2]) (lS [(lI []), (fun _ => 0), (fun _ => 0)]) (lT [(lJ [0, 0, x31, x32, x33, x34]), g35, g36]) (lq [qx 7, qh 1, qh 2, qh 3, qh 4, qh 5]) (lS [(lI [(sh 0 0), (sh 0 1), 0, 0, 0, 0, (sh 0 6), (sh 0 7), (sh 0 8), (sh 0 9), (sh 0 10), (sh 0 11), (sh 0 12)]), (sh 1), (sh 2), (sh 3), (sh 4), (sh 5)]) H.size v30 r40 0 (show 0 ≤ (sh 0 1).toInt ∧ (sh 0 1).toInt ≤ 4 from by first | decide | omega) h_of (show CUok g35 (sh 0 1).toInt from by assumption) (show 0 ≤ v30.toInt ∧ v30.toInt ≤ 4 from by first | decide | omega)) gX11_goAheadOf_X1_passWeek rfl rfl rfl nd_X1_passWeek ⟨Nat.le_of_ble_eq_true rfl, Nat.le_of_ble_eq_true rfl⟩ (ci := 0) (q0 := 0) rfl rfl rfl hl.1 rfl (Nat.le_of_ble_eq_true rfl) ⟨Nat.zero_le _, Nat.zero_le _⟩ dX11_goAheadOf_31) cx.2.2.1 hP hD hS [9, 10, 11, 3, 4, 5, 6, 7, 8] rfl (fun _ => rfl) (fun u46 H locs hw45 hP hD hS => ?_)
        obtain ⟨m47, m48, m49, m50⟩ := u46
        have hP : va_P D vwCl [cell30_ qx sx, cell28_ k qx sx, cell29_ k qx sx, cell31_ qx sh qh, cell0_ k qh sh, cell1_ k qh sh, cell4_ k qh sh, cell3_ k qh sh, cell2_ k qh sh, cell57_ qx qco x31 m48 m49 m50, (qco 1, .inl (k 1, 35, .inr (.inl g35))), (qco 2, .inl (k 1, 35, .inr (.inl m47)))] H := hP
        have hD : va_D A [cell30_ qx sx, cell28_ k qx sx, cell29_ k qx sx, cell31_ qx sh qh, cell0_ k qh sh, cell1_ k qh sh, cell4_ k qh sh, cell3_ k qh sh, cell2_ k qh sh, cell57_ qx qco x31 m48 m49 m50, (qco 1, .inl (k 1, 35, .inr (.inl g35))), (qco 2, .inl (k 1, 35, .inr (.inl m47)))] := hD
        have w51 : CUok m47 (sh 0 1).toInt := hw45
        clear hw45
        refine lv_aload_n hx hb dX11_goAheadOf_34 rfl (lv_at hl 1 rfl) ?_
        refine g_get cx hP iw_X11_goAheadOf_X11 0 rfl rfl 7 (by decide) rfl fw_X11_goAheadOf_52 rfl dX11_goAheadOf_35 ?_
        refine lv_aload_n hx hb dX11_goAheadOf_38 rfl (lv_at hl 1 rfl) ?_
        refine g_get cx hP iw_X11_goAheadOf_X11 0 rfl rfl 4 (by decide) rfl fw_X11_goAheadOf_39 rfl dX11_goAheadOf_39 ?_
        refine g_v (w1 := fun (u : (Nat → Int64) × Int64 × Int64) => [cell57_ qx qco (u.2.1) (u.2.2) m49 m50, cell98_ k qco (u.1), (qco 2, .inl (k 1, 35, .inr (.inl m47))), cell31_ qx sh qh, cell0_ k qh sh, cell1_ k qh sh, cell4_ k qh sh, cell3_ k qh sh, cell2_ k qh sh]) (g_runV (wc := [cell57_ qx qco x31 m48 m49 m50, (qco 1, .inl (k 1, 35, .inr (.inl g35))), (qco 2, .inl (k 1, 35, .inr (.inl m47))), cell31_ qx sh qh, cell0_ k qh sh, cell1_ k qh sh, cell4_ k qh sh, cell3_ k qh sh, cell2_ k qh sh]) (rest := []) cx hP hD hS [9, 10, 11, 3, 4, 5, 6, 7, 8] rfl (by decide) [.ref (qx 7)] (c_X1_passSunday l D k b (lq [qx 9, qco 1, qco 2]) (lS [(lI []), (fun _ => 0), (fun _ => 0)]) (lT [(lJ [0, 0, x31, m48, m49, m50]), g35, m47]) (lq [qx 7, qh 1, qh 2, qh 3, qh 4, qh 5]) (lS [(lI [(sh 0 0), (sh 0 1), 0, 0, 0, 0, (sh 0 6), (sh 0 7), (sh 0 8), (sh 0 9), (sh 0 10), (sh 0 11), (sh 0 12)]), (sh 1), (sh 2), (sh 3), (sh 4), (sh 5)]) H.size (show SUok (sh 5) from by assumption) (show CUok m47 (sh 0 1).toInt from by assumption)) gX11_goAheadOf_X1_passSunday rfl rfl rfl nd_X1_passSunday ⟨Nat.le_of_ble_eq_true rfl, Nat.le_of_ble_eq_true rfl⟩ (ci := 0) (q0 := 0) rfl rfl rfl hl.1 rfl (Nat.le_of_ble_eq_true rfl) ⟨Nat.zero_le _, Nat.zero_le _⟩ dX11_goAheadOf_42) cx.2.2.1 hP hD hS [9, 10, 11, 3, 4, 5, 6, 7, 8] rfl (fun _ => rfl) (fun u53 H locs hw52 hP hD hS => ?_)
        obtain ⟨m54, m55, m56⟩ := u53
        have hP : va_P D vwCl [cell30_ qx sx, cell28_ k qx sx, cell29_ k qx sx, cell31_ qx sh qh, cell0_ k qh sh, cell1_ k qh sh, cell4_ k qh sh, cell3_ k qh sh, cell2_ k qh sh, cell57_ qx qco m55 m56 m49 m50, (qco 1, .inl (k 1, 35, .inr (.inl m54))), (qco 2, .inl (k 1, 35, .inr (.inl m47)))] H := hP
        have hD : va_D A [cell30_ qx sx, cell28_ k qx sx, cell29_ k qx sx, cell31_ qx sh qh, cell0_ k qh sh, cell1_ k qh sh, cell4_ k qh sh, cell3_ k qh sh, cell2_ k qh sh, cell57_ qx qco m55 m56 m49 m50, (qco 1, .inl (k 1, 35, .inr (.inl m54))), (qco 2, .inl (k 1, 35, .inr (.inl m47)))] := hD
        have w57 : CUok m54 (sh 0 1).toInt := hw52
        clear hw52
        obtain ⟨v58, e58⟩ : ∃ z : Int32, z = v30 + 1 := ⟨_, rfl⟩
        refine lv_iinc (v := v58) (lv' := [(3, .int v58), (0, .ref (qx 0)), (1, .int p0), (2, .int p1)]) hx hb dX11_goAheadOf_45 hl (k := 0) rfl (by rw [e58]; rfl) (by decide) rfl (fun ls hl => ?_)
        have t58 : v58.toInt = v30.toInt + 1 := by rw [e58]; exact i_add rfl (by decide) (by omega) (by omega)
        refine lv_goto (tgt := 10) hx hb dX11_goAheadOf_48 (by decide) ?_
        exact ih10 v58 m55 m56 m49 m50 m54 m47 _ _ _ (by omega) (by first | decide | omega) (by assumption) hP hD hS (lv_sub hl [0, 1, 2, 3] rfl)
  have hlit59 : (0 : Int32).toInt = 0 := by decide
  exact hL10 (Int.toNat (5 - 0) + 1) 0 m5 m6 (tco 0 4) (tco 0 5) m4 (tco 2) _ _ _ (by omega) (by first | decide | omega) (by assumption) hP hD hS (lv_sub hl [0, 1, 2, 3] rfl)
