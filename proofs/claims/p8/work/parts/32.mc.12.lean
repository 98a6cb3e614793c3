theorem nd_X12_choose : yX12_choose.cls ≠ "java/lang/invoke/MethodHandle" ∧ yX12_choose.cls ≠ "java/lang/invoke/VarHandle" ∧ (parseMethodDescriptor yX12_choose.desc).map (fun d => d.parameters.length) = some 2 := by decide +kernel
theorem nd_X12_goes : yX12_goes.cls = RX12 ∧ yX12_goes.cls ≠ "java/lang/invoke/MethodHandle" ∧ yX12_goes.cls ≠ "java/lang/invoke/VarHandle" ∧ (parseMethodDescriptor yX12_goes.desc).map (fun d => d.parameters.length) = some 1 := by decide +kernel
theorem nd_X12_power : yX12_power.cls ≠ "java/lang/invoke/MethodHandle" ∧ yX12_power.cls ≠ "java/lang/invoke/VarHandle" ∧ (parseMethodDescriptor yX12_power.desc).map (fun d => d.parameters.length) = some 2 := by decide +kernel
set_option maxHeartbeats 4000000 in
set_option maxRecDepth 100000 in
theorem c_X12_stays (l : Launch) (D : va_G) (k : Nat → ClassId) (b : Nat → Nat) (qm : Nat → Nat) (sm : Nat → Nat → Int32) (tm : Nat → Nat → Int64) (sz : Nat) (p0 : Int32) (p1 : Int32) (p2 : Int32) (hp0 : 0 ≤ p0.toInt ∧ p0.toInt ≤ 2) : MetI l D k b yX12_stays wsX12_stays ({ frames := 1, cells := 0, slots := 0, locals := 25 } : Room) [cell22_ qm sm tm, cell5_ k qm sm, cell13_ k qm sm, cell8_ k qm sm, cell6_ k qm sm, cell14_ k qm sm, cell15_ k qm tm, cell12_ k qm tm, cell18_ k qm tm, cell17_ k qm tm, cell19_ k qm tm, cell21_ k qm tm, cell20_ k qm sm, cell16_ k qm sm, cell11_ k qm sm, cell10_ k qm sm, cell9_ k qm sm, cell7_ k qm sm] sz [.ref (qm 0), .int p0, .int p1, .int p2] (fun (r : Int32) (u : Unit) => True) (fun u => [cell22_ qm sm tm, cell5_ k qm sm, cell13_ k qm sm, cell8_ k qm sm, cell6_ k qm sm, cell14_ k qm sm, cell15_ k qm tm, cell12_ k qm tm, cell18_ k qm tm, cell17_ k qm tm, cell19_ k qm tm, cell21_ k qm tm, cell20_ k qm sm, cell16_ k qm sm, cell11_ k qm sm, cell10_ k qm sm, cell9_ k qm sm, cell7_ k qm sm]) := by
  refine g_enter (cc := cX12_stays) (maxL := 4) (ret := (some .int)) (by decide) rfl (Nat.le_of_ble_eq_true rfl) ?_
  intro p e s m below meth c A hsz hAe cx hr hP hD hS ls hl
  rw [hAe]
  refine g_q (fun Q hQ => ?_)
  have hx := cx.1.1
  have hb := cx.1.2.1
  have bp0 := i_rng p0
  have bp1 := i_rng p1
  have bp2 := i_rng p2
  have hl : lv_has ls 4 [(0, .ref (qm 0)), (1, .int p0), (2, .int p1), (3, .int p2)] := hl
  obtain ⟨H, eH⟩ : ∃ H : Heap, H = s.heap := ⟨_, rfl⟩
  obtain ⟨locs, el⟩ : ∃ L : List Loc, L = [] := ⟨_, rfl⟩
  have hP : va_P D vwCl [cell22_ qm sm tm, cell5_ k qm sm, cell13_ k qm sm, cell8_ k qm sm, cell6_ k qm sm, cell14_ k qm sm, cell15_ k qm tm, cell12_ k qm tm, cell18_ k qm tm, cell17_ k qm tm, cell19_ k qm tm, cell21_ k qm tm, cell20_ k qm sm, cell16_ k qm sm, cell11_ k qm sm, cell10_ k qm sm, cell9_ k qm sm, cell7_ k qm sm] H := by rw [eH]; exact hP
  have hD : va_D A [cell22_ qm sm tm, cell5_ k qm sm, cell13_ k qm sm, cell8_ k qm sm, cell6_ k qm sm, cell14_ k qm sm, cell15_ k qm tm, cell12_ k qm tm, cell18_ k qm tm, cell17_ k qm tm, cell19_ k qm tm, cell21_ k qm tm, cell20_ k qm sm, cell16_ k qm sm, cell11_ k qm sm, cell10_ k qm sm, cell9_ k qm sm, cell7_ k qm sm] := hD
  have hS : va_S A s.heap H locs := by rw [eH, el]; exact hS
  suffices goal : W p l e ({ frames := 1, cells := 0, slots := 0, locals := 25 } : Room) s m ([.ref (qm 0), .int p0, .int p1, .int p2] : List Value).toArray below meth c H locs 0 0 Q (F0 m 0 ls []) by rw [eH, el] at goal; exact goal
  refine lv_iload_n hx hb dX12_stays_0 rfl (lv_at hl 3 rfl) ?_
  obtain ⟨v1, e1⟩ : ∃ z : Int64, z = (p2 : Int32).toInt64 := ⟨_, rfl⟩
  refine lv_i2l (v := v1) hx hb dX12_stays_1 e1.symm ?_
  refine lv_lconst (v := 0) hx hb dX12_stays_2 (by decide) ?_
  refine lv_iload_n hx hb dX12_stays_3 rfl (lv_at hl 2 rfl) ?_
  obtain ⟨v2, e2⟩ : ∃ z : Int64, z = (p1 : Int32).toInt64 := ⟨_, rfl⟩
  refine lv_i2l (v := v2) hx hb dX12_stays_4 e2.symm ?_
  refine g_ir (g_runS (wc := []) (rest := []) cx hP hD hS [] rfl (by decide) [.long v1, .long 0, .long v2] (c_X12_in l D k b H.size v1 0 v2) gX12_stays_X12_in rfl rfl rfl nd_X12_in ⟨Nat.le_of_ble_eq_true rfl, Nat.le_of_ble_eq_true rfl⟩ rfl hl.1 rfl (Nat.le_of_ble_eq_true rfl) ⟨Nat.zero_le _, Nat.zero_le _⟩ dX12_stays_5) cx.2.2.1 hP hD hS [] rfl rfl (fun r4 H locs hw3 hP hS => ?_)
  have w5 : r4 = J_X12_in v1 (0 : Int64) v2 := hw3
  clear hw3
  have zr4 := in_b w5
  refine lv_if_eq (tgt := 43) hx hb dX12_stays_8 (by decide) (fun c6 => ?_) (fun c6 => ?_)
  · have f6 : r4.toInt = 0 := f_eq rfl (by decide) c6
    have k6 : p2.toInt < 0 ∨ p1.toInt < p2.toInt := in_f (i2l_t rfl e1) (by decide) (i2l_t rfl e2) w5 c6
    refine lv_iconst (v := 0) hx hb dX12_stays_43 (by decide) ?_
    have hlit7 : (0 : Int32).toInt = 0 := by decide
    rw [hQ]
    exact x_i cx hr () hP hD hS trivial dX12_stays_44
  · have f6 : ¬ r4.toInt = 0 := f_ne rfl (by decide) c6
    have k6 : 0 ≤ p2.toInt ∧ p2.toInt ≤ p1.toInt := in_t (i2l_t rfl e1) (by decide) (i2l_t rfl e2) w5 c6
    refine lv_iload_n hx hb dX12_stays_11 rfl (lv_at hl 2 rfl) ?_
    refine lv_iload_n hx hb dX12_stays_12 rfl (lv_at hl 3 rfl) ?_
    refine g_ir (g_runS (wc := []) (rest := []) cx hP hD hS [] rfl (by decide) [.int p1, .int p2] (c_X12_choose l D k b H.size p1 p2) gX12_stays_X12_choose rfl rfl rfl nd_X12_choose ⟨Nat.le_of_ble_eq_true rfl, Nat.le_of_ble_eq_true rfl⟩ rfl hl.1 rfl (Nat.le_of_ble_eq_true rfl) ⟨Nat.zero_le _, Nat.zero_le _⟩ dX12_stays_13) cx.2.2.1 hP hD hS [] rfl rfl (fun r9 H locs hw8 hP hS => ?_)
    refine lv_iconst (v := 5) hx hb dX12_stays_16 (by decide) ?_
    refine lv_aload_n hx hb dX12_stays_17 rfl (lv_at hl 0 rfl) ?_
    refine lv_iload_n hx hb dX12_stays_18 rfl (lv_at hl 1 rfl) ?_
    refine g_iF (w1 := fun (_ : Unit) => [cell22_ qm sm tm, cell5_ k qm sm, cell13_ k qm sm, cell8_ k qm sm, cell6_ k qm sm, cell14_ k qm sm, cell15_ k qm tm, cell12_ k qm tm, cell18_ k qm tm, cell17_ k qm tm, cell19_ k qm tm, cell21_ k qm tm, cell20_ k qm sm, cell16_ k qm sm, cell11_ k qm sm, cell10_ k qm sm, cell9_ k qm sm, cell7_ k qm sm]) (g_runVF (ws := [cell22_ qm sm tm, cell5_ k qm sm, cell13_ k qm sm, cell8_ k qm sm, cell6_ k qm sm, cell14_ k qm sm, cell15_ k qm tm, cell12_ k qm tm, cell18_ k qm tm, cell17_ k qm tm, cell19_ k qm tm, cell21_ k qm tm, cell20_ k qm sm, cell16_ k qm sm, cell11_ k qm sm, cell10_ k qm sm, cell9_ k qm sm, cell7_ k qm sm]) (rest := [.int 5, .int r9]) cx hP hD hS [.int p0] (c_X12_goes l D k b qm sm tm H.size p0 (show 0 ≤ p0.toInt ∧ p0.toInt ≤ 2 from by first | decide | omega)) gX12_stays_X12_goes rfl rfl rfl nd_X12_goes ⟨Nat.le_of_ble_eq_true rfl, Nat.le_of_ble_eq_true rfl⟩ (ci := 10) (q0 := 0) rfl rfl rfl hl.1 rfl (Nat.le_of_ble_eq_true rfl) ⟨Nat.zero_le _, Nat.zero_le _⟩ dX12_stays_19) cx.2.2.1 hD hS (fun r11 _ H locs hw10 hP hD hS => ?_)
    have w12 : r11 = J_X12_goes sm tm p0 := hw10
    clear hw10
    have k14 : r11 = (J_X12_goes sm tm p0) := congrArg (fun z => z) w12
    refine lv_isub hx hb dX12_stays_22 (lv_topi (fun v15 e15 => ?_))
    refine lv_iload_n hx hb dX12_stays_23 rfl (lv_at hl 3 rfl) ?_
    refine g_ir (g_runS (wc := []) (rest := [.int r9]) cx hP hD hS [] rfl (by decide) [.int v15, .int p2] (c_X12_power l D k b H.size v15 p2) gX12_stays_X12_power rfl rfl rfl nd_X12_power ⟨Nat.le_of_ble_eq_true rfl, Nat.le_of_ble_eq_true rfl⟩ rfl hl.1 rfl (Nat.le_of_ble_eq_true rfl) ⟨Nat.zero_le _, Nat.zero_le _⟩ dX12_stays_24) cx.2.2.1 hP hD hS [] rfl rfl (fun r17 H locs hw16 hP hS => ?_)
    have w18 : Imp (v15.toInt % 2 = 1) (r17.toInt % 2 = 1) := hw16
    clear hw16
    refine lv_imul hx hb dX12_stays_27 (lv_topi (fun v19 e19 => ?_))
    refine lv_aload_n hx hb dX12_stays_28 rfl (lv_at hl 0 rfl) ?_
    refine lv_iload_n hx hb dX12_stays_29 rfl (lv_at hl 1 rfl) ?_
    refine g_iF (w1 := fun (_ : Unit) => [cell22_ qm sm tm, cell5_ k qm sm, cell13_ k qm sm, cell8_ k qm sm, cell6_ k qm sm, cell14_ k qm sm, cell15_ k qm tm, cell12_ k qm tm, cell18_ k qm tm, cell17_ k qm tm, cell19_ k qm tm, cell21_ k qm tm, cell20_ k qm sm, cell16_ k qm sm, cell11_ k qm sm, cell10_ k qm sm, cell9_ k qm sm, cell7_ k qm sm]) (g_runVF (ws := [cell22_ qm sm tm, cell5_ k qm sm, cell13_ k qm sm, cell8_ k qm sm, cell6_ k qm sm, cell14_ k qm sm, cell15_ k qm tm, cell12_ k qm tm, cell18_ k qm tm, cell17_ k qm tm, cell19_ k qm tm, cell21_ k qm tm, cell20_ k qm sm, cell16_ k qm sm, cell11_ k qm sm, cell10_ k qm sm, cell9_ k qm sm, cell7_ k qm sm]) (rest := [.int v19]) cx hP hD hS [.int p0] (c_X12_goes l D k b qm sm tm H.size p0 (show 0 ≤ p0.toInt ∧ p0.toInt ≤ 2 from by first | decide | omega)) gX12_stays_X12_goes rfl rfl rfl nd_X12_goes ⟨Nat.le_of_ble_eq_true rfl, Nat.le_of_ble_eq_true rfl⟩ (ci := 10) (q0 := 0) rfl rfl rfl hl.1 rfl (Nat.le_of_ble_eq_true rfl) ⟨Nat.zero_le _, Nat.zero_le _⟩ dX12_stays_30) cx.2.2.1 hD hS (fun r21 _ H locs hw20 hP hD hS => ?_)
    have w22 : r21 = J_X12_goes sm tm p0 := hw20
    clear hw20
    have k24 : r21 = (J_X12_goes sm tm p0) := congrArg (fun z => z) w22
    refine lv_iload_n hx hb dX12_stays_33 rfl (lv_at hl 2 rfl) ?_
    refine lv_iload_n hx hb dX12_stays_34 rfl (lv_at hl 3 rfl) ?_
    refine lv_isub hx hb dX12_stays_35 (lv_topi (fun v25 e25 => ?_))
    refine g_ir (g_runS (wc := []) (rest := [.int v19]) cx hP hD hS [] rfl (by decide) [.int r21, .int v25] (c_X12_power l D k b H.size r21 v25) gX12_stays_X12_power rfl rfl rfl nd_X12_power ⟨Nat.le_of_ble_eq_true rfl, Nat.le_of_ble_eq_true rfl⟩ rfl hl.1 rfl (Nat.le_of_ble_eq_true rfl) ⟨Nat.zero_le _, Nat.zero_le _⟩ dX12_stays_36) cx.2.2.1 hP hD hS [] rfl rfl (fun r27 H locs hw26 hP hS => ?_)
    have w28 : Imp (r21.toInt % 2 = 1) (r27.toInt % 2 = 1) := hw26
    clear hw26
    refine lv_imul hx hb dX12_stays_39 (lv_topi (fun v29 e29 => ?_))
    refine lv_goto (tgt := 44) hx hb dX12_stays_40 (by decide) ?_
    rw [hQ]
    exact x_i cx hr () hP hD hS trivial dX12_stays_44
