theorem kJ_X12_against_69 : Cond.constantLong RX12 69 (4) ∈ wsX12_against := by decide +kernel
set_option maxHeartbeats 4000000 in
set_option maxRecDepth 100000 in
theorem c_X12_against (l : Launch) (D : va_G) (k : Nat → ClassId) (b : Nat → Nat) (qm : Nat → Nat) (sm : Nat → Nat → Int32) (tm : Nat → Nat → Int64) (sz : Nat) (p0 : Int32) (p1 : Int32) (h_w0 : 0 ≤ (sm 2 0).toInt ∧ (sm 2 0).toInt ≤ 5) (h_k1 : 0 ≤ (sm 2 1).toInt ∧ (sm 2 1).toInt ≤ 4) : MetI l D k b yX12_against wsX12_against ({ frames := 6, cells := 0, slots := 0, locals := 157 } : Room) [cell22_ qm sm tm, cell5_ k qm sm, cell13_ k qm sm, cell8_ k qm sm, cell6_ k qm sm, cell14_ k qm sm, cell15_ k qm tm, cell12_ k qm tm, cell18_ k qm tm, cell17_ k qm tm, cell19_ k qm tm, cell21_ k qm tm, cell20_ k qm sm, cell16_ k qm sm, cell11_ k qm sm, cell10_ k qm sm, cell9_ k qm sm, cell7_ k qm sm] sz [.ref (qm 0), .int p0, .int p1] (fun (r : Int32) (u : (Nat → Int64) × (Nat → Int64) × (Nat → Int32)) => True) (fun u => [cell22_ qm sm tm, cell5_ k qm sm, cell13_ k qm sm, cell8_ k qm sm, cell6_ k qm sm, cell14_ k qm sm, cell15_ k qm tm, cell12_ k qm tm, cell18_ k qm tm, cell17_ k qm tm, cell130_ k qm (u.1), cell122_ k qm (u.2.1), cell123_ k qm (u.2.2), cell16_ k qm sm, cell11_ k qm sm, cell10_ k qm sm, cell9_ k qm sm, cell7_ k qm sm]) := by
  refine g_enter (cc := cX12_against) (maxL := 3) (ret := (some .int)) (by decide) rfl (Nat.le_of_ble_eq_true rfl) ?_
  intro p e s m below meth c A hsz hAe cx hr hP hD hS ls hl
  rw [hAe]
  refine g_q (fun Q hQ => ?_)
  have hx := cx.1.1
  have hb := cx.1.2.1
  have bp0 := i_rng p0
  have bp1 := i_rng p1
  have hl : lv_has ls 3 [(0, .ref (qm 0)), (1, .int p0), (2, .int p1)] := hl
  obtain ⟨H, eH⟩ : ∃ H : Heap, H = s.heap := ⟨_, rfl⟩
  obtain ⟨locs, el⟩ : ∃ L : List Loc, L = [] := ⟨_, rfl⟩
  have hP : va_P D vwCl [cell22_ qm sm tm, cell5_ k qm sm, cell13_ k qm sm, cell8_ k qm sm, cell6_ k qm sm, cell14_ k qm sm, cell15_ k qm tm, cell12_ k qm tm, cell18_ k qm tm, cell17_ k qm tm, cell19_ k qm tm, cell21_ k qm tm, cell20_ k qm sm, cell16_ k qm sm, cell11_ k qm sm, cell10_ k qm sm, cell9_ k qm sm, cell7_ k qm sm] H := by rw [eH]; exact hP
  have hD : va_D A [cell22_ qm sm tm, cell5_ k qm sm, cell13_ k qm sm, cell8_ k qm sm, cell6_ k qm sm, cell14_ k qm sm, cell15_ k qm tm, cell12_ k qm tm, cell18_ k qm tm, cell17_ k qm tm, cell19_ k qm tm, cell21_ k qm tm, cell20_ k qm sm, cell16_ k qm sm, cell11_ k qm sm, cell10_ k qm sm, cell9_ k qm sm, cell7_ k qm sm] := hD
  have hS : va_S A s.heap H locs := by rw [eH, el]; exact hS
  suffices goal : W p l e ({ frames := 6, cells := 0, slots := 0, locals := 157 } : Room) s m ([.ref (qm 0), .int p0, .int p1] : List Value).toArray below meth c H locs 0 0 Q (F0 m 0 ls []) by rw [eH, el] at goal; exact goal
  refine lv_aload_n hx hb dX12_against_0 rfl (lv_at hl 0 rfl) ?_
  refine lv_iload_n hx hb dX12_against_1 rfl (lv_at hl 1 rfl) ?_
  refine g_iF (w1 := fun (_ : Unit) => [cell22_ qm sm tm, cell5_ k qm sm, cell13_ k qm sm, cell8_ k qm sm, cell6_ k qm sm, cell14_ k qm sm, cell15_ k qm tm, cell12_ k qm tm, cell18_ k qm tm, cell17_ k qm tm, cell19_ k qm tm, cell21_ k qm tm, cell20_ k qm sm, cell16_ k qm sm, cell11_ k qm sm, cell10_ k qm sm, cell9_ k qm sm, cell7_ k qm sm]) (g_runVF (ws := [cell22_ qm sm tm, cell5_ k qm sm, cell13_ k qm sm, cell8_ k qm sm, cell6_ k qm sm, cell14_ k qm sm, cell15_ k qm tm, cell12_ k qm tm, cell18_ k qm tm, cell17_ k qm tm, cell19_ k qm tm, cell21_ k qm tm, cell20_ k qm sm, cell16_ k qm sm, cell11_ k qm sm, cell10_ k qm sm, cell9_ k qm sm, cell7_ k qm sm]) (rest := []) cx hP hD hS [.int p0] (c_X12_isWeek l D k b qm sm tm H.size p0 (show 0 ≤ ((sm 2) 0).toInt ∧ ((sm 2) 0).toInt ≤ 5 from by first | decide | omega)) gX12_against_X12_isWeek rfl rfl rfl nd_X12_isWeek ⟨Nat.le_of_ble_eq_true rfl, Nat.le_of_ble_eq_true rfl⟩ (ci := 10) (q0 := 0) rfl rfl rfl hl.1 rfl (Nat.le_of_ble_eq_true rfl) ⟨Nat.zero_le _, Nat.zero_le _⟩ dX12_against_2) cx.2.2.1 hD hS (fun r2 _ H locs hw1 hP hD hS => ?_)
  replace hw1 : (0 ≤ r2.toInt ∧ r2.toInt ≤ 1) ∧ (Imp (r2.toInt = 1) (0 ≤ p0.toInt ∧ p0.toInt ≤ 4)) ∧ (r2 = J_X12_isWeek sm tm p0) := hw1
  obtain ⟨w3, w4, w5⟩ := hw1
  have k7 : r2 = (J_X12_isWeek sm tm p0) := congrArg (fun z => z) w5
  have zr2 : 0 ≤ r2.toInt ∧ r2.toInt ≤ 1 := w3
  refine lv_if_ne (tgt := 10) hx hb dX12_against_5 (by decide) (fun c8 => ?_) (fun c8 => ?_)
  · have f8 : ¬ r2.toInt = 0 := f_ne rfl (by decide) c8
    have k8 : (0 ≤ p0.toInt ∧ p0.toInt ≤ 4) := w4 (by omega)
    refine lv_iload_n hx hb dX12_against_10 rfl (lv_at hl 2 rfl) ?_
    obtain ⟨v9, e9⟩ : ∃ z : Int64, z = (p1 : Int32).toInt64 := ⟨_, rfl⟩
    refine lv_i2l (v := v9) hx hb dX12_against_11 e9.symm ?_
    refine lv_lconst (v := 0) hx hb dX12_against_12 (by decide) ?_
    refine lv_ldc2 (v := 4) hx hb cx.1.2.2.2.1 (cx.1.2.2.2.2 _ kJ_X12_against_69) dX12_against_13 ?_
    refine g_ir (g_runS (wc := []) (rest := []) cx hP hD hS [] rfl (by decide) [.long v9, .long 0, .long 4] (c_X12_in l D k b H.size v9 0 4) gX12_against_X12_in rfl rfl rfl nd_X12_in ⟨Nat.le_of_ble_eq_true rfl, Nat.le_of_ble_eq_true rfl⟩ rfl hl.1 rfl (Nat.le_of_ble_eq_true rfl) ⟨Nat.zero_le _, Nat.zero_le _⟩ dX12_against_16) cx.2.2.1 hP hD hS [] rfl rfl (fun r11 H locs hw10 hP hS => ?_)
    have w12 : r11 = J_X12_in v9 (0 : Int64) (4 : Int64) := hw10
    clear hw10
    have zr11 := in_b w12
    refine lv_if_ne (tgt := 25) hx hb dX12_against_19 (by decide) (fun c13 => ?_) (fun c13 => ?_)
    · have f13 : ¬ r11.toInt = 0 := f_ne rfl (by decide) c13
      have k13 : 0 ≤ p1.toInt ∧ p1.toInt ≤ 4 := in_t (i2l_t rfl e9) (by decide) (by decide) w12 c13
      refine lv_aload_n hx hb dX12_against_25 rfl (lv_at hl 0 rfl) ?_
      refine lv_iload_n hx hb dX12_against_26 rfl (lv_at hl 1 rfl) ?_
      refine g_vF (w1 := fun (u : (Nat → Int64) × (Nat → Int64) × (Nat → Int32)) => [cell22_ qm sm tm, cell5_ k qm sm, cell13_ k qm sm, cell8_ k qm sm, cell6_ k qm sm, cell14_ k qm sm, cell15_ k qm tm, cell12_ k qm tm, cell18_ k qm tm, cell17_ k qm tm, cell130_ k qm (u.1), cell122_ k qm (u.2.1), cell123_ k qm (u.2.2), cell16_ k qm sm, cell11_ k qm sm, cell10_ k qm sm, cell9_ k qm sm, cell7_ k qm sm]) (g_runVF (ws := [cell22_ qm sm tm, cell5_ k qm sm, cell13_ k qm sm, cell8_ k qm sm, cell6_ k qm sm, cell14_ k qm sm, cell15_ k qm tm, cell12_ k qm tm, cell18_ k qm tm, cell17_ k qm tm, cell19_ k qm tm, cell21_ k qm tm, cell20_ k qm sm, cell16_ k qm sm, cell11_ k qm sm, cell10_ k qm sm, cell9_ k qm sm, cell7_ k qm sm]) (rest := []) cx hP hD hS [.int p0] (c_X12_layBest l D k b qm sm tm H.size p0 (show 0 ≤ ((sm 2) 0).toInt ∧ ((sm 2) 0).toInt ≤ 5 from by first | decide | omega) (show 0 ≤ ((sm 2) 1).toInt ∧ ((sm 2) 1).toInt ≤ 4 from by first | decide | omega) (show 0 ≤ p0.toInt ∧ p0.toInt ≤ 4 from by first | decide | omega)) gX12_against_X12_layBest rfl rfl rfl nd_X12_layBest ⟨Nat.le_of_ble_eq_true rfl, Nat.le_of_ble_eq_true rfl⟩ (ci := 10) (q0 := 0) rfl rfl rfl hl.1 rfl (Nat.le_of_ble_eq_true rfl) ⟨Nat.zero_le _, Nat.zero_le _⟩ dX12_against_27) cx.2.2.1 hD hS (fun u15 H locs hw14 hP hD hS => ?_)
      obtain ⟨m16, m17, m18⟩ := u15
      have hP : va_P D vwCl [cell22_ qm sm tm, cell5_ k qm sm, cell13_ k qm sm, cell8_ k qm sm, cell6_ k qm sm, cell14_ k qm sm, cell15_ k qm tm, cell12_ k qm tm, cell18_ k qm tm, cell17_ k qm tm, (qm 10, .inl (k 1, 1500, .inr (.inl m16))), (qm 11, .inl (k 1, 1500, .inr (.inl m17))), (qm 12, .inl (k 0, 1500, .inl m18)), cell16_ k qm sm, cell11_ k qm sm, cell10_ k qm sm, cell9_ k qm sm, cell7_ k qm sm] H := hP
      have hD : va_D A [cell22_ qm sm tm, cell5_ k qm sm, cell13_ k qm sm, cell8_ k qm sm, cell6_ k qm sm, cell14_ k qm sm, cell15_ k qm tm, cell12_ k qm tm, cell18_ k qm tm, cell17_ k qm tm, (qm 10, .inl (k 1, 1500, .inr (.inl m16))), (qm 11, .inl (k 1, 1500, .inr (.inl m17))), (qm 12, .inl (k 0, 1500, .inl m18)), cell16_ k qm sm, cell11_ k qm sm, cell10_ k qm sm, cell9_ k qm sm, cell7_ k qm sm] := hD
      refine lv_aload_n hx hb dX12_against_30 rfl (lv_at hl 0 rfl) ?_
      refine lv_iload_n hx hb dX12_against_31 rfl (lv_at hl 1 rfl) ?_
      refine lv_iload_n hx hb dX12_against_32 rfl (lv_at hl 2 rfl) ?_
      refine g_iF (w1 := fun (_ : Unit) => [cell22_ qm sm tm, cell5_ k qm sm, cell13_ k qm sm, cell8_ k qm sm, cell6_ k qm sm, cell14_ k qm sm, cell15_ k qm tm, cell12_ k qm tm, cell18_ k qm tm, cell17_ k qm tm, (qm 10, .inl (k 1, 1500, .inr (.inl m16))), (qm 11, .inl (k 1, 1500, .inr (.inl m17))), (qm 12, .inl (k 0, 1500, .inl m18)), cell16_ k qm sm, cell11_ k qm sm, cell10_ k qm sm, cell9_ k qm sm, cell7_ k qm sm]) (g_runVF (ws := [cell22_ qm sm tm, cell5_ k qm sm, cell13_ k qm sm, cell8_ k qm sm, cell6_ k qm sm, cell14_ k qm sm, cell15_ k qm tm, cell12_ k qm tm, cell18_ k qm tm, cell17_ k qm tm, (qm 10, .inl (k 1, 1500, .inr (.inl m16))), (qm 11, .inl (k 1, 1500, .inr (.inl m17))), (qm 12, .inl (k 0, 1500, .inl m18)), cell16_ k qm sm, cell11_ k qm sm, cell10_ k qm sm, cell9_ k qm sm, cell7_ k qm sm]) (rest := []) cx hP hD hS [.int p0, .int p1] (c_X12_againstOf l D k b qm (up2 sm 12 m18) (up2L (up2L tm 10 m16) 11 m17) H.size p0 p1 (show 0 ≤ ((sm 2) 1).toInt ∧ ((sm 2) 1).toInt ≤ 4 from by first | decide | omega) (show 0 ≤ p0.toInt ∧ p0.toInt ≤ 4 from by first | decide | omega)) gX12_against_X12_againstOf rfl rfl rfl nd_X12_againstOf ⟨Nat.le_of_ble_eq_true rfl, Nat.le_of_ble_eq_true rfl⟩ (ci := 10) (q0 := 0) rfl rfl rfl hl.1 rfl (Nat.le_of_ble_eq_true rfl) ⟨Nat.zero_le _, Nat.zero_le _⟩ dX12_against_33) cx.2.2.1 hD hS (fun r20 _ H locs hw19 hP hD hS => ?_)
      rw [hQ]
      exact x_i cx hr (m16, m17, m18) hP hD hS trivial dX12_against_36
    · have f13 : r11.toInt = 0 := f_eq rfl (by decide) c13
      have k13 : p1.toInt < 0 ∨ 4 < p1.toInt := in_f (i2l_t rfl e9) (by decide) (by decide) w12 c13
      refine lv_bipush (v := (-2)) hx hb dX12_against_22 (by decide) ?_
      have hlit21 : ((-2) : Int32).toInt = -2 := by decide
      rw [hQ]
      exact x_i cx hr ((tm 10), (tm 11), (sm 12)) hP hD hS trivial dX12_against_24
  · have f8 : r2.toInt = 0 := f_eq rfl (by decide) c8
    refine lv_iconst (v := (-1)) hx hb dX12_against_8 (by decide) ?_
    have hlit22 : ((-1) : Int32).toInt = -1 := by decide
    rw [hQ]
    exact x_i cx hr ((tm 10), (tm 11), (sm 12)) hP hD hS trivial dX12_against_9
