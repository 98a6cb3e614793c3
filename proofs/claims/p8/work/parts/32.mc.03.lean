theorem fw_X12_isWeek_13 : Cond.fieldLink RX12 13 "StillInAugustModel" "house" "[I" ∈ wsX12_isWeek := by decide +kernel
theorem iw_X12_isWeek_X12 : ∀ w ∈ u_ws RX12 TX12 33, w ∈ wsX12_isWeek := fun _ h => List.mem_cons_of_mem _ (List.mem_append_right _ h)
def J_X12_isWeek (sm : Nat → Nat → Int32) (tm : Nat → Nat → Int64) (p0 : Int32) : Int32 := (J_X12_in (p0.toInt64) 0 (((((sm 2) (0 : Int32).toNatClampNeg) - (1 : Int32)).toInt64)))
set_option maxHeartbeats 4000000 in
set_option maxRecDepth 100000 in
theorem c_X12_isWeek (l : Launch) (D : va_G) (k : Nat → ClassId) (b : Nat → Nat) (qm : Nat → Nat) (sm : Nat → Nat → Int32) (tm : Nat → Nat → Int64) (sz : Nat) (p0 : Int32) (h_w0 : 0 ≤ (sm 2 0).toInt ∧ (sm 2 0).toInt ≤ 5) : MetI l D k b yX12_isWeek wsX12_isWeek ({ frames := 1, cells := 0, slots := 0, locals := 25 } : Room) [cell22_ qm sm tm, cell5_ k qm sm, cell13_ k qm sm, cell8_ k qm sm, cell6_ k qm sm, cell14_ k qm sm, cell15_ k qm tm, cell12_ k qm tm, cell18_ k qm tm, cell17_ k qm tm, cell19_ k qm tm, cell21_ k qm tm, cell20_ k qm sm, cell16_ k qm sm, cell11_ k qm sm, cell10_ k qm sm, cell9_ k qm sm, cell7_ k qm sm] sz [.ref (qm 0), .int p0] (fun (r : Int32) (u : Unit) => (0 ≤ r.toInt ∧ r.toInt ≤ 1) ∧ (Imp (r.toInt = 1) (0 ≤ p0.toInt ∧ p0.toInt ≤ 4)) ∧ (r = J_X12_isWeek sm tm p0)) (fun u => [cell22_ qm sm tm, cell5_ k qm sm, cell13_ k qm sm, cell8_ k qm sm, cell6_ k qm sm, cell14_ k qm sm, cell15_ k qm tm, cell12_ k qm tm, cell18_ k qm tm, cell17_ k qm tm, cell19_ k qm tm, cell21_ k qm tm, cell20_ k qm sm, cell16_ k qm sm, cell11_ k qm sm, cell10_ k qm sm, cell9_ k qm sm, cell7_ k qm sm]) := by
  refine g_enter (cc := cX12_isWeek) (maxL := 2) (ret := (some .boolean)) (by decide) rfl (Nat.le_of_ble_eq_true rfl) ?_
  intro p e s m below meth c A hsz hAe cx hr hP hD hS ls hl
  rw [hAe]
  refine g_q (fun Q hQ => ?_)
  have hx := cx.1.1
  have hb := cx.1.2.1
  have bp0 := i_rng p0
  have hl : lv_has ls 2 [(0, .ref (qm 0)), (1, .int p0)] := hl
  obtain ⟨H, eH⟩ : ∃ H : Heap, H = s.heap := ⟨_, rfl⟩
  obtain ⟨locs, el⟩ : ∃ L : List Loc, L = [] := ⟨_, rfl⟩
  have hP : va_P D vwCl [cell22_ qm sm tm, cell5_ k qm sm, cell13_ k qm sm, cell8_ k qm sm, cell6_ k qm sm, cell14_ k qm sm, cell15_ k qm tm, cell12_ k qm tm, cell18_ k qm tm, cell17_ k qm tm, cell19_ k qm tm, cell21_ k qm tm, cell20_ k qm sm, cell16_ k qm sm, cell11_ k qm sm, cell10_ k qm sm, cell9_ k qm sm, cell7_ k qm sm] H := by rw [eH]; exact hP
  have hD : va_D A [cell22_ qm sm tm, cell5_ k qm sm, cell13_ k qm sm, cell8_ k qm sm, cell6_ k qm sm, cell14_ k qm sm, cell15_ k qm tm, cell12_ k qm tm, cell18_ k qm tm, cell17_ k qm tm, cell19_ k qm tm, cell21_ k qm tm, cell20_ k qm sm, cell16_ k qm sm, cell11_ k qm sm, cell10_ k qm sm, cell9_ k qm sm, cell7_ k qm sm] := hD
  have hS : va_S A s.heap H locs := by rw [eH, el]; exact hS
  suffices goal : W p l e ({ frames := 1, cells := 0, slots := 0, locals := 25 } : Room) s m ([.ref (qm 0), .int p0] : List Value).toArray below meth c H locs 0 0 Q (F0 m 0 ls []) by rw [eH, el] at goal; exact goal
  refine lv_iload_n hx hb dX12_isWeek_0 rfl (lv_at hl 1 rfl) ?_
  obtain ⟨v1, e1⟩ : ∃ z : Int64, z = (p0 : Int32).toInt64 := ⟨_, rfl⟩
  refine lv_i2l (v := v1) hx hb dX12_isWeek_1 e1.symm ?_
  refine lv_lconst (v := 0) hx hb dX12_isWeek_2 (by decide) ?_
  refine lv_aload_n hx hb dX12_isWeek_3 rfl (lv_at hl 0 rfl) ?_
  refine g_get cx hP iw_X12_isWeek_X12 0 rfl rfl 1 (by decide) rfl fw_X12_isWeek_13 rfl dX12_isWeek_4 ?_
  refine lv_iconst (v := 0) hx hb dX12_isWeek_7 (by decide) ?_
  have hn2 : vp_in 0 26 := f_in (a := 0) (by decide) (by omega) (by omega)
  refine va_iald hx hb cx.2.1 hP 2 0 rfl rfl hn2 dX12_isWeek_8 (lv_topi (fun v3 e3 => ?_))
  have uv3 : v3.toInt = ((sm 2) 0).toInt := congrArg Int32.toInt e3
  have t3 : 0 ≤ v3.toInt ∧ v3.toInt ≤ 5 := by rw [e3]; exact h_w0
  refine lv_iconst (v := 1) hx hb dX12_isWeek_9 (by decide) ?_
  refine lv_isub hx hb dX12_isWeek_10 (lv_topi (fun v4 e4 => ?_))
  have t4 : v4.toInt = v3.toInt - 1 := by rw [e4]; exact i_sub rfl (by decide) (by omega) (by omega)
  obtain ⟨v5, e5⟩ : ∃ z : Int64, z = (v4 : Int32).toInt64 := ⟨_, rfl⟩
  refine lv_i2l (v := v5) hx hb dX12_isWeek_11 e5.symm ?_
  refine g_ir (g_runS (wc := []) (rest := []) cx hP hD hS [] rfl (by decide) [.long v1, .long 0, .long v5] (c_X12_in l D k b H.size v1 0 v5) gX12_isWeek_X12_in rfl rfl rfl nd_X12_in ⟨Nat.le_of_ble_eq_true rfl, Nat.le_of_ble_eq_true rfl⟩ rfl hl.1 rfl (Nat.le_of_ble_eq_true rfl) ⟨Nat.zero_le _, Nat.zero_le _⟩ dX12_isWeek_12) cx.2.2.1 hP hD hS [] rfl rfl (fun r7 H locs hw6 hP hS => ?_)
  have w8 : r7 = J_X12_in v1 (0 : Int64) v5 := hw6
  clear hw6
  have zr7 := in_b w8
  rw [hQ]
  exact x_z cx hr (nar_z (by omega)) () hP hD hS ⟨(show 0 ≤ r7.toInt ∧ r7.toInt ≤ 1 from by omega), (show Imp (r7.toInt = 1) (0 ≤ p0.toInt ∧ p0.toInt ≤ 4) from fun h => by have q : 0 ≤ p0.toInt ∧ p0.toInt ≤ v4.toInt := in_t (i2l_t rfl e1) (by decide) (i2l_t rfl e5) w8 (ne1 h); omega), (show r7 = J_X12_isWeek sm tm p0 from by subst e1 e3 e4 e5 w8; rfl)⟩ dX12_isWeek_15
