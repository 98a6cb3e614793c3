theorem kJ_X12_isGone_248 : Cond.constantLong RX12 248 (444) ∈ wsX12_isGone := by decide +kernel
def J_X12_isGone (p0 : Int32) : Int32 := if (J_X12_in (p0.toInt64) 0 444) = 0 then (0 : Int32) else if 5 ≤ ((p0 / 10) - (p0 / 10) / 10 * 10) then (0 : Int32) else if 5 ≤ (p0 - p0 / 10 * 10) then (0 : Int32) else (1 : Int32)
set_option maxHeartbeats 4000000 in
set_option maxRecDepth 100000 in
theorem c_X12_isGone (l : Launch) (D : va_G) (k : Nat → ClassId) (b : Nat → Nat) (sz : Nat) (p0 : Int32) : MetI l D k b yX12_isGone wsX12_isGone ({ frames := 1, cells := 0, slots := 0, locals := 25 } : Room) [] sz [.int p0] (fun (r : Int32) (u : Unit) => r = J_X12_isGone p0) (fun u => []) := by
  refine g_enter (cc := cX12_isGone) (maxL := 1) (ret := (some .boolean)) (by decide) rfl (Nat.le_of_ble_eq_true rfl) ?_
  intro p e s m below meth c A hsz hAe cx hr hP hD hS ls hl
  rw [hAe]
  refine g_q (fun Q hQ => ?_)
  have hx := cx.1.1
  have hb := cx.1.2.1
  have hl : lv_has ls 1 [(0, .int p0)] := hl
  obtain ⟨H, eH⟩ : ∃ H : Heap, H = s.heap := ⟨_, rfl⟩
  obtain ⟨locs, el⟩ : ∃ L : List Loc, L = [] := ⟨_, rfl⟩
  have hP : va_P D vwCl [] H := by rw [eH]; exact hP
  have hD : va_D A [] := hD
  have hS : va_S A s.heap H locs := by rw [eH, el]; exact hS
  suffices goal : W p l e ({ frames := 1, cells := 0, slots := 0, locals := 25 } : Room) s m ([.int p0] : List Value).toArray below meth c H locs 0 0 Q (F0 m 0 ls []) by rw [eH, el] at goal; exact goal
  refine lv_iload_n hx hb dX12_isGone_0 rfl (lv_at hl 0 rfl) ?_
  obtain ⟨v1, e1⟩ : ∃ z : Int64, z = (p0 : Int32).toInt64 := ⟨_, rfl⟩
  refine lv_i2l (v := v1) hx hb dX12_isGone_1 e1.symm ?_
  refine lv_lconst (v := 0) hx hb dX12_isGone_2 (by decide) ?_
  refine lv_ldc2 (v := 444) hx hb cx.1.2.2.2.1 (cx.1.2.2.2.2 _ kJ_X12_isGone_248) dX12_isGone_3 ?_
  refine g_ir (g_runS (wc := []) (rest := []) cx hP hD hS [] rfl (by decide) [.long v1, .long 0, .long 444] (c_X12_in l D k b H.size v1 0 444) gX12_isGone_X12_in rfl rfl rfl nd_X12_in ⟨Nat.le_of_ble_eq_true rfl, Nat.le_of_ble_eq_true rfl⟩ rfl hl.1 rfl (Nat.le_of_ble_eq_true rfl) ⟨Nat.zero_le _, Nat.zero_le _⟩ dX12_isGone_6) cx.2.2.1 hP hD hS [] rfl rfl (fun r3 H locs hw2 hP hS => ?_)
  have w4 : r3 = J_X12_in v1 (0 : Int64) (444 : Int64) := hw2
  clear hw2
  refine lv_if_eq (tgt := 35) hx hb dX12_isGone_9 (by decide) (fun c5 => ?_) (fun c5 => ?_)
  · refine lv_iconst (v := 0) hx hb dX12_isGone_35 (by decide) ?_
    rw [hQ]
    exact x_z cx hr (by decide) () hP hD hS (show 0 = J_X12_isGone p0 from by subst e1 w4; unfold J_X12_isGone; rw [if_pos c5]) dX12_isGone_36
  · refine lv_iload_n hx hb dX12_isGone_12 rfl (lv_at hl 0 rfl) ?_
    refine lv_bipush (v := 10) hx hb dX12_isGone_13 (by decide) ?_
    refine lv_idiv hx hb dX12_isGone_15 (by decide) (lv_topi (fun v6 e6 => ?_))
    refine lv_bipush (v := 10) hx hb dX12_isGone_16 (by decide) ?_
    refine lv_irem hx hb dX12_isGone_18 (by decide) (lv_topi (fun v7 e7 => ?_))
    refine lv_iconst (v := 5) hx hb dX12_isGone_19 (by decide) ?_
    refine lv_icmp_ge (tgt := 35) hx hb dX12_isGone_20 (by decide) (fun c8 => ?_) (fun c8 => ?_)
    · refine lv_iconst (v := 0) hx hb dX12_isGone_35 (by decide) ?_
      rw [hQ]
      exact x_z cx hr (by decide) () hP hD hS (show 0 = J_X12_isGone p0 from by subst e1 w4 e6 e7; unfold J_X12_isGone; rw [if_neg c5, if_pos c8]) dX12_isGone_36
    · refine lv_iload_n hx hb dX12_isGone_23 rfl (lv_at hl 0 rfl) ?_
      refine lv_bipush (v := 10) hx hb dX12_isGone_24 (by decide) ?_
      refine lv_irem hx hb dX12_isGone_26 (by decide) (lv_topi (fun v9 e9 => ?_))
      refine lv_iconst (v := 5) hx hb dX12_isGone_27 (by decide) ?_
      refine lv_icmp_ge (tgt := 35) hx hb dX12_isGone_28 (by decide) (fun c10 => ?_) (fun c10 => ?_)
      · refine lv_iconst (v := 0) hx hb dX12_isGone_35 (by decide) ?_
        rw [hQ]
        exact x_z cx hr (by decide) () hP hD hS (show 0 = J_X12_isGone p0 from by subst e1 w4 e6 e7 e9; unfold J_X12_isGone; rw [if_neg c5, if_neg c8, if_pos c10]) dX12_isGone_36
      · refine lv_iconst (v := 1) hx hb dX12_isGone_31 (by decide) ?_
        refine lv_goto (tgt := 36) hx hb dX12_isGone_32 (by decide) ?_
        rw [hQ]
        exact x_z cx hr (by decide) () hP hD hS (show 1 = J_X12_isGone p0 from by subst e1 w4 e6 e7 e9; unfold J_X12_isGone; rw [if_neg c5, if_neg c8, if_neg c10]) dX12_isGone_36
