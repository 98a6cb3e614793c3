theorem kJ_X12_isRule_146 : Cond.constantLong RX12 146 (2) ∈ wsX12_isRule := by decide +kernel
def J_X12_isRule (p0 : Int32) : Int32 := (J_X12_in (p0.toInt64) 0 2)
set_option maxHeartbeats 4000000 in
set_option maxRecDepth 100000 in
theorem c_X12_isRule (l : Launch) (D : va_G) (k : Nat → ClassId) (b : Nat → Nat) (sz : Nat) (p0 : Int32) : MetI l D k b yX12_isRule wsX12_isRule ({ frames := 1, cells := 0, slots := 0, locals := 25 } : Room) [] sz [.int p0] (fun (r : Int32) (u : Unit) => (0 ≤ r.toInt ∧ r.toInt ≤ 1) ∧ (Imp (r.toInt = 1) (0 ≤ p0.toInt ∧ p0.toInt ≤ 2)) ∧ (r = J_X12_isRule p0)) (fun u => []) := by
  refine g_enter (cc := cX12_isRule) (maxL := 1) (ret := (some .boolean)) (by decide) rfl (Nat.le_of_ble_eq_true rfl) ?_
  intro p e s m below meth c A hsz hAe cx hr hP hD hS ls hl
  rw [hAe]
  refine g_q (fun Q hQ => ?_)
  have hx := cx.1.1
  have hb := cx.1.2.1
  have bp0 := i_rng p0
  have hl : lv_has ls 1 [(0, .int p0)] := hl
  obtain ⟨H, eH⟩ : ∃ H : Heap, H = s.heap := ⟨_, rfl⟩
  obtain ⟨locs, el⟩ : ∃ L : List Loc, L = [] := ⟨_, rfl⟩
  have hP : va_P D vwCl [] H := by rw [eH]; exact hP
  have hD : va_D A [] := hD
  have hS : va_S A s.heap H locs := by rw [eH, el]; exact hS
  suffices goal : W p l e ({ frames := 1, cells := 0, slots := 0, locals := 25 } : Room) s m ([.int p0] : List Value).toArray below meth c H locs 0 0 Q (F0 m 0 ls []) by rw [eH, el] at goal; exact goal
  refine lv_iload_n hx hb dX12_isRule_0 rfl (lv_at hl 0 rfl) ?_
  obtain ⟨v1, e1⟩ : ∃ z : Int64, z = (p0 : Int32).toInt64 := ⟨_, rfl⟩
  refine lv_i2l (v := v1) hx hb dX12_isRule_1 e1.symm ?_
  refine lv_lconst (v := 0) hx hb dX12_isRule_2 (by decide) ?_
  refine lv_ldc2 (v := 2) hx hb cx.1.2.2.2.1 (cx.1.2.2.2.2 _ kJ_X12_isRule_146) dX12_isRule_3 ?_
  refine g_ir (g_runS (wc := []) (rest := []) cx hP hD hS [] rfl (by decide) [.long v1, .long 0, .long 2] (c_X12_in l D k b H.size v1 0 2) gX12_isRule_X12_in rfl rfl rfl nd_X12_in ⟨Nat.le_of_ble_eq_true rfl, Nat.le_of_ble_eq_true rfl⟩ rfl hl.1 rfl (Nat.le_of_ble_eq_true rfl) ⟨Nat.zero_le _, Nat.zero_le _⟩ dX12_isRule_6) cx.2.2.1 hP hD hS [] rfl rfl (fun r3 H locs hw2 hP hS => ?_)
  have w4 : r3 = J_X12_in v1 (0 : Int64) (2 : Int64) := hw2
  clear hw2
  have zr3 := in_b w4
  rw [hQ]
  exact x_z cx hr (nar_z (by omega)) () hP hD hS ⟨(show 0 ≤ r3.toInt ∧ r3.toInt ≤ 1 from by omega), (show Imp (r3.toInt = 1) (0 ≤ p0.toInt ∧ p0.toInt ≤ 2) from fun h => by have q : 0 ≤ p0.toInt ∧ p0.toInt ≤ 2 := in_t (i2l_t rfl e1) (by decide) (by decide) w4 (ne1 h); omega), (show r3 = J_X12_isRule p0 from by subst e1 w4; rfl)⟩ dX12_isRule_9
