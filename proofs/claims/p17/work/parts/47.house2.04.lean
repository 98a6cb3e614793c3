theorem fw_X4_mostOrdered_32 : Cond.fieldLink RX4 32 "StillInAugust$House" "weeks" "I" ∈ wsX4_mostOrdered := by decide +kernel
theorem nd_X4_mostComing : yX4_mostComing.cls = RX4 ∧ yX4_mostComing.cls ≠ "java/lang/invoke/MethodHandle" ∧ yX4_mostComing.cls ≠ "java/lang/invoke/VarHandle" ∧ (parseMethodDescriptor yX4_mostComing.desc).map (fun d => d.parameters.length) = some 0 := by decide +kernel
theorem iw_X4_mostOrdered_X4 : ∀ w ∈ u_ws RX4 TX4 14, w ∈ wsX4_mostOrdered := fun _ h => List.mem_cons_of_mem _ (List.mem_append_right _ h)
def J_X4_mostOrdered (sh : Nat → Nat → Int32) (p0 : Int32) : Int32 := if p0 = ((sh 0 0) - (1 : Int32)) then (0 : Int32) else let y7 := J_X4_mostComing sh; y7
set_option maxHeartbeats 4000000 in
set_option maxRecDepth 100000 in
theorem c_X4_mostOrdered (l : Launch) (D : va_G) (k : Nat → ClassId) (b : Nat → Nat) (qh : Nat → Nat) (sh : Nat → Nat → Int32) (sz : Nat) (p0 : Int32) (h_wk : 0 ≤ (sh 0 0).toInt ∧ (sh 0 0).toInt ≤ 5) : MetI l D k b yX4_mostOrdered wsX4_mostOrdered ({ frames := 1, cells := 0, slots := 0, locals := 20 } : Room) [cell32_ qh sh, cell0_ k qh sh, cell1_ k qh sh, cell4_ k qh sh, cell3_ k qh sh, cell2_ k qh sh] sz [.ref (qh 0), .int p0] (fun (r : Int32) (u : Unit) => (0 ≤ r.toInt ∧ r.toInt ≤ 2) ∧ (r = J_X4_mostOrdered sh p0)) (fun u => [cell32_ qh sh, cell0_ k qh sh, cell1_ k qh sh, cell4_ k qh sh, cell3_ k qh sh, cell2_ k qh sh]) := by
  refine g_enter (cc := cX4_mostOrdered) (maxL := 2) (ret := (some .int)) (by decide) rfl (Nat.le_of_ble_eq_true rfl) ?_
  intro p e s m below meth c A hsz hAe cx hr hP hD hS ls hl
  rw [hAe]
  refine g_q (fun Q hQ => ?_)
  have hx := cx.1.1
  have hb := cx.1.2.1
  have bp0 := i_rng p0
  have hl : lv_has ls 2 [(0, .ref (qh 0)), (1, .int p0)] := hl
  obtain ⟨H, eH⟩ : ∃ H : Heap, H = s.heap := ⟨_, rfl⟩
  obtain ⟨locs, el⟩ : ∃ L : List Loc, L = [] := ⟨_, rfl⟩
  have hP : va_P D vwCl [cell32_ qh sh, cell0_ k qh sh, cell1_ k qh sh, cell4_ k qh sh, cell3_ k qh sh, cell2_ k qh sh] H := by rw [eH]; exact hP
  have hD : va_D A [cell32_ qh sh, cell0_ k qh sh, cell1_ k qh sh, cell4_ k qh sh, cell3_ k qh sh, cell2_ k qh sh] := hD
  have hS : va_S A s.heap H locs := by rw [eH, el]; exact hS
  suffices goal : W p l e ({ frames := 1, cells := 0, slots := 0, locals := 20 } : Room) s m ([.ref (qh 0), .int p0] : List Value).toArray below meth c H locs 0 0 Q (F0 m 0 ls []) by rw [eH, el] at goal; exact goal
  refine lv_iload_n hx hb dX4_mostOrdered_0 rfl (lv_at hl 1 rfl) ?_
  refine lv_aload_n hx hb dX4_mostOrdered_1 rfl (lv_at hl 0 rfl) ?_
  refine g_get cx hP iw_X4_mostOrdered_X4 0 rfl rfl 0 (by decide) rfl fw_X4_mostOrdered_32 rfl dX4_mostOrdered_2 ?_
  refine lv_iconst (v := 1) hx hb dX4_mostOrdered_5 (by decide) ?_
  refine lv_isub hx hb dX4_mostOrdered_6 (lv_topi (fun v1 e1 => ?_))
  have t1 : v1.toInt = (sh 0 0).toInt - 1 := by rw [e1]; exact i_sub rfl (by decide) (by omega) (by omega)
  refine lv_icmp_ne (tgt := 14) hx hb dX4_mostOrdered_7 (by decide) (fun c2 => ?_) (fun c2 => ?_)
  · have f2 : ¬ p0.toInt = v1.toInt := f_ne rfl rfl c2
    refine lv_aload_n hx hb dX4_mostOrdered_14 rfl (lv_at hl 0 rfl) ?_
    refine g_iF (w1 := fun (_ : Unit) => [cell32_ qh sh, cell0_ k qh sh, cell1_ k qh sh, cell4_ k qh sh, cell3_ k qh sh, cell2_ k qh sh]) (g_runVF (ws := [cell32_ qh sh, cell0_ k qh sh, cell1_ k qh sh, cell4_ k qh sh, cell3_ k qh sh, cell2_ k qh sh]) (rest := []) cx hP hD hS [] (c_X4_mostComing l D k b qh sh H.size) gX4_mostOrdered_X4_mostComing rfl rfl rfl nd_X4_mostComing ⟨Nat.le_of_ble_eq_true rfl, Nat.le_of_ble_eq_true rfl⟩ (ci := 2) (q0 := 0) rfl rfl rfl hl.1 rfl (Nat.le_of_ble_eq_true rfl) ⟨Nat.zero_le _, Nat.zero_le _⟩ dX4_mostOrdered_15) cx.2.2.1 hD hS (fun r4 _ H locs hw3 hP hD hS => ?_)
    replace hw3 : (r4.toInt = 0 ∨ r4.toInt = 2) ∧ (r4 = J_X4_mostComing sh) := hw3
    obtain ⟨w5, w6⟩ := hw3
    have k8 : r4 = (J_X4_mostComing sh) := congrArg (fun z => z) w6
    rw [hQ]
    exact x_i cx hr () hP hD hS ⟨(show 0 ≤ r4.toInt ∧ r4.toInt ≤ 2 from by omega), (show r4 = J_X4_mostOrdered sh p0 from by subst e1 k8; first | (refine Eq.symm ?_; refine Eq.trans (if_neg c2) ?_; rfl) | (unfold J_X4_mostOrdered; try dsimp only; rw [if_neg c2]))⟩ dX4_mostOrdered_18
  · have f2 : p0.toInt = v1.toInt := f_eq rfl rfl c2
    refine lv_iconst (v := 0) hx hb dX4_mostOrdered_10 (by decide) ?_
    refine lv_goto (tgt := 18) hx hb dX4_mostOrdered_11 (by decide) ?_
    have hlit9 : (0 : Int32).toInt = 0 := by decide
    rw [hQ]
    exact x_i cx hr () hP hD hS ⟨(show 0 ≤ (0 : Int32).toInt ∧ (0 : Int32).toInt ≤ 2 from by omega), (show (0 : Int32) = J_X4_mostOrdered sh p0 from by subst e1; first | (refine Eq.symm ?_; refine Eq.trans (if_pos c2) ?_; rfl) | (unfold J_X4_mostOrdered; try dsimp only; rw [if_pos c2]))⟩ dX4_mostOrdered_18
