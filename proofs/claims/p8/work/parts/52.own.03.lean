theorem fw_X11_isHands_158 : Cond.fieldLink RX11 158 "StillInAugust$House" "hooks" "I" ∈ wsX11_isHands := by decide +kernel
theorem fw_X11_isHands_39 : Cond.fieldLink RX11 39 "StillInAugust" "house" "LStillInAugust$House;" ∈ wsX11_isHands := by decide +kernel
theorem iw_X11_isHands_X11 : ∀ w ∈ u_ws RX11 TX11 17, w ∈ wsX11_isHands := fun _ h => List.mem_cons_of_mem _ (List.mem_append_left _ (List.mem_append_right _ h))
theorem iw_X11_isHands_X4 : ∀ w ∈ u_ws RX4 TX4 14, w ∈ wsX11_isHands := fun _ h => List.mem_cons_of_mem _ (List.mem_append_right _ h)
def J_X11_isHands (sx : Nat → Nat → Int32) (sh : Nat → Nat → Int32) (p0 : Int32) : Int32 := (J_X3_areAtMost p0 (sh 0 1))
set_option maxHeartbeats 4000000 in
set_option maxRecDepth 100000 in
theorem c_X11_isHands (l : Launch) (D : va_G) (k : Nat → ClassId) (b : Nat → Nat) (qx : Nat → Nat) (sx : Nat → Nat → Int32) (qh : Nat → Nat) (sh : Nat → Nat → Int32) (sz : Nat) (p0 : Int32) (h_hk : 0 ≤ (sh 0 1).toInt ∧ (sh 0 1).toInt ≤ 4) : MetI l D k b yX11_isHands wsX11_isHands ({ frames := 2, cells := 0, slots := 0, locals := 41 } : Room) [cell30_ qx sx, cell28_ k qx sx, cell29_ k qx sx, cell31_ qx sh qh, cell0_ k qh sh, cell1_ k qh sh, cell4_ k qh sh, cell3_ k qh sh, cell2_ k qh sh] sz [.ref (qx 0), .int p0] (fun (r : Int32) (u : Unit) => (0 ≤ r.toInt ∧ r.toInt ≤ 1) ∧ (Imp (r.toInt = 1) ((0 ≤ p0.toInt ∧ p0.toInt ≤ 400 ∧ tot p0 ≤ 4) ∧ tot p0 ≤ (sh 0 1).toInt)) ∧ (r = J_X11_isHands sx sh p0)) (fun u => [cell30_ qx sx, cell28_ k qx sx, cell29_ k qx sx, cell31_ qx sh qh, cell0_ k qh sh, cell1_ k qh sh, cell4_ k qh sh, cell3_ k qh sh, cell2_ k qh sh]) := by
  refine g_enter (cc := cX11_isHands) (maxL := 2) (ret := (some .boolean)) (by decide) rfl (Nat.le_of_ble_eq_true rfl) ?_
  intro p e s m below meth c A hsz hAe cx hr hP hD hS ls hl
  rw [hAe]
  refine g_q (fun Q hQ => ?_)
  have hx := cx.1.1
  have hb := cx.1.2.1
  have bp0 := i_rng p0
  have hl : lv_has ls 2 [(0, .ref (qx 0)), (1, .int p0)] := hl
  obtain ⟨H, eH⟩ : ∃ H : Heap, H = s.heap := ⟨_, rfl⟩
  obtain ⟨locs, el⟩ : ∃ L : List Loc, L = [] := ⟨_, rfl⟩
  have hP : va_P D vwCl [cell30_ qx sx, cell28_ k qx sx, cell29_ k qx sx, cell31_ qx sh qh, cell0_ k qh sh, cell1_ k qh sh, cell4_ k qh sh, cell3_ k qh sh, cell2_ k qh sh] H := by rw [eH]; exact hP
  have hD : va_D A [cell30_ qx sx, cell28_ k qx sx, cell29_ k qx sx, cell31_ qx sh qh, cell0_ k qh sh, cell1_ k qh sh, cell4_ k qh sh, cell3_ k qh sh, cell2_ k qh sh] := hD
  have hS : va_S A s.heap H locs := by rw [eH, el]; exact hS
  suffices goal : W p l e ({ frames := 2, cells := 0, slots := 0, locals := 41 } : Room) s m ([.ref (qx 0), .int p0] : List Value).toArray below meth c H locs 0 0 Q (F0 m 0 ls []) by rw [eH, el] at goal; exact goal
  refine lv_iload_n hx hb dX11_isHands_0 rfl (lv_at hl 1 rfl) ?_
  refine lv_aload_n hx hb dX11_isHands_1 rfl (lv_at hl 0 rfl) ?_
  refine g_get cx hP iw_X11_isHands_X11 0 rfl rfl 4 (by decide) rfl fw_X11_isHands_39 rfl dX11_isHands_2 ?_
  refine g_get cx hP iw_X11_isHands_X4 3 rfl rfl 1 (by decide) rfl fw_X11_isHands_158 rfl dX11_isHands_5 ?_
  refine g_ir (g_runS (wc := []) (rest := []) cx hP hD hS [] rfl (by decide) [.int p0, .int (sh 0 1)] (c_X3_areAtMost l D k b H.size p0 (sh 0 1)) gX11_isHands_X3_areAtMost rfl rfl rfl nd_X3_areAtMost ⟨Nat.le_of_ble_eq_true rfl, Nat.le_of_ble_eq_true rfl⟩ rfl hl.1 rfl (Nat.le_of_ble_eq_true rfl) ⟨Nat.zero_le _, Nat.zero_le _⟩ dX11_isHands_8) cx.2.2.1 hP hD hS [] rfl rfl (fun r2 H locs hw1 hP hS => ?_)
  have w3 : r2 = J_X3_areAtMost p0 (sh 0 1) := hw1
  clear hw1
  have zr2 := atm_b w3
  have aw := w3
  rw [hQ]
  exact x_z cx hr (nar_z (by omega)) () hP hD hS ⟨(show 0 ≤ r2.toInt ∧ r2.toInt ≤ 1 from by omega), (show Imp (r2.toInt = 1) ((0 ≤ p0.toInt ∧ p0.toInt ≤ 400 ∧ tot p0 ≤ 4) ∧ tot p0 ≤ (sh 0 1).toInt) from fun h => atm_v aw (ne1 h) (by omega)), (show r2 = J_X11_isHands sx sh p0 from by subst w3; rfl)⟩ dX11_isHands_11
