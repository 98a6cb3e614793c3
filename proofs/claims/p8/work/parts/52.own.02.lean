theorem fw_X11_isWeek_126 : Cond.fieldLink RX11 126 "StillInAugust$House" "weeks" "I" ∈ wsX11_isWeek := by decide +kernel
theorem fw_X11_isWeek_39 : Cond.fieldLink RX11 39 "StillInAugust" "house" "LStillInAugust$House;" ∈ wsX11_isWeek := by decide +kernel
theorem iw_X11_isWeek_X11 : ∀ w ∈ u_ws RX11 TX11 17, w ∈ wsX11_isWeek := fun _ h => List.mem_cons_of_mem _ (List.mem_append_left _ (List.mem_append_right _ h))
theorem iw_X11_isWeek_X4 : ∀ w ∈ u_ws RX4 TX4 14, w ∈ wsX11_isWeek := fun _ h => List.mem_cons_of_mem _ (List.mem_append_right _ h)
def J_X11_isWeek (sx : Nat → Nat → Int32) (sh : Nat → Nat → Int32) (p0 : Int32) : Int32 := if p0 < 0 then (0 : Int32) else if (sh 0 0) ≤ p0 then (0 : Int32) else (1 : Int32)
set_option maxHeartbeats 4000000 in
set_option maxRecDepth 100000 in
theorem c_X11_isWeek (l : Launch) (D : va_G) (k : Nat → ClassId) (b : Nat → Nat) (qx : Nat → Nat) (sx : Nat → Nat → Int32) (qh : Nat → Nat) (sh : Nat → Nat → Int32) (sz : Nat) (p0 : Int32) (h_wk : 0 ≤ (sh 0 0).toInt ∧ (sh 0 0).toInt ≤ 5) : MetI l D k b yX11_isWeek wsX11_isWeek ({ frames := 0, cells := 0, slots := 0, locals := 0 } : Room) [cell30_ qx sx, cell28_ k qx sx, cell29_ k qx sx, cell31_ qx sh qh, cell0_ k qh sh, cell1_ k qh sh, cell4_ k qh sh, cell3_ k qh sh, cell2_ k qh sh] sz [.ref (qx 0), .int p0] (fun (r : Int32) (u : Unit) => (0 ≤ r.toInt ∧ r.toInt ≤ 1) ∧ (Imp (r.toInt = 1) (0 ≤ p0.toInt ∧ p0.toInt ≤ 4 ∧ p0.toInt < (sh 0 0).toInt)) ∧ (r = J_X11_isWeek sx sh p0)) (fun u => [cell30_ qx sx, cell28_ k qx sx, cell29_ k qx sx, cell31_ qx sh qh, cell0_ k qh sh, cell1_ k qh sh, cell4_ k qh sh, cell3_ k qh sh, cell2_ k qh sh]) := by
  refine g_enter (cc := cX11_isWeek) (maxL := 2) (ret := (some .boolean)) (by decide) rfl (Nat.le_of_ble_eq_true rfl) ?_
  intro p e s m below meth c A hsz hAe cx hr hP hD hS ls hl
  rw [hAe]
  refine g_q (fun Q hQ => ?_)
  have hx := cx.1.1
  have hb := cx.1.2.1
  have bp0 := i_rng p0
  have hl : lv_has ls 2 [(0, .ref (qx 0)), (1, .int p0)] := hl
  obtain ⟨H, eH⟩ : ∃ H : Heap, H = s.heap := ⟨_, rfl⟩
  obtain ⟨locs, el⟩ : ∃ L : List Loc, L = [] := ⟨_, rfl⟩
  have hP : va_P D vwCl [cell30_ qx sx, cell28_ k qx sx, cell29_ k qx sx, cell31_ qx sh qh, cell0_ k qh sh, cell1_ k qh sh, cell4_ k qh sh, cell3_ k qh sh, cell2_ k qh sh] H := by rw [eH]; exact hP
  have hD : va_D A [cell30_ qx sx, cell28_ k qx sx, cell29_ k qx sx, cell31_ qx sh qh, cell0_ k qh sh, cell1_ k qh sh, cell4_ k qh sh, cell3_ k qh sh, cell2_ k qh sh] := hD
  have hS : va_S A s.heap H locs := by rw [eH, el]; exact hS
  suffices goal : W p l e ({ frames := 0, cells := 0, slots := 0, locals := 0 } : Room) s m ([.ref (qx 0), .int p0] : List Value).toArray below meth c H locs 0 0 Q (F0 m 0 ls []) by rw [eH, el] at goal; exact goal
  refine lv_iload_n hx hb dX11_isWeek_0 rfl (lv_at hl 1 rfl) ?_
  refine lv_if_lt (tgt := 19) hx hb dX11_isWeek_1 (by decide) (fun c1 => ?_) (fun c1 => ?_)
  · have f1 : p0.toInt < 0 := f_lt rfl (by decide) c1
    refine lv_iconst (v := 0) hx hb dX11_isWeek_19 (by decide) ?_
    have hlit2 : (0 : Int32).toInt = 0 := by decide
    rw [hQ]
    exact x_z cx hr (by decide) () hP hD hS ⟨(show 0 ≤ (0 : Int32).toInt ∧ (0 : Int32).toInt ≤ 1 from by omega), (show Imp ((0 : Int32).toInt = 1) (0 ≤ p0.toInt ∧ p0.toInt ≤ 4 ∧ p0.toInt < (sh 0 0).toInt) from fun h => by first | exact absurd h (by decide) | omega), (show (0 : Int32) = J_X11_isWeek sx sh p0 from by first | (refine Eq.symm ?_; refine Eq.trans (if_pos c1) ?_; rfl) | (unfold J_X11_isWeek; try dsimp only; rw [if_pos c1]))⟩ dX11_isWeek_20
  · have f1 : 0 ≤ p0.toInt := f_nlt rfl (by decide) c1
    refine lv_iload_n hx hb dX11_isWeek_4 rfl (lv_at hl 1 rfl) ?_
    refine lv_aload_n hx hb dX11_isWeek_5 rfl (lv_at hl 0 rfl) ?_
    refine g_get cx hP iw_X11_isWeek_X11 0 rfl rfl 4 (by decide) rfl fw_X11_isWeek_39 rfl dX11_isWeek_6 ?_
    refine g_get cx hP iw_X11_isWeek_X4 3 rfl rfl 0 (by decide) rfl fw_X11_isWeek_126 rfl dX11_isWeek_9 ?_
    refine lv_icmp_ge (tgt := 19) hx hb dX11_isWeek_12 (by decide) (fun c3 => ?_) (fun c3 => ?_)
    · have f3 : (sh 0 0).toInt ≤ p0.toInt := f_le rfl rfl c3
      refine lv_iconst (v := 0) hx hb dX11_isWeek_19 (by decide) ?_
      have hlit4 : (0 : Int32).toInt = 0 := by decide
      rw [hQ]
      exact x_z cx hr (by decide) () hP hD hS ⟨(show 0 ≤ (0 : Int32).toInt ∧ (0 : Int32).toInt ≤ 1 from by omega), (show Imp ((0 : Int32).toInt = 1) (0 ≤ p0.toInt ∧ p0.toInt ≤ 4 ∧ p0.toInt < (sh 0 0).toInt) from fun h => by first | exact absurd h (by decide) | omega), (show (0 : Int32) = J_X11_isWeek sx sh p0 from by first | (refine Eq.symm ?_; refine Eq.trans (if_neg c1) ?_; refine Eq.trans (if_pos c3) ?_; rfl) | (unfold J_X11_isWeek; try dsimp only; rw [if_neg c1, if_pos c3]))⟩ dX11_isWeek_20
    · have f3 : p0.toInt < (sh 0 0).toInt := f_nle rfl rfl c3
      refine lv_iconst (v := 1) hx hb dX11_isWeek_15 (by decide) ?_
      refine lv_goto (tgt := 20) hx hb dX11_isWeek_16 (by decide) ?_
      have hlit5 : (1 : Int32).toInt = 1 := by decide
      rw [hQ]
      exact x_z cx hr (by decide) () hP hD hS ⟨(show 0 ≤ (1 : Int32).toInt ∧ (1 : Int32).toInt ≤ 1 from by omega), (show Imp ((1 : Int32).toInt = 1) (0 ≤ p0.toInt ∧ p0.toInt ≤ 4 ∧ p0.toInt < (sh 0 0).toInt) from fun h => by first | exact absurd h (by decide) | omega), (show (1 : Int32) = J_X11_isWeek sx sh p0 from by first | (refine Eq.symm ?_; refine Eq.trans (if_neg c1) ?_; refine Eq.trans (if_neg c3) ?_; rfl) | (unfold J_X11_isWeek; try dsimp only; rw [if_neg c1, if_neg c3]))⟩ dX11_isWeek_20
