theorem nd_X11_refuseAct : yX11_refuseAct.cls = RX11 ∧ yX11_refuseAct.cls ≠ "java/lang/invoke/MethodHandle" ∧ yX11_refuseAct.cls ≠ "java/lang/invoke/VarHandle" ∧ (parseMethodDescriptor yX11_refuseAct.desc).map (fun d => d.parameters.length) = some 4 := by decide +kernel
def J_X11_may (sx : Nat → Nat → Int32) (sh : Nat → Nat → Int32) (p0 : Int32) (p1 : Int32) (p2 : Int32) : Int32 := let y6 := J_X11_refuseAct sx (lS [(lI [(sh 0 0), (sh 0 1), 0, 0, 0, 0, (sh 0 6), (sh 0 7), (sh 0 8), (sh 0 9), (sh 0 10), (sh 0 11), (sh 0 12)]), (sh 1), (sh 2), (sh 3), (sh 4), (sh 5)]) p0 p1 0 p2; if y6 = (-1) then y6 else if y6 = (-2) then y6 else if y6 = (-3) then (0 : Int32) else (1 : Int32)
set_option maxHeartbeats 4000000 in
set_option maxRecDepth 100000 in
theorem c_X11_may (l : Launch) (D : va_G) (k : Nat → ClassId) (b : Nat → Nat) (qx : Nat → Nat) (sx : Nat → Nat → Int32) (qh : Nat → Nat) (sh : Nat → Nat → Int32) (sz : Nat) (p0 : Int32) (p1 : Int32) (p2 : Int32) (h_wk : 0 ≤ (sh 0 0).toInt ∧ (sh 0 0).toInt ≤ 5) (h_hk : 0 ≤ (sh 0 1).toInt ∧ (sh 0 1).toInt ≤ 4) (h_fl : 0 ≤ (sh 0 12).toInt ∧ (sh 0 12).toInt ≤ 5) (h_of : ∀ j, 0 ≤ (sh 2 j).toInt ∧ (sh 2 j).toInt ≤ 4) (h_go : ∀ j, 0 ≤ (sh 3 j).toInt ∧ (sh 3 j).toInt ≤ 5) : MetI l D k b yX11_may wsX11_may ({ frames := 5, cells := 0, slots := 0, locals := 110 } : Room) [cell30_ qx sx, cell28_ k qx sx, cell29_ k qx sx, cell31_ qx sh qh, cell0_ k qh sh, cell1_ k qh sh, cell4_ k qh sh, cell3_ k qh sh, cell2_ k qh sh] sz [.ref (qx 0), .int p0, .int p1, .int p2] (fun (r : Int32) (u : Unit) => r = J_X11_may sx sh p0 p1 p2) (fun u => [cell30_ qx sx, cell28_ k qx sx, cell29_ k qx sx, cell31_ qx sh qh, cell0_ k qh sh, cell1_ k qh sh, cell4_ k qh sh, cell3_ k qh sh, cell2_ k qh sh]) := by
  refine g_enter (cc := cX11_may) (maxL := 5) (ret := (some .int)) (by decide) rfl (Nat.le_of_ble_eq_true rfl) ?_
  intro p e s m below meth c A hsz hAe cx hr hP hD hS ls hl
  rw [hAe]
  refine g_q (fun Q hQ => ?_)
  have hx := cx.1.1
  have hb := cx.1.2.1
  have bp0 := i_rng p0
  have bp1 := i_rng p1
  have bp2 := i_rng p2
  have hl : lv_has ls 5 [(0, .ref (qx 0)), (1, .int p0), (2, .int p1), (3, .int p2)] := hl
  obtain ⟨H, eH⟩ : ∃ H : Heap, H = s.heap := ⟨_, rfl⟩
  obtain ⟨locs, el⟩ : ∃ L : List Loc, L = [] := ⟨_, rfl⟩
  have hP : va_P D vwCl [cell30_ qx sx, cell28_ k qx sx, cell29_ k qx sx, cell31_ qx sh qh, cell0_ k qh sh, cell1_ k qh sh, cell4_ k qh sh, cell3_ k qh sh, cell2_ k qh sh] H := by rw [eH]; exact hP
  have hD : va_D A [cell30_ qx sx, cell28_ k qx sx, cell29_ k qx sx, cell31_ qx sh qh, cell0_ k qh sh, cell1_ k qh sh, cell4_ k qh sh, cell3_ k qh sh, cell2_ k qh sh] := hD
  have hS : va_S A s.heap H locs := by rw [eH, el]; exact hS
  suffices goal : W p l e ({ frames := 5, cells := 0, slots := 0, locals := 110 } : Room) s m ([.ref (qx 0), .int p0, .int p1, .int p2] : List Value).toArray below meth c H locs 0 0 Q (F0 m 0 ls []) by rw [eH, el] at goal; exact goal
  refine lv_aload_n hx hb dX11_may_0 rfl (lv_at hl 0 rfl) ?_
  refine lv_iload_n hx hb dX11_may_1 rfl (lv_at hl 1 rfl) ?_
  refine lv_iload_n hx hb dX11_may_2 rfl (lv_at hl 2 rfl) ?_
  refine lv_iconst (v := 0) hx hb dX11_may_3 (by decide) ?_
  refine lv_iload_n hx hb dX11_may_4 rfl (lv_at hl 3 rfl) ?_
  have hlit1 : (0 : Int32).toInt = 0 := by decide
  refine g_iF (w1 := fun (_ : Unit) => [cell30_ qx sx, cell28_ k qx sx, cell29_ k qx sx, cell31_ qx sh qh, cell0_ k qh sh, cell1_ k qh sh, cell4_ k qh sh, cell3_ k qh sh, cell2_ k qh sh]) (g_runVF (ws := [cell30_ qx sx, cell28_ k qx sx, cell29_ k qx sx, cell31_ qx sh qh, cell0_ k qh sh, cell1_ k qh sh, cell4_ k qh sh, cell3_ k qh sh, cell2_ k qh sh]) (rest := []) cx hP hD hS [.int p0, .int p1, .int 0, .int p2] (c_X11_refuseAct l D k b qx sx (lq [0, qh 1, qh 2, qh 3, qh 4, qh 5]) (lS [(lI [(sh 0 0), (sh 0 1), 0, 0, 0, 0, (sh 0 6), (sh 0 7), (sh 0 8), (sh 0 9), (sh 0 10), (sh 0 11), (sh 0 12)]), (sh 1), (sh 2), (sh 3), (sh 4), (sh 5)]) H.size p0 p1 0 p2 (show 0 ≤ (sh 0 0).toInt ∧ (sh 0 0).toInt ≤ 5 from by first | decide | omega) (show 0 ≤ (sh 0 1).toInt ∧ (sh 0 1).toInt ≤ 4 from by first | decide | omega) (show 0 ≤ (sh 0 12).toInt ∧ (sh 0 12).toInt ≤ 5 from by first | decide | omega) h_of h_go) gX11_may_X11_refuseAct rfl rfl rfl nd_X11_refuseAct ⟨Nat.le_of_ble_eq_true rfl, Nat.le_of_ble_eq_true rfl⟩ (ci := 9) (q0 := 0) rfl rfl rfl hl.1 rfl (Nat.le_of_ble_eq_true rfl) ⟨Nat.zero_le _, Nat.zero_le _⟩ dX11_may_5) cx.2.2.1 hD hS (fun r3 _ H locs hw2 hP hD hS => ?_)
  replace hw2 : (¬ r3.toInt = 0 ∨ (0 ≤ p0.toInt ∧ p0.toInt ≤ 4 ∧ p0.toInt < (sh 0 0).toInt ∧ (0 ≤ p1.toInt ∧ p1.toInt ≤ 400 ∧ tot p1 ≤ 4) ∧ tot p1 ≤ (sh 0 1).toInt ∧ 0 ≤ (0 : Int32).toInt ∧ (0 : Int32).toInt ≤ 2 ∧ 0 ≤ p2.toInt ∧ 0 ≤ (J_X0_done p1 p2).toInt ∧ (J_X0_done p1 p2).toInt ≤ 400 ∧ tot (J_X0_done p1 p2) ≤ 4)) ∧ (r3 = J_X11_refuseAct sx (lS [(lI [(sh 0 0), (sh 0 1), 0, 0, 0, 0, (sh 0 6), (sh 0 7), (sh 0 8), (sh 0 9), (sh 0 10), (sh 0 11), (sh 0 12)]), (sh 1), (sh 2), (sh 3), (sh 4), (sh 5)]) p0 p1 (0 : Int32) p2) := hw2
  obtain ⟨w4, w5⟩ := hw2
  have k7 : r3 = (J_X11_refuseAct sx (lS [(lI [(sh 0 0), (sh 0 1), 0, 0, 0, 0, (sh 0 6), (sh 0 7), (sh 0 8), (sh 0 9), (sh 0 10), (sh 0 11), (sh 0 12)]), (sh 1), (sh 2), (sh 3), (sh 4), (sh 5)]) p0 p1 (0 : Int32) p2) := congrArg (fun z => z) w5
  refine lv_istore (lv' := [(4, .int r3), (0, .ref (qx 0)), (1, .int p0), (2, .int p1), (3, .int p2)]) hx hb dX11_may_8 hl (by decide) rfl (fun ls hl => ?_)
  refine lv_iload hx hb dX11_may_10 (lv_at hl 0 rfl) ?_
  refine lv_iconst (v := (-1)) hx hb dX11_may_12 (by decide) ?_
  refine lv_icmp_eq (tgt := 23) hx hb dX11_may_13 (by decide) (fun c8 => ?_) (fun c8 => ?_)
  · have f8 : r3.toInt = (-1) := f_eq rfl (by decide) c8
    refine lv_iload hx hb dX11_may_23 (lv_at hl 0 rfl) ?_
    rw [hQ]
    exact x_i cx hr () hP hD hS (show r3 = J_X11_may sx sh p0 p1 p2 from by subst k7; first | (refine Eq.symm ?_; refine Eq.trans (if_pos c8) ?_; rfl) | (unfold J_X11_may; try dsimp only; rw [if_pos c8])) dX11_may_25
  · have f8 : ¬ r3.toInt = (-1) := f_ne rfl (by decide) c8
    refine lv_iload hx hb dX11_may_16 (lv_at hl 0 rfl) ?_
    refine lv_bipush (v := (-2)) hx hb dX11_may_18 (by decide) ?_
    refine lv_icmp_ne (tgt := 26) hx hb dX11_may_20 (by decide) (fun c9 => ?_) (fun c9 => ?_)
    · have f9 : ¬ r3.toInt = (-2) := f_ne rfl (by decide) c9
      refine lv_iload hx hb dX11_may_26 (lv_at hl 0 rfl) ?_
      refine lv_bipush (v := (-3)) hx hb dX11_may_28 (by decide) ?_
      refine lv_icmp_ne (tgt := 37) hx hb dX11_may_30 (by decide) (fun c10 => ?_) (fun c10 => ?_)
      · have f10 : ¬ r3.toInt = (-3) := f_ne rfl (by decide) c10
        refine lv_iconst (v := 1) hx hb dX11_may_37 (by decide) ?_
        have hlit11 : (1 : Int32).toInt = 1 := by decide
        rw [hQ]
        exact x_i cx hr () hP hD hS (show (1 : Int32) = J_X11_may sx sh p0 p1 p2 from by subst k7; first | (refine Eq.symm ?_; refine Eq.trans (if_neg c8) ?_; refine Eq.trans (if_neg c9) ?_; refine Eq.trans (if_neg c10) ?_; rfl) | (unfold J_X11_may; try dsimp only; rw [if_neg c8, if_neg c9, if_neg c10])) dX11_may_38
      · have f10 : r3.toInt = (-3) := f_eq rfl (by decide) c10
        refine lv_iconst (v := 0) hx hb dX11_may_33 (by decide) ?_
        refine lv_goto (tgt := 38) hx hb dX11_may_34 (by decide) ?_
        have hlit12 : (0 : Int32).toInt = 0 := by decide
        rw [hQ]
        exact x_i cx hr () hP hD hS (show (0 : Int32) = J_X11_may sx sh p0 p1 p2 from by subst k7; first | (refine Eq.symm ?_; refine Eq.trans (if_neg c8) ?_; refine Eq.trans (if_neg c9) ?_; refine Eq.trans (if_pos c10) ?_; rfl) | (unfold J_X11_may; try dsimp only; rw [if_neg c8, if_neg c9, if_pos c10])) dX11_may_38
    · have f9 : r3.toInt = (-2) := f_eq rfl (by decide) c9
      refine lv_iload hx hb dX11_may_23 (lv_at hl 0 rfl) ?_
      rw [hQ]
      exact x_i cx hr () hP hD hS (show r3 = J_X11_may sx sh p0 p1 p2 from by subst k7; first | (refine Eq.symm ?_; refine Eq.trans (if_neg c8) ?_; refine Eq.trans (if_pos c9) ?_; rfl) | (unfold J_X11_may; try dsimp only; rw [if_neg c8, if_pos c9])) dX11_may_25
