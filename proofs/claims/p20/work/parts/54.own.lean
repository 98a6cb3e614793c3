theorem fw_X11_mean_229 : Cond.fieldLink RX11 229 "StillInAugust$Course" "costs" "J" ∈ wsX11_mean := by decide +kernel
theorem fw_X11_mean_233 : Cond.fieldLink RX11 233 "StillInAugust$Course" "scale" "J" ∈ wsX11_mean := by decide +kernel
theorem fw_X11_mean_52 : Cond.fieldLink RX11 52 "StillInAugust" "course" "LStillInAugust$Course;" ∈ wsX11_mean := by decide +kernel
theorem kJ_X11_mean_220 : Cond.constantLong RX11 220 (-1) ∈ wsX11_mean := by decide +kernel
theorem nd_X11_goToTheEnd : yX11_goToTheEnd.cls = RX11 ∧ yX11_goToTheEnd.cls ≠ "java/lang/invoke/MethodHandle" ∧ yX11_goToTheEnd.cls ≠ "java/lang/invoke/VarHandle" ∧ (parseMethodDescriptor yX11_goToTheEnd.desc).map (fun d => d.parameters.length) = some 4 := by decide +kernel
theorem iw_X11_mean_X1 : ∀ w ∈ u_ws RX1 TX1 6, w ∈ wsX11_mean := fun _ h => List.mem_cons_of_mem _ (List.mem_append_left _ (List.mem_append_right _ h))
theorem iw_X11_mean_X11 : ∀ w ∈ u_ws RX11 TX11 17, w ∈ wsX11_mean := fun _ h => List.mem_cons_of_mem _ (List.mem_append_left _ (List.mem_append_left _ (List.mem_append_right _ h)))
def J_X11_mean (sx : Nat → Nat → Int32) (sh : Nat → Nat → Int32) (sco : Nat → Nat → Int32) (tco : Nat → Nat → Int64) (p0 : Int32) (p1 : Int32) (p2 : Int32) (p3 : Int32) (p4 : Int32) : Int64 × (Nat → Int64) × (Nat → Int64) × Int64 × Int64 × Int64 × Int64 := LetF (J_X11_isRule sx p0) (fun y6 => if y6 = 0 then (((-1) : Int64), (tco 1), (tco 2), (tco 0 2), (tco 0 3), (tco 0 4), (tco 0 5)) else LetF (J_X11_refuseState sx (lS [(lI [(sh 0 0), (sh 0 1), 0, 0, 0, 0, (sh 0 6), (sh 0 7), (sh 0 8), (sh 0 9), (sh 0 10), (sh 0 11), (sh 0 12)]), (sh 1), (sh 2), (sh 3), (sh 4), (sh 5)]) p1 p2 p3) (fun y12 => if y12 = 0 then LetF (J_X11_goToTheEnd sx (lS [(lI [(sh 0 0), (sh 0 1), 0, 0, 0, 0, (sh 0 6), (sh 0 7), (sh 0 8), (sh 0 9), (sh 0 10), (sh 0 11), (sh 0 12)]), (sh 1), (sh 2), (sh 3), (sh 4), (sh 5)]) (lS [(lI []), (fun _ => 0), (fun _ => 0)]) (lT [(lJ [0, 0, (tco 0 2), (tco 0 3), (tco 0 4), (tco 0 5)]), (tco 1), (tco 2)]) p0 p1 p2 p3) (fun y23 => LetF (J_X11_told (y23.2.2.2.1) (y23.2.2.1) p4) (fun y27 => (y27, (y23.1), (y23.2.1), (y23.2.2.1), (y23.2.2.2.1), (y23.2.2.2.2.1), (y23.2.2.2.2.2)))) else ((y12.toInt64), (tco 1), (tco 2), (tco 0 2), (tco 0 3), (tco 0 4), (tco 0 5))))
theorem exl_X11_mean_0 {sx : Nat → Nat → Int32} {sh : Nat → Nat → Int32} {sco : Nat → Nat → Int32} {tco : Nat → Nat → Int64} {p0 : Int32} {p1 : Int32} {p2 : Int32} {p3 : Int32} {p4 : Int32} {r25 : Int64} {m16 : Nat → Int64} {m17 : Nat → Int64} {m18 : Int64} {m19 : Int64} {m20 : Int64} {m21 : Int64} {r2 : Int32} {r9 : Int32} (w5 : r2 = J_X11_isRule sx p0) (c7 : ¬ (r2 = (0 : Int32))) (w11 : r9 = J_X11_refuseState sx (lS [(lI [(sh 0 0), (sh 0 1), 0, 0, 0, 0, (sh 0 6), (sh 0 7), (sh 0 8), (sh 0 9), (sh 0 10), (sh 0 11), (sh 0 12)]), (sh 1), (sh 2), (sh 3), (sh 4), (sh 5)]) p1 p2 p3) (c13 : r9 = (0 : Int32)) (w22 : (m16, m17, m18, m19, m20, m21) = J_X11_goToTheEnd sx (lS [(lI [(sh 0 0), (sh 0 1), 0, 0, 0, 0, (sh 0 6), (sh 0 7), (sh 0 8), (sh 0 9), (sh 0 10), (sh 0 11), (sh 0 12)]), (sh 1), (sh 2), (sh 3), (sh 4), (sh 5)]) (lS [(lI []), (fun _ => 0), (fun _ => 0)]) (lT [(lJ [0, 0, (tco 0 2), (tco 0 3), (tco 0 4), (tco 0 5)]), (tco 1), (tco 2)]) p0 p1 p2 p3) (w26 : r25 = J_X11_told m19 m18 p4) : (r25, m16, m17, m18, m19, m20, m21) = J_X11_mean sx sh sco tco p0 p1 p2 p3 p4 := by refine Eq.symm ?_; unfold J_X11_mean; refine lt_e w5 ?_; refine Eq.trans (if_neg c7) ?_; refine lt_e w11 ?_; refine Eq.trans (if_pos c13) ?_; refine lt_e w22 ?_; refine lt_e w26 ?_; rfl
theorem exl_X11_mean_1 {sx : Nat → Nat → Int32} {sh : Nat → Nat → Int32} {sco : Nat → Nat → Int32} {tco : Nat → Nat → Int64} {p0 : Int32} {p1 : Int32} {p2 : Int32} {p3 : Int32} {p4 : Int32} {v28 : Int64} {r9 : Int32} {r2 : Int32} (e28 : v28 = (r9 : Int32).toInt64) (w5 : r2 = J_X11_isRule sx p0) (c7 : ¬ (r2 = (0 : Int32))) (w11 : r9 = J_X11_refuseState sx (lS [(lI [(sh 0 0), (sh 0 1), 0, 0, 0, 0, (sh 0 6), (sh 0 7), (sh 0 8), (sh 0 9), (sh 0 10), (sh 0 11), (sh 0 12)]), (sh 1), (sh 2), (sh 3), (sh 4), (sh 5)]) p1 p2 p3) (c13 : ¬ (r9 = (0 : Int32))) : (v28, (tco 1), (tco 2), (tco 0 2), (tco 0 3), (tco 0 4), (tco 0 5)) = J_X11_mean sx sh sco tco p0 p1 p2 p3 p4 := by subst e28; refine Eq.symm ?_; unfold J_X11_mean; refine lt_e w5 ?_; refine Eq.trans (if_neg c7) ?_; refine lt_e w11 ?_; refine Eq.trans (if_neg c13) ?_; rfl
theorem exl_X11_mean_2 {sx : Nat → Nat → Int32} {sh : Nat → Nat → Int32} {sco : Nat → Nat → Int32} {tco : Nat → Nat → Int64} {p0 : Int32} {p1 : Int32} {p2 : Int32} {p3 : Int32} {p4 : Int32} {r2 : Int32} (w5 : r2 = J_X11_isRule sx p0) (c7 : r2 = (0 : Int32)) : (((-1) : Int64), (tco 1), (tco 2), (tco 0 2), (tco 0 3), (tco 0 4), (tco 0 5)) = J_X11_mean sx sh sco tco p0 p1 p2 p3 p4 := by refine Eq.symm ?_; unfold J_X11_mean; refine lt_e w5 ?_; refine Eq.trans (if_pos c7) ?_; rfl
set_option maxHeartbeats 4000000 in
set_option maxRecDepth 100000 in
theorem c_X11_mean (l : Launch) (D : va_G) (k : Nat → ClassId) (b : Nat → Nat) (qx : Nat → Nat) (sx : Nat → Nat → Int32) (qh : Nat → Nat) (sh : Nat → Nat → Int32) (qco : Nat → Nat) (sco : Nat → Nat → Int32) (tco : Nat → Nat → Int64) (sz : Nat) (p0 : Int32) (p1 : Int32) (p2 : Int32) (p3 : Int32) (p4 : Int32) (h_wk : 0 ≤ (sh 0 0).toInt ∧ (sh 0 0).toInt ≤ 5) (h_hk : 0 ≤ (sh 0 1).toInt ∧ (sh 0 1).toInt ≤ 4) (h_fl : 0 ≤ (sh 0 12).toInt ∧ (sh 0 12).toInt ≤ 5) (h_of : ∀ j, 0 ≤ (sh 2 j).toInt ∧ (sh 2 j).toInt ≤ 4) (h_go : ∀ j, 0 ≤ (sh 3 j).toInt ∧ (sh 3 j).toInt ≤ 5) (h_su : SUok (sh 5)) : MetL l D k b yX11_mean wsX11_mean ({ frames := 5, cells := 0, slots := 0, locals := 130 } : Room) [cell30_ qx sx, cell28_ k qx sx, cell29_ k qx sx, cell31_ qx sh qh, cell0_ k qh sh, cell1_ k qh sh, cell4_ k qh sh, cell3_ k qh sh, cell2_ k qh sh, cell47_ qx qco tco, cell35_ k qco tco, cell34_ k qco tco] sz [.ref (qx 0), .int p0, .int p1, .int p2, .int p3, .int p4] (fun (r : Int64) (u : (Nat → Int64) × (Nat → Int64) × Int64 × Int64 × Int64 × Int64) => (r, (u.1), (u.2.1), (u.2.2.1), (u.2.2.2.1), (u.2.2.2.2.1), (u.2.2.2.2.2)) = J_X11_mean sx sh sco tco p0 p1 p2 p3 p4) (fun u => [cell30_ qx sx, cell28_ k qx sx, cell29_ k qx sx, cell31_ qx sh qh, cell0_ k qh sh, cell1_ k qh sh, cell4_ k qh sh, cell3_ k qh sh, cell2_ k qh sh, cell56_ qx qco (u.2.2.1) (u.2.2.2.1) (u.2.2.2.2.1) (u.2.2.2.2.2), cell98_ k qco (u.1), cell99_ k qco (u.2.1)]) := by
  refine g_enter (cc := cX11_mean) (maxL := 7) (ret := (some .long)) (by decide) rfl (Nat.le_of_ble_eq_true rfl) ?_
  intro p e s m below meth c A hsz hAe cx hr hP hD hS ls hl
  rw [hAe]
  refine g_q (fun Q hQ => ?_)
  have hx := cx.1.1
  have hb := cx.1.2.1
  have bp0 := i_rng p0
  have bp1 := i_rng p1
  have bp2 := i_rng p2
  have bp3 := i_rng p3
  have bp4 := i_rng p4
  have hl : lv_has ls 7 [(0, .ref (qx 0)), (1, .int p0), (2, .int p1), (3, .int p2), (4, .int p3), (5, .int p4)] := hl
  obtain ⟨H, eH⟩ : ∃ H : Heap, H = s.heap := ⟨_, rfl⟩
  obtain ⟨locs, el⟩ : ∃ L : List Loc, L = [] := ⟨_, rfl⟩
  have hP : va_P D vwCl [cell30_ qx sx, cell28_ k qx sx, cell29_ k qx sx, cell31_ qx sh qh, cell0_ k qh sh, cell1_ k qh sh, cell4_ k qh sh, cell3_ k qh sh, cell2_ k qh sh, cell47_ qx qco tco, cell35_ k qco tco, cell34_ k qco tco] H := by rw [eH]; exact hP
  have hD : va_D A [cell30_ qx sx, cell28_ k qx sx, cell29_ k qx sx, cell31_ qx sh qh, cell0_ k qh sh, cell1_ k qh sh, cell4_ k qh sh, cell3_ k qh sh, cell2_ k qh sh, cell47_ qx qco tco, cell35_ k qco tco, cell34_ k qco tco] := hD
  have hS : va_S A s.heap H locs := by rw [eH, el]; exact hS
  suffices goal : W p l e ({ frames := 5, cells := 0, slots := 0, locals := 130 } : Room) s m ([.ref (qx 0), .int p0, .int p1, .int p2, .int p3, .int p4] : List Value).toArray below meth c H locs 0 0 Q (F0 m 0 ls []) by rw [eH, el] at goal; exact goal
  refine lv_aload_n hx hb dX11_mean_0 rfl (lv_at hl 0 rfl) ?_
  refine lv_iload_n hx hb dX11_mean_1 rfl (lv_at hl 1 rfl) ?_
  refine g_ir (g_runV (wc := [cell30_ qx sx, cell28_ k qx sx, cell29_ k qx sx]) (rest := []) cx hP hD hS [0, 1, 2] rfl (by decide) [.int p0] (c_X11_isRule l D k b qx sx H.size p0) gX11_mean_X11_isRule rfl rfl rfl nd_X11_isRule ⟨Nat.le_of_ble_eq_true rfl, Nat.le_of_ble_eq_true rfl⟩ (ci := 9) (q0 := 0) rfl rfl rfl hl.1 rfl (Nat.le_of_ble_eq_true rfl) ⟨Nat.zero_le _, Nat.zero_le _⟩ dX11_mean_2) cx.2.2.1 hP hD hS [0, 1, 2] rfl rfl (fun r2 H locs hw1 hP hS => ?_)
  replace hw1 : (0 ≤ r2.toInt ∧ r2.toInt ≤ 1) ∧ (Imp (r2.toInt = 1) (0 ≤ p0.toInt ∧ p0.toInt ≤ 2)) ∧ (r2 = J_X11_isRule sx p0) := hw1
  obtain ⟨w3, w4, w5⟩ := hw1
  have zr2 : 0 ≤ r2.toInt ∧ r2.toInt ≤ 1 := w3
  refine lv_if_ne (tgt := 12) hx hb dX11_mean_5 (by decide) (fun c7 => ?_) (fun c7 => ?_)
  · have f7 : ¬ r2.toInt = 0 := f_ne rfl (by decide) c7
    have k7 : (0 ≤ p0.toInt ∧ p0.toInt ≤ 2) := w4 (by omega)
    refine lv_aload_n hx hb dX11_mean_12 rfl (lv_at hl 0 rfl) ?_
    refine lv_iload_n hx hb dX11_mean_13 rfl (lv_at hl 2 rfl) ?_
    refine lv_iload_n hx hb dX11_mean_14 rfl (lv_at hl 3 rfl) ?_
    refine lv_iload hx hb dX11_mean_15 (lv_at hl 4 rfl) ?_
    refine g_ir (g_runV (wc := [cell30_ qx sx, cell28_ k qx sx, cell29_ k qx sx, cell31_ qx sh qh, cell0_ k qh sh, cell1_ k qh sh, cell4_ k qh sh, cell3_ k qh sh, cell2_ k qh sh]) (rest := []) cx hP hD hS [0, 1, 2, 3, 4, 5, 6, 7, 8] rfl (by decide) [.int p1, .int p2, .int p3] (c_X11_refuseState l D k b qx sx (lq [0, qh 1, qh 2, qh 3, qh 4, qh 5]) (lS [(lI [(sh 0 0), (sh 0 1), 0, 0, 0, 0, (sh 0 6), (sh 0 7), (sh 0 8), (sh 0 9), (sh 0 10), (sh 0 11), (sh 0 12)]), (sh 1), (sh 2), (sh 3), (sh 4), (sh 5)]) H.size p1 p2 p3 (show 0 ≤ (sh 0 0).toInt ∧ (sh 0 0).toInt ≤ 5 from by first | decide | omega) (show 0 ≤ (sh 0 1).toInt ∧ (sh 0 1).toInt ≤ 4 from by first | decide | omega)) gX11_mean_X11_refuseState rfl rfl rfl nd_X11_refuseState ⟨Nat.le_of_ble_eq_true rfl, Nat.le_of_ble_eq_true rfl⟩ (ci := 9) (q0 := 0) rfl rfl rfl hl.1 rfl (Nat.le_of_ble_eq_true rfl) ⟨Nat.zero_le _, Nat.zero_le _⟩ dX11_mean_17) cx.2.2.1 hP hD hS [0, 1, 2, 3, 4, 5, 6, 7, 8] rfl rfl (fun r9 H locs hw8 hP hS => ?_)
    replace hw8 : (¬ r9.toInt = 0 ∨ (0 ≤ p1.toInt ∧ p1.toInt ≤ 4 ∧ p1.toInt < (sh 0 0).toInt ∧ (0 ≤ p2.toInt ∧ p2.toInt ≤ 400 ∧ tot p2 ≤ 4) ∧ tot p2 ≤ (sh 0 1).toInt ∧ 0 ≤ p3.toInt ∧ p3.toInt ≤ 2)) ∧ (r9 = J_X11_refuseState sx (lS [(lI [(sh 0 0), (sh 0 1), 0, 0, 0, 0, (sh 0 6), (sh 0 7), (sh 0 8), (sh 0 9), (sh 0 10), (sh 0 11), (sh 0 12)]), (sh 1), (sh 2), (sh 3), (sh 4), (sh 5)]) p1 p2 p3) := hw8
    obtain ⟨w10, w11⟩ := hw8
    refine lv_istore (lv' := [(6, .int r9), (0, .ref (qx 0)), (1, .int p0), (2, .int p1), (3, .int p2), (4, .int p3), (5, .int p4)]) hx hb dX11_mean_20 hl (by decide) rfl (fun ls hl => ?_)
    refine lv_iload hx hb dX11_mean_22 (lv_at hl 0 rfl) ?_
    refine lv_if_eq (tgt := 31) hx hb dX11_mean_24 (by decide) (fun c13 => ?_) (fun c13 => ?_)
    · have f13 : r9.toInt = 0 := f_eq rfl (by decide) c13
      refine lv_aload_n hx hb dX11_mean_31 rfl (lv_at hl 1 rfl) ?_
      refine lv_iload_n hx hb dX11_mean_32 rfl (lv_at hl 2 rfl) ?_
      refine lv_iload_n hx hb dX11_mean_33 rfl (lv_at hl 3 rfl) ?_
      refine lv_iload_n hx hb dX11_mean_34 rfl (lv_at hl 4 rfl) ?_
      refine lv_iload hx hb dX11_mean_35 (lv_at hl 5 rfl) ?_
      refine g_vF (w1 := fun (u : (Nat → Int64) × (Nat → Int64) × Int64 × Int64 × Int64 × Int64) => [cell30_ qx sx, cell28_ k qx sx, cell29_ k qx sx, cell31_ qx sh qh, cell0_ k qh sh, cell1_ k qh sh, cell4_ k qh sh, cell3_ k qh sh, cell2_ k qh sh, cell56_ qx qco (u.2.2.1) (u.2.2.2.1) (u.2.2.2.2.1) (u.2.2.2.2.2), cell98_ k qco (u.1), cell99_ k qco (u.2.1)]) (g_runVF (ws := [cell30_ qx sx, cell28_ k qx sx, cell29_ k qx sx, cell31_ qx sh qh, cell0_ k qh sh, cell1_ k qh sh, cell4_ k qh sh, cell3_ k qh sh, cell2_ k qh sh, cell47_ qx qco tco, cell35_ k qco tco, cell34_ k qco tco]) (rest := []) cx hP hD hS [.int p0, .int p1, .int p2, .int p3] (c_X11_goToTheEnd l D k b qx sx (lq [0, qh 1, qh 2, qh 3, qh 4, qh 5]) (lS [(lI [(sh 0 0), (sh 0 1), 0, 0, 0, 0, (sh 0 6), (sh 0 7), (sh 0 8), (sh 0 9), (sh 0 10), (sh 0 11), (sh 0 12)]), (sh 1), (sh 2), (sh 3), (sh 4), (sh 5)]) (lq [0, qco 1, qco 2]) (lS [(lI []), (fun _ => 0), (fun _ => 0)]) (lT [(lJ [0, 0, (tco 0 2), (tco 0 3), (tco 0 4), (tco 0 5)]), (tco 1), (tco 2)]) H.size p0 p1 p2 p3 (show 0 ≤ (sh 0 0).toInt ∧ (sh 0 0).toInt ≤ 5 from by first | decide | omega) (show 0 ≤ (sh 0 1).toInt ∧ (sh 0 1).toInt ≤ 4 from by first | decide | omega) (show 0 ≤ (sh 0 12).toInt ∧ (sh 0 12).toInt ≤ 5 from by first | decide | omega) h_of h_go (show SUok (sh 5) from by assumption) (show 0 ≤ p2.toInt ∧ p2.toInt ≤ 400 ∧ tot p2 ≤ 4 from by first | decide | omega) (show tot p2 ≤ (sh 0 1).toInt from by first | decide | omega) (show 0 ≤ p0.toInt ∧ p0.toInt ≤ 2 from by first | decide | omega) (show 0 ≤ p1.toInt ∧ p1.toInt ≤ 5 from by first | decide | omega)) gX11_mean_X11_goToTheEnd rfl rfl rfl nd_X11_goToTheEnd ⟨Nat.le_of_ble_eq_true rfl, Nat.le_of_ble_eq_true rfl⟩ (ci := 9) (q0 := 0) rfl rfl rfl hl.1 rfl (Nat.le_of_ble_eq_true rfl) ⟨Nat.zero_le _, Nat.zero_le _⟩ dX11_mean_37) cx.2.2.1 hD hS (fun u15 H locs hw14 hP hD hS => ?_)
      obtain ⟨m16, m17, m18, m19, m20, m21⟩ := u15
      have hP : va_P D vwCl [cell30_ qx sx, cell28_ k qx sx, cell29_ k qx sx, cell31_ qx sh qh, cell0_ k qh sh, cell1_ k qh sh, cell4_ k qh sh, cell3_ k qh sh, cell2_ k qh sh, cell56_ qx qco m18 m19 m20 m21, (qco 1, .inl (k 1, 35, .inr (.inl m16))), (qco 2, .inl (k 1, 35, .inr (.inl m17)))] H := hP
      have hD : va_D A [cell30_ qx sx, cell28_ k qx sx, cell29_ k qx sx, cell31_ qx sh qh, cell0_ k qh sh, cell1_ k qh sh, cell4_ k qh sh, cell3_ k qh sh, cell2_ k qh sh, cell56_ qx qco m18 m19 m20 m21, (qco 1, .inl (k 1, 35, .inr (.inl m16))), (qco 2, .inl (k 1, 35, .inr (.inl m17)))] := hD
      have w22 : (m16, m17, m18, m19, m20, m21) = J_X11_goToTheEnd sx (lS [(lI [(sh 0 0), (sh 0 1), 0, 0, 0, 0, (sh 0 6), (sh 0 7), (sh 0 8), (sh 0 9), (sh 0 10), (sh 0 11), (sh 0 12)]), (sh 1), (sh 2), (sh 3), (sh 4), (sh 5)]) (lS [(lI []), (fun _ => 0), (fun _ => 0)]) (lT [(lJ [0, 0, (tco 0 2), (tco 0 3), (tco 0 4), (tco 0 5)]), (tco 1), (tco 2)]) p0 p1 p2 p3 := hw14
      clear hw14
      refine lv_aload_n hx hb dX11_mean_40 rfl (lv_at hl 1 rfl) ?_
      refine g_get cx hP iw_X11_mean_X11 0 rfl rfl 7 (by decide) rfl fw_X11_mean_52 rfl dX11_mean_41 ?_
      refine g_get cx hP iw_X11_mean_X1 9 rfl rfl 3 (by decide) rfl fw_X11_mean_229 rfl dX11_mean_44 ?_
      refine lv_aload_n hx hb dX11_mean_47 rfl (lv_at hl 1 rfl) ?_
      refine g_get cx hP iw_X11_mean_X11 0 rfl rfl 7 (by decide) rfl fw_X11_mean_52 rfl dX11_mean_48 ?_
      refine g_get cx hP iw_X11_mean_X1 9 rfl rfl 2 (by decide) rfl fw_X11_mean_233 rfl dX11_mean_51 ?_
      refine lv_iload hx hb dX11_mean_54 (lv_at hl 6 rfl) ?_
      refine g_lr (g_runS (wc := []) (rest := []) cx hP hD hS [] rfl (by decide) [.long m19, .long m18, .int p4] (c_X11_told l D k b H.size m19 m18 p4) gX11_mean_X11_told rfl rfl rfl nd_X11_told ⟨Nat.le_of_ble_eq_true rfl, Nat.le_of_ble_eq_true rfl⟩ rfl hl.1 rfl (Nat.le_of_ble_eq_true rfl) ⟨Nat.zero_le _, Nat.zero_le _⟩ dX11_mean_56) cx.2.2.1 hP hD hS [] rfl rfl (fun r25 H locs hw24 hP hS => ?_)
      have w26 : r25 = J_X11_told m19 m18 p4 := hw24
      clear hw24
      rw [hQ]
      exact x_l cx hr (m16, m17, m18, m19, m20, m21) hP hD hS (show (r25, m16, m17, m18, m19, m20, m21) = J_X11_mean sx sh sco tco p0 p1 p2 p3 p4 from (exl_X11_mean_0 w5 c7 w11 c13 w22 w26)) dX11_mean_59
    · have f13 : ¬ r9.toInt = 0 := f_ne rfl (by decide) c13
      refine lv_iload hx hb dX11_mean_27 (lv_at hl 0 rfl) ?_
      obtain ⟨v28, e28⟩ : ∃ z : Int64, z = (r9 : Int32).toInt64 := ⟨_, rfl⟩
      refine lv_i2l (v := v28) hx hb dX11_mean_29 e28.symm ?_
      rw [hQ]
      exact x_l cx hr ((tco 1), (tco 2), (tco 0 2), (tco 0 3), (tco 0 4), (tco 0 5)) hP hD hS (show (v28, (tco 1), (tco 2), (tco 0 2), (tco 0 3), (tco 0 4), (tco 0 5)) = J_X11_mean sx sh sco tco p0 p1 p2 p3 p4 from (exl_X11_mean_1 e28 w5 c7 w11 c13)) dX11_mean_30
  · have f7 : r2.toInt = 0 := f_eq rfl (by decide) c7
    refine lv_ldc2 (v := (-1)) hx hb cx.1.2.2.2.1 (cx.1.2.2.2.2 _ kJ_X11_mean_220) dX11_mean_8 ?_
    rw [hQ]
    exact x_l cx hr ((tco 1), (tco 2), (tco 0 2), (tco 0 3), (tco 0 4), (tco 0 5)) hP hD hS (show (((-1) : Int64), (tco 1), (tco 2), (tco 0 2), (tco 0 3), (tco 0 4), (tco 0 5)) = J_X11_mean sx sh sco tco p0 p1 p2 p3 p4 from (exl_X11_mean_2 w5 c7)) dX11_mean_11
theorem fw_X11_shortly_233 : Cond.fieldLink RX11 233 "StillInAugust$Course" "scale" "J" ∈ wsX11_shortly := by decide +kernel
theorem fw_X11_shortly_240 : Cond.fieldLink RX11 240 "StillInAugust$Course" "shortShare" "J" ∈ wsX11_shortly := by decide +kernel
theorem fw_X11_shortly_52 : Cond.fieldLink RX11 52 "StillInAugust" "course" "LStillInAugust$Course;" ∈ wsX11_shortly := by decide +kernel
theorem kJ_X11_shortly_220 : Cond.constantLong RX11 220 (-1) ∈ wsX11_shortly := by decide +kernel
theorem nd_X11_goInto : yX11_goInto.cls = RX11 ∧ yX11_goInto.cls ≠ "java/lang/invoke/MethodHandle" ∧ yX11_goInto.cls ≠ "java/lang/invoke/VarHandle" ∧ (parseMethodDescriptor yX11_goInto.desc).map (fun d => d.parameters.length) = some 2 := by decide +kernel
theorem iw_X11_shortly_X1 : ∀ w ∈ u_ws RX1 TX1 6, w ∈ wsX11_shortly := fun _ h => List.mem_cons_of_mem _ (List.mem_append_left _ (List.mem_append_right _ h))
theorem iw_X11_shortly_X11 : ∀ w ∈ u_ws RX11 TX11 17, w ∈ wsX11_shortly := fun _ h => List.mem_cons_of_mem _ (List.mem_append_left _ (List.mem_append_left _ (List.mem_append_right _ h)))
def J_X11_shortly (sx : Nat → Nat → Int32) (sh : Nat → Nat → Int32) (sco : Nat → Nat → Int32) (tco : Nat → Nat → Int64) (p0 : Int32) (p1 : Int32) (p2 : Int32) : Int64 × (Nat → Int64) × (Nat → Int64) × Int64 × Int64 × Int64 × Int64 := LetF (J_X11_isRule sx p0) (fun y6 => if y6 = 0 then (((-1) : Int64), (tco 1), (tco 2), (tco 0 2), (tco 0 3), (tco 0 4), (tco 0 5)) else LetF (J_X11_isWeek sx (lS [(lI [(sh 0 0), (sh 0 1), 0, 0, 0, 0, (sh 0 6), (sh 0 7), (sh 0 8), (sh 0 9), (sh 0 10), (sh 0 11), (sh 0 12)]), (sh 1), (sh 2), (sh 3), (sh 4), (sh 5)]) p1) (fun y13 => if y13 = 0 then (((-1) : Int64), (tco 1), (tco 2), (tco 0 2), (tco 0 3), (tco 0 4), (tco 0 5)) else LetF (J_X11_goInto sx (lS [(lI [(sh 0 0), (sh 0 1), 0, 0, 0, 0, (sh 0 6), (sh 0 7), (sh 0 8), (sh 0 9), (sh 0 10), (sh 0 11), (sh 0 12)]), (sh 1), (sh 2), (sh 3), (sh 4), (sh 5)]) (lS [(lI []), (fun _ => 0), (fun _ => 0)]) (lT [(lJ [0, 0, (tco 0 2), (tco 0 3), (tco 0 4), (tco 0 5)]), (tco 1), (tco 2)]) p0 p1) (fun y24 => LetF (J_X11_told (y24.2.2.2.2.1) (y24.2.2.1) p2) (fun y28 => (y28, (y24.1), (y24.2.1), (y24.2.2.1), (y24.2.2.2.1), (y24.2.2.2.2.1), (y24.2.2.2.2.2))))))
theorem exl_X11_shortly_0 {sx : Nat → Nat → Int32} {sh : Nat → Nat → Int32} {sco : Nat → Nat → Int32} {tco : Nat → Nat → Int64} {p0 : Int32} {p1 : Int32} {p2 : Int32} {r2 : Int32} (w5 : r2 = J_X11_isRule sx p0) (c7 : r2 = (0 : Int32)) : (((-1) : Int64), (tco 1), (tco 2), (tco 0 2), (tco 0 3), (tco 0 4), (tco 0 5)) = J_X11_shortly sx sh sco tco p0 p1 p2 := by refine Eq.symm ?_; unfold J_X11_shortly; refine lt_e w5 ?_; refine Eq.trans (if_pos c7) ?_; rfl
theorem exl_X11_shortly_1 {sx : Nat → Nat → Int32} {sh : Nat → Nat → Int32} {sco : Nat → Nat → Int32} {tco : Nat → Nat → Int64} {p0 : Int32} {p1 : Int32} {p2 : Int32} {r26 : Int64} {m17 : Nat → Int64} {m18 : Nat → Int64} {m19 : Int64} {m20 : Int64} {m21 : Int64} {m22 : Int64} {r2 : Int32} {r9 : Int32} (w5 : r2 = J_X11_isRule sx p0) (c7 : ¬ (r2 = (0 : Int32))) (w12 : r9 = J_X11_isWeek sx (lS [(lI [(sh 0 0), (sh 0 1), 0, 0, 0, 0, (sh 0 6), (sh 0 7), (sh 0 8), (sh 0 9), (sh 0 10), (sh 0 11), (sh 0 12)]), (sh 1), (sh 2), (sh 3), (sh 4), (sh 5)]) p1) (c14 : ¬ (r9 = (0 : Int32))) (w23 : (m17, m18, m19, m20, m21, m22) = J_X11_goInto sx (lS [(lI [(sh 0 0), (sh 0 1), 0, 0, 0, 0, (sh 0 6), (sh 0 7), (sh 0 8), (sh 0 9), (sh 0 10), (sh 0 11), (sh 0 12)]), (sh 1), (sh 2), (sh 3), (sh 4), (sh 5)]) (lS [(lI []), (fun _ => 0), (fun _ => 0)]) (lT [(lJ [0, 0, (tco 0 2), (tco 0 3), (tco 0 4), (tco 0 5)]), (tco 1), (tco 2)]) p0 p1) (w27 : r26 = J_X11_told m21 m19 p2) : (r26, m17, m18, m19, m20, m21, m22) = J_X11_shortly sx sh sco tco p0 p1 p2 := by refine Eq.symm ?_; unfold J_X11_shortly; refine lt_e w5 ?_; refine Eq.trans (if_neg c7) ?_; refine lt_e w12 ?_; refine Eq.trans (if_neg c14) ?_; refine lt_e w23 ?_; refine lt_e w27 ?_; rfl
theorem exl_X11_shortly_2 {sx : Nat → Nat → Int32} {sh : Nat → Nat → Int32} {sco : Nat → Nat → Int32} {tco : Nat → Nat → Int64} {p0 : Int32} {p1 : Int32} {p2 : Int32} {r2 : Int32} {r9 : Int32} (w5 : r2 = J_X11_isRule sx p0) (c7 : ¬ (r2 = (0 : Int32))) (w12 : r9 = J_X11_isWeek sx (lS [(lI [(sh 0 0), (sh 0 1), 0, 0, 0, 0, (sh 0 6), (sh 0 7), (sh 0 8), (sh 0 9), (sh 0 10), (sh 0 11), (sh 0 12)]), (sh 1), (sh 2), (sh 3), (sh 4), (sh 5)]) p1) (c14 : r9 = (0 : Int32)) : (((-1) : Int64), (tco 1), (tco 2), (tco 0 2), (tco 0 3), (tco 0 4), (tco 0 5)) = J_X11_shortly sx sh sco tco p0 p1 p2 := by refine Eq.symm ?_; unfold J_X11_shortly; refine lt_e w5 ?_; refine Eq.trans (if_neg c7) ?_; refine lt_e w12 ?_; refine Eq.trans (if_pos c14) ?_; rfl
set_option maxHeartbeats 4000000 in
set_option maxRecDepth 100000 in
theorem c_X11_shortly (l : Launch) (D : va_G) (k : Nat → ClassId) (b : Nat → Nat) (qx : Nat → Nat) (sx : Nat → Nat → Int32) (qh : Nat → Nat) (sh : Nat → Nat → Int32) (qco : Nat → Nat) (sco : Nat → Nat → Int32) (tco : Nat → Nat → Int64) (sz : Nat) (p0 : Int32) (p1 : Int32) (p2 : Int32) (h_wk : 0 ≤ (sh 0 0).toInt ∧ (sh 0 0).toInt ≤ 5) (h_hk : 0 ≤ (sh 0 1).toInt ∧ (sh 0 1).toInt ≤ 4) (h_fl : 0 ≤ (sh 0 12).toInt ∧ (sh 0 12).toInt ≤ 5) (h_of : ∀ j, 0 ≤ (sh 2 j).toInt ∧ (sh 2 j).toInt ≤ 4) (h_go : ∀ j, 0 ≤ (sh 3 j).toInt ∧ (sh 3 j).toInt ≤ 5) (h_su : SUok (sh 5)) : MetL l D k b yX11_shortly wsX11_shortly ({ frames := 6, cells := 0, slots := 0, locals := 150 } : Room) [cell30_ qx sx, cell28_ k qx sx, cell29_ k qx sx, cell31_ qx sh qh, cell0_ k qh sh, cell1_ k qh sh, cell4_ k qh sh, cell3_ k qh sh, cell2_ k qh sh, cell47_ qx qco tco, cell35_ k qco tco, cell34_ k qco tco] sz [.ref (qx 0), .int p0, .int p1, .int p2] (fun (r : Int64) (u : (Nat → Int64) × (Nat → Int64) × Int64 × Int64 × Int64 × Int64) => (r, (u.1), (u.2.1), (u.2.2.1), (u.2.2.2.1), (u.2.2.2.2.1), (u.2.2.2.2.2)) = J_X11_shortly sx sh sco tco p0 p1 p2) (fun u => [cell30_ qx sx, cell28_ k qx sx, cell29_ k qx sx, cell31_ qx sh qh, cell0_ k qh sh, cell1_ k qh sh, cell4_ k qh sh, cell3_ k qh sh, cell2_ k qh sh, cell56_ qx qco (u.2.2.1) (u.2.2.2.1) (u.2.2.2.2.1) (u.2.2.2.2.2), cell98_ k qco (u.1), cell99_ k qco (u.2.1)]) := by
  refine g_enter (cc := cX11_shortly) (maxL := 4) (ret := (some .long)) (by decide) rfl (Nat.le_of_ble_eq_true rfl) ?_
  intro p e s m below meth c A hsz hAe cx hr hP hD hS ls hl
  rw [hAe]
  refine g_q (fun Q hQ => ?_)
  have hx := cx.1.1
  have hb := cx.1.2.1
  have bp0 := i_rng p0
  have bp1 := i_rng p1
  have bp2 := i_rng p2
  have hl : lv_has ls 4 [(0, .ref (qx 0)), (1, .int p0), (2, .int p1), (3, .int p2)] := hl
  obtain ⟨H, eH⟩ : ∃ H : Heap, H = s.heap := ⟨_, rfl⟩
  obtain ⟨locs, el⟩ : ∃ L : List Loc, L = [] := ⟨_, rfl⟩
  have hP : va_P D vwCl [cell30_ qx sx, cell28_ k qx sx, cell29_ k qx sx, cell31_ qx sh qh, cell0_ k qh sh, cell1_ k qh sh, cell4_ k qh sh, cell3_ k qh sh, cell2_ k qh sh, cell47_ qx qco tco, cell35_ k qco tco, cell34_ k qco tco] H := by rw [eH]; exact hP
  have hD : va_D A [cell30_ qx sx, cell28_ k qx sx, cell29_ k qx sx, cell31_ qx sh qh, cell0_ k qh sh, cell1_ k qh sh, cell4_ k qh sh, cell3_ k qh sh, cell2_ k qh sh, cell47_ qx qco tco, cell35_ k qco tco, cell34_ k qco tco] := hD
  have hS : va_S A s.heap H locs := by rw [eH, el]; exact hS
  suffices goal : W p l e ({ frames := 6, cells := 0, slots := 0, locals := 150 } : Room) s m ([.ref (qx 0), .int p0, .int p1, .int p2] : List Value).toArray below meth c H locs 0 0 Q (F0 m 0 ls []) by rw [eH, el] at goal; exact goal
  refine lv_aload_n hx hb dX11_shortly_0 rfl (lv_at hl 0 rfl) ?_
  refine lv_iload_n hx hb dX11_shortly_1 rfl (lv_at hl 1 rfl) ?_
  refine g_ir (g_runV (wc := [cell30_ qx sx, cell28_ k qx sx, cell29_ k qx sx]) (rest := []) cx hP hD hS [0, 1, 2] rfl (by decide) [.int p0] (c_X11_isRule l D k b qx sx H.size p0) gX11_shortly_X11_isRule rfl rfl rfl nd_X11_isRule ⟨Nat.le_of_ble_eq_true rfl, Nat.le_of_ble_eq_true rfl⟩ (ci := 9) (q0 := 0) rfl rfl rfl hl.1 rfl (Nat.le_of_ble_eq_true rfl) ⟨Nat.zero_le _, Nat.zero_le _⟩ dX11_shortly_2) cx.2.2.1 hP hD hS [0, 1, 2] rfl rfl (fun r2 H locs hw1 hP hS => ?_)
  replace hw1 : (0 ≤ r2.toInt ∧ r2.toInt ≤ 1) ∧ (Imp (r2.toInt = 1) (0 ≤ p0.toInt ∧ p0.toInt ≤ 2)) ∧ (r2 = J_X11_isRule sx p0) := hw1
  obtain ⟨w3, w4, w5⟩ := hw1
  have zr2 : 0 ≤ r2.toInt ∧ r2.toInt ≤ 1 := w3
  refine lv_if_eq (tgt := 16) hx hb dX11_shortly_5 (by decide) (fun c7 => ?_) (fun c7 => ?_)
  · have f7 : r2.toInt = 0 := f_eq rfl (by decide) c7
    refine lv_ldc2 (v := (-1)) hx hb cx.1.2.2.2.1 (cx.1.2.2.2.2 _ kJ_X11_shortly_220) dX11_shortly_16 ?_
    rw [hQ]
    exact x_l cx hr ((tco 1), (tco 2), (tco 0 2), (tco 0 3), (tco 0 4), (tco 0 5)) hP hD hS (show (((-1) : Int64), (tco 1), (tco 2), (tco 0 2), (tco 0 3), (tco 0 4), (tco 0 5)) = J_X11_shortly sx sh sco tco p0 p1 p2 from (exl_X11_shortly_0 w5 c7)) dX11_shortly_19
  · have f7 : ¬ r2.toInt = 0 := f_ne rfl (by decide) c7
    have k7 : (0 ≤ p0.toInt ∧ p0.toInt ≤ 2) := w4 (by omega)
    refine lv_aload_n hx hb dX11_shortly_8 rfl (lv_at hl 0 rfl) ?_
    refine lv_iload_n hx hb dX11_shortly_9 rfl (lv_at hl 2 rfl) ?_
    refine g_ir (g_runV (wc := [cell30_ qx sx, cell28_ k qx sx, cell29_ k qx sx, cell31_ qx sh qh, cell0_ k qh sh, cell1_ k qh sh, cell4_ k qh sh, cell3_ k qh sh, cell2_ k qh sh]) (rest := []) cx hP hD hS [0, 1, 2, 3, 4, 5, 6, 7, 8] rfl (by decide) [.int p1] (c_X11_isWeek l D k b qx sx (lq [0, qh 1, qh 2, qh 3, qh 4, qh 5]) (lS [(lI [(sh 0 0), (sh 0 1), 0, 0, 0, 0, (sh 0 6), (sh 0 7), (sh 0 8), (sh 0 9), (sh 0 10), (sh 0 11), (sh 0 12)]), (sh 1), (sh 2), (sh 3), (sh 4), (sh 5)]) H.size p1 (show 0 ≤ (sh 0 0).toInt ∧ (sh 0 0).toInt ≤ 5 from by first | decide | omega)) gX11_shortly_X11_isWeek rfl rfl rfl nd_X11_isWeek ⟨Nat.le_of_ble_eq_true rfl, Nat.le_of_ble_eq_true rfl⟩ (ci := 9) (q0 := 0) rfl rfl rfl hl.1 rfl (Nat.le_of_ble_eq_true rfl) ⟨Nat.zero_le _, Nat.zero_le _⟩ dX11_shortly_10) cx.2.2.1 hP hD hS [0, 1, 2, 3, 4, 5, 6, 7, 8] rfl rfl (fun r9 H locs hw8 hP hS => ?_)
    replace hw8 : (0 ≤ r9.toInt ∧ r9.toInt ≤ 1) ∧ (Imp (r9.toInt = 1) (0 ≤ p1.toInt ∧ p1.toInt ≤ 4 ∧ p1.toInt < (sh 0 0).toInt)) ∧ (r9 = J_X11_isWeek sx (lS [(lI [(sh 0 0), (sh 0 1), 0, 0, 0, 0, (sh 0 6), (sh 0 7), (sh 0 8), (sh 0 9), (sh 0 10), (sh 0 11), (sh 0 12)]), (sh 1), (sh 2), (sh 3), (sh 4), (sh 5)]) p1) := hw8
    obtain ⟨w10, w11, w12⟩ := hw8
    have zr9 : 0 ≤ r9.toInt ∧ r9.toInt ≤ 1 := w10
    refine lv_if_ne (tgt := 20) hx hb dX11_shortly_13 (by decide) (fun c14 => ?_) (fun c14 => ?_)
    · have f14 : ¬ r9.toInt = 0 := f_ne rfl (by decide) c14
      have k14 : (0 ≤ p1.toInt ∧ p1.toInt ≤ 4 ∧ p1.toInt < (sh 0 0).toInt) := w11 (by omega)
      refine lv_aload_n hx hb dX11_shortly_20 rfl (lv_at hl 0 rfl) ?_
      refine lv_iload_n hx hb dX11_shortly_21 rfl (lv_at hl 1 rfl) ?_
      refine lv_iload_n hx hb dX11_shortly_22 rfl (lv_at hl 2 rfl) ?_
      refine g_vF (w1 := fun (u : (Nat → Int64) × (Nat → Int64) × Int64 × Int64 × Int64 × Int64) => [cell30_ qx sx, cell28_ k qx sx, cell29_ k qx sx, cell31_ qx sh qh, cell0_ k qh sh, cell1_ k qh sh, cell4_ k qh sh, cell3_ k qh sh, cell2_ k qh sh, cell56_ qx qco (u.2.2.1) (u.2.2.2.1) (u.2.2.2.2.1) (u.2.2.2.2.2), cell98_ k qco (u.1), cell99_ k qco (u.2.1)]) (g_runVF (ws := [cell30_ qx sx, cell28_ k qx sx, cell29_ k qx sx, cell31_ qx sh qh, cell0_ k qh sh, cell1_ k qh sh, cell4_ k qh sh, cell3_ k qh sh, cell2_ k qh sh, cell47_ qx qco tco, cell35_ k qco tco, cell34_ k qco tco]) (rest := []) cx hP hD hS [.int p0, .int p1] (c_X11_goInto l D k b qx sx (lq [0, qh 1, qh 2, qh 3, qh 4, qh 5]) (lS [(lI [(sh 0 0), (sh 0 1), 0, 0, 0, 0, (sh 0 6), (sh 0 7), (sh 0 8), (sh 0 9), (sh 0 10), (sh 0 11), (sh 0 12)]), (sh 1), (sh 2), (sh 3), (sh 4), (sh 5)]) (lq [0, qco 1, qco 2]) (lS [(lI []), (fun _ => 0), (fun _ => 0)]) (lT [(lJ [0, 0, (tco 0 2), (tco 0 3), (tco 0 4), (tco 0 5)]), (tco 1), (tco 2)]) H.size p0 p1 (show 0 ≤ (sh 0 0).toInt ∧ (sh 0 0).toInt ≤ 5 from by first | decide | omega) (show 0 ≤ (sh 0 1).toInt ∧ (sh 0 1).toInt ≤ 4 from by first | decide | omega) (show 0 ≤ (sh 0 12).toInt ∧ (sh 0 12).toInt ≤ 5 from by first | decide | omega) h_of h_go (show SUok (sh 5) from by assumption) (show 0 ≤ p0.toInt ∧ p0.toInt ≤ 2 from by first | decide | omega) (show 0 ≤ p1.toInt ∧ p1.toInt ≤ 4 from by first | decide | omega)) gX11_shortly_X11_goInto rfl rfl rfl nd_X11_goInto ⟨Nat.le_of_ble_eq_true rfl, Nat.le_of_ble_eq_true rfl⟩ (ci := 9) (q0 := 0) rfl rfl rfl hl.1 rfl (Nat.le_of_ble_eq_true rfl) ⟨Nat.zero_le _, Nat.zero_le _⟩ dX11_shortly_23) cx.2.2.1 hD hS (fun u16 H locs hw15 hP hD hS => ?_)
      obtain ⟨m17, m18, m19, m20, m21, m22⟩ := u16
      have hP : va_P D vwCl [cell30_ qx sx, cell28_ k qx sx, cell29_ k qx sx, cell31_ qx sh qh, cell0_ k qh sh, cell1_ k qh sh, cell4_ k qh sh, cell3_ k qh sh, cell2_ k qh sh, cell56_ qx qco m19 m20 m21 m22, (qco 1, .inl (k 1, 35, .inr (.inl m17))), (qco 2, .inl (k 1, 35, .inr (.inl m18)))] H := hP
      have hD : va_D A [cell30_ qx sx, cell28_ k qx sx, cell29_ k qx sx, cell31_ qx sh qh, cell0_ k qh sh, cell1_ k qh sh, cell4_ k qh sh, cell3_ k qh sh, cell2_ k qh sh, cell56_ qx qco m19 m20 m21 m22, (qco 1, .inl (k 1, 35, .inr (.inl m17))), (qco 2, .inl (k 1, 35, .inr (.inl m18)))] := hD
      have w23 : (m17, m18, m19, m20, m21, m22) = J_X11_goInto sx (lS [(lI [(sh 0 0), (sh 0 1), 0, 0, 0, 0, (sh 0 6), (sh 0 7), (sh 0 8), (sh 0 9), (sh 0 10), (sh 0 11), (sh 0 12)]), (sh 1), (sh 2), (sh 3), (sh 4), (sh 5)]) (lS [(lI []), (fun _ => 0), (fun _ => 0)]) (lT [(lJ [0, 0, (tco 0 2), (tco 0 3), (tco 0 4), (tco 0 5)]), (tco 1), (tco 2)]) p0 p1 := hw15
      clear hw15
      refine lv_aload_n hx hb dX11_shortly_26 rfl (lv_at hl 0 rfl) ?_
      refine g_get cx hP iw_X11_shortly_X11 0 rfl rfl 7 (by decide) rfl fw_X11_shortly_52 rfl dX11_shortly_27 ?_
      refine g_get cx hP iw_X11_shortly_X1 9 rfl rfl 4 (by decide) rfl fw_X11_shortly_240 rfl dX11_shortly_30 ?_
      refine lv_aload_n hx hb dX11_shortly_33 rfl (lv_at hl 0 rfl) ?_
      refine g_get cx hP iw_X11_shortly_X11 0 rfl rfl 7 (by decide) rfl fw_X11_shortly_52 rfl dX11_shortly_34 ?_
      refine g_get cx hP iw_X11_shortly_X1 9 rfl rfl 2 (by decide) rfl fw_X11_shortly_233 rfl dX11_shortly_37 ?_
      refine lv_iload_n hx hb dX11_shortly_40 rfl (lv_at hl 3 rfl) ?_
      refine g_lr (g_runS (wc := []) (rest := []) cx hP hD hS [] rfl (by decide) [.long m21, .long m19, .int p2] (c_X11_told l D k b H.size m21 m19 p2) gX11_shortly_X11_told rfl rfl rfl nd_X11_told ⟨Nat.le_of_ble_eq_true rfl, Nat.le_of_ble_eq_true rfl⟩ rfl hl.1 rfl (Nat.le_of_ble_eq_true rfl) ⟨Nat.zero_le _, Nat.zero_le _⟩ dX11_shortly_41) cx.2.2.1 hP hD hS [] rfl rfl (fun r26 H locs hw25 hP hS => ?_)
      have w27 : r26 = J_X11_told m21 m19 p2 := hw25
      clear hw25
      rw [hQ]
      exact x_l cx hr (m17, m18, m19, m20, m21, m22) hP hD hS (show (r26, m17, m18, m19, m20, m21, m22) = J_X11_shortly sx sh sco tco p0 p1 p2 from (exl_X11_shortly_1 w5 c7 w12 c14 w23 w27)) dX11_shortly_44
    · have f14 : r9.toInt = 0 := f_eq rfl (by decide) c14
      refine lv_ldc2 (v := (-1)) hx hb cx.1.2.2.2.1 (cx.1.2.2.2.2 _ kJ_X11_shortly_220) dX11_shortly_16 ?_
      rw [hQ]
      exact x_l cx hr ((tco 1), (tco 2), (tco 0 2), (tco 0 3), (tco 0 4), (tco 0 5)) hP hD hS (show (((-1) : Int64), (tco 1), (tco 2), (tco 0 2), (tco 0 3), (tco 0 4), (tco 0 5)) = J_X11_shortly sx sh sco tco p0 p1 p2 from (exl_X11_shortly_2 w5 c7 w12 c14)) dX11_shortly_19
theorem fw_X11_idle_233 : Cond.fieldLink RX11 233 "StillInAugust$Course" "scale" "J" ∈ wsX11_idle := by decide +kernel
theorem fw_X11_idle_243 : Cond.fieldLink RX11 243 "StillInAugust$Course" "idleSum" "J" ∈ wsX11_idle := by decide +kernel
theorem fw_X11_idle_52 : Cond.fieldLink RX11 52 "StillInAugust" "course" "LStillInAugust$Course;" ∈ wsX11_idle := by decide +kernel
theorem kJ_X11_idle_220 : Cond.constantLong RX11 220 (-1) ∈ wsX11_idle := by decide +kernel
theorem iw_X11_idle_X1 : ∀ w ∈ u_ws RX1 TX1 6, w ∈ wsX11_idle := fun _ h => List.mem_cons_of_mem _ (List.mem_append_left _ (List.mem_append_right _ h))
theorem iw_X11_idle_X11 : ∀ w ∈ u_ws RX11 TX11 17, w ∈ wsX11_idle := fun _ h => List.mem_cons_of_mem _ (List.mem_append_left _ (List.mem_append_left _ (List.mem_append_right _ h)))
def J_X11_idle (sx : Nat → Nat → Int32) (sh : Nat → Nat → Int32) (sco : Nat → Nat → Int32) (tco : Nat → Nat → Int64) (p0 : Int32) (p1 : Int32) (p2 : Int32) : Int64 × (Nat → Int64) × (Nat → Int64) × Int64 × Int64 × Int64 × Int64 := LetF (J_X11_isRule sx p0) (fun y6 => if y6 = 0 then (((-1) : Int64), (tco 1), (tco 2), (tco 0 2), (tco 0 3), (tco 0 4), (tco 0 5)) else LetF (J_X11_isWeek sx (lS [(lI [(sh 0 0), (sh 0 1), 0, 0, 0, 0, (sh 0 6), (sh 0 7), (sh 0 8), (sh 0 9), (sh 0 10), (sh 0 11), (sh 0 12)]), (sh 1), (sh 2), (sh 3), (sh 4), (sh 5)]) p1) (fun y13 => if y13 = 0 then (((-1) : Int64), (tco 1), (tco 2), (tco 0 2), (tco 0 3), (tco 0 4), (tco 0 5)) else LetF (J_X11_goInto sx (lS [(lI [(sh 0 0), (sh 0 1), 0, 0, 0, 0, (sh 0 6), (sh 0 7), (sh 0 8), (sh 0 9), (sh 0 10), (sh 0 11), (sh 0 12)]), (sh 1), (sh 2), (sh 3), (sh 4), (sh 5)]) (lS [(lI []), (fun _ => 0), (fun _ => 0)]) (lT [(lJ [0, 0, (tco 0 2), (tco 0 3), (tco 0 4), (tco 0 5)]), (tco 1), (tco 2)]) p0 p1) (fun y24 => LetF (J_X11_told (y24.2.2.2.2.2) (y24.2.2.1) p2) (fun y28 => (y28, (y24.1), (y24.2.1), (y24.2.2.1), (y24.2.2.2.1), (y24.2.2.2.2.1), (y24.2.2.2.2.2))))))
theorem exl_X11_idle_0 {sx : Nat → Nat → Int32} {sh : Nat → Nat → Int32} {sco : Nat → Nat → Int32} {tco : Nat → Nat → Int64} {p0 : Int32} {p1 : Int32} {p2 : Int32} {r2 : Int32} (w5 : r2 = J_X11_isRule sx p0) (c7 : r2 = (0 : Int32)) : (((-1) : Int64), (tco 1), (tco 2), (tco 0 2), (tco 0 3), (tco 0 4), (tco 0 5)) = J_X11_idle sx sh sco tco p0 p1 p2 := by refine Eq.symm ?_; unfold J_X11_idle; refine lt_e w5 ?_; refine Eq.trans (if_pos c7) ?_; rfl
theorem exl_X11_idle_1 {sx : Nat → Nat → Int32} {sh : Nat → Nat → Int32} {sco : Nat → Nat → Int32} {tco : Nat → Nat → Int64} {p0 : Int32} {p1 : Int32} {p2 : Int32} {r26 : Int64} {m17 : Nat → Int64} {m18 : Nat → Int64} {m19 : Int64} {m20 : Int64} {m21 : Int64} {m22 : Int64} {r2 : Int32} {r9 : Int32} (w5 : r2 = J_X11_isRule sx p0) (c7 : ¬ (r2 = (0 : Int32))) (w12 : r9 = J_X11_isWeek sx (lS [(lI [(sh 0 0), (sh 0 1), 0, 0, 0, 0, (sh 0 6), (sh 0 7), (sh 0 8), (sh 0 9), (sh 0 10), (sh 0 11), (sh 0 12)]), (sh 1), (sh 2), (sh 3), (sh 4), (sh 5)]) p1) (c14 : ¬ (r9 = (0 : Int32))) (w23 : (m17, m18, m19, m20, m21, m22) = J_X11_goInto sx (lS [(lI [(sh 0 0), (sh 0 1), 0, 0, 0, 0, (sh 0 6), (sh 0 7), (sh 0 8), (sh 0 9), (sh 0 10), (sh 0 11), (sh 0 12)]), (sh 1), (sh 2), (sh 3), (sh 4), (sh 5)]) (lS [(lI []), (fun _ => 0), (fun _ => 0)]) (lT [(lJ [0, 0, (tco 0 2), (tco 0 3), (tco 0 4), (tco 0 5)]), (tco 1), (tco 2)]) p0 p1) (w27 : r26 = J_X11_told m22 m19 p2) : (r26, m17, m18, m19, m20, m21, m22) = J_X11_idle sx sh sco tco p0 p1 p2 := by refine Eq.symm ?_; unfold J_X11_idle; refine lt_e w5 ?_; refine Eq.trans (if_neg c7) ?_; refine lt_e w12 ?_; refine Eq.trans (if_neg c14) ?_; refine lt_e w23 ?_; refine lt_e w27 ?_; rfl
theorem exl_X11_idle_2 {sx : Nat → Nat → Int32} {sh : Nat → Nat → Int32} {sco : Nat → Nat → Int32} {tco : Nat → Nat → Int64} {p0 : Int32} {p1 : Int32} {p2 : Int32} {r2 : Int32} {r9 : Int32} (w5 : r2 = J_X11_isRule sx p0) (c7 : ¬ (r2 = (0 : Int32))) (w12 : r9 = J_X11_isWeek sx (lS [(lI [(sh 0 0), (sh 0 1), 0, 0, 0, 0, (sh 0 6), (sh 0 7), (sh 0 8), (sh 0 9), (sh 0 10), (sh 0 11), (sh 0 12)]), (sh 1), (sh 2), (sh 3), (sh 4), (sh 5)]) p1) (c14 : r9 = (0 : Int32)) : (((-1) : Int64), (tco 1), (tco 2), (tco 0 2), (tco 0 3), (tco 0 4), (tco 0 5)) = J_X11_idle sx sh sco tco p0 p1 p2 := by refine Eq.symm ?_; unfold J_X11_idle; refine lt_e w5 ?_; refine Eq.trans (if_neg c7) ?_; refine lt_e w12 ?_; refine Eq.trans (if_pos c14) ?_; rfl
set_option maxHeartbeats 4000000 in
set_option maxRecDepth 100000 in
theorem c_X11_idle (l : Launch) (D : va_G) (k : Nat → ClassId) (b : Nat → Nat) (qx : Nat → Nat) (sx : Nat → Nat → Int32) (qh : Nat → Nat) (sh : Nat → Nat → Int32) (qco : Nat → Nat) (sco : Nat → Nat → Int32) (tco : Nat → Nat → Int64) (sz : Nat) (p0 : Int32) (p1 : Int32) (p2 : Int32) (h_wk : 0 ≤ (sh 0 0).toInt ∧ (sh 0 0).toInt ≤ 5) (h_hk : 0 ≤ (sh 0 1).toInt ∧ (sh 0 1).toInt ≤ 4) (h_fl : 0 ≤ (sh 0 12).toInt ∧ (sh 0 12).toInt ≤ 5) (h_of : ∀ j, 0 ≤ (sh 2 j).toInt ∧ (sh 2 j).toInt ≤ 4) (h_go : ∀ j, 0 ≤ (sh 3 j).toInt ∧ (sh 3 j).toInt ≤ 5) (h_su : SUok (sh 5)) : MetL l D k b yX11_idle wsX11_idle ({ frames := 6, cells := 0, slots := 0, locals := 150 } : Room) [cell30_ qx sx, cell28_ k qx sx, cell29_ k qx sx, cell31_ qx sh qh, cell0_ k qh sh, cell1_ k qh sh, cell4_ k qh sh, cell3_ k qh sh, cell2_ k qh sh, cell47_ qx qco tco, cell35_ k qco tco, cell34_ k qco tco] sz [.ref (qx 0), .int p0, .int p1, .int p2] (fun (r : Int64) (u : (Nat → Int64) × (Nat → Int64) × Int64 × Int64 × Int64 × Int64) => (r, (u.1), (u.2.1), (u.2.2.1), (u.2.2.2.1), (u.2.2.2.2.1), (u.2.2.2.2.2)) = J_X11_idle sx sh sco tco p0 p1 p2) (fun u => [cell30_ qx sx, cell28_ k qx sx, cell29_ k qx sx, cell31_ qx sh qh, cell0_ k qh sh, cell1_ k qh sh, cell4_ k qh sh, cell3_ k qh sh, cell2_ k qh sh, cell56_ qx qco (u.2.2.1) (u.2.2.2.1) (u.2.2.2.2.1) (u.2.2.2.2.2), cell98_ k qco (u.1), cell99_ k qco (u.2.1)]) := by
  refine g_enter (cc := cX11_idle) (maxL := 4) (ret := (some .long)) (by decide) rfl (Nat.le_of_ble_eq_true rfl) ?_
  intro p e s m below meth c A hsz hAe cx hr hP hD hS ls hl
  rw [hAe]
  refine g_q (fun Q hQ => ?_)
  have hx := cx.1.1
  have hb := cx.1.2.1
  have bp0 := i_rng p0
  have bp1 := i_rng p1
  have bp2 := i_rng p2
  have hl : lv_has ls 4 [(0, .ref (qx 0)), (1, .int p0), (2, .int p1), (3, .int p2)] := hl
  obtain ⟨H, eH⟩ : ∃ H : Heap, H = s.heap := ⟨_, rfl⟩
  obtain ⟨locs, el⟩ : ∃ L : List Loc, L = [] := ⟨_, rfl⟩
  have hP : va_P D vwCl [cell30_ qx sx, cell28_ k qx sx, cell29_ k qx sx, cell31_ qx sh qh, cell0_ k qh sh, cell1_ k qh sh, cell4_ k qh sh, cell3_ k qh sh, cell2_ k qh sh, cell47_ qx qco tco, cell35_ k qco tco, cell34_ k qco tco] H := by rw [eH]; exact hP
  have hD : va_D A [cell30_ qx sx, cell28_ k qx sx, cell29_ k qx sx, cell31_ qx sh qh, cell0_ k qh sh, cell1_ k qh sh, cell4_ k qh sh, cell3_ k qh sh, cell2_ k qh sh, cell47_ qx qco tco, cell35_ k qco tco, cell34_ k qco tco] := hD
  have hS : va_S A s.heap H locs := by rw [eH, el]; exact hS
  suffices goal : W p l e ({ frames := 6, cells := 0, slots := 0, locals := 150 } : Room) s m ([.ref (qx 0), .int p0, .int p1, .int p2] : List Value).toArray below meth c H locs 0 0 Q (F0 m 0 ls []) by rw [eH, el] at goal; exact goal
  refine lv_aload_n hx hb dX11_idle_0 rfl (lv_at hl 0 rfl) ?_
  refine lv_iload_n hx hb dX11_idle_1 rfl (lv_at hl 1 rfl) ?_
  refine g_ir (g_runV (wc := [cell30_ qx sx, cell28_ k qx sx, cell29_ k qx sx]) (rest := []) cx hP hD hS [0, 1, 2] rfl (by decide) [.int p0] (c_X11_isRule l D k b qx sx H.size p0) gX11_idle_X11_isRule rfl rfl rfl nd_X11_isRule ⟨Nat.le_of_ble_eq_true rfl, Nat.le_of_ble_eq_true rfl⟩ (ci := 9) (q0 := 0) rfl rfl rfl hl.1 rfl (Nat.le_of_ble_eq_true rfl) ⟨Nat.zero_le _, Nat.zero_le _⟩ dX11_idle_2) cx.2.2.1 hP hD hS [0, 1, 2] rfl rfl (fun r2 H locs hw1 hP hS => ?_)
  replace hw1 : (0 ≤ r2.toInt ∧ r2.toInt ≤ 1) ∧ (Imp (r2.toInt = 1) (0 ≤ p0.toInt ∧ p0.toInt ≤ 2)) ∧ (r2 = J_X11_isRule sx p0) := hw1
  obtain ⟨w3, w4, w5⟩ := hw1
  have zr2 : 0 ≤ r2.toInt ∧ r2.toInt ≤ 1 := w3
  refine lv_if_eq (tgt := 16) hx hb dX11_idle_5 (by decide) (fun c7 => ?_) (fun c7 => ?_)
  · have f7 : r2.toInt = 0 := f_eq rfl (by decide) c7
    refine lv_ldc2 (v := (-1)) hx hb cx.1.2.2.2.1 (cx.1.2.2.2.2 _ kJ_X11_idle_220) dX11_idle_16 ?_
    rw [hQ]
    exact x_l cx hr ((tco 1), (tco 2), (tco 0 2), (tco 0 3), (tco 0 4), (tco 0 5)) hP hD hS (show (((-1) : Int64), (tco 1), (tco 2), (tco 0 2), (tco 0 3), (tco 0 4), (tco 0 5)) = J_X11_idle sx sh sco tco p0 p1 p2 from (exl_X11_idle_0 w5 c7)) dX11_idle_19
  · have f7 : ¬ r2.toInt = 0 := f_ne rfl (by decide) c7
    have k7 : (0 ≤ p0.toInt ∧ p0.toInt ≤ 2) := w4 (by omega)
    refine lv_aload_n hx hb dX11_idle_8 rfl (lv_at hl 0 rfl) ?_
    refine lv_iload_n hx hb dX11_idle_9 rfl (lv_at hl 2 rfl) ?_
    refine g_ir (g_runV (wc := [cell30_ qx sx, cell28_ k qx sx, cell29_ k qx sx, cell31_ qx sh qh, cell0_ k qh sh, cell1_ k qh sh, cell4_ k qh sh, cell3_ k qh sh, cell2_ k qh sh]) (rest := []) cx hP hD hS [0, 1, 2, 3, 4, 5, 6, 7, 8] rfl (by decide) [.int p1] (c_X11_isWeek l D k b qx sx (lq [0, qh 1, qh 2, qh 3, qh 4, qh 5]) (lS [(lI [(sh 0 0), (sh 0 1), 0, 0, 0, 0, (sh 0 6), (sh 0 7), (sh 0 8), (sh 0 9), (sh 0 10), (sh 0 11), (sh 0 12)]), (sh 1), (sh 2), (sh 3), (sh 4), (sh 5)]) H.size p1 (show 0 ≤ (sh 0 0).toInt ∧ (sh 0 0).toInt ≤ 5 from by first | decide | omega)) gX11_idle_X11_isWeek rfl rfl rfl nd_X11_isWeek ⟨Nat.le_of_ble_eq_true rfl, Nat.le_of_ble_eq_true rfl⟩ (ci := 9) (q0 := 0) rfl rfl rfl hl.1 rfl (Nat.le_of_ble_eq_true rfl) ⟨Nat.zero_le _, Nat.zero_le _⟩ dX11_idle_10) cx.2.2.1 hP hD hS [0, 1, 2, 3, 4, 5, 6, 7, 8] rfl rfl (fun r9 H locs hw8 hP hS => ?_)
    replace hw8 : (0 ≤ r9.toInt ∧ r9.toInt ≤ 1) ∧ (Imp (r9.toInt = 1) (0 ≤ p1.toInt ∧ p1.toInt ≤ 4 ∧ p1.toInt < (sh 0 0).toInt)) ∧ (r9 = J_X11_isWeek sx (lS [(lI [(sh 0 0), (sh 0 1), 0, 0, 0, 0, (sh 0 6), (sh 0 7), (sh 0 8), (sh 0 9), (sh 0 10), (sh 0 11), (sh 0 12)]), (sh 1), (sh 2), (sh 3), (sh 4), (sh 5)]) p1) := hw8
    obtain ⟨w10, w11, w12⟩ := hw8
    have zr9 : 0 ≤ r9.toInt ∧ r9.toInt ≤ 1 := w10
    refine lv_if_ne (tgt := 20) hx hb dX11_idle_13 (by decide) (fun c14 => ?_) (fun c14 => ?_)
    · have f14 : ¬ r9.toInt = 0 := f_ne rfl (by decide) c14
      have k14 : (0 ≤ p1.toInt ∧ p1.toInt ≤ 4 ∧ p1.toInt < (sh 0 0).toInt) := w11 (by omega)
      refine lv_aload_n hx hb dX11_idle_20 rfl (lv_at hl 0 rfl) ?_
      refine lv_iload_n hx hb dX11_idle_21 rfl (lv_at hl 1 rfl) ?_
      refine lv_iload_n hx hb dX11_idle_22 rfl (lv_at hl 2 rfl) ?_
      refine g_vF (w1 := fun (u : (Nat → Int64) × (Nat → Int64) × Int64 × Int64 × Int64 × Int64) => [cell30_ qx sx, cell28_ k qx sx, cell29_ k qx sx, cell31_ qx sh qh, cell0_ k qh sh, cell1_ k qh sh, cell4_ k qh sh, cell3_ k qh sh, cell2_ k qh sh, cell56_ qx qco (u.2.2.1) (u.2.2.2.1) (u.2.2.2.2.1) (u.2.2.2.2.2), cell98_ k qco (u.1), cell99_ k qco (u.2.1)]) (g_runVF (ws := [cell30_ qx sx, cell28_ k qx sx, cell29_ k qx sx, cell31_ qx sh qh, cell0_ k qh sh, cell1_ k qh sh, cell4_ k qh sh, cell3_ k qh sh, cell2_ k qh sh, cell47_ qx qco tco, cell35_ k qco tco, cell34_ k qco tco]) (rest := []) cx hP hD hS [.int p0, .int p1] (c_X11_goInto l D k b qx sx (lq [0, qh 1, qh 2, qh 3, qh 4, qh 5]) (lS [(lI [(sh 0 0), (sh 0 1), 0, 0, 0, 0, (sh 0 6), (sh 0 7), (sh 0 8), (sh 0 9), (sh 0 10), (sh 0 11), (sh 0 12)]), (sh 1), (sh 2), (sh 3), (sh 4), (sh 5)]) (lq [0, qco 1, qco 2]) (lS [(lI []), (fun _ => 0), (fun _ => 0)]) (lT [(lJ [0, 0, (tco 0 2), (tco 0 3), (tco 0 4), (tco 0 5)]), (tco 1), (tco 2)]) H.size p0 p1 (show 0 ≤ (sh 0 0).toInt ∧ (sh 0 0).toInt ≤ 5 from by first | decide | omega) (show 0 ≤ (sh 0 1).toInt ∧ (sh 0 1).toInt ≤ 4 from by first | decide | omega) (show 0 ≤ (sh 0 12).toInt ∧ (sh 0 12).toInt ≤ 5 from by first | decide | omega) h_of h_go (show SUok (sh 5) from by assumption) (show 0 ≤ p0.toInt ∧ p0.toInt ≤ 2 from by first | decide | omega) (show 0 ≤ p1.toInt ∧ p1.toInt ≤ 4 from by first | decide | omega)) gX11_idle_X11_goInto rfl rfl rfl nd_X11_goInto ⟨Nat.le_of_ble_eq_true rfl, Nat.le_of_ble_eq_true rfl⟩ (ci := 9) (q0 := 0) rfl rfl rfl hl.1 rfl (Nat.le_of_ble_eq_true rfl) ⟨Nat.zero_le _, Nat.zero_le _⟩ dX11_idle_23) cx.2.2.1 hD hS (fun u16 H locs hw15 hP hD hS => ?_)
      obtain ⟨m17, m18, m19, m20, m21, m22⟩ := u16
      have hP : va_P D vwCl [cell30_ qx sx, cell28_ k qx sx, cell29_ k qx sx, cell31_ qx sh qh, cell0_ k qh sh, cell1_ k qh sh, cell4_ k qh sh, cell3_ k qh sh, cell2_ k qh sh, cell56_ qx qco m19 m20 m21 m22, (qco 1, .inl (k 1, 35, .inr (.inl m17))), (qco 2, .inl (k 1, 35, .inr (.inl m18)))] H := hP
      have hD : va_D A [cell30_ qx sx, cell28_ k qx sx, cell29_ k qx sx, cell31_ qx sh qh, cell0_ k qh sh, cell1_ k qh sh, cell4_ k qh sh, cell3_ k qh sh, cell2_ k qh sh, cell56_ qx qco m19 m20 m21 m22, (qco 1, .inl (k 1, 35, .inr (.inl m17))), (qco 2, .inl (k 1, 35, .inr (.inl m18)))] := hD
      have w23 : (m17, m18, m19, m20, m21, m22) = J_X11_goInto sx (lS [(lI [(sh 0 0), (sh 0 1), 0, 0, 0, 0, (sh 0 6), (sh 0 7), (sh 0 8), (sh 0 9), (sh 0 10), (sh 0 11), (sh 0 12)]), (sh 1), (sh 2), (sh 3), (sh 4), (sh 5)]) (lS [(lI []), (fun _ => 0), (fun _ => 0)]) (lT [(lJ [0, 0, (tco 0 2), (tco 0 3), (tco 0 4), (tco 0 5)]), (tco 1), (tco 2)]) p0 p1 := hw15
      clear hw15
      refine lv_aload_n hx hb dX11_idle_26 rfl (lv_at hl 0 rfl) ?_
      refine g_get cx hP iw_X11_idle_X11 0 rfl rfl 7 (by decide) rfl fw_X11_idle_52 rfl dX11_idle_27 ?_
      refine g_get cx hP iw_X11_idle_X1 9 rfl rfl 5 (by decide) rfl fw_X11_idle_243 rfl dX11_idle_30 ?_
      refine lv_aload_n hx hb dX11_idle_33 rfl (lv_at hl 0 rfl) ?_
      refine g_get cx hP iw_X11_idle_X11 0 rfl rfl 7 (by decide) rfl fw_X11_idle_52 rfl dX11_idle_34 ?_
      refine g_get cx hP iw_X11_idle_X1 9 rfl rfl 2 (by decide) rfl fw_X11_idle_233 rfl dX11_idle_37 ?_
      refine lv_iload_n hx hb dX11_idle_40 rfl (lv_at hl 3 rfl) ?_
      refine g_lr (g_runS (wc := []) (rest := []) cx hP hD hS [] rfl (by decide) [.long m22, .long m19, .int p2] (c_X11_told l D k b H.size m22 m19 p2) gX11_idle_X11_told rfl rfl rfl nd_X11_told ⟨Nat.le_of_ble_eq_true rfl, Nat.le_of_ble_eq_true rfl⟩ rfl hl.1 rfl (Nat.le_of_ble_eq_true rfl) ⟨Nat.zero_le _, Nat.zero_le _⟩ dX11_idle_41) cx.2.2.1 hP hD hS [] rfl rfl (fun r26 H locs hw25 hP hS => ?_)
      have w27 : r26 = J_X11_told m22 m19 p2 := hw25
      clear hw25
      rw [hQ]
      exact x_l cx hr (m17, m18, m19, m20, m21, m22) hP hD hS (show (r26, m17, m18, m19, m20, m21, m22) = J_X11_idle sx sh sco tco p0 p1 p2 from (exl_X11_idle_1 w5 c7 w12 c14 w23 w27)) dX11_idle_44
    · have f14 : r9.toInt = 0 := f_eq rfl (by decide) c14
      refine lv_ldc2 (v := (-1)) hx hb cx.1.2.2.2.1 (cx.1.2.2.2.2 _ kJ_X11_idle_220) dX11_idle_16 ?_
      rw [hQ]
      exact x_l cx hr ((tco 1), (tco 2), (tco 0 2), (tco 0 3), (tco 0 4), (tco 0 5)) hP hD hS (show (((-1) : Int64), (tco 1), (tco 2), (tco 0 2), (tco 0 3), (tco 0 4), (tco 0 5)) = J_X11_idle sx sh sco tco p0 p1 p2 from (exl_X11_idle_2 w5 c7 w12 c14)) dX11_idle_19
theorem fw_X11_there_126 : Cond.fieldLink RX11 126 "StillInAugust$House" "weeks" "I" ∈ wsX11_there := by decide +kernel
theorem fw_X11_there_233 : Cond.fieldLink RX11 233 "StillInAugust$Course" "scale" "J" ∈ wsX11_there := by decide +kernel
theorem fw_X11_there_39 : Cond.fieldLink RX11 39 "StillInAugust" "house" "LStillInAugust$House;" ∈ wsX11_there := by decide +kernel
theorem fw_X11_there_52 : Cond.fieldLink RX11 52 "StillInAugust" "course" "LStillInAugust$Course;" ∈ wsX11_there := by decide +kernel
theorem kJ_X11_there_205 : Cond.constantLong RX11 205 (-2) ∈ wsX11_there := by decide +kernel
theorem kJ_X11_there_220 : Cond.constantLong RX11 220 (-1) ∈ wsX11_there := by decide +kernel
theorem nd_X1_shareOf : yX1_shareOf.cls = RX1 ∧ yX1_shareOf.cls ≠ "java/lang/invoke/MethodHandle" ∧ yX1_shareOf.cls ≠ "java/lang/invoke/VarHandle" ∧ (parseMethodDescriptor yX1_shareOf.desc).map (fun d => d.parameters.length) = some 1 := by decide +kernel
theorem iw_X11_there_X1 : ∀ w ∈ u_ws RX1 TX1 6, w ∈ wsX11_there := fun _ h => List.mem_cons_of_mem _ (List.mem_append_right _ h)
theorem iw_X11_there_X11 : ∀ w ∈ u_ws RX11 TX11 17, w ∈ wsX11_there := fun _ h => List.mem_cons_of_mem _ (List.mem_append_left _ (List.mem_append_left _ (List.mem_append_right _ h)))
theorem iw_X11_there_X4 : ∀ w ∈ u_ws RX4 TX4 14, w ∈ wsX11_there := fun _ h => List.mem_cons_of_mem _ (List.mem_append_left _ (List.mem_append_right _ h))
def J_X11_there (sx : Nat → Nat → Int32) (sh : Nat → Nat → Int32) (sco : Nat → Nat → Int32) (tco : Nat → Nat → Int64) (p0 : Int32) (p1 : Int32) (p2 : Int32) (p3 : Int32) : Int64 × (Nat → Int64) × (Nat → Int64) × Int64 × Int64 × Int64 × Int64 := LetF (J_X11_isRule sx p0) (fun y6 => if y6 = 0 then (((-1) : Int64), (tco 1), (tco 2), (tco 0 2), (tco 0 3), (tco 0 4), (tco 0 5)) else if p1 < 0 then (((-1) : Int64), (tco 1), (tco 2), (tco 0 2), (tco 0 3), (tco 0 4), (tco 0 5)) else if p1 ≤ (sh 0 0) then if p2 < 0 then (((-2) : Int64), (tco 1), (tco 2), (tco 0 2), (tco 0 3), (tco 0 4), (tco 0 5)) else if p2 ≤ 4 then LetF (J_X11_goAheadOf sx (lS [(lI [(sh 0 0), (sh 0 1), 0, 0, 0, 0, (sh 0 6), (sh 0 7), (sh 0 8), (sh 0 9), (sh 0 10), (sh 0 11), (sh 0 12)]), (sh 1), (sh 2), (sh 3), (sh 4), (sh 5)]) (lS [(lI []), (fun _ => 0), (fun _ => 0)]) (lT [(lJ [0, 0, (tco 0 2), (tco 0 3), (tco 0 4), (tco 0 5)]), (tco 1), (tco 2)]) p0 p1) (fun y22 => LetF (J_X1_shareOf (lS [(lI []), (fun _ => 0), (fun _ => 0)]) (lT [(lJ [0, 0, (y22.2.2.1), (y22.2.2.2.1), (y22.2.2.2.2.1), (y22.2.2.2.2.2)]), (y22.1), (y22.2.1)]) p2) (fun y26 => LetF (J_X11_told y26 (y22.2.2.1) p3) (fun y30 => (y30, (y22.1), (y22.2.1), (y22.2.2.1), (y22.2.2.2.1), (y22.2.2.2.2.1), (y22.2.2.2.2.2))))) else (((-2) : Int64), (tco 1), (tco 2), (tco 0 2), (tco 0 3), (tco 0 4), (tco 0 5)) else (((-1) : Int64), (tco 1), (tco 2), (tco 0 2), (tco 0 3), (tco 0 4), (tco 0 5)))
theorem exl_X11_there_0 {sx : Nat → Nat → Int32} {sh : Nat → Nat → Int32} {sco : Nat → Nat → Int32} {tco : Nat → Nat → Int64} {p0 : Int32} {p1 : Int32} {p2 : Int32} {p3 : Int32} {r2 : Int32} (w5 : r2 = J_X11_isRule sx p0) (c7 : r2 = (0 : Int32)) : (((-1) : Int64), (tco 1), (tco 2), (tco 0 2), (tco 0 3), (tco 0 4), (tco 0 5)) = J_X11_there sx sh sco tco p0 p1 p2 p3 := by refine Eq.symm ?_; unfold J_X11_there; refine lt_e w5 ?_; refine Eq.trans (if_pos c7) ?_; rfl
theorem exl_X11_there_1 {sx : Nat → Nat → Int32} {sh : Nat → Nat → Int32} {sco : Nat → Nat → Int32} {tco : Nat → Nat → Int64} {p0 : Int32} {p1 : Int32} {p2 : Int32} {p3 : Int32} {r2 : Int32} (w5 : r2 = J_X11_isRule sx p0) (c7 : ¬ (r2 = (0 : Int32))) (c8 : p1 < (0 : Int32)) : (((-1) : Int64), (tco 1), (tco 2), (tco 0 2), (tco 0 3), (tco 0 4), (tco 0 5)) = J_X11_there sx sh sco tco p0 p1 p2 p3 := by refine Eq.symm ?_; unfold J_X11_there; refine lt_e w5 ?_; refine Eq.trans (if_neg c7) ?_; refine Eq.trans (if_pos c8) ?_; rfl
theorem exl_X11_there_2 {sx : Nat → Nat → Int32} {sh : Nat → Nat → Int32} {sco : Nat → Nat → Int32} {tco : Nat → Nat → Int64} {p0 : Int32} {p1 : Int32} {p2 : Int32} {p3 : Int32} {r2 : Int32} (w5 : r2 = J_X11_isRule sx p0) (c7 : ¬ (r2 = (0 : Int32))) (c8 : ¬ (p1 < (0 : Int32))) (c9 : p1 ≤ (sh 0 0)) (c10 : p2 < (0 : Int32)) : (((-2) : Int64), (tco 1), (tco 2), (tco 0 2), (tco 0 3), (tco 0 4), (tco 0 5)) = J_X11_there sx sh sco tco p0 p1 p2 p3 := by refine Eq.symm ?_; unfold J_X11_there; refine lt_e w5 ?_; refine Eq.trans (if_neg c7) ?_; refine Eq.trans (if_neg c8) ?_; refine Eq.trans (if_pos c9) ?_; refine Eq.trans (if_pos c10) ?_; rfl
theorem exl_X11_there_3 {sx : Nat → Nat → Int32} {sh : Nat → Nat → Int32} {sco : Nat → Nat → Int32} {tco : Nat → Nat → Int64} {p0 : Int32} {p1 : Int32} {p2 : Int32} {p3 : Int32} {r28 : Int64} {m14 : Nat → Int64} {m15 : Nat → Int64} {m16 : Int64} {m17 : Int64} {m18 : Int64} {m19 : Int64} {r2 : Int32} {r24 : Int64} (w5 : r2 = J_X11_isRule sx p0) (c7 : ¬ (r2 = (0 : Int32))) (c8 : ¬ (p1 < (0 : Int32))) (c9 : p1 ≤ (sh 0 0)) (c10 : ¬ (p2 < (0 : Int32))) (c11 : p2 ≤ (4 : Int32)) (w21 : (m14, m15, m16, m17, m18, m19) = J_X11_goAheadOf sx (lS [(lI [(sh 0 0), (sh 0 1), 0, 0, 0, 0, (sh 0 6), (sh 0 7), (sh 0 8), (sh 0 9), (sh 0 10), (sh 0 11), (sh 0 12)]), (sh 1), (sh 2), (sh 3), (sh 4), (sh 5)]) (lS [(lI []), (fun _ => 0), (fun _ => 0)]) (lT [(lJ [0, 0, (tco 0 2), (tco 0 3), (tco 0 4), (tco 0 5)]), (tco 1), (tco 2)]) p0 p1) (w25 : r24 = J_X1_shareOf (lS [(lI []), (fun _ => 0), (fun _ => 0)]) (lT [(lJ [0, 0, m16, m17, m18, m19]), m14, m15]) p2) (w29 : r28 = J_X11_told r24 m16 p3) : (r28, m14, m15, m16, m17, m18, m19) = J_X11_there sx sh sco tco p0 p1 p2 p3 := by refine Eq.symm ?_; unfold J_X11_there; refine lt_e w5 ?_; refine Eq.trans (if_neg c7) ?_; refine Eq.trans (if_neg c8) ?_; refine Eq.trans (if_pos c9) ?_; refine Eq.trans (if_neg c10) ?_; refine Eq.trans (if_pos c11) ?_; refine lt_e w21 ?_; refine lt_e w25 ?_; refine lt_e w29 ?_; rfl
theorem exl_X11_there_4 {sx : Nat → Nat → Int32} {sh : Nat → Nat → Int32} {sco : Nat → Nat → Int32} {tco : Nat → Nat → Int64} {p0 : Int32} {p1 : Int32} {p2 : Int32} {p3 : Int32} {r2 : Int32} (w5 : r2 = J_X11_isRule sx p0) (c7 : ¬ (r2 = (0 : Int32))) (c8 : ¬ (p1 < (0 : Int32))) (c9 : p1 ≤ (sh 0 0)) (c10 : ¬ (p2 < (0 : Int32))) (c11 : ¬ (p2 ≤ (4 : Int32))) : (((-2) : Int64), (tco 1), (tco 2), (tco 0 2), (tco 0 3), (tco 0 4), (tco 0 5)) = J_X11_there sx sh sco tco p0 p1 p2 p3 := by refine Eq.symm ?_; unfold J_X11_there; refine lt_e w5 ?_; refine Eq.trans (if_neg c7) ?_; refine Eq.trans (if_neg c8) ?_; refine Eq.trans (if_pos c9) ?_; refine Eq.trans (if_neg c10) ?_; refine Eq.trans (if_neg c11) ?_; rfl
theorem exl_X11_there_5 {sx : Nat → Nat → Int32} {sh : Nat → Nat → Int32} {sco : Nat → Nat → Int32} {tco : Nat → Nat → Int64} {p0 : Int32} {p1 : Int32} {p2 : Int32} {p3 : Int32} {r2 : Int32} (w5 : r2 = J_X11_isRule sx p0) (c7 : ¬ (r2 = (0 : Int32))) (c8 : ¬ (p1 < (0 : Int32))) (c9 : ¬ (p1 ≤ (sh 0 0))) : (((-1) : Int64), (tco 1), (tco 2), (tco 0 2), (tco 0 3), (tco 0 4), (tco 0 5)) = J_X11_there sx sh sco tco p0 p1 p2 p3 := by refine Eq.symm ?_; unfold J_X11_there; refine lt_e w5 ?_; refine Eq.trans (if_neg c7) ?_; refine Eq.trans (if_neg c8) ?_; refine Eq.trans (if_neg c9) ?_; rfl
set_option maxHeartbeats 4000000 in
set_option maxRecDepth 100000 in
theorem c_X11_there (l : Launch) (D : va_G) (k : Nat → ClassId) (b : Nat → Nat) (qx : Nat → Nat) (sx : Nat → Nat → Int32) (qh : Nat → Nat) (sh : Nat → Nat → Int32) (qco : Nat → Nat) (sco : Nat → Nat → Int32) (tco : Nat → Nat → Int64) (sz : Nat) (p0 : Int32) (p1 : Int32) (p2 : Int32) (p3 : Int32) (h_wk : 0 ≤ (sh 0 0).toInt ∧ (sh 0 0).toInt ≤ 5) (h_hk : 0 ≤ (sh 0 1).toInt ∧ (sh 0 1).toInt ≤ 4) (h_fl : 0 ≤ (sh 0 12).toInt ∧ (sh 0 12).toInt ≤ 5) (h_of : ∀ j, 0 ≤ (sh 2 j).toInt ∧ (sh 2 j).toInt ≤ 4) (h_go : ∀ j, 0 ≤ (sh 3 j).toInt ∧ (sh 3 j).toInt ≤ 5) (h_su : SUok (sh 5)) : MetL l D k b yX11_there wsX11_there ({ frames := 5, cells := 0, slots := 0, locals := 128 } : Room) [cell30_ qx sx, cell28_ k qx sx, cell29_ k qx sx, cell31_ qx sh qh, cell0_ k qh sh, cell1_ k qh sh, cell4_ k qh sh, cell3_ k qh sh, cell2_ k qh sh, cell47_ qx qco tco, cell35_ k qco tco, cell34_ k qco tco] sz [.ref (qx 0), .int p0, .int p1, .int p2, .int p3] (fun (r : Int64) (u : (Nat → Int64) × (Nat → Int64) × Int64 × Int64 × Int64 × Int64) => (r, (u.1), (u.2.1), (u.2.2.1), (u.2.2.2.1), (u.2.2.2.2.1), (u.2.2.2.2.2)) = J_X11_there sx sh sco tco p0 p1 p2 p3) (fun u => [cell30_ qx sx, cell28_ k qx sx, cell29_ k qx sx, cell31_ qx sh qh, cell0_ k qh sh, cell1_ k qh sh, cell4_ k qh sh, cell3_ k qh sh, cell2_ k qh sh, cell56_ qx qco (u.2.2.1) (u.2.2.2.1) (u.2.2.2.2.1) (u.2.2.2.2.2), cell98_ k qco (u.1), cell99_ k qco (u.2.1)]) := by
  refine g_enter (cc := cX11_there) (maxL := 5) (ret := (some .long)) (by decide) rfl (Nat.le_of_ble_eq_true rfl) ?_
  intro p e s m below meth c A hsz hAe cx hr hP hD hS ls hl
  rw [hAe]
  refine g_q (fun Q hQ => ?_)
  have hx := cx.1.1
  have hb := cx.1.2.1
  have bp0 := i_rng p0
  have bp1 := i_rng p1
  have bp2 := i_rng p2
  have bp3 := i_rng p3
  have hl : lv_has ls 5 [(0, .ref (qx 0)), (1, .int p0), (2, .int p1), (3, .int p2), (4, .int p3)] := hl
  obtain ⟨H, eH⟩ : ∃ H : Heap, H = s.heap := ⟨_, rfl⟩
  obtain ⟨locs, el⟩ : ∃ L : List Loc, L = [] := ⟨_, rfl⟩
  have hP : va_P D vwCl [cell30_ qx sx, cell28_ k qx sx, cell29_ k qx sx, cell31_ qx sh qh, cell0_ k qh sh, cell1_ k qh sh, cell4_ k qh sh, cell3_ k qh sh, cell2_ k qh sh, cell47_ qx qco tco, cell35_ k qco tco, cell34_ k qco tco] H := by rw [eH]; exact hP
  have hD : va_D A [cell30_ qx sx, cell28_ k qx sx, cell29_ k qx sx, cell31_ qx sh qh, cell0_ k qh sh, cell1_ k qh sh, cell4_ k qh sh, cell3_ k qh sh, cell2_ k qh sh, cell47_ qx qco tco, cell35_ k qco tco, cell34_ k qco tco] := hD
  have hS : va_S A s.heap H locs := by rw [eH, el]; exact hS
  suffices goal : W p l e ({ frames := 5, cells := 0, slots := 0, locals := 128 } : Room) s m ([.ref (qx 0), .int p0, .int p1, .int p2, .int p3] : List Value).toArray below meth c H locs 0 0 Q (F0 m 0 ls []) by rw [eH, el] at goal; exact goal
  refine lv_aload_n hx hb dX11_there_0 rfl (lv_at hl 0 rfl) ?_
  refine lv_iload_n hx hb dX11_there_1 rfl (lv_at hl 1 rfl) ?_
  refine g_ir (g_runV (wc := [cell30_ qx sx, cell28_ k qx sx, cell29_ k qx sx]) (rest := []) cx hP hD hS [0, 1, 2] rfl (by decide) [.int p0] (c_X11_isRule l D k b qx sx H.size p0) gX11_there_X11_isRule rfl rfl rfl nd_X11_isRule ⟨Nat.le_of_ble_eq_true rfl, Nat.le_of_ble_eq_true rfl⟩ (ci := 9) (q0 := 0) rfl rfl rfl hl.1 rfl (Nat.le_of_ble_eq_true rfl) ⟨Nat.zero_le _, Nat.zero_le _⟩ dX11_there_2) cx.2.2.1 hP hD hS [0, 1, 2] rfl rfl (fun r2 H locs hw1 hP hS => ?_)
  replace hw1 : (0 ≤ r2.toInt ∧ r2.toInt ≤ 1) ∧ (Imp (r2.toInt = 1) (0 ≤ p0.toInt ∧ p0.toInt ≤ 2)) ∧ (r2 = J_X11_isRule sx p0) := hw1
  obtain ⟨w3, w4, w5⟩ := hw1
  have zr2 : 0 ≤ r2.toInt ∧ r2.toInt ≤ 1 := w3
  refine lv_if_eq (tgt := 23) hx hb dX11_there_5 (by decide) (fun c7 => ?_) (fun c7 => ?_)
  · have f7 : r2.toInt = 0 := f_eq rfl (by decide) c7
    refine lv_ldc2 (v := (-1)) hx hb cx.1.2.2.2.1 (cx.1.2.2.2.2 _ kJ_X11_there_220) dX11_there_23 ?_
    rw [hQ]
    exact x_l cx hr ((tco 1), (tco 2), (tco 0 2), (tco 0 3), (tco 0 4), (tco 0 5)) hP hD hS (show (((-1) : Int64), (tco 1), (tco 2), (tco 0 2), (tco 0 3), (tco 0 4), (tco 0 5)) = J_X11_there sx sh sco tco p0 p1 p2 p3 from (exl_X11_there_0 w5 c7)) dX11_there_26
  · have f7 : ¬ r2.toInt = 0 := f_ne rfl (by decide) c7
    have k7 : (0 ≤ p0.toInt ∧ p0.toInt ≤ 2) := w4 (by omega)
    refine lv_iload_n hx hb dX11_there_8 rfl (lv_at hl 2 rfl) ?_
    refine lv_if_lt (tgt := 23) hx hb dX11_there_9 (by decide) (fun c8 => ?_) (fun c8 => ?_)
    · have f8 : p1.toInt < 0 := f_lt rfl (by decide) c8
      refine lv_ldc2 (v := (-1)) hx hb cx.1.2.2.2.1 (cx.1.2.2.2.2 _ kJ_X11_there_220) dX11_there_23 ?_
      rw [hQ]
      exact x_l cx hr ((tco 1), (tco 2), (tco 0 2), (tco 0 3), (tco 0 4), (tco 0 5)) hP hD hS (show (((-1) : Int64), (tco 1), (tco 2), (tco 0 2), (tco 0 3), (tco 0 4), (tco 0 5)) = J_X11_there sx sh sco tco p0 p1 p2 p3 from (exl_X11_there_1 w5 c7 c8)) dX11_there_26
    · have f8 : 0 ≤ p1.toInt := f_nlt rfl (by decide) c8
      refine lv_iload_n hx hb dX11_there_12 rfl (lv_at hl 2 rfl) ?_
      refine lv_aload_n hx hb dX11_there_13 rfl (lv_at hl 0 rfl) ?_
      refine g_get cx hP iw_X11_there_X11 0 rfl rfl 4 (by decide) rfl fw_X11_there_39 rfl dX11_there_14 ?_
      refine g_get cx hP iw_X11_there_X4 3 rfl rfl 0 (by decide) rfl fw_X11_there_126 rfl dX11_there_17 ?_
      refine lv_icmp_le (tgt := 27) hx hb dX11_there_20 (by decide) (fun c9 => ?_) (fun c9 => ?_)
      · have f9 : p1.toInt ≤ (sh 0 0).toInt := f_le rfl rfl c9
        refine lv_iload_n hx hb dX11_there_27 rfl (lv_at hl 3 rfl) ?_
        refine lv_if_lt (tgt := 36) hx hb dX11_there_28 (by decide) (fun c10 => ?_) (fun c10 => ?_)
        · have f10 : p2.toInt < 0 := f_lt rfl (by decide) c10
          refine lv_ldc2 (v := (-2)) hx hb cx.1.2.2.2.1 (cx.1.2.2.2.2 _ kJ_X11_there_205) dX11_there_36 ?_
          rw [hQ]
          exact x_l cx hr ((tco 1), (tco 2), (tco 0 2), (tco 0 3), (tco 0 4), (tco 0 5)) hP hD hS (show (((-2) : Int64), (tco 1), (tco 2), (tco 0 2), (tco 0 3), (tco 0 4), (tco 0 5)) = J_X11_there sx sh sco tco p0 p1 p2 p3 from (exl_X11_there_2 w5 c7 c8 c9 c10)) dX11_there_39
        · have f10 : 0 ≤ p2.toInt := f_nlt rfl (by decide) c10
          refine lv_iload_n hx hb dX11_there_31 rfl (lv_at hl 3 rfl) ?_
          refine lv_iconst (v := 4) hx hb dX11_there_32 (by decide) ?_
          refine lv_icmp_le (tgt := 40) hx hb dX11_there_33 (by decide) (fun c11 => ?_) (fun c11 => ?_)
          · have f11 : p2.toInt ≤ 4 := f_le rfl (by decide) c11
            refine lv_aload_n hx hb dX11_there_40 rfl (lv_at hl 0 rfl) ?_
            refine lv_iload_n hx hb dX11_there_41 rfl (lv_at hl 1 rfl) ?_
            refine lv_iload_n hx hb dX11_there_42 rfl (lv_at hl 2 rfl) ?_
            refine g_vF (w1 := fun (u : (Nat → Int64) × (Nat → Int64) × Int64 × Int64 × Int64 × Int64) => [cell30_ qx sx, cell28_ k qx sx, cell29_ k qx sx, cell31_ qx sh qh, cell0_ k qh sh, cell1_ k qh sh, cell4_ k qh sh, cell3_ k qh sh, cell2_ k qh sh, cell56_ qx qco (u.2.2.1) (u.2.2.2.1) (u.2.2.2.2.1) (u.2.2.2.2.2), cell98_ k qco (u.1), cell99_ k qco (u.2.1)]) (g_runVF (ws := [cell30_ qx sx, cell28_ k qx sx, cell29_ k qx sx, cell31_ qx sh qh, cell0_ k qh sh, cell1_ k qh sh, cell4_ k qh sh, cell3_ k qh sh, cell2_ k qh sh, cell47_ qx qco tco, cell35_ k qco tco, cell34_ k qco tco]) (rest := []) cx hP hD hS [.int p0, .int p1] (c_X11_goAheadOf l D k b qx sx (lq [0, qh 1, qh 2, qh 3, qh 4, qh 5]) (lS [(lI [(sh 0 0), (sh 0 1), 0, 0, 0, 0, (sh 0 6), (sh 0 7), (sh 0 8), (sh 0 9), (sh 0 10), (sh 0 11), (sh 0 12)]), (sh 1), (sh 2), (sh 3), (sh 4), (sh 5)]) (lq [0, qco 1, qco 2]) (lS [(lI []), (fun _ => 0), (fun _ => 0)]) (lT [(lJ [0, 0, (tco 0 2), (tco 0 3), (tco 0 4), (tco 0 5)]), (tco 1), (tco 2)]) H.size p0 p1 (show 0 ≤ (sh 0 0).toInt ∧ (sh 0 0).toInt ≤ 5 from by first | decide | omega) (show 0 ≤ (sh 0 1).toInt ∧ (sh 0 1).toInt ≤ 4 from by first | decide | omega) (show 0 ≤ (sh 0 12).toInt ∧ (sh 0 12).toInt ≤ 5 from by first | decide | omega) h_of h_go (show SUok (sh 5) from by assumption) (show 0 ≤ p0.toInt ∧ p0.toInt ≤ 2 from by first | decide | omega) (show 0 ≤ p1.toInt ∧ p1.toInt ≤ 5 from by first | decide | omega)) gX11_there_X11_goAheadOf rfl rfl rfl nd_X11_goAheadOf ⟨Nat.le_of_ble_eq_true rfl, Nat.le_of_ble_eq_true rfl⟩ (ci := 9) (q0 := 0) rfl rfl rfl hl.1 rfl (Nat.le_of_ble_eq_true rfl) ⟨Nat.zero_le _, Nat.zero_le _⟩ dX11_there_43) cx.2.2.1 hD hS (fun u13 H locs hw12 hP hD hS => ?_)
            obtain ⟨m14, m15, m16, m17, m18, m19⟩ := u13
            have hP : va_P D vwCl [cell30_ qx sx, cell28_ k qx sx, cell29_ k qx sx, cell31_ qx sh qh, cell0_ k qh sh, cell1_ k qh sh, cell4_ k qh sh, cell3_ k qh sh, cell2_ k qh sh, cell56_ qx qco m16 m17 m18 m19, (qco 1, .inl (k 1, 35, .inr (.inl m14))), (qco 2, .inl (k 1, 35, .inr (.inl m15)))] H := hP
            have hD : va_D A [cell30_ qx sx, cell28_ k qx sx, cell29_ k qx sx, cell31_ qx sh qh, cell0_ k qh sh, cell1_ k qh sh, cell4_ k qh sh, cell3_ k qh sh, cell2_ k qh sh, cell56_ qx qco m16 m17 m18 m19, (qco 1, .inl (k 1, 35, .inr (.inl m14))), (qco 2, .inl (k 1, 35, .inr (.inl m15)))] := hD
            replace hw12 : (CUok m14 (sh 0 1).toInt) ∧ ((m14, m15, m16, m17, m18, m19) = J_X11_goAheadOf sx (lS [(lI [(sh 0 0), (sh 0 1), 0, 0, 0, 0, (sh 0 6), (sh 0 7), (sh 0 8), (sh 0 9), (sh 0 10), (sh 0 11), (sh 0 12)]), (sh 1), (sh 2), (sh 3), (sh 4), (sh 5)]) (lS [(lI []), (fun _ => 0), (fun _ => 0)]) (lT [(lJ [0, 0, (tco 0 2), (tco 0 3), (tco 0 4), (tco 0 5)]), (tco 1), (tco 2)]) p0 p1) := hw12
            obtain ⟨w20, w21⟩ := hw12
            refine lv_aload_n hx hb dX11_there_46 rfl (lv_at hl 0 rfl) ?_
            refine g_get cx hP iw_X11_there_X11 0 rfl rfl 7 (by decide) rfl fw_X11_there_52 rfl dX11_there_47 ?_
            refine lv_iload_n hx hb dX11_there_50 rfl (lv_at hl 3 rfl) ?_
            refine g_lr (g_runV (wc := [cell56_ qx qco m16 m17 m18 m19, (qco 1, .inl (k 1, 35, .inr (.inl m14))), (qco 2, .inl (k 1, 35, .inr (.inl m15)))]) (rest := []) cx hP hD hS [9, 10, 11] rfl (by decide) [.int p2] (c_X1_shareOf l D k b (lq [qx 9, qco 1, qco 2]) (lS [(lI []), (fun _ => 0), (fun _ => 0)]) (lT [(lJ [0, 0, m16, m17, m18, m19]), m14, m15]) H.size p2) gX11_there_X1_shareOf rfl rfl rfl nd_X1_shareOf ⟨Nat.le_of_ble_eq_true rfl, Nat.le_of_ble_eq_true rfl⟩ (ci := 0) (q0 := 0) rfl rfl rfl hl.1 rfl (Nat.le_of_ble_eq_true rfl) ⟨Nat.zero_le _, Nat.zero_le _⟩ dX11_there_51) cx.2.2.1 hP hD hS [9, 10, 11] rfl rfl (fun r24 H locs hw23 hP hS => ?_)
            have w25 : r24 = J_X1_shareOf (lS [(lI []), (fun _ => 0), (fun _ => 0)]) (lT [(lJ [0, 0, m16, m17, m18, m19]), m14, m15]) p2 := hw23
            clear hw23
            refine lv_aload_n hx hb dX11_there_54 rfl (lv_at hl 0 rfl) ?_
            refine g_get cx hP iw_X11_there_X11 0 rfl rfl 7 (by decide) rfl fw_X11_there_52 rfl dX11_there_55 ?_
            refine g_get cx hP iw_X11_there_X1 9 rfl rfl 2 (by decide) rfl fw_X11_there_233 rfl dX11_there_58 ?_
            refine lv_iload hx hb dX11_there_61 (lv_at hl 4 rfl) ?_
            refine g_lr (g_runS (wc := []) (rest := []) cx hP hD hS [] rfl (by decide) [.long r24, .long m16, .int p3] (c_X11_told l D k b H.size r24 m16 p3) gX11_there_X11_told rfl rfl rfl nd_X11_told ⟨Nat.le_of_ble_eq_true rfl, Nat.le_of_ble_eq_true rfl⟩ rfl hl.1 rfl (Nat.le_of_ble_eq_true rfl) ⟨Nat.zero_le _, Nat.zero_le _⟩ dX11_there_63) cx.2.2.1 hP hD hS [] rfl rfl (fun r28 H locs hw27 hP hS => ?_)
            have w29 : r28 = J_X11_told r24 m16 p3 := hw27
            clear hw27
            rw [hQ]
            exact x_l cx hr (m14, m15, m16, m17, m18, m19) hP hD hS (show (r28, m14, m15, m16, m17, m18, m19) = J_X11_there sx sh sco tco p0 p1 p2 p3 from (exl_X11_there_3 w5 c7 c8 c9 c10 c11 w21 w25 w29)) dX11_there_66
          · have f11 : 4 < p2.toInt := f_nle rfl (by decide) c11
            refine lv_ldc2 (v := (-2)) hx hb cx.1.2.2.2.1 (cx.1.2.2.2.2 _ kJ_X11_there_205) dX11_there_36 ?_
            rw [hQ]
            exact x_l cx hr ((tco 1), (tco 2), (tco 0 2), (tco 0 3), (tco 0 4), (tco 0 5)) hP hD hS (show (((-2) : Int64), (tco 1), (tco 2), (tco 0 2), (tco 0 3), (tco 0 4), (tco 0 5)) = J_X11_there sx sh sco tco p0 p1 p2 p3 from (exl_X11_there_4 w5 c7 c8 c9 c10 c11)) dX11_there_39
      · have f9 : (sh 0 0).toInt < p1.toInt := f_nle rfl rfl c9
        refine lv_ldc2 (v := (-1)) hx hb cx.1.2.2.2.1 (cx.1.2.2.2.2 _ kJ_X11_there_220) dX11_there_23 ?_
        rw [hQ]
        exact x_l cx hr ((tco 1), (tco 2), (tco 0 2), (tco 0 3), (tco 0 4), (tco 0 5)) hP hD hS (show (((-1) : Int64), (tco 1), (tco 2), (tco 0 2), (tco 0 3), (tco 0 4), (tco 0 5)) = J_X11_there sx sh sco tco p0 p1 p2 p3 from (exl_X11_there_5 w5 c7 c8 c9)) dX11_there_26
theorem fw_X11_cheapest_229 : Cond.fieldLink RX11 229 "StillInAugust$Course" "costs" "J" ∈ wsX11_cheapest := by decide +kernel
theorem fw_X11_cheapest_52 : Cond.fieldLink RX11 52 "StillInAugust" "course" "LStillInAugust$Course;" ∈ wsX11_cheapest := by decide +kernel
theorem iw_X11_cheapest_X1 : ∀ w ∈ u_ws RX1 TX1 6, w ∈ wsX11_cheapest := fun _ h => List.mem_cons_of_mem _ (List.mem_append_left _ (List.mem_append_right _ h))
theorem iw_X11_cheapest_X11 : ∀ w ∈ u_ws RX11 TX11 17, w ∈ wsX11_cheapest := fun _ h => List.mem_cons_of_mem _ (List.mem_append_left _ (List.mem_append_left _ (List.mem_append_right _ h)))
def B_X11_cheapest_7 (sx : Nat → Nat → Int32) (sh : Nat → Nat → Int32) (sco : Nat → Nat → Int32) (tco : Nat → Nat → Int64) (z : Int32 × Int64 × Int32 × Int64 × Int64 × Int64 × Int64 × (Nat → Int64) × (Nat → Int64)) : Sum (Int32 × Int64 × Int32 × Int64 × Int64 × Int64 × Int64 × (Nat → Int64) × (Nat → Int64)) (Int32 × (Nat → Int64) × (Nat → Int64) × Int64 × Int64 × Int64 × Int64) := let v17 := (z.1); let v18 := (z.2.1); let v19 := (z.2.2.1); let x20 := (z.2.2.2.1); let x21 := (z.2.2.2.2.1); let x22 := (z.2.2.2.2.2.1); let x23 := (z.2.2.2.2.2.2.1); let g24 := (z.2.2.2.2.2.2.2.1); let g25 := (z.2.2.2.2.2.2.2.2); if 3 ≤ v17 then Sum.inr ((v19, g24, g25, x20, x21, x22, x23)) else LetF (J_X11_goToTheEnd sx (lS [(lI [(sh 0 0), (sh 0 1), 0, 0, 0, 0, (sh 0 6), (sh 0 7), (sh 0 8), (sh 0 9), (sh 0 10), (sh 0 11), (sh 0 12)]), (sh 1), (sh 2), (sh 3), (sh 4), (sh 5)]) (lS [(lI []), (fun _ => 0), (fun _ => 0)]) (lT [(lJ [0, 0, x20, x21, x22, x23]), g24, g25]) v17 0 0 0) (fun y40 => if v17 = 0 then Sum.inl (((v17 + 1), (y40.2.2.2.1), v17, (y40.2.2.1), (y40.2.2.2.1), (y40.2.2.2.2.1), (y40.2.2.2.2.2), (y40.1), (y40.2.1))) else if 0 ≤ (lg_cmp (y40.2.2.2.1) v18) then Sum.inl (((v17 + 1), v18, v19, (y40.2.2.1), (y40.2.2.2.1), (y40.2.2.2.2.1), (y40.2.2.2.2.2), (y40.1), (y40.2.1))) else Sum.inl (((v17 + 1), (y40.2.2.2.1), v17, (y40.2.2.1), (y40.2.2.2.1), (y40.2.2.2.2.1), (y40.2.2.2.2.2), (y40.1), (y40.2.1))))
def J_X11_cheapest (sx : Nat → Nat → Int32) (sh : Nat → Nat → Int32) (sco : Nat → Nat → Int32) (tco : Nat → Nat → Int64) : Int32 × (Nat → Int64) × (Nat → Int64) × Int64 × Int64 × Int64 × Int64 := LTs default (B_X11_cheapest_7 sx sh sco tco) 4 ((0 : Int32), (0 : Int64), (0 : Int32), (tco 0 2), (tco 0 3), (tco 0 4), (tco 0 5), (tco 1), (tco 2))
theorem exl_X11_cheapest_0 {sx : Nat → Nat → Int32} {sh : Nat → Nat → Int32} {sco : Nat → Nat → Int32} {tco : Nat → Nat → Int64} : J_X11_cheapest sx sh sco tco = LTs (default : Int32 × (Nat → Int64) × (Nat → Int64) × Int64 × Int64 × Int64 × Int64) (B_X11_cheapest_7 sx sh sco tco) 4 ((0 : Int32), (0 : Int64), (0 : Int32), (tco 0 2), (tco 0 3), (tco 0 4), (tco 0 5), (tco 1), (tco 2)) := by unfold J_X11_cheapest; rfl
theorem exl_X11_cheapest_1 {sx : Nat → Nat → Int32} {sh : Nat → Nat → Int32} {sco : Nat → Nat → Int32} {tco : Nat → Nat → Int64} {v17 : Int32} {v18 : Int64} {v19 : Int32} {x20 : Int64} {x21 : Int64} {x22 : Int64} {x23 : Int64} {g24 : Nat → Int64} {g25 : Nat → Int64} (c27 : (3 : Int32) ≤ v17) : (B_X11_cheapest_7 sx sh sco tco) (v17, v18, v19, x20, x21, x22, x23, g24, g25) = Sum.inr ((v19, g24, g25, x20, x21, x22, x23)) := by unfold B_X11_cheapest_7; refine Eq.trans (if_pos c27) ?_; rfl
theorem exl_X11_cheapest_2 {sx : Nat → Nat → Int32} {sh : Nat → Nat → Int32} {sco : Nat → Nat → Int32} {tco : Nat → Nat → Int64} {v17 : Int32} {v18 : Int64} {v19 : Int32} {x20 : Int64} {x21 : Int64} {x22 : Int64} {x23 : Int64} {g24 : Nat → Int64} {g25 : Nat → Int64} {v42 : Int32} {m36 : Int64} {m35 : Int64} {m37 : Int64} {m38 : Int64} {m33 : Nat → Int64} {m34 : Nat → Int64} (e42 : v42 = v17 + 1) (c27 : ¬ ((3 : Int32) ≤ v17)) (w39 : (m33, m34, m35, m36, m37, m38) = J_X11_goToTheEnd sx (lS [(lI [(sh 0 0), (sh 0 1), 0, 0, 0, 0, (sh 0 6), (sh 0 7), (sh 0 8), (sh 0 9), (sh 0 10), (sh 0 11), (sh 0 12)]), (sh 1), (sh 2), (sh 3), (sh 4), (sh 5)]) (lS [(lI []), (fun _ => 0), (fun _ => 0)]) (lT [(lJ [0, 0, x20, x21, x22, x23]), g24, g25]) v17 (0 : Int32) (0 : Int32) (0 : Int32)) (c41 : v17 = (0 : Int32)) : (B_X11_cheapest_7 sx sh sco tco) (v17, v18, v19, x20, x21, x22, x23, g24, g25) = Sum.inl (v42, m36, v17, m35, m36, m37, m38, m33, m34) := by subst e42; unfold B_X11_cheapest_7; refine Eq.trans (if_neg c27) ?_; refine lt_e w39 ?_; refine Eq.trans (if_pos c41) ?_; rfl
theorem exl_X11_cheapest_3 {sx : Nat → Nat → Int32} {sh : Nat → Nat → Int32} {sco : Nat → Nat → Int32} {tco : Nat → Nat → Int64} {v17 : Int32} {v18 : Int64} {v19 : Int32} {x20 : Int64} {x21 : Int64} {x22 : Int64} {x23 : Int64} {g24 : Nat → Int64} {g25 : Nat → Int64} {v45 : Int32} {m35 : Int64} {m36 : Int64} {m37 : Int64} {m38 : Int64} {m33 : Nat → Int64} {m34 : Nat → Int64} {v43 : Int32} (e43 : v43 = (lg_cmp m36 v18)) (e45 : v45 = v17 + 1) (c27 : ¬ ((3 : Int32) ≤ v17)) (w39 : (m33, m34, m35, m36, m37, m38) = J_X11_goToTheEnd sx (lS [(lI [(sh 0 0), (sh 0 1), 0, 0, 0, 0, (sh 0 6), (sh 0 7), (sh 0 8), (sh 0 9), (sh 0 10), (sh 0 11), (sh 0 12)]), (sh 1), (sh 2), (sh 3), (sh 4), (sh 5)]) (lS [(lI []), (fun _ => 0), (fun _ => 0)]) (lT [(lJ [0, 0, x20, x21, x22, x23]), g24, g25]) v17 (0 : Int32) (0 : Int32) (0 : Int32)) (c41 : ¬ (v17 = (0 : Int32))) (c44 : (0 : Int32) ≤ v43) : (B_X11_cheapest_7 sx sh sco tco) (v17, v18, v19, x20, x21, x22, x23, g24, g25) = Sum.inl (v45, v18, v19, m35, m36, m37, m38, m33, m34) := by subst e43 e45; unfold B_X11_cheapest_7; refine Eq.trans (if_neg c27) ?_; refine lt_e w39 ?_; refine Eq.trans (if_neg c41) ?_; refine Eq.trans (if_pos c44) ?_; rfl
theorem exl_X11_cheapest_4 {sx : Nat → Nat → Int32} {sh : Nat → Nat → Int32} {sco : Nat → Nat → Int32} {tco : Nat → Nat → Int64} {v17 : Int32} {v18 : Int64} {v19 : Int32} {x20 : Int64} {x21 : Int64} {x22 : Int64} {x23 : Int64} {g24 : Nat → Int64} {g25 : Nat → Int64} {v46 : Int32} {m36 : Int64} {m35 : Int64} {m37 : Int64} {m38 : Int64} {m33 : Nat → Int64} {m34 : Nat → Int64} {v43 : Int32} (e43 : v43 = (lg_cmp m36 v18)) (e46 : v46 = v17 + 1) (c27 : ¬ ((3 : Int32) ≤ v17)) (w39 : (m33, m34, m35, m36, m37, m38) = J_X11_goToTheEnd sx (lS [(lI [(sh 0 0), (sh 0 1), 0, 0, 0, 0, (sh 0 6), (sh 0 7), (sh 0 8), (sh 0 9), (sh 0 10), (sh 0 11), (sh 0 12)]), (sh 1), (sh 2), (sh 3), (sh 4), (sh 5)]) (lS [(lI []), (fun _ => 0), (fun _ => 0)]) (lT [(lJ [0, 0, x20, x21, x22, x23]), g24, g25]) v17 (0 : Int32) (0 : Int32) (0 : Int32)) (c41 : ¬ (v17 = (0 : Int32))) (c44 : ¬ ((0 : Int32) ≤ v43)) : (B_X11_cheapest_7 sx sh sco tco) (v17, v18, v19, x20, x21, x22, x23, g24, g25) = Sum.inl (v46, m36, v17, m35, m36, m37, m38, m33, m34) := by subst e43 e46; unfold B_X11_cheapest_7; refine Eq.trans (if_neg c27) ?_; refine lt_e w39 ?_; refine Eq.trans (if_neg c41) ?_; refine Eq.trans (if_neg c44) ?_; rfl
set_option maxHeartbeats 4000000 in
set_option maxRecDepth 100000 in
theorem c_X11_cheapest (l : Launch) (D : va_G) (k : Nat → ClassId) (b : Nat → Nat) (qx : Nat → Nat) (sx : Nat → Nat → Int32) (qh : Nat → Nat) (sh : Nat → Nat → Int32) (qco : Nat → Nat) (sco : Nat → Nat → Int32) (tco : Nat → Nat → Int64) (sz : Nat) (h_wk : 0 ≤ (sh 0 0).toInt ∧ (sh 0 0).toInt ≤ 5) (h_hk : 0 ≤ (sh 0 1).toInt ∧ (sh 0 1).toInt ≤ 4) (h_fl : 0 ≤ (sh 0 12).toInt ∧ (sh 0 12).toInt ≤ 5) (h_of : ∀ j, 0 ≤ (sh 2 j).toInt ∧ (sh 2 j).toInt ≤ 4) (h_go : ∀ j, 0 ≤ (sh 3 j).toInt ∧ (sh 3 j).toInt ≤ 5) (h_su : SUok (sh 5)) : MetI l D k b yX11_cheapest wsX11_cheapest ({ frames := 5, cells := 0, slots := 0, locals := 130 } : Room) [cell30_ qx sx, cell28_ k qx sx, cell29_ k qx sx, cell31_ qx sh qh, cell0_ k qh sh, cell1_ k qh sh, cell4_ k qh sh, cell3_ k qh sh, cell2_ k qh sh, cell47_ qx qco tco, cell35_ k qco tco, cell34_ k qco tco] sz [.ref (qx 0)] (fun (r : Int32) (u : (Nat → Int64) × (Nat → Int64) × Int64 × Int64 × Int64 × Int64) => (r, (u.1), (u.2.1), (u.2.2.1), (u.2.2.2.1), (u.2.2.2.2.1), (u.2.2.2.2.2)) = J_X11_cheapest sx sh sco tco) (fun u => [cell30_ qx sx, cell28_ k qx sx, cell29_ k qx sx, cell31_ qx sh qh, cell0_ k qh sh, cell1_ k qh sh, cell4_ k qh sh, cell3_ k qh sh, cell2_ k qh sh, cell56_ qx qco (u.2.2.1) (u.2.2.2.1) (u.2.2.2.2.1) (u.2.2.2.2.2), cell98_ k qco (u.1), cell99_ k qco (u.2.1)]) := by
  refine g_enter (cc := cX11_cheapest) (maxL := 5) (ret := (some .int)) (by decide) rfl (Nat.le_of_ble_eq_true rfl) ?_
  intro p e s m below meth c A hsz hAe cx hr hP hD hS ls hl
  rw [hAe]
  refine g_q (fun Q hQ => ?_)
  have hx := cx.1.1
  have hb := cx.1.2.1
  have hl : lv_has ls 5 [(0, .ref (qx 0))] := hl
  obtain ⟨H, eH⟩ : ∃ H : Heap, H = s.heap := ⟨_, rfl⟩
  obtain ⟨locs, el⟩ : ∃ L : List Loc, L = [] := ⟨_, rfl⟩
  have hP : va_P D vwCl [cell30_ qx sx, cell28_ k qx sx, cell29_ k qx sx, cell31_ qx sh qh, cell0_ k qh sh, cell1_ k qh sh, cell4_ k qh sh, cell3_ k qh sh, cell2_ k qh sh, cell47_ qx qco tco, cell35_ k qco tco, cell34_ k qco tco] H := by rw [eH]; exact hP
  have hD : va_D A [cell30_ qx sx, cell28_ k qx sx, cell29_ k qx sx, cell31_ qx sh qh, cell0_ k qh sh, cell1_ k qh sh, cell4_ k qh sh, cell3_ k qh sh, cell2_ k qh sh, cell47_ qx qco tco, cell35_ k qco tco, cell34_ k qco tco] := hD
  have hS : va_S A s.heap H locs := by rw [eH, el]; exact hS
  suffices goal : W p l e ({ frames := 5, cells := 0, slots := 0, locals := 130 } : Room) s m ([.ref (qx 0)] : List Value).toArray below meth c H locs 0 0 Q (F0 m 0 ls []) by rw [eH, el] at goal; exact goal
  refine lv_iconst (v := 0) hx hb dX11_cheapest_0 (by decide) ?_
  refine lv_istore_n (lv' := [(1, .int 0), (0, .ref (qx 0))]) hx hb dX11_cheapest_1 rfl hl (by decide) rfl (fun ls hl => ?_)
  refine lv_lconst (v := 0) hx hb dX11_cheapest_2 (by decide) ?_
  refine lv_lstore_n (lv' := [(2, .long 0), (1, .int 0), (0, .ref (qx 0))]) hx hb dX11_cheapest_3 rfl hl (by decide) rfl (fun ls hl => ?_)
  refine lv_iconst (v := 0) hx hb dX11_cheapest_4 (by decide) ?_
  refine lv_istore (lv' := [(4, .int 0), (2, .long 0), (1, .int 0), (0, .ref (qx 0))]) hx hb dX11_cheapest_5 hl (by decide) rfl (fun ls hl => ?_)
  obtain ⟨rr7_1, err7_1⟩ : ∃ r : Int32 × (Nat → Int64) × (Nat → Int64) × Int64 × Int64 × Int64 × Int64, LTs (default : Int32 × (Nat → Int64) × (Nat → Int64) × Int64 × Int64 × Int64 × Int64) (B_X11_cheapest_7 sx sh sco tco) 4 ((0 : Int32), (0 : Int64), (0 : Int32), (tco 0 2), (tco 0 3), (tco 0 4), (tco 0 5), (tco 1), (tco 2)) = r := ⟨_, rfl⟩
  have hrr7_1 : J_X11_cheapest sx sh sco tco = rr7_1 := ((exl_X11_cheapest_0)).trans err7_1
  have hL7 : ∀ (n26 : Nat) (v17 : Int32) (v18 : Int64) (v19 : Int32) (x20 : Int64) (x21 : Int64) (x22 : Int64) (x23 : Int64) (g24 : Nat → Int64) (g25 : Nat → Int64) (H : Heap) (locs : List Loc) (ls : Array Slot), 3 - v17.toInt < (n26 : Int) → (0 ≤ v17.toInt ∧ v17.toInt ≤ 3) → (LTs (default : Int32 × (Nat → Int64) × (Nat → Int64) × Int64 × Int64 × Int64 × Int64) (B_X11_cheapest_7 sx sh sco tco) n26 (v17, v18, v19, x20, x21, x22, x23, g24, g25) = rr7_1) → va_P D vwCl [cell30_ qx sx, cell28_ k qx sx, cell29_ k qx sx, cell31_ qx sh qh, cell0_ k qh sh, cell1_ k qh sh, cell4_ k qh sh, cell3_ k qh sh, cell2_ k qh sh, cell56_ qx qco x20 x21 x22 x23, (qco 1, .inl (k 1, 35, .inr (.inl g24))), (qco 2, .inl (k 1, 35, .inr (.inl g25)))] H → va_D A [cell30_ qx sx, cell28_ k qx sx, cell29_ k qx sx, cell31_ qx sh qh, cell0_ k qh sh, cell1_ k qh sh, cell4_ k qh sh, cell3_ k qh sh, cell2_ k qh sh, cell56_ qx qco x20 x21 x22 x23, (qco 1, .inl (k 1, 35, .inr (.inl g24))), (qco 2, .inl (k 1, 35, .inr (.inl g25)))] → va_S A s.heap H locs → lv_has ls 5 [(4, .int v17), (2, .long v18), (1, .int v19), (0, .ref (qx 0))] → W p l e ({ frames := 5, cells := 0, slots := 0, locals := 130 } : Room) s m ([.ref (qx 0)] : List Value).toArray below meth c H locs 0 0 Q (F0 m 7 ls []) := by
    intro n26
    induction n26 with
    | zero => intro v17 v18 v19 x20 x21 x22 x23 g24 g25 H locs ls hmn26 bv17 hzrr7_1 hP hD hS hl; exact absurd hmn26 (by omega)
    | succ n26 ih7 =>
      intro v17 v18 v19 x20 x21 x22 x23 g24 g25 H locs ls hmn26 bv17 hzrr7_1 hP hD hS hl
      refine lv_iload hx hb dX11_cheapest_7 (lv_at hl 0 rfl) ?_
      refine lv_iconst (v := 3) hx hb dX11_cheapest_9 (by decide) ?_
      refine lv_icmp_ge (tgt := 56) hx hb dX11_cheapest_10 (by decide) (fun c27 => ?_) (fun c27 => ?_)
      · have f27 : 3 ≤ v17.toInt := f_le (by decide) rfl c27
        refine lv_iload_n hx hb dX11_cheapest_56 rfl (lv_at hl 2 rfl) ?_
        rw [hQ]
        exact x_i cx hr (g24, g25, x20, x21, x22, x23) hP hD hS (show (v19, g24, g25, x20, x21, x22, x23) = J_X11_cheapest sx sh sco tco from ((hrr7_1.trans (LT_r hzrr7_1 (exl_X11_cheapest_1 c27)))).symm) dX11_cheapest_57
      · have f27 : v17.toInt < 3 := f_nle (by decide) rfl c27
        refine lv_aload_n hx hb dX11_cheapest_13 rfl (lv_at hl 3 rfl) ?_
        refine lv_iload hx hb dX11_cheapest_14 (lv_at hl 0 rfl) ?_
        refine lv_iconst (v := 0) hx hb dX11_cheapest_16 (by decide) ?_
        refine lv_iconst (v := 0) hx hb dX11_cheapest_17 (by decide) ?_
        refine lv_iconst (v := 0) hx hb dX11_cheapest_18 (by decide) ?_
        have hlit28 : (0 : Int32).toInt = 0 := by decide
        have hlit29 : (0 : Int32).toInt = 0 := by decide
        have hlit30 : (0 : Int32).toInt = 0 := by decide
        refine g_vF (w1 := fun (u : (Nat → Int64) × (Nat → Int64) × Int64 × Int64 × Int64 × Int64) => [cell30_ qx sx, cell28_ k qx sx, cell29_ k qx sx, cell31_ qx sh qh, cell0_ k qh sh, cell1_ k qh sh, cell4_ k qh sh, cell3_ k qh sh, cell2_ k qh sh, cell56_ qx qco (u.2.2.1) (u.2.2.2.1) (u.2.2.2.2.1) (u.2.2.2.2.2), cell98_ k qco (u.1), cell99_ k qco (u.2.1)]) (g_runVF (ws := [cell30_ qx sx, cell28_ k qx sx, cell29_ k qx sx, cell31_ qx sh qh, cell0_ k qh sh, cell1_ k qh sh, cell4_ k qh sh, cell3_ k qh sh, cell2_ k qh sh, cell56_ qx qco x20 x21 x22 x23, (qco 1, .inl (k 1, 35, .inr (.inl g24))), (qco 2, .inl (k 1, 35, .inr (.inl g25)))]) (rest := []) cx hP hD hS [.int v17, .int 0, .int 0, .int 0] (c_X11_goToTheEnd l D k b qx sx (lq [0, qh 1, qh 2, qh 3, qh 4, qh 5]) (lS [(lI [(sh 0 0), (sh 0 1), 0, 0, 0, 0, (sh 0 6), (sh 0 7), (sh 0 8), (sh 0 9), (sh 0 10), (sh 0 11), (sh 0 12)]), (sh 1), (sh 2), (sh 3), (sh 4), (sh 5)]) (lq [0, qco 1, qco 2]) (lS [(lI []), (fun _ => 0), (fun _ => 0)]) (lT [(lJ [0, 0, x20, x21, x22, x23]), g24, g25]) H.size v17 0 0 0 (show 0 ≤ (sh 0 0).toInt ∧ (sh 0 0).toInt ≤ 5 from by first | decide | omega) (show 0 ≤ (sh 0 1).toInt ∧ (sh 0 1).toInt ≤ 4 from by first | decide | omega) (show 0 ≤ (sh 0 12).toInt ∧ (sh 0 12).toInt ≤ 5 from by first | decide | omega) h_of h_go (show SUok (sh 5) from by assumption) ⟨by decide, by decide, by decide⟩ (show tot (0 : Int32) ≤ (sh 0 1).toInt from by rw [show tot (0 : Int32) = 0 from by decide]; omega) (show 0 ≤ v17.toInt ∧ v17.toInt ≤ 2 from by first | decide | omega) (show 0 ≤ (0 : Int32).toInt ∧ (0 : Int32).toInt ≤ 5 from by first | decide | omega)) gX11_cheapest_X11_goToTheEnd rfl rfl rfl nd_X11_goToTheEnd ⟨Nat.le_of_ble_eq_true rfl, Nat.le_of_ble_eq_true rfl⟩ (ci := 9) (q0 := 0) rfl rfl rfl hl.1 rfl (Nat.le_of_ble_eq_true rfl) ⟨Nat.zero_le _, Nat.zero_le _⟩ dX11_cheapest_19) cx.2.2.1 hD hS (fun u32 H locs hw31 hP hD hS => ?_)
        obtain ⟨m33, m34, m35, m36, m37, m38⟩ := u32
        have hP : va_P D vwCl [cell30_ qx sx, cell28_ k qx sx, cell29_ k qx sx, cell31_ qx sh qh, cell0_ k qh sh, cell1_ k qh sh, cell4_ k qh sh, cell3_ k qh sh, cell2_ k qh sh, cell56_ qx qco m35 m36 m37 m38, (qco 1, .inl (k 1, 35, .inr (.inl m33))), (qco 2, .inl (k 1, 35, .inr (.inl m34)))] H := hP
        have hD : va_D A [cell30_ qx sx, cell28_ k qx sx, cell29_ k qx sx, cell31_ qx sh qh, cell0_ k qh sh, cell1_ k qh sh, cell4_ k qh sh, cell3_ k qh sh, cell2_ k qh sh, cell56_ qx qco m35 m36 m37 m38, (qco 1, .inl (k 1, 35, .inr (.inl m33))), (qco 2, .inl (k 1, 35, .inr (.inl m34)))] := hD
        have w39 : (m33, m34, m35, m36, m37, m38) = J_X11_goToTheEnd sx (lS [(lI [(sh 0 0), (sh 0 1), 0, 0, 0, 0, (sh 0 6), (sh 0 7), (sh 0 8), (sh 0 9), (sh 0 10), (sh 0 11), (sh 0 12)]), (sh 1), (sh 2), (sh 3), (sh 4), (sh 5)]) (lS [(lI []), (fun _ => 0), (fun _ => 0)]) (lT [(lJ [0, 0, x20, x21, x22, x23]), g24, g25]) v17 (0 : Int32) (0 : Int32) (0 : Int32) := hw31
        clear hw31
        refine lv_iload hx hb dX11_cheapest_22 (lv_at hl 0 rfl) ?_
        refine lv_if_eq (tgt := 39) hx hb dX11_cheapest_24 (by decide) (fun c41 => ?_) (fun c41 => ?_)
        · have f41 : v17.toInt = 0 := f_eq rfl (by decide) c41
          refine lv_iload hx hb dX11_cheapest_39 (lv_at hl 0 rfl) ?_
          refine lv_istore_n (lv' := [(1, .int v17), (4, .int v17), (2, .long v18), (0, .ref (qx 0))]) hx hb dX11_cheapest_41 rfl hl (by decide) rfl (fun ls hl => ?_)
          refine lv_aload_n hx hb dX11_cheapest_42 rfl (lv_at hl 3 rfl) ?_
          refine g_get cx hP iw_X11_cheapest_X11 0 rfl rfl 7 (by decide) rfl fw_X11_cheapest_52 rfl dX11_cheapest_43 ?_
          refine g_get cx hP iw_X11_cheapest_X1 9 rfl rfl 3 (by decide) rfl fw_X11_cheapest_229 rfl dX11_cheapest_46 ?_
          refine lv_lstore_n (lv' := [(2, .long m36), (1, .int v17), (4, .int v17), (0, .ref (qx 0))]) hx hb dX11_cheapest_49 rfl hl (by decide) rfl (fun ls hl => ?_)
          obtain ⟨v42, e42⟩ : ∃ z : Int32, z = v17 + 1 := ⟨_, rfl⟩
          refine lv_iinc (v := v42) (lv' := [(4, .int v42), (2, .long m36), (1, .int v17), (0, .ref (qx 0))]) hx hb dX11_cheapest_50 hl (k := 2) rfl (by rw [e42]; rfl) (by decide) rfl (fun ls hl => ?_)
          have t42 : v42.toInt = v17.toInt + 1 := by rw [e42]; exact i_add rfl (by decide) (by omega) (by omega)
          refine lv_goto (tgt := 7) hx hb dX11_cheapest_53 (by decide) ?_
          exact ih7 v42 m36 v17 m35 m36 m37 m38 m33 m34 _ _ _ (by omega) (by first | decide | omega) (LT_g hzrr7_1 (exl_X11_cheapest_2 e42 c27 w39 c41)) hP hD hS (lv_sub hl [0, 1, 2, 3] rfl)
        · have f41 : ¬ v17.toInt = 0 := f_ne rfl (by decide) c41
          refine lv_aload_n hx hb dX11_cheapest_27 rfl (lv_at hl 3 rfl) ?_
          refine g_get cx hP iw_X11_cheapest_X11 0 rfl rfl 7 (by decide) rfl fw_X11_cheapest_52 rfl dX11_cheapest_28 ?_
          refine g_get cx hP iw_X11_cheapest_X1 9 rfl rfl 3 (by decide) rfl fw_X11_cheapest_229 rfl dX11_cheapest_31 ?_
          refine lv_lload_n hx hb dX11_cheapest_34 rfl (lv_at hl 1 rfl) ?_
          refine W.lcmp hx hb dX11_cheapest_35 (lv_topi (fun v43 e43 => ?_))
          refine lv_if_ge (tgt := 50) hx hb dX11_cheapest_36 (by decide) (fun c44 => ?_) (fun c44 => ?_)
          · have f44 : 0 ≤ v43.toInt := f_le (by decide) rfl c44
            obtain ⟨v45, e45⟩ : ∃ z : Int32, z = v17 + 1 := ⟨_, rfl⟩
            refine lv_iinc (v := v45) (lv' := [(4, .int v45), (2, .long v18), (1, .int v19), (0, .ref (qx 0))]) hx hb dX11_cheapest_50 hl (k := 0) rfl (by rw [e45]; rfl) (by decide) rfl (fun ls hl => ?_)
            have t45 : v45.toInt = v17.toInt + 1 := by rw [e45]; exact i_add rfl (by decide) (by omega) (by omega)
            refine lv_goto (tgt := 7) hx hb dX11_cheapest_53 (by decide) ?_
            exact ih7 v45 v18 v19 m35 m36 m37 m38 m33 m34 _ _ _ (by omega) (by first | decide | omega) (LT_g hzrr7_1 (exl_X11_cheapest_3 e43 e45 c27 w39 c41 c44)) hP hD hS (lv_sub hl [0, 1, 2, 3] rfl)
          · have f44 : v43.toInt < 0 := f_nle (by decide) rfl c44
            refine lv_iload hx hb dX11_cheapest_39 (lv_at hl 0 rfl) ?_
            refine lv_istore_n (lv' := [(1, .int v17), (4, .int v17), (2, .long v18), (0, .ref (qx 0))]) hx hb dX11_cheapest_41 rfl hl (by decide) rfl (fun ls hl => ?_)
            refine lv_aload_n hx hb dX11_cheapest_42 rfl (lv_at hl 3 rfl) ?_
            refine g_get cx hP iw_X11_cheapest_X11 0 rfl rfl 7 (by decide) rfl fw_X11_cheapest_52 rfl dX11_cheapest_43 ?_
            refine g_get cx hP iw_X11_cheapest_X1 9 rfl rfl 3 (by decide) rfl fw_X11_cheapest_229 rfl dX11_cheapest_46 ?_
            refine lv_lstore_n (lv' := [(2, .long m36), (1, .int v17), (4, .int v17), (0, .ref (qx 0))]) hx hb dX11_cheapest_49 rfl hl (by decide) rfl (fun ls hl => ?_)
            obtain ⟨v46, e46⟩ : ∃ z : Int32, z = v17 + 1 := ⟨_, rfl⟩
            refine lv_iinc (v := v46) (lv' := [(4, .int v46), (2, .long m36), (1, .int v17), (0, .ref (qx 0))]) hx hb dX11_cheapest_50 hl (k := 2) rfl (by rw [e46]; rfl) (by decide) rfl (fun ls hl => ?_)
            have t46 : v46.toInt = v17.toInt + 1 := by rw [e46]; exact i_add rfl (by decide) (by omega) (by omega)
            refine lv_goto (tgt := 7) hx hb dX11_cheapest_53 (by decide) ?_
            exact ih7 v46 m36 v17 m35 m36 m37 m38 m33 m34 _ _ _ (by omega) (by first | decide | omega) (LT_g hzrr7_1 (exl_X11_cheapest_4 e43 e46 c27 w39 c41 c44)) hP hD hS (lv_sub hl [0, 1, 2, 3] rfl)
  have hlit47 : (0 : Int32).toInt = 0 := by decide
  have hlit48 : (0 : Int32).toInt = 0 := by decide
  have hlit49 : (0 : Int32).toInt = 0 := by decide
  exact hL7 (4) 0 0 0 (tco 0 2) (tco 0 3) (tco 0 4) (tco 0 5) (tco 1) (tco 2) _ _ _ (by omega) (by first | decide | omega) err7_1 hP hD hS (lv_sub hl [0, 1, 2, 3] rfl)
theorem fw_X11_best_59 : Cond.fieldLink RX11 59 "StillInAugust" "plan" "LStillInAugust$Plan;" ∈ wsX11_best := by decide +kernel
theorem nd_X11_planOnce : yX11_planOnce.cls = RX11 ∧ yX11_planOnce.cls ≠ "java/lang/invoke/MethodHandle" ∧ yX11_planOnce.cls ≠ "java/lang/invoke/VarHandle" ∧ (parseMethodDescriptor yX11_planOnce.desc).map (fun d => d.parameters.length) = some 0 := by decide +kernel
theorem nd_X6_leastFrom : yX6_leastFrom.cls = RX6 ∧ yX6_leastFrom.cls ≠ "java/lang/invoke/MethodHandle" ∧ yX6_leastFrom.cls ≠ "java/lang/invoke/VarHandle" ∧ (parseMethodDescriptor yX6_leastFrom.desc).map (fun d => d.parameters.length) = some 3 := by decide +kernel
theorem iw_X11_best_X11 : ∀ w ∈ u_ws RX11 TX11 17, w ∈ wsX11_best := fun _ h => List.mem_cons_of_mem _ (List.mem_append_left _ (List.mem_append_left _ (List.mem_append_right _ h)))
set_option maxHeartbeats 4000000 in
set_option maxRecDepth 100000 in
theorem c_X11_best (l : Launch) (D : va_G) (k : Nat → ClassId) (b : Nat → Nat) (qx : Nat → Nat) (sx : Nat → Nat → Int32) (qh : Nat → Nat) (sh : Nat → Nat → Int32) (qpl : Nat → Nat) (spl : Nat → Nat → Int32) (tpl : Nat → Nat → Int64) (sz : Nat) (p0 : Int32) (p1 : Int32) (p2 : Int32) (p3 : Int32) (h_wk : 0 ≤ (sh 0 0).toInt ∧ (sh 0 0).toInt ≤ 5) (h_hk : 0 ≤ (sh 0 1).toInt ∧ (sh 0 1).toInt ≤ 4) (h_fl : 0 ≤ (sh 0 12).toInt ∧ (sh 0 12).toInt ≤ 5) (h_of : ∀ j, 0 ≤ (sh 2 j).toInt ∧ (sh 2 j).toInt ≤ 4) (h_go : ∀ j, 0 ≤ (sh 3 j).toInt ∧ (sh 3 j).toInt ≤ 5) (h_su : SUok (sh 5)) (h_pl : (sx 0 15).toInt = 0 ∨ (spl 0 0).toInt = (sh 0 0).toInt) : MetL l D k b yX11_best wsX11_best ({ frames := 7, cells := 0, slots := 0, locals := 176 } : Room) [cell30_ qx sx, cell28_ k qx sx, cell29_ k qx sx, cell31_ qx sh qh, cell0_ k qh sh, cell1_ k qh sh, cell4_ k qh sh, cell3_ k qh sh, cell2_ k qh sh, cell42_ qx spl qpl, cell26_ k qpl tpl, cell23_ k qpl spl, cell24_ k qpl tpl, cell25_ k qpl spl] sz [.ref (qx 0), .int p0, .int p1, .int p2, .int p3] (fun (r : Int64) (u : Int32 × Int32 × (Nat → Int64) × (Nat → Int32) × (Nat → Int64) × (Nat → Int32)) => (u.1).toInt = 0 ∨ (u.2.1).toInt = (sh 0 0).toInt) (fun u => [cell75_ qx sx (u.1), cell28_ k qx sx, cell29_ k qx sx, cell31_ qx sh qh, cell0_ k qh sh, cell1_ k qh sh, cell4_ k qh sh, cell3_ k qh sh, cell2_ k qh sh, cell73_ qx qpl (u.2.1), cell108_ k qpl (u.2.2.1), cell109_ k qpl (u.2.2.2.1), cell115_ k qpl (u.2.2.2.2.1), cell116_ k qpl (u.2.2.2.2.2)]) := by
  refine g_enter (cc := cX11_best) (maxL := 6) (ret := (some .long)) (by decide) rfl (Nat.le_of_ble_eq_true rfl) ?_
  intro p e s m below meth c A hsz hAe cx hr hP hD hS ls hl
  rw [hAe]
  refine g_q (fun Q hQ => ?_)
  have hx := cx.1.1
  have hb := cx.1.2.1
  have bp0 := i_rng p0
  have bp1 := i_rng p1
  have bp2 := i_rng p2
  have bp3 := i_rng p3
  have hl : lv_has ls 6 [(0, .ref (qx 0)), (1, .int p0), (2, .int p1), (3, .int p2), (4, .int p3)] := hl
  obtain ⟨H, eH⟩ : ∃ H : Heap, H = s.heap := ⟨_, rfl⟩
  obtain ⟨locs, el⟩ : ∃ L : List Loc, L = [] := ⟨_, rfl⟩
  have hP : va_P D vwCl [cell30_ qx sx, cell28_ k qx sx, cell29_ k qx sx, cell31_ qx sh qh, cell0_ k qh sh, cell1_ k qh sh, cell4_ k qh sh, cell3_ k qh sh, cell2_ k qh sh, cell42_ qx spl qpl, cell26_ k qpl tpl, cell23_ k qpl spl, cell24_ k qpl tpl, cell25_ k qpl spl] H := by rw [eH]; exact hP
  have hD : va_D A [cell30_ qx sx, cell28_ k qx sx, cell29_ k qx sx, cell31_ qx sh qh, cell0_ k qh sh, cell1_ k qh sh, cell4_ k qh sh, cell3_ k qh sh, cell2_ k qh sh, cell42_ qx spl qpl, cell26_ k qpl tpl, cell23_ k qpl spl, cell24_ k qpl tpl, cell25_ k qpl spl] := hD
  have hS : va_S A s.heap H locs := by rw [eH, el]; exact hS
  suffices goal : W p l e ({ frames := 7, cells := 0, slots := 0, locals := 176 } : Room) s m ([.ref (qx 0), .int p0, .int p1, .int p2, .int p3] : List Value).toArray below meth c H locs 0 0 Q (F0 m 0 ls []) by rw [eH, el] at goal; exact goal
  refine lv_aload_n hx hb dX11_best_0 rfl (lv_at hl 0 rfl) ?_
  refine lv_iload_n hx hb dX11_best_1 rfl (lv_at hl 1 rfl) ?_
  refine lv_iload_n hx hb dX11_best_2 rfl (lv_at hl 2 rfl) ?_
  refine lv_iload_n hx hb dX11_best_3 rfl (lv_at hl 3 rfl) ?_
  refine g_ir (g_runV (wc := [cell30_ qx sx, cell28_ k qx sx, cell29_ k qx sx, cell31_ qx sh qh, cell0_ k qh sh, cell1_ k qh sh, cell4_ k qh sh, cell3_ k qh sh, cell2_ k qh sh]) (rest := []) cx hP hD hS [0, 1, 2, 3, 4, 5, 6, 7, 8] rfl (by decide) [.int p0, .int p1, .int p2] (c_X11_refuseState l D k b qx sx (lq [0, qh 1, qh 2, qh 3, qh 4, qh 5]) (lS [(lI [(sh 0 0), (sh 0 1), 0, 0, 0, 0, (sh 0 6), (sh 0 7), (sh 0 8), (sh 0 9), (sh 0 10), (sh 0 11), (sh 0 12)]), (sh 1), (sh 2), (sh 3), (sh 4), (sh 5)]) H.size p0 p1 p2 (show 0 ≤ (sh 0 0).toInt ∧ (sh 0 0).toInt ≤ 5 from by first | decide | omega) (show 0 ≤ (sh 0 1).toInt ∧ (sh 0 1).toInt ≤ 4 from by first | decide | omega)) gX11_best_X11_refuseState rfl rfl rfl nd_X11_refuseState ⟨Nat.le_of_ble_eq_true rfl, Nat.le_of_ble_eq_true rfl⟩ (ci := 9) (q0 := 0) rfl rfl rfl hl.1 rfl (Nat.le_of_ble_eq_true rfl) ⟨Nat.zero_le _, Nat.zero_le _⟩ dX11_best_4) cx.2.2.1 hP hD hS [0, 1, 2, 3, 4, 5, 6, 7, 8] rfl rfl (fun r2 H locs hw1 hP hS => ?_)
  replace hw1 : (¬ r2.toInt = 0 ∨ (0 ≤ p0.toInt ∧ p0.toInt ≤ 4 ∧ p0.toInt < (sh 0 0).toInt ∧ (0 ≤ p1.toInt ∧ p1.toInt ≤ 400 ∧ tot p1 ≤ 4) ∧ tot p1 ≤ (sh 0 1).toInt ∧ 0 ≤ p2.toInt ∧ p2.toInt ≤ 2)) ∧ (r2 = J_X11_refuseState sx (lS [(lI [(sh 0 0), (sh 0 1), 0, 0, 0, 0, (sh 0 6), (sh 0 7), (sh 0 8), (sh 0 9), (sh 0 10), (sh 0 11), (sh 0 12)]), (sh 1), (sh 2), (sh 3), (sh 4), (sh 5)]) p0 p1 p2) := hw1
  obtain ⟨w3, w4⟩ := hw1
  have k6 : r2 = (J_X11_refuseState sx (lS [(lI [(sh 0 0), (sh 0 1), 0, 0, 0, 0, (sh 0 6), (sh 0 7), (sh 0 8), (sh 0 9), (sh 0 10), (sh 0 11), (sh 0 12)]), (sh 1), (sh 2), (sh 3), (sh 4), (sh 5)]) p0 p1 p2) := congrArg (fun z => z) w4
  refine lv_istore (lv' := [(5, .int r2), (0, .ref (qx 0)), (1, .int p0), (2, .int p1), (3, .int p2), (4, .int p3)]) hx hb dX11_best_7 hl (by decide) rfl (fun ls hl => ?_)
  refine lv_iload hx hb dX11_best_9 (lv_at hl 0 rfl) ?_
  refine lv_if_eq (tgt := 18) hx hb dX11_best_11 (by decide) (fun c7 => ?_) (fun c7 => ?_)
  · have f7 : r2.toInt = 0 := f_eq rfl (by decide) c7
    refine lv_aload_n hx hb dX11_best_18 rfl (lv_at hl 1 rfl) ?_
    refine g_vF (w1 := fun (u : Int32 × Int32 × (Nat → Int64) × (Nat → Int32) × (Nat → Int64) × (Nat → Int32)) => [cell75_ qx sx (u.1), cell28_ k qx sx, cell29_ k qx sx, cell31_ qx sh qh, cell0_ k qh sh, cell1_ k qh sh, cell4_ k qh sh, cell3_ k qh sh, cell2_ k qh sh, cell73_ qx qpl (u.2.1), cell108_ k qpl (u.2.2.1), cell109_ k qpl (u.2.2.2.1), cell115_ k qpl (u.2.2.2.2.1), cell116_ k qpl (u.2.2.2.2.2)]) (g_runVF (ws := [cell30_ qx sx, cell28_ k qx sx, cell29_ k qx sx, cell31_ qx sh qh, cell0_ k qh sh, cell1_ k qh sh, cell4_ k qh sh, cell3_ k qh sh, cell2_ k qh sh, cell42_ qx spl qpl, cell26_ k qpl tpl, cell23_ k qpl spl, cell24_ k qpl tpl, cell25_ k qpl spl]) (rest := []) cx hP hD hS [] (c_X11_planOnce l D k b qx sx (lq [0, qh 1, qh 2, qh 3, qh 4, qh 5]) (lS [(lI [(sh 0 0), (sh 0 1), 0, 0, 0, 0, (sh 0 6), (sh 0 7), (sh 0 8), (sh 0 9), (sh 0 10), (sh 0 11), (sh 0 12)]), (sh 1), (sh 2), (sh 3), (sh 4), (sh 5)]) (lq [0, qpl 1, qpl 2, qpl 3, qpl 4]) (lS [(lI [(spl 0 0)]), (fun _ => 0), (spl 2), (fun _ => 0), (spl 4)]) (lT [(lJ []), (tpl 1), (fun _ => 0), (tpl 3), (fun _ => 0)]) H.size (show 0 ≤ (sh 0 0).toInt ∧ (sh 0 0).toInt ≤ 5 from by first | decide | omega) (show 0 ≤ (sh 0 1).toInt ∧ (sh 0 1).toInt ≤ 4 from by first | decide | omega) (show 0 ≤ (sh 0 12).toInt ∧ (sh 0 12).toInt ≤ 5 from by first | decide | omega) h_of h_go (show SUok (sh 5) from by assumption) (show (sx 0 15).toInt = 0 ∨ (spl 0 0).toInt = (sh 0 0).toInt from by first | decide | omega)) gX11_best_X11_planOnce rfl rfl rfl nd_X11_planOnce ⟨Nat.le_of_ble_eq_true rfl, Nat.le_of_ble_eq_true rfl⟩ (ci := 9) (q0 := 0) rfl rfl rfl hl.1 rfl (Nat.le_of_ble_eq_true rfl) ⟨Nat.zero_le _, Nat.zero_le _⟩ dX11_best_19) cx.2.2.1 hD hS (fun u9 H locs hw8 hP hD hS => ?_)
    obtain ⟨m10, m11, m12, m13, m14, m15⟩ := u9
    have hP : va_P D vwCl [cell75_ qx sx m10, cell28_ k qx sx, cell29_ k qx sx, cell31_ qx sh qh, cell0_ k qh sh, cell1_ k qh sh, cell4_ k qh sh, cell3_ k qh sh, cell2_ k qh sh, cell73_ qx qpl m11, (qpl 1, .inl (k 1, 630, .inr (.inl m12))), (qpl 2, .inl (k 0, 525, .inl m13)), (qpl 3, .inl (k 1, 35, .inr (.inl m14))), (qpl 4, .inl (k 0, 35, .inl m15))] H := hP
    have hD : va_D A [cell75_ qx sx m10, cell28_ k qx sx, cell29_ k qx sx, cell31_ qx sh qh, cell0_ k qh sh, cell1_ k qh sh, cell4_ k qh sh, cell3_ k qh sh, cell2_ k qh sh, cell73_ qx qpl m11, (qpl 1, .inl (k 1, 630, .inr (.inl m12))), (qpl 2, .inl (k 0, 525, .inl m13)), (qpl 3, .inl (k 1, 35, .inr (.inl m14))), (qpl 4, .inl (k 0, 35, .inl m15))] := hD
    have w16 : m11.toInt = (sh 0 0).toInt := hw8
    clear hw8
    refine lv_aload_n hx hb dX11_best_22 rfl (lv_at hl 1 rfl) ?_
    refine g_get cx hP iw_X11_best_X11 0 rfl rfl 8 (by decide) rfl fw_X11_best_59 rfl dX11_best_23 ?_
    refine lv_iload_n hx hb dX11_best_26 rfl (lv_at hl 2 rfl) ?_
    refine lv_iload_n hx hb dX11_best_27 rfl (lv_at hl 3 rfl) ?_
    refine lv_iload_n hx hb dX11_best_28 rfl (lv_at hl 4 rfl) ?_
    refine g_lr (g_runV (wc := [cell73_ qx qpl m11, (qpl 1, .inl (k 1, 630, .inr (.inl m12))), (qpl 2, .inl (k 0, 525, .inl m13)), (qpl 3, .inl (k 1, 35, .inr (.inl m14))), (qpl 4, .inl (k 0, 35, .inl m15))]) (rest := []) cx hP hD hS [9, 10, 11, 12, 13] rfl (by decide) [.int p0, .int p1, .int p2] (c_X6_leastFrom l D k b (lq [qx 10, qpl 1, qpl 2, qpl 3, qpl 4]) (lS [(lI [m11]), (fun _ => 0), m13, (fun _ => 0), m15]) (lT [(lJ []), m12, (fun _ => 0), m14, (fun _ => 0)]) H.size p0 p1 p2 (show 0 ≤ p1.toInt ∧ p1.toInt ≤ 400 ∧ tot p1 ≤ 4 from by first | decide | omega) (show 0 ≤ p0.toInt ∧ p0.toInt ≤ 5 from by first | decide | omega) (show 0 ≤ p2.toInt ∧ p2.toInt ≤ 2 from by first | decide | omega)) gX11_best_X6_leastFrom rfl rfl rfl nd_X6_leastFrom ⟨Nat.le_of_ble_eq_true rfl, Nat.le_of_ble_eq_true rfl⟩ (ci := 4) (q0 := 0) rfl rfl rfl hl.1 rfl (Nat.le_of_ble_eq_true rfl) ⟨Nat.zero_le _, Nat.zero_le _⟩ dX11_best_29) cx.2.2.1 hP hD hS [9, 10, 11, 12, 13] rfl rfl (fun r18 H locs hw17 hP hS => ?_)
    clear hw17
    refine lv_aload_n hx hb dX11_best_32 rfl (lv_at hl 1 rfl) ?_
    refine g_get cx hP iw_X11_best_X11 0 rfl rfl 8 (by decide) rfl fw_X11_best_59 rfl dX11_best_33 ?_
    refine lv_iload_n hx hb dX11_best_36 rfl (lv_at hl 2 rfl) ?_
    refine g_lr (g_runV (wc := [cell73_ qx qpl m11, (qpl 1, .inl (k 1, 630, .inr (.inl m12))), (qpl 2, .inl (k 0, 525, .inl m13)), (qpl 3, .inl (k 1, 35, .inr (.inl m14))), (qpl 4, .inl (k 0, 35, .inl m15))]) (rest := [.long r18]) cx hP hD hS [9, 10, 11, 12, 13] rfl (by decide) [.int p0] (c_X6_scale l D k b (lq [qx 10, qpl 1, qpl 2, qpl 3, qpl 4]) (lS [(lI [m11]), (fun _ => 0), m13, (fun _ => 0), m15]) (lT [(lJ []), m12, (fun _ => 0), m14, (fun _ => 0)]) H.size p0 (show 0 ≤ m11.toInt ∧ m11.toInt ≤ 5 from by first | decide | omega) (show p0.toInt ≤ m11.toInt from by first | decide | omega) (show 0 ≤ p0.toInt ∧ p0.toInt ≤ 5 from by first | decide | omega)) gX11_best_X6_scale rfl rfl rfl nd_X6_scale ⟨Nat.le_of_ble_eq_true rfl, Nat.le_of_ble_eq_true rfl⟩ (ci := 4) (q0 := 0) rfl rfl rfl hl.1 rfl (Nat.le_of_ble_eq_true rfl) ⟨Nat.zero_le _, Nat.zero_le _⟩ dX11_best_37) cx.2.2.1 hP hD hS [9, 10, 11, 12, 13] rfl rfl (fun r20 H locs hw19 hP hS => ?_)
    clear hw19
    refine lv_iload hx hb dX11_best_40 (lv_at hl 5 rfl) ?_
    refine g_lr (g_runS (wc := []) (rest := []) cx hP hD hS [] rfl (by decide) [.long r18, .long r20, .int p3] (c_X11_told l D k b H.size r18 r20 p3) gX11_best_X11_told rfl rfl rfl nd_X11_told ⟨Nat.le_of_ble_eq_true rfl, Nat.le_of_ble_eq_true rfl⟩ rfl hl.1 rfl (Nat.le_of_ble_eq_true rfl) ⟨Nat.zero_le _, Nat.zero_le _⟩ dX11_best_42) cx.2.2.1 hP hD hS [] rfl rfl (fun r22 H locs hw21 hP hS => ?_)
    have w23 : r22 = J_X11_told r18 r20 p3 := hw21
    clear hw21
    have k25 : r22 = (J_X11_told r18 r20 p3) := congrArg (fun z => z) w23
    rw [hQ]
    exact x_l cx hr (m10, m11, m12, m13, m14, m15) hP hD hS (show m10.toInt = 0 ∨ m11.toInt = (sh 0 0).toInt from by omega) dX11_best_45
  · have f7 : ¬ r2.toInt = 0 := f_ne rfl (by decide) c7
    refine lv_iload hx hb dX11_best_14 (lv_at hl 0 rfl) ?_
    obtain ⟨v26, e26⟩ : ∃ z : Int64, z = (r2 : Int32).toInt64 := ⟨_, rfl⟩
    refine lv_i2l (v := v26) hx hb dX11_best_16 e26.symm ?_
    rw [hQ]
    exact x_l cx hr ((sx 0 15), (spl 0 0), (tpl 1), (spl 2), (tpl 3), (spl 4)) hP hD hS (show (sx 0 15).toInt = 0 ∨ (spl 0 0).toInt = (sh 0 0).toInt from by omega) dX11_best_17
theorem fw_X11_bestAct_59 : Cond.fieldLink RX11 59 "StillInAugust" "plan" "LStillInAugust$Plan;" ∈ wsX11_bestAct := by decide +kernel
theorem iw_X11_bestAct_X11 : ∀ w ∈ u_ws RX11 TX11 17, w ∈ wsX11_bestAct := fun _ h => List.mem_cons_of_mem _ (List.mem_append_left _ (List.mem_append_left _ (List.mem_append_right _ h)))
set_option maxHeartbeats 4000000 in
set_option maxRecDepth 100000 in
theorem c_X11_bestAct (l : Launch) (D : va_G) (k : Nat → ClassId) (b : Nat → Nat) (qx : Nat → Nat) (sx : Nat → Nat → Int32) (qh : Nat → Nat) (sh : Nat → Nat → Int32) (qpl : Nat → Nat) (spl : Nat → Nat → Int32) (tpl : Nat → Nat → Int64) (sz : Nat) (p0 : Int32) (p1 : Int32) (p2 : Int32) (h_wk : 0 ≤ (sh 0 0).toInt ∧ (sh 0 0).toInt ≤ 5) (h_hk : 0 ≤ (sh 0 1).toInt ∧ (sh 0 1).toInt ≤ 4) (h_fl : 0 ≤ (sh 0 12).toInt ∧ (sh 0 12).toInt ≤ 5) (h_of : ∀ j, 0 ≤ (sh 2 j).toInt ∧ (sh 2 j).toInt ≤ 4) (h_go : ∀ j, 0 ≤ (sh 3 j).toInt ∧ (sh 3 j).toInt ≤ 5) (h_su : SUok (sh 5)) (h_pl : (sx 0 15).toInt = 0 ∨ (spl 0 0).toInt = (sh 0 0).toInt) : MetI l D k b yX11_bestAct wsX11_bestAct ({ frames := 7, cells := 0, slots := 0, locals := 176 } : Room) [cell30_ qx sx, cell28_ k qx sx, cell29_ k qx sx, cell31_ qx sh qh, cell0_ k qh sh, cell1_ k qh sh, cell4_ k qh sh, cell3_ k qh sh, cell2_ k qh sh, cell42_ qx spl qpl, cell26_ k qpl tpl, cell23_ k qpl spl, cell24_ k qpl tpl, cell25_ k qpl spl] sz [.ref (qx 0), .int p0, .int p1, .int p2] (fun (r : Int32) (u : Int32 × Int32 × (Nat → Int64) × (Nat → Int32) × (Nat → Int64) × (Nat → Int32)) => (u.1).toInt = 0 ∨ (u.2.1).toInt = (sh 0 0).toInt) (fun u => [cell75_ qx sx (u.1), cell28_ k qx sx, cell29_ k qx sx, cell31_ qx sh qh, cell0_ k qh sh, cell1_ k qh sh, cell4_ k qh sh, cell3_ k qh sh, cell2_ k qh sh, cell73_ qx qpl (u.2.1), cell108_ k qpl (u.2.2.1), cell109_ k qpl (u.2.2.2.1), cell115_ k qpl (u.2.2.2.2.1), cell116_ k qpl (u.2.2.2.2.2)]) := by
  refine g_enter (cc := cX11_bestAct) (maxL := 5) (ret := (some .int)) (by decide) rfl (Nat.le_of_ble_eq_true rfl) ?_
  intro p e s m below meth c A hsz hAe cx hr hP hD hS ls hl
  rw [hAe]
  refine g_q (fun Q hQ => ?_)
  have hx := cx.1.1
  have hb := cx.1.2.1
  have bp0 := i_rng p0
  have bp1 := i_rng p1
  have bp2 := i_rng p2
  have hl : lv_has ls 5 [(0, .ref (qx 0)), (1, .int p0), (2, .int p1), (3, .int p2)] := hl
  obtain ⟨H, eH⟩ : ∃ H : Heap, H = s.heap := ⟨_, rfl⟩
  obtain ⟨locs, el⟩ : ∃ L : List Loc, L = [] := ⟨_, rfl⟩
  have hP : va_P D vwCl [cell30_ qx sx, cell28_ k qx sx, cell29_ k qx sx, cell31_ qx sh qh, cell0_ k qh sh, cell1_ k qh sh, cell4_ k qh sh, cell3_ k qh sh, cell2_ k qh sh, cell42_ qx spl qpl, cell26_ k qpl tpl, cell23_ k qpl spl, cell24_ k qpl tpl, cell25_ k qpl spl] H := by rw [eH]; exact hP
  have hD : va_D A [cell30_ qx sx, cell28_ k qx sx, cell29_ k qx sx, cell31_ qx sh qh, cell0_ k qh sh, cell1_ k qh sh, cell4_ k qh sh, cell3_ k qh sh, cell2_ k qh sh, cell42_ qx spl qpl, cell26_ k qpl tpl, cell23_ k qpl spl, cell24_ k qpl tpl, cell25_ k qpl spl] := hD
  have hS : va_S A s.heap H locs := by rw [eH, el]; exact hS
  suffices goal : W p l e ({ frames := 7, cells := 0, slots := 0, locals := 176 } : Room) s m ([.ref (qx 0), .int p0, .int p1, .int p2] : List Value).toArray below meth c H locs 0 0 Q (F0 m 0 ls []) by rw [eH, el] at goal; exact goal
  refine lv_aload_n hx hb dX11_bestAct_0 rfl (lv_at hl 0 rfl) ?_
  refine lv_iload_n hx hb dX11_bestAct_1 rfl (lv_at hl 1 rfl) ?_
  refine lv_iload_n hx hb dX11_bestAct_2 rfl (lv_at hl 2 rfl) ?_
  refine lv_iload_n hx hb dX11_bestAct_3 rfl (lv_at hl 3 rfl) ?_
  refine g_ir (g_runV (wc := [cell30_ qx sx, cell28_ k qx sx, cell29_ k qx sx, cell31_ qx sh qh, cell0_ k qh sh, cell1_ k qh sh, cell4_ k qh sh, cell3_ k qh sh, cell2_ k qh sh]) (rest := []) cx hP hD hS [0, 1, 2, 3, 4, 5, 6, 7, 8] rfl (by decide) [.int p0, .int p1, .int p2] (c_X11_refuseState l D k b qx sx (lq [0, qh 1, qh 2, qh 3, qh 4, qh 5]) (lS [(lI [(sh 0 0), (sh 0 1), 0, 0, 0, 0, (sh 0 6), (sh 0 7), (sh 0 8), (sh 0 9), (sh 0 10), (sh 0 11), (sh 0 12)]), (sh 1), (sh 2), (sh 3), (sh 4), (sh 5)]) H.size p0 p1 p2 (show 0 ≤ (sh 0 0).toInt ∧ (sh 0 0).toInt ≤ 5 from by first | decide | omega) (show 0 ≤ (sh 0 1).toInt ∧ (sh 0 1).toInt ≤ 4 from by first | decide | omega)) gX11_bestAct_X11_refuseState rfl rfl rfl nd_X11_refuseState ⟨Nat.le_of_ble_eq_true rfl, Nat.le_of_ble_eq_true rfl⟩ (ci := 9) (q0 := 0) rfl rfl rfl hl.1 rfl (Nat.le_of_ble_eq_true rfl) ⟨Nat.zero_le _, Nat.zero_le _⟩ dX11_bestAct_4) cx.2.2.1 hP hD hS [0, 1, 2, 3, 4, 5, 6, 7, 8] rfl rfl (fun r2 H locs hw1 hP hS => ?_)
  replace hw1 : (¬ r2.toInt = 0 ∨ (0 ≤ p0.toInt ∧ p0.toInt ≤ 4 ∧ p0.toInt < (sh 0 0).toInt ∧ (0 ≤ p1.toInt ∧ p1.toInt ≤ 400 ∧ tot p1 ≤ 4) ∧ tot p1 ≤ (sh 0 1).toInt ∧ 0 ≤ p2.toInt ∧ p2.toInt ≤ 2)) ∧ (r2 = J_X11_refuseState sx (lS [(lI [(sh 0 0), (sh 0 1), 0, 0, 0, 0, (sh 0 6), (sh 0 7), (sh 0 8), (sh 0 9), (sh 0 10), (sh 0 11), (sh 0 12)]), (sh 1), (sh 2), (sh 3), (sh 4), (sh 5)]) p0 p1 p2) := hw1
  obtain ⟨w3, w4⟩ := hw1
  have k6 : r2 = (J_X11_refuseState sx (lS [(lI [(sh 0 0), (sh 0 1), 0, 0, 0, 0, (sh 0 6), (sh 0 7), (sh 0 8), (sh 0 9), (sh 0 10), (sh 0 11), (sh 0 12)]), (sh 1), (sh 2), (sh 3), (sh 4), (sh 5)]) p0 p1 p2) := congrArg (fun z => z) w4
  refine lv_istore (lv' := [(4, .int r2), (0, .ref (qx 0)), (1, .int p0), (2, .int p1), (3, .int p2)]) hx hb dX11_bestAct_7 hl (by decide) rfl (fun ls hl => ?_)
  refine lv_iload hx hb dX11_bestAct_9 (lv_at hl 0 rfl) ?_
  refine lv_if_eq (tgt := 17) hx hb dX11_bestAct_11 (by decide) (fun c7 => ?_) (fun c7 => ?_)
  · have f7 : r2.toInt = 0 := f_eq rfl (by decide) c7
    refine lv_aload_n hx hb dX11_bestAct_17 rfl (lv_at hl 1 rfl) ?_
    refine g_vF (w1 := fun (u : Int32 × Int32 × (Nat → Int64) × (Nat → Int32) × (Nat → Int64) × (Nat → Int32)) => [cell75_ qx sx (u.1), cell28_ k qx sx, cell29_ k qx sx, cell31_ qx sh qh, cell0_ k qh sh, cell1_ k qh sh, cell4_ k qh sh, cell3_ k qh sh, cell2_ k qh sh, cell73_ qx qpl (u.2.1), cell108_ k qpl (u.2.2.1), cell109_ k qpl (u.2.2.2.1), cell115_ k qpl (u.2.2.2.2.1), cell116_ k qpl (u.2.2.2.2.2)]) (g_runVF (ws := [cell30_ qx sx, cell28_ k qx sx, cell29_ k qx sx, cell31_ qx sh qh, cell0_ k qh sh, cell1_ k qh sh, cell4_ k qh sh, cell3_ k qh sh, cell2_ k qh sh, cell42_ qx spl qpl, cell26_ k qpl tpl, cell23_ k qpl spl, cell24_ k qpl tpl, cell25_ k qpl spl]) (rest := []) cx hP hD hS [] (c_X11_planOnce l D k b qx sx (lq [0, qh 1, qh 2, qh 3, qh 4, qh 5]) (lS [(lI [(sh 0 0), (sh 0 1), 0, 0, 0, 0, (sh 0 6), (sh 0 7), (sh 0 8), (sh 0 9), (sh 0 10), (sh 0 11), (sh 0 12)]), (sh 1), (sh 2), (sh 3), (sh 4), (sh 5)]) (lq [0, qpl 1, qpl 2, qpl 3, qpl 4]) (lS [(lI [(spl 0 0)]), (fun _ => 0), (spl 2), (fun _ => 0), (spl 4)]) (lT [(lJ []), (tpl 1), (fun _ => 0), (tpl 3), (fun _ => 0)]) H.size (show 0 ≤ (sh 0 0).toInt ∧ (sh 0 0).toInt ≤ 5 from by first | decide | omega) (show 0 ≤ (sh 0 1).toInt ∧ (sh 0 1).toInt ≤ 4 from by first | decide | omega) (show 0 ≤ (sh 0 12).toInt ∧ (sh 0 12).toInt ≤ 5 from by first | decide | omega) h_of h_go (show SUok (sh 5) from by assumption) (show (sx 0 15).toInt = 0 ∨ (spl 0 0).toInt = (sh 0 0).toInt from by first | decide | omega)) gX11_bestAct_X11_planOnce rfl rfl rfl nd_X11_planOnce ⟨Nat.le_of_ble_eq_true rfl, Nat.le_of_ble_eq_true rfl⟩ (ci := 9) (q0 := 0) rfl rfl rfl hl.1 rfl (Nat.le_of_ble_eq_true rfl) ⟨Nat.zero_le _, Nat.zero_le _⟩ dX11_bestAct_18) cx.2.2.1 hD hS (fun u9 H locs hw8 hP hD hS => ?_)
    obtain ⟨m10, m11, m12, m13, m14, m15⟩ := u9
    have hP : va_P D vwCl [cell75_ qx sx m10, cell28_ k qx sx, cell29_ k qx sx, cell31_ qx sh qh, cell0_ k qh sh, cell1_ k qh sh, cell4_ k qh sh, cell3_ k qh sh, cell2_ k qh sh, cell73_ qx qpl m11, (qpl 1, .inl (k 1, 630, .inr (.inl m12))), (qpl 2, .inl (k 0, 525, .inl m13)), (qpl 3, .inl (k 1, 35, .inr (.inl m14))), (qpl 4, .inl (k 0, 35, .inl m15))] H := hP
    have hD : va_D A [cell75_ qx sx m10, cell28_ k qx sx, cell29_ k qx sx, cell31_ qx sh qh, cell0_ k qh sh, cell1_ k qh sh, cell4_ k qh sh, cell3_ k qh sh, cell2_ k qh sh, cell73_ qx qpl m11, (qpl 1, .inl (k 1, 630, .inr (.inl m12))), (qpl 2, .inl (k 0, 525, .inl m13)), (qpl 3, .inl (k 1, 35, .inr (.inl m14))), (qpl 4, .inl (k 0, 35, .inl m15))] := hD
    have w16 : m11.toInt = (sh 0 0).toInt := hw8
    clear hw8
    refine lv_aload_n hx hb dX11_bestAct_21 rfl (lv_at hl 1 rfl) ?_
    refine g_get cx hP iw_X11_bestAct_X11 0 rfl rfl 8 (by decide) rfl fw_X11_bestAct_59 rfl dX11_bestAct_22 ?_
    refine lv_iload_n hx hb dX11_bestAct_25 rfl (lv_at hl 2 rfl) ?_
    refine lv_iload_n hx hb dX11_bestAct_26 rfl (lv_at hl 3 rfl) ?_
    refine lv_iload_n hx hb dX11_bestAct_27 rfl (lv_at hl 4 rfl) ?_
    refine g_ir (g_runV (wc := [cell73_ qx qpl m11, (qpl 1, .inl (k 1, 630, .inr (.inl m12))), (qpl 2, .inl (k 0, 525, .inl m13)), (qpl 3, .inl (k 1, 35, .inr (.inl m14))), (qpl 4, .inl (k 0, 35, .inl m15))]) (rest := []) cx hP hD hS [9, 10, 11, 12, 13] rfl (by decide) [.int p0, .int p1, .int p2] (c_X6_firstAct l D k b (lq [qx 10, qpl 1, qpl 2, qpl 3, qpl 4]) (lS [(lI [m11]), (fun _ => 0), m13, (fun _ => 0), m15]) (lT [(lJ []), m12, (fun _ => 0), m14, (fun _ => 0)]) H.size p0 p1 p2 (show 0 ≤ p1.toInt ∧ p1.toInt ≤ 400 ∧ tot p1 ≤ 4 from by first | decide | omega) (show 0 ≤ p0.toInt ∧ p0.toInt ≤ 4 from by first | decide | omega) (show 0 ≤ p2.toInt ∧ p2.toInt ≤ 2 from by first | decide | omega)) gX11_bestAct_X6_firstAct rfl rfl rfl nd_X6_firstAct ⟨Nat.le_of_ble_eq_true rfl, Nat.le_of_ble_eq_true rfl⟩ (ci := 4) (q0 := 0) rfl rfl rfl hl.1 rfl (Nat.le_of_ble_eq_true rfl) ⟨Nat.zero_le _, Nat.zero_le _⟩ dX11_bestAct_28) cx.2.2.1 hP hD hS [9, 10, 11, 12, 13] rfl rfl (fun r18 H locs hw17 hP hS => ?_)
    clear hw17
    rw [hQ]
    exact x_i cx hr (m10, m11, m12, m13, m14, m15) hP hD hS (show m10.toInt = 0 ∨ m11.toInt = (sh 0 0).toInt from by omega) dX11_bestAct_31
  · have f7 : ¬ r2.toInt = 0 := f_ne rfl (by decide) c7
    refine lv_iload hx hb dX11_bestAct_14 (lv_at hl 0 rfl) ?_
    rw [hQ]
    exact x_i cx hr ((sx 0 15), (spl 0 0), (tpl 1), (spl 2), (tpl 3), (spl 4)) hP hD hS (show (sx 0 15).toInt = 0 ∨ (spl 0 0).toInt = (sh 0 0).toInt from by omega) dX11_bestAct_16
theorem nd_X11_firstAgainst : yX11_firstAgainst.cls = RX11 ∧ yX11_firstAgainst.cls ≠ "java/lang/invoke/MethodHandle" ∧ yX11_firstAgainst.cls ≠ "java/lang/invoke/VarHandle" ∧ (parseMethodDescriptor yX11_firstAgainst.desc).map (fun d => d.parameters.length) = some 2 := by decide +kernel
set_option maxHeartbeats 4000000 in
set_option maxRecDepth 100000 in
theorem c_X11_shape (l : Launch) (D : va_G) (k : Nat → ClassId) (b : Nat → Nat) (qx : Nat → Nat) (sx : Nat → Nat → Int32) (qh : Nat → Nat) (sh : Nat → Nat → Int32) (qpl : Nat → Nat) (spl : Nat → Nat → Int32) (tpl : Nat → Nat → Int64) (sz : Nat) (p0 : Int32) (h_wk : 0 ≤ (sh 0 0).toInt ∧ (sh 0 0).toInt ≤ 5) (h_hk : 0 ≤ (sh 0 1).toInt ∧ (sh 0 1).toInt ≤ 4) (h_fl : 0 ≤ (sh 0 12).toInt ∧ (sh 0 12).toInt ≤ 5) (h_of : ∀ j, 0 ≤ (sh 2 j).toInt ∧ (sh 2 j).toInt ≤ 4) (h_go : ∀ j, 0 ≤ (sh 3 j).toInt ∧ (sh 3 j).toInt ≤ 5) (h_su : SUok (sh 5)) (h_pl : (sx 0 15).toInt = 0 ∨ (spl 0 0).toInt = (sh 0 0).toInt) : MetI l D k b yX11_shape wsX11_shape ({ frames := 7, cells := 0, slots := 0, locals := 176 } : Room) [cell30_ qx sx, cell28_ k qx sx, cell29_ k qx sx, cell31_ qx sh qh, cell0_ k qh sh, cell1_ k qh sh, cell4_ k qh sh, cell3_ k qh sh, cell2_ k qh sh, cell42_ qx spl qpl, cell26_ k qpl tpl, cell23_ k qpl spl, cell24_ k qpl tpl, cell25_ k qpl spl] sz [.ref (qx 0), .int p0] (fun (r : Int32) (u : Int32 × Int32 × (Nat → Int64) × (Nat → Int32) × (Nat → Int64) × (Nat → Int32)) => (u.1).toInt = 0 ∨ (u.2.1).toInt = (sh 0 0).toInt) (fun u => [cell75_ qx sx (u.1), cell28_ k qx sx, cell29_ k qx sx, cell31_ qx sh qh, cell0_ k qh sh, cell1_ k qh sh, cell4_ k qh sh, cell3_ k qh sh, cell2_ k qh sh, cell73_ qx qpl (u.2.1), cell108_ k qpl (u.2.2.1), cell109_ k qpl (u.2.2.2.1), cell115_ k qpl (u.2.2.2.2.1), cell116_ k qpl (u.2.2.2.2.2)]) := by
  refine g_enter (cc := cX11_shape) (maxL := 3) (ret := (some .int)) (by decide) rfl (Nat.le_of_ble_eq_true rfl) ?_
  intro p e s m below meth c A hsz hAe cx hr hP hD hS ls hl
  rw [hAe]
  refine g_q (fun Q hQ => ?_)
  have hx := cx.1.1
  have hb := cx.1.2.1
  have bp0 := i_rng p0
  have hl : lv_has ls 3 [(0, .ref (qx 0)), (1, .int p0)] := hl
  obtain ⟨H, eH⟩ : ∃ H : Heap, H = s.heap := ⟨_, rfl⟩
  obtain ⟨locs, el⟩ : ∃ L : List Loc, L = [] := ⟨_, rfl⟩
  have hP : va_P D vwCl [cell30_ qx sx, cell28_ k qx sx, cell29_ k qx sx, cell31_ qx sh qh, cell0_ k qh sh, cell1_ k qh sh, cell4_ k qh sh, cell3_ k qh sh, cell2_ k qh sh, cell42_ qx spl qpl, cell26_ k qpl tpl, cell23_ k qpl spl, cell24_ k qpl tpl, cell25_ k qpl spl] H := by rw [eH]; exact hP
  have hD : va_D A [cell30_ qx sx, cell28_ k qx sx, cell29_ k qx sx, cell31_ qx sh qh, cell0_ k qh sh, cell1_ k qh sh, cell4_ k qh sh, cell3_ k qh sh, cell2_ k qh sh, cell42_ qx spl qpl, cell26_ k qpl tpl, cell23_ k qpl spl, cell24_ k qpl tpl, cell25_ k qpl spl] := hD
  have hS : va_S A s.heap H locs := by rw [eH, el]; exact hS
  suffices goal : W p l e ({ frames := 7, cells := 0, slots := 0, locals := 176 } : Room) s m ([.ref (qx 0), .int p0] : List Value).toArray below meth c H locs 0 0 Q (F0 m 0 ls []) by rw [eH, el] at goal; exact goal
  refine lv_aload_n hx hb dX11_shape_0 rfl (lv_at hl 0 rfl) ?_
  refine lv_iload_n hx hb dX11_shape_1 rfl (lv_at hl 1 rfl) ?_
  refine g_ir (g_runV (wc := [cell30_ qx sx, cell28_ k qx sx, cell29_ k qx sx, cell31_ qx sh qh, cell0_ k qh sh, cell1_ k qh sh, cell4_ k qh sh, cell3_ k qh sh, cell2_ k qh sh]) (rest := []) cx hP hD hS [0, 1, 2, 3, 4, 5, 6, 7, 8] rfl (by decide) [.int p0] (c_X11_isWeek l D k b qx sx (lq [0, qh 1, qh 2, qh 3, qh 4, qh 5]) (lS [(lI [(sh 0 0), (sh 0 1), 0, 0, 0, 0, (sh 0 6), (sh 0 7), (sh 0 8), (sh 0 9), (sh 0 10), (sh 0 11), (sh 0 12)]), (sh 1), (sh 2), (sh 3), (sh 4), (sh 5)]) H.size p0 (show 0 ≤ (sh 0 0).toInt ∧ (sh 0 0).toInt ≤ 5 from by first | decide | omega)) gX11_shape_X11_isWeek rfl rfl rfl nd_X11_isWeek ⟨Nat.le_of_ble_eq_true rfl, Nat.le_of_ble_eq_true rfl⟩ (ci := 9) (q0 := 0) rfl rfl rfl hl.1 rfl (Nat.le_of_ble_eq_true rfl) ⟨Nat.zero_le _, Nat.zero_le _⟩ dX11_shape_2) cx.2.2.1 hP hD hS [0, 1, 2, 3, 4, 5, 6, 7, 8] rfl rfl (fun r2 H locs hw1 hP hS => ?_)
  replace hw1 : (0 ≤ r2.toInt ∧ r2.toInt ≤ 1) ∧ (Imp (r2.toInt = 1) (0 ≤ p0.toInt ∧ p0.toInt ≤ 4 ∧ p0.toInt < (sh 0 0).toInt)) ∧ (r2 = J_X11_isWeek sx (lS [(lI [(sh 0 0), (sh 0 1), 0, 0, 0, 0, (sh 0 6), (sh 0 7), (sh 0 8), (sh 0 9), (sh 0 10), (sh 0 11), (sh 0 12)]), (sh 1), (sh 2), (sh 3), (sh 4), (sh 5)]) p0) := hw1
  obtain ⟨w3, w4, w5⟩ := hw1
  have k7 : r2 = (J_X11_isWeek sx (lS [(lI [(sh 0 0), (sh 0 1), 0, 0, 0, 0, (sh 0 6), (sh 0 7), (sh 0 8), (sh 0 9), (sh 0 10), (sh 0 11), (sh 0 12)]), (sh 1), (sh 2), (sh 3), (sh 4), (sh 5)]) p0) := congrArg (fun z => z) w5
  have zr2 : 0 ≤ r2.toInt ∧ r2.toInt ≤ 1 := w3
  refine lv_if_ne (tgt := 10) hx hb dX11_shape_5 (by decide) (fun c8 => ?_) (fun c8 => ?_)
  · have f8 : ¬ r2.toInt = 0 := f_ne rfl (by decide) c8
    have k8 : (0 ≤ p0.toInt ∧ p0.toInt ≤ 4 ∧ p0.toInt < (sh 0 0).toInt) := w4 (by omega)
    refine lv_aload_n hx hb dX11_shape_10 rfl (lv_at hl 0 rfl) ?_
    refine g_vF (w1 := fun (u : Int32 × Int32 × (Nat → Int64) × (Nat → Int32) × (Nat → Int64) × (Nat → Int32)) => [cell75_ qx sx (u.1), cell28_ k qx sx, cell29_ k qx sx, cell31_ qx sh qh, cell0_ k qh sh, cell1_ k qh sh, cell4_ k qh sh, cell3_ k qh sh, cell2_ k qh sh, cell73_ qx qpl (u.2.1), cell108_ k qpl (u.2.2.1), cell109_ k qpl (u.2.2.2.1), cell115_ k qpl (u.2.2.2.2.1), cell116_ k qpl (u.2.2.2.2.2)]) (g_runVF (ws := [cell30_ qx sx, cell28_ k qx sx, cell29_ k qx sx, cell31_ qx sh qh, cell0_ k qh sh, cell1_ k qh sh, cell4_ k qh sh, cell3_ k qh sh, cell2_ k qh sh, cell42_ qx spl qpl, cell26_ k qpl tpl, cell23_ k qpl spl, cell24_ k qpl tpl, cell25_ k qpl spl]) (rest := []) cx hP hD hS [] (c_X11_planOnce l D k b qx sx (lq [0, qh 1, qh 2, qh 3, qh 4, qh 5]) (lS [(lI [(sh 0 0), (sh 0 1), 0, 0, 0, 0, (sh 0 6), (sh 0 7), (sh 0 8), (sh 0 9), (sh 0 10), (sh 0 11), (sh 0 12)]), (sh 1), (sh 2), (sh 3), (sh 4), (sh 5)]) (lq [0, qpl 1, qpl 2, qpl 3, qpl 4]) (lS [(lI [(spl 0 0)]), (fun _ => 0), (spl 2), (fun _ => 0), (spl 4)]) (lT [(lJ []), (tpl 1), (fun _ => 0), (tpl 3), (fun _ => 0)]) H.size (show 0 ≤ (sh 0 0).toInt ∧ (sh 0 0).toInt ≤ 5 from by first | decide | omega) (show 0 ≤ (sh 0 1).toInt ∧ (sh 0 1).toInt ≤ 4 from by first | decide | omega) (show 0 ≤ (sh 0 12).toInt ∧ (sh 0 12).toInt ≤ 5 from by first | decide | omega) h_of h_go (show SUok (sh 5) from by assumption) (show (sx 0 15).toInt = 0 ∨ (spl 0 0).toInt = (sh 0 0).toInt from by first | decide | omega)) gX11_shape_X11_planOnce rfl rfl rfl nd_X11_planOnce ⟨Nat.le_of_ble_eq_true rfl, Nat.le_of_ble_eq_true rfl⟩ (ci := 9) (q0 := 0) rfl rfl rfl hl.1 rfl (Nat.le_of_ble_eq_true rfl) ⟨Nat.zero_le _, Nat.zero_le _⟩ dX11_shape_11) cx.2.2.1 hD hS (fun u10 H locs hw9 hP hD hS => ?_)
    obtain ⟨m11, m12, m13, m14, m15, m16⟩ := u10
    have hP : va_P D vwCl [cell75_ qx sx m11, cell28_ k qx sx, cell29_ k qx sx, cell31_ qx sh qh, cell0_ k qh sh, cell1_ k qh sh, cell4_ k qh sh, cell3_ k qh sh, cell2_ k qh sh, cell73_ qx qpl m12, (qpl 1, .inl (k 1, 630, .inr (.inl m13))), (qpl 2, .inl (k 0, 525, .inl m14)), (qpl 3, .inl (k 1, 35, .inr (.inl m15))), (qpl 4, .inl (k 0, 35, .inl m16))] H := hP
    have hD : va_D A [cell75_ qx sx m11, cell28_ k qx sx, cell29_ k qx sx, cell31_ qx sh qh, cell0_ k qh sh, cell1_ k qh sh, cell4_ k qh sh, cell3_ k qh sh, cell2_ k qh sh, cell73_ qx qpl m12, (qpl 1, .inl (k 1, 630, .inr (.inl m13))), (qpl 2, .inl (k 0, 525, .inl m14)), (qpl 3, .inl (k 1, 35, .inr (.inl m15))), (qpl 4, .inl (k 0, 35, .inl m16))] := hD
    have w17 : m12.toInt = (sh 0 0).toInt := hw9
    clear hw9
    refine lv_iconst (v := 0) hx hb dX11_shape_14 (by decide) ?_
    refine lv_istore_n (lv' := [(2, .int 0), (0, .ref (qx 0)), (1, .int p0)]) hx hb dX11_shape_15 rfl hl (by decide) rfl (fun ls hl => ?_)
    have hL16 : ∀ (n23 : Nat) (v22 : Int32) (H : Heap) (locs : List Loc) (ls : Array Slot), 5 - v22.toInt < (n23 : Int) → (0 ≤ v22.toInt ∧ v22.toInt ≤ 5) → va_P D vwCl [cell75_ qx sx m11, cell28_ k qx sx, cell29_ k qx sx, cell31_ qx sh qh, cell0_ k qh sh, cell1_ k qh sh, cell4_ k qh sh, cell3_ k qh sh, cell2_ k qh sh, cell73_ qx qpl m12, (qpl 1, .inl (k 1, 630, .inr (.inl m13))), (qpl 2, .inl (k 0, 525, .inl m14)), (qpl 3, .inl (k 1, 35, .inr (.inl m15))), (qpl 4, .inl (k 0, 35, .inl m16))] H → va_D A [cell75_ qx sx m11, cell28_ k qx sx, cell29_ k qx sx, cell31_ qx sh qh, cell0_ k qh sh, cell1_ k qh sh, cell4_ k qh sh, cell3_ k qh sh, cell2_ k qh sh, cell73_ qx qpl m12, (qpl 1, .inl (k 1, 630, .inr (.inl m13))), (qpl 2, .inl (k 0, 525, .inl m14)), (qpl 3, .inl (k 1, 35, .inr (.inl m15))), (qpl 4, .inl (k 0, 35, .inl m16))] → va_S A s.heap H locs → lv_has ls 3 [(2, .int v22), (0, .ref (qx 0)), (1, .int p0)] → W p l e ({ frames := 7, cells := 0, slots := 0, locals := 176 } : Room) s m ([.ref (qx 0), .int p0] : List Value).toArray below meth c H locs 0 0 Q (F0 m 16 ls []) := by
      intro n23
      induction n23 with
      | zero => intro v22 H locs ls hmn23 bv22 hP hD hS hl; exact absurd hmn23 (by omega)
      | succ n23 ih16 =>
        intro v22 H locs ls hmn23 bv22 hP hD hS hl
        refine lv_iload_n hx hb dX11_shape_16 rfl (lv_at hl 0 rfl) ?_
        refine lv_iconst (v := 4) hx hb dX11_shape_17 (by decide) ?_
        refine lv_icmp_gt (tgt := 40) hx hb dX11_shape_18 (by decide) (fun c24 => ?_) (fun c24 => ?_)
        · have f24 : 4 < v22.toInt := f_lt (by decide) rfl c24
          refine lv_bipush (v := (-9)) hx hb dX11_shape_40 (by decide) ?_
          have hlit25 : ((-9) : Int32).toInt = -9 := by decide
          rw [hQ]
          exact x_i cx hr (m11, m12, m13, m14, m15, m16) hP hD hS (show m11.toInt = 0 ∨ m12.toInt = (sh 0 0).toInt from by omega) dX11_shape_42
        · have f24 : v22.toInt ≤ 4 := f_nlt (by decide) rfl c24
          refine lv_aload_n hx hb dX11_shape_21 rfl (lv_at hl 1 rfl) ?_
          refine lv_iload_n hx hb dX11_shape_22 rfl (lv_at hl 2 rfl) ?_
          refine lv_iload_n hx hb dX11_shape_23 rfl (lv_at hl 0 rfl) ?_
          refine g_iF (w1 := fun (_ : Unit) => [cell75_ qx sx m11, cell28_ k qx sx, cell29_ k qx sx, cell31_ qx sh qh, cell0_ k qh sh, cell1_ k qh sh, cell4_ k qh sh, cell3_ k qh sh, cell2_ k qh sh, cell73_ qx qpl m12, (qpl 1, .inl (k 1, 630, .inr (.inl m13))), (qpl 2, .inl (k 0, 525, .inl m14)), (qpl 3, .inl (k 1, 35, .inr (.inl m15))), (qpl 4, .inl (k 0, 35, .inl m16))]) (g_runVF (ws := [cell75_ qx sx m11, cell28_ k qx sx, cell29_ k qx sx, cell31_ qx sh qh, cell0_ k qh sh, cell1_ k qh sh, cell4_ k qh sh, cell3_ k qh sh, cell2_ k qh sh, cell73_ qx qpl m12, (qpl 1, .inl (k 1, 630, .inr (.inl m13))), (qpl 2, .inl (k 0, 525, .inl m14)), (qpl 3, .inl (k 1, 35, .inr (.inl m15))), (qpl 4, .inl (k 0, 35, .inl m16))]) (rest := []) cx hP hD hS [.int p0, .int v22] (c_X11_firstAgainst l D k b qx (up2 sx 0 (upd (sx 0) 15 m11)) (lq [0, qh 1, qh 2, qh 3, qh 4, qh 5]) (lS [(lI [(sh 0 0), (sh 0 1), 0, 0, 0, 0, (sh 0 6), (sh 0 7), (sh 0 8), (sh 0 9), (sh 0 10), (sh 0 11), (sh 0 12)]), (sh 1), (sh 2), (sh 3), (sh 4), (sh 5)]) (lq [0, qpl 1, qpl 2, qpl 3, qpl 4]) (lS [(lI [m12]), (fun _ => 0), m14, (fun _ => 0), m16]) (lT [(lJ []), m13, (fun _ => 0), m15, (fun _ => 0)]) H.size p0 v22 (show 0 ≤ (sh 0 0).toInt ∧ (sh 0 0).toInt ≤ 5 from by first | decide | omega) (show 0 ≤ (sh 0 1).toInt ∧ (sh 0 1).toInt ≤ 4 from by first | decide | omega) (show 0 ≤ (sh 0 12).toInt ∧ (sh 0 12).toInt ≤ 5 from by first | decide | omega) h_of h_go (show SUok (sh 5) from by assumption) (show 0 ≤ p0.toInt ∧ p0.toInt ≤ 4 from by first | decide | omega)) gX11_shape_X11_firstAgainst rfl rfl rfl nd_X11_firstAgainst ⟨Nat.le_of_ble_eq_true rfl, Nat.le_of_ble_eq_true rfl⟩ (ci := 9) (q0 := 0) rfl rfl rfl hl.1 rfl (Nat.le_of_ble_eq_true rfl) ⟨Nat.zero_le _, Nat.zero_le _⟩ dX11_shape_24) cx.2.2.1 hD hS (fun r27 _ H locs hw26 hP hD hS => ?_)
          clear hw26
          refine lv_bipush (v := (-9)) hx hb dX11_shape_27 (by decide) ?_
          refine lv_icmp_ne (tgt := 34) hx hb dX11_shape_29 (by decide) (fun c28 => ?_) (fun c28 => ?_)
          · have f28 : ¬ r27.toInt = (-9) := f_ne rfl (by decide) c28
            obtain ⟨v29, e29⟩ : ∃ z : Int32, z = v22 + 1 := ⟨_, rfl⟩
            refine lv_iinc (v := v29) (lv' := [(2, .int v29), (0, .ref (qx 0)), (1, .int p0)]) hx hb dX11_shape_34 hl (k := 0) rfl (by rw [e29]; rfl) (by decide) rfl (fun ls hl => ?_)
            have t29 : v29.toInt = v22.toInt + 1 := by rw [e29]; exact i_add rfl (by decide) (by omega) (by omega)
            refine lv_goto (tgt := 16) hx hb dX11_shape_37 (by decide) ?_
            exact ih16 v29 _ _ _ (by omega) (by first | decide | omega) hP hD hS (lv_sub hl [0, 1, 2] rfl)
          · have f28 : r27.toInt = (-9) := f_eq rfl (by decide) c28
            refine lv_iload_n hx hb dX11_shape_32 rfl (lv_at hl 0 rfl) ?_
            rw [hQ]
            exact x_i cx hr (m11, m12, m13, m14, m15, m16) hP hD hS (show m11.toInt = 0 ∨ m12.toInt = (sh 0 0).toInt from by omega) dX11_shape_33
    have hlit30 : (0 : Int32).toInt = 0 := by decide
    exact hL16 (Int.toNat (5 - 0) + 1) 0 _ _ _ (by omega) (by first | decide | omega) hP hD hS (lv_sub hl [0, 1, 2] rfl)
  · have f8 : r2.toInt = 0 := f_eq rfl (by decide) c8
    refine lv_iconst (v := (-1)) hx hb dX11_shape_8 (by decide) ?_
    have hlit31 : ((-1) : Int32).toInt = -1 := by decide
    rw [hQ]
    exact x_i cx hr ((sx 0 15), (spl 0 0), (tpl 1), (spl 2), (tpl 3), (spl 4)) hP hD hS (show (sx 0 15).toInt = 0 ∨ (spl 0 0).toInt = (sh 0 0).toInt from by omega) dX11_shape_9
set_option maxHeartbeats 4000000 in
set_option maxRecDepth 100000 in
theorem c_X11_against (l : Launch) (D : va_G) (k : Nat → ClassId) (b : Nat → Nat) (qx : Nat → Nat) (sx : Nat → Nat → Int32) (qh : Nat → Nat) (sh : Nat → Nat → Int32) (qpl : Nat → Nat) (spl : Nat → Nat → Int32) (tpl : Nat → Nat → Int64) (sz : Nat) (p0 : Int32) (p1 : Int32) (h_wk : 0 ≤ (sh 0 0).toInt ∧ (sh 0 0).toInt ≤ 5) (h_hk : 0 ≤ (sh 0 1).toInt ∧ (sh 0 1).toInt ≤ 4) (h_fl : 0 ≤ (sh 0 12).toInt ∧ (sh 0 12).toInt ≤ 5) (h_of : ∀ j, 0 ≤ (sh 2 j).toInt ∧ (sh 2 j).toInt ≤ 4) (h_go : ∀ j, 0 ≤ (sh 3 j).toInt ∧ (sh 3 j).toInt ≤ 5) (h_su : SUok (sh 5)) (h_pl : (sx 0 15).toInt = 0 ∨ (spl 0 0).toInt = (sh 0 0).toInt) : MetI l D k b yX11_against wsX11_against ({ frames := 7, cells := 0, slots := 0, locals := 176 } : Room) [cell30_ qx sx, cell28_ k qx sx, cell29_ k qx sx, cell31_ qx sh qh, cell0_ k qh sh, cell1_ k qh sh, cell4_ k qh sh, cell3_ k qh sh, cell2_ k qh sh, cell42_ qx spl qpl, cell26_ k qpl tpl, cell23_ k qpl spl, cell24_ k qpl tpl, cell25_ k qpl spl] sz [.ref (qx 0), .int p0, .int p1] (fun (r : Int32) (u : Int32 × Int32 × (Nat → Int64) × (Nat → Int32) × (Nat → Int64) × (Nat → Int32)) => (u.1).toInt = 0 ∨ (u.2.1).toInt = (sh 0 0).toInt) (fun u => [cell75_ qx sx (u.1), cell28_ k qx sx, cell29_ k qx sx, cell31_ qx sh qh, cell0_ k qh sh, cell1_ k qh sh, cell4_ k qh sh, cell3_ k qh sh, cell2_ k qh sh, cell73_ qx qpl (u.2.1), cell108_ k qpl (u.2.2.1), cell109_ k qpl (u.2.2.2.1), cell115_ k qpl (u.2.2.2.2.1), cell116_ k qpl (u.2.2.2.2.2)]) := by
  refine g_enter (cc := cX11_against) (maxL := 3) (ret := (some .int)) (by decide) rfl (Nat.le_of_ble_eq_true rfl) ?_
  intro p e s m below meth c A hsz hAe cx hr hP hD hS ls hl
  rw [hAe]
  refine g_q (fun Q hQ => ?_)
  have hx := cx.1.1
  have hb := cx.1.2.1
  have bp0 := i_rng p0
  have bp1 := i_rng p1
  have hl : lv_has ls 3 [(0, .ref (qx 0)), (1, .int p0), (2, .int p1)] := hl
  obtain ⟨H, eH⟩ : ∃ H : Heap, H = s.heap := ⟨_, rfl⟩
  obtain ⟨locs, el⟩ : ∃ L : List Loc, L = [] := ⟨_, rfl⟩
  have hP : va_P D vwCl [cell30_ qx sx, cell28_ k qx sx, cell29_ k qx sx, cell31_ qx sh qh, cell0_ k qh sh, cell1_ k qh sh, cell4_ k qh sh, cell3_ k qh sh, cell2_ k qh sh, cell42_ qx spl qpl, cell26_ k qpl tpl, cell23_ k qpl spl, cell24_ k qpl tpl, cell25_ k qpl spl] H := by rw [eH]; exact hP
  have hD : va_D A [cell30_ qx sx, cell28_ k qx sx, cell29_ k qx sx, cell31_ qx sh qh, cell0_ k qh sh, cell1_ k qh sh, cell4_ k qh sh, cell3_ k qh sh, cell2_ k qh sh, cell42_ qx spl qpl, cell26_ k qpl tpl, cell23_ k qpl spl, cell24_ k qpl tpl, cell25_ k qpl spl] := hD
  have hS : va_S A s.heap H locs := by rw [eH, el]; exact hS
  suffices goal : W p l e ({ frames := 7, cells := 0, slots := 0, locals := 176 } : Room) s m ([.ref (qx 0), .int p0, .int p1] : List Value).toArray below meth c H locs 0 0 Q (F0 m 0 ls []) by rw [eH, el] at goal; exact goal
  refine lv_aload_n hx hb dX11_against_0 rfl (lv_at hl 0 rfl) ?_
  refine lv_iload_n hx hb dX11_against_1 rfl (lv_at hl 1 rfl) ?_
  refine g_ir (g_runV (wc := [cell30_ qx sx, cell28_ k qx sx, cell29_ k qx sx, cell31_ qx sh qh, cell0_ k qh sh, cell1_ k qh sh, cell4_ k qh sh, cell3_ k qh sh, cell2_ k qh sh]) (rest := []) cx hP hD hS [0, 1, 2, 3, 4, 5, 6, 7, 8] rfl (by decide) [.int p0] (c_X11_isWeek l D k b qx sx (lq [0, qh 1, qh 2, qh 3, qh 4, qh 5]) (lS [(lI [(sh 0 0), (sh 0 1), 0, 0, 0, 0, (sh 0 6), (sh 0 7), (sh 0 8), (sh 0 9), (sh 0 10), (sh 0 11), (sh 0 12)]), (sh 1), (sh 2), (sh 3), (sh 4), (sh 5)]) H.size p0 (show 0 ≤ (sh 0 0).toInt ∧ (sh 0 0).toInt ≤ 5 from by first | decide | omega)) gX11_against_X11_isWeek rfl rfl rfl nd_X11_isWeek ⟨Nat.le_of_ble_eq_true rfl, Nat.le_of_ble_eq_true rfl⟩ (ci := 9) (q0 := 0) rfl rfl rfl hl.1 rfl (Nat.le_of_ble_eq_true rfl) ⟨Nat.zero_le _, Nat.zero_le _⟩ dX11_against_2) cx.2.2.1 hP hD hS [0, 1, 2, 3, 4, 5, 6, 7, 8] rfl rfl (fun r2 H locs hw1 hP hS => ?_)
  replace hw1 : (0 ≤ r2.toInt ∧ r2.toInt ≤ 1) ∧ (Imp (r2.toInt = 1) (0 ≤ p0.toInt ∧ p0.toInt ≤ 4 ∧ p0.toInt < (sh 0 0).toInt)) ∧ (r2 = J_X11_isWeek sx (lS [(lI [(sh 0 0), (sh 0 1), 0, 0, 0, 0, (sh 0 6), (sh 0 7), (sh 0 8), (sh 0 9), (sh 0 10), (sh 0 11), (sh 0 12)]), (sh 1), (sh 2), (sh 3), (sh 4), (sh 5)]) p0) := hw1
  obtain ⟨w3, w4, w5⟩ := hw1
  have k7 : r2 = (J_X11_isWeek sx (lS [(lI [(sh 0 0), (sh 0 1), 0, 0, 0, 0, (sh 0 6), (sh 0 7), (sh 0 8), (sh 0 9), (sh 0 10), (sh 0 11), (sh 0 12)]), (sh 1), (sh 2), (sh 3), (sh 4), (sh 5)]) p0) := congrArg (fun z => z) w5
  have zr2 : 0 ≤ r2.toInt ∧ r2.toInt ≤ 1 := w3
  refine lv_if_ne (tgt := 10) hx hb dX11_against_5 (by decide) (fun c8 => ?_) (fun c8 => ?_)
  · have f8 : ¬ r2.toInt = 0 := f_ne rfl (by decide) c8
    have k8 : (0 ≤ p0.toInt ∧ p0.toInt ≤ 4 ∧ p0.toInt < (sh 0 0).toInt) := w4 (by omega)
    refine lv_iload_n hx hb dX11_against_10 rfl (lv_at hl 2 rfl) ?_
    refine lv_if_lt (tgt := 19) hx hb dX11_against_11 (by decide) (fun c9 => ?_) (fun c9 => ?_)
    · have f9 : p1.toInt < 0 := f_lt rfl (by decide) c9
      refine lv_bipush (v := (-2)) hx hb dX11_against_19 (by decide) ?_
      have hlit10 : ((-2) : Int32).toInt = -2 := by decide
      rw [hQ]
      exact x_i cx hr ((sx 0 15), (spl 0 0), (tpl 1), (spl 2), (tpl 3), (spl 4)) hP hD hS (show (sx 0 15).toInt = 0 ∨ (spl 0 0).toInt = (sh 0 0).toInt from by omega) dX11_against_21
    · have f9 : 0 ≤ p1.toInt := f_nlt rfl (by decide) c9
      refine lv_iload_n hx hb dX11_against_14 rfl (lv_at hl 2 rfl) ?_
      refine lv_iconst (v := 4) hx hb dX11_against_15 (by decide) ?_
      refine lv_icmp_le (tgt := 22) hx hb dX11_against_16 (by decide) (fun c11 => ?_) (fun c11 => ?_)
      · have f11 : p1.toInt ≤ 4 := f_le rfl (by decide) c11
        refine lv_aload_n hx hb dX11_against_22 rfl (lv_at hl 0 rfl) ?_
        refine g_vF (w1 := fun (u : Int32 × Int32 × (Nat → Int64) × (Nat → Int32) × (Nat → Int64) × (Nat → Int32)) => [cell75_ qx sx (u.1), cell28_ k qx sx, cell29_ k qx sx, cell31_ qx sh qh, cell0_ k qh sh, cell1_ k qh sh, cell4_ k qh sh, cell3_ k qh sh, cell2_ k qh sh, cell73_ qx qpl (u.2.1), cell108_ k qpl (u.2.2.1), cell109_ k qpl (u.2.2.2.1), cell115_ k qpl (u.2.2.2.2.1), cell116_ k qpl (u.2.2.2.2.2)]) (g_runVF (ws := [cell30_ qx sx, cell28_ k qx sx, cell29_ k qx sx, cell31_ qx sh qh, cell0_ k qh sh, cell1_ k qh sh, cell4_ k qh sh, cell3_ k qh sh, cell2_ k qh sh, cell42_ qx spl qpl, cell26_ k qpl tpl, cell23_ k qpl spl, cell24_ k qpl tpl, cell25_ k qpl spl]) (rest := []) cx hP hD hS [] (c_X11_planOnce l D k b qx sx (lq [0, qh 1, qh 2, qh 3, qh 4, qh 5]) (lS [(lI [(sh 0 0), (sh 0 1), 0, 0, 0, 0, (sh 0 6), (sh 0 7), (sh 0 8), (sh 0 9), (sh 0 10), (sh 0 11), (sh 0 12)]), (sh 1), (sh 2), (sh 3), (sh 4), (sh 5)]) (lq [0, qpl 1, qpl 2, qpl 3, qpl 4]) (lS [(lI [(spl 0 0)]), (fun _ => 0), (spl 2), (fun _ => 0), (spl 4)]) (lT [(lJ []), (tpl 1), (fun _ => 0), (tpl 3), (fun _ => 0)]) H.size (show 0 ≤ (sh 0 0).toInt ∧ (sh 0 0).toInt ≤ 5 from by first | decide | omega) (show 0 ≤ (sh 0 1).toInt ∧ (sh 0 1).toInt ≤ 4 from by first | decide | omega) (show 0 ≤ (sh 0 12).toInt ∧ (sh 0 12).toInt ≤ 5 from by first | decide | omega) h_of h_go (show SUok (sh 5) from by assumption) (show (sx 0 15).toInt = 0 ∨ (spl 0 0).toInt = (sh 0 0).toInt from by first | decide | omega)) gX11_against_X11_planOnce rfl rfl rfl nd_X11_planOnce ⟨Nat.le_of_ble_eq_true rfl, Nat.le_of_ble_eq_true rfl⟩ (ci := 9) (q0 := 0) rfl rfl rfl hl.1 rfl (Nat.le_of_ble_eq_true rfl) ⟨Nat.zero_le _, Nat.zero_le _⟩ dX11_against_23) cx.2.2.1 hD hS (fun u13 H locs hw12 hP hD hS => ?_)
        obtain ⟨m14, m15, m16, m17, m18, m19⟩ := u13
        have hP : va_P D vwCl [cell75_ qx sx m14, cell28_ k qx sx, cell29_ k qx sx, cell31_ qx sh qh, cell0_ k qh sh, cell1_ k qh sh, cell4_ k qh sh, cell3_ k qh sh, cell2_ k qh sh, cell73_ qx qpl m15, (qpl 1, .inl (k 1, 630, .inr (.inl m16))), (qpl 2, .inl (k 0, 525, .inl m17)), (qpl 3, .inl (k 1, 35, .inr (.inl m18))), (qpl 4, .inl (k 0, 35, .inl m19))] H := hP
        have hD : va_D A [cell75_ qx sx m14, cell28_ k qx sx, cell29_ k qx sx, cell31_ qx sh qh, cell0_ k qh sh, cell1_ k qh sh, cell4_ k qh sh, cell3_ k qh sh, cell2_ k qh sh, cell73_ qx qpl m15, (qpl 1, .inl (k 1, 630, .inr (.inl m16))), (qpl 2, .inl (k 0, 525, .inl m17)), (qpl 3, .inl (k 1, 35, .inr (.inl m18))), (qpl 4, .inl (k 0, 35, .inl m19))] := hD
        have w20 : m15.toInt = (sh 0 0).toInt := hw12
        clear hw12
        refine lv_aload_n hx hb dX11_against_26 rfl (lv_at hl 0 rfl) ?_
        refine lv_iload_n hx hb dX11_against_27 rfl (lv_at hl 1 rfl) ?_
        refine lv_iload_n hx hb dX11_against_28 rfl (lv_at hl 2 rfl) ?_
        refine g_iF (w1 := fun (_ : Unit) => [cell75_ qx sx m14, cell28_ k qx sx, cell29_ k qx sx, cell31_ qx sh qh, cell0_ k qh sh, cell1_ k qh sh, cell4_ k qh sh, cell3_ k qh sh, cell2_ k qh sh, cell73_ qx qpl m15, (qpl 1, .inl (k 1, 630, .inr (.inl m16))), (qpl 2, .inl (k 0, 525, .inl m17)), (qpl 3, .inl (k 1, 35, .inr (.inl m18))), (qpl 4, .inl (k 0, 35, .inl m19))]) (g_runVF (ws := [cell75_ qx sx m14, cell28_ k qx sx, cell29_ k qx sx, cell31_ qx sh qh, cell0_ k qh sh, cell1_ k qh sh, cell4_ k qh sh, cell3_ k qh sh, cell2_ k qh sh, cell73_ qx qpl m15, (qpl 1, .inl (k 1, 630, .inr (.inl m16))), (qpl 2, .inl (k 0, 525, .inl m17)), (qpl 3, .inl (k 1, 35, .inr (.inl m18))), (qpl 4, .inl (k 0, 35, .inl m19))]) (rest := []) cx hP hD hS [.int p0, .int p1] (c_X11_firstAgainst l D k b qx (up2 sx 0 (upd (sx 0) 15 m14)) (lq [0, qh 1, qh 2, qh 3, qh 4, qh 5]) (lS [(lI [(sh 0 0), (sh 0 1), 0, 0, 0, 0, (sh 0 6), (sh 0 7), (sh 0 8), (sh 0 9), (sh 0 10), (sh 0 11), (sh 0 12)]), (sh 1), (sh 2), (sh 3), (sh 4), (sh 5)]) (lq [0, qpl 1, qpl 2, qpl 3, qpl 4]) (lS [(lI [m15]), (fun _ => 0), m17, (fun _ => 0), m19]) (lT [(lJ []), m16, (fun _ => 0), m18, (fun _ => 0)]) H.size p0 p1 (show 0 ≤ (sh 0 0).toInt ∧ (sh 0 0).toInt ≤ 5 from by first | decide | omega) (show 0 ≤ (sh 0 1).toInt ∧ (sh 0 1).toInt ≤ 4 from by first | decide | omega) (show 0 ≤ (sh 0 12).toInt ∧ (sh 0 12).toInt ≤ 5 from by first | decide | omega) h_of h_go (show SUok (sh 5) from by assumption) (show 0 ≤ p0.toInt ∧ p0.toInt ≤ 4 from by first | decide | omega)) gX11_against_X11_firstAgainst rfl rfl rfl nd_X11_firstAgainst ⟨Nat.le_of_ble_eq_true rfl, Nat.le_of_ble_eq_true rfl⟩ (ci := 9) (q0 := 0) rfl rfl rfl hl.1 rfl (Nat.le_of_ble_eq_true rfl) ⟨Nat.zero_le _, Nat.zero_le _⟩ dX11_against_29) cx.2.2.1 hD hS (fun r22 _ H locs hw21 hP hD hS => ?_)
        clear hw21
        rw [hQ]
        exact x_i cx hr (m14, m15, m16, m17, m18, m19) hP hD hS (show m14.toInt = 0 ∨ m15.toInt = (sh 0 0).toInt from by omega) dX11_against_32
      · have f11 : 4 < p1.toInt := f_nle rfl (by decide) c11
        refine lv_bipush (v := (-2)) hx hb dX11_against_19 (by decide) ?_
        have hlit23 : ((-2) : Int32).toInt = -2 := by decide
        rw [hQ]
        exact x_i cx hr ((sx 0 15), (spl 0 0), (tpl 1), (spl 2), (tpl 3), (spl 4)) hP hD hS (show (sx 0 15).toInt = 0 ∨ (spl 0 0).toInt = (sh 0 0).toInt from by omega) dX11_against_21
  · have f8 : r2.toInt = 0 := f_eq rfl (by decide) c8
    refine lv_iconst (v := (-1)) hx hb dX11_against_8 (by decide) ?_
    have hlit24 : ((-1) : Int32).toInt = -1 := by decide
    rw [hQ]
    exact x_i cx hr ((sx 0 15), (spl 0 0), (tpl 1), (spl 2), (tpl 3), (spl 4)) hP hD hS (show (sx 0 15).toInt = 0 ∨ (spl 0 0).toInt = (sh 0 0).toInt from by omega) dX11_against_9
theorem fw_X11_without_39 : Cond.fieldLink RX11 39 "StillInAugust" "house" "LStillInAugust$House;" ∈ wsX11_without := by decide +kernel
theorem fw_X11_without_42 : Cond.fieldLink RX11 42 "StillInAugust" "bareHouse" "LStillInAugust$House;" ∈ wsX11_without := by decide +kernel
theorem fw_X11_without_63 : Cond.fieldLink RX11 63 "StillInAugust" "barePlan" "LStillInAugust$Plan;" ∈ wsX11_without := by decide +kernel
theorem fw_X11_without_90 : Cond.fieldLink RX11 90 "StillInAugust" "bareMeans" "I" ∈ wsX11_without := by decide +kernel
theorem kJ_X11_without_205 : Cond.constantLong RX11 205 (-2) ∈ wsX11_without := by decide +kernel
theorem iw_X11_without_X11 : ∀ w ∈ u_ws RX11 TX11 17, w ∈ wsX11_without := fun _ h => List.mem_cons_of_mem _ (List.mem_append_left _ (List.mem_append_left _ (List.mem_append_right _ h)))
set_option maxHeartbeats 4000000 in
set_option maxRecDepth 100000 in
theorem c_X11_without (l : Launch) (D : va_G) (k : Nat → ClassId) (b : Nat → Nat) (qx : Nat → Nat) (sx : Nat → Nat → Int32) (qh : Nat → Nat) (sh : Nat → Nat → Int32) (qbh : Nat → Nat) (sbh : Nat → Nat → Int32) (qbp : Nat → Nat) (sbp : Nat → Nat → Int32) (tbp : Nat → Nat → Int64) (sz : Nat) (p0 : Int32) (p1 : Int32) (h_wk : 0 ≤ (sh 0 0).toInt ∧ (sh 0 0).toInt ≤ 5) (h_hk : 0 ≤ (sh 0 1).toInt ∧ (sh 0 1).toInt ≤ 4) (h_fl : 0 ≤ (sh 0 12).toInt ∧ (sh 0 12).toInt ≤ 5) (h_of : ∀ j, 0 ≤ (sh 2 j).toInt ∧ (sh 2 j).toInt ≤ 4) (h_go : ∀ j, 0 ≤ (sh 3 j).toInt ∧ (sh 3 j).toInt ≤ 5) (h_su : SUok (sh 5)) (b_of : ∀ j, 0 ≤ (sbh 2 j).toInt ∧ (sbh 2 j).toInt ≤ 4) (b_go : ∀ j, 0 ≤ (sbh 3 j).toInt ∧ (sbh 3 j).toInt ≤ 5) (h_bp : (sx 0 16).toInt = -9 ∨ (0 ≤ (sbp 0 0).toInt ∧ (sbp 0 0).toInt ≤ 5)) : MetL l D k b yX11_without wsX11_without ({ frames := 6, cells := 0, slots := 0, locals := 156 } : Room) [cell30_ qx sx, cell28_ k qx sx, cell29_ k qx sx, cell31_ qx sh qh, cell0_ k qh sh, cell1_ k qh sh, cell4_ k qh sh, cell3_ k qh sh, cell2_ k qh sh, cell44_ qx sbh qbh, cell0_ k qbh sbh, cell1_ k qbh sbh, cell4_ k qbh sbh, cell3_ k qbh sbh, cell2_ k qbh sbh, cell43_ qx sbp qbp, cell26_ k qbp tbp, cell23_ k qbp sbp, cell24_ k qbp tbp, cell25_ k qbp sbp] sz [.ref (qx 0), .int p0, .int p1] (fun (r : Int64) (u : Int32 × Int32 × (Nat → Int32) × (Nat → Int32) × (Nat → Int32) × (Nat → Int32) × Int32 × Int32 × Int32 × Int32 × Int32 × Int32 × Int32 × (Nat → Int32) × Int32 × (Nat → Int64) × (Nat → Int32) × (Nat → Int64) × (Nat → Int32) × Int32) => (∀ j, 0 ≤ ((u.2.2.2.1) j).toInt ∧ ((u.2.2.2.1) j).toInt ≤ 4) ∧ (∀ j, 0 ≤ ((u.2.2.2.2.1) j).toInt ∧ ((u.2.2.2.2.1) j).toInt ≤ 5) ∧ ((u.2.2.2.2.2.2.2.2.2.2.2.2.2.2.2.2.2.2.2).toInt = -9 ∨ (0 ≤ (u.2.2.2.2.2.2.2.2.2.2.2.2.2.2.1).toInt ∧ (u.2.2.2.2.2.2.2.2.2.2.2.2.2.2.1).toInt ≤ 5))) (fun u => [cell136_ qx sx (u.2.2.2.2.2.2.2.2.2.2.2.2.2.2.2.2.2.2.2), cell28_ k qx sx, cell29_ k qx sx, cell31_ qx sh qh, cell0_ k qh sh, cell1_ k qh sh, cell4_ k qh sh, cell3_ k qh sh, cell2_ k qh sh, cell111_ qx qbh (u.1) (u.2.1) (u.2.2.2.2.2.2.1) (u.2.2.2.2.2.2.2.1) (u.2.2.2.2.2.2.2.2.1) (u.2.2.2.2.2.2.2.2.2.1) (u.2.2.2.2.2.2.2.2.2.2.1) (u.2.2.2.2.2.2.2.2.2.2.2.1) (u.2.2.2.2.2.2.2.2.2.2.2.2.1), cell85_ k qbh (u.2.2.1), cell97_ k qbh (u.2.2.2.1), cell102_ k qbh (u.2.2.2.2.1), cell103_ k qbh (u.2.2.2.2.2.1), cell164_ k qbh (u.2.2.2.2.2.2.2.2.2.2.2.2.2.1), cell118_ qx qbp (u.2.2.2.2.2.2.2.2.2.2.2.2.2.2.1), cell108_ k qbp (u.2.2.2.2.2.2.2.2.2.2.2.2.2.2.2.1), cell109_ k qbp (u.2.2.2.2.2.2.2.2.2.2.2.2.2.2.2.2.1), cell115_ k qbp (u.2.2.2.2.2.2.2.2.2.2.2.2.2.2.2.2.2.1), cell116_ k qbp (u.2.2.2.2.2.2.2.2.2.2.2.2.2.2.2.2.2.2.1)]) := by
  refine g_enter (cc := cX11_without) (maxL := 3) (ret := (some .long)) (by decide) rfl (Nat.le_of_ble_eq_true rfl) ?_
  intro p e s m below meth c A hsz hAe cx hr hP hD hS ls hl
  rw [hAe]
  refine g_q (fun Q hQ => ?_)
  have hx := cx.1.1
  have hb := cx.1.2.1
  have bp0 := i_rng p0
  have bp1 := i_rng p1
  have hl : lv_has ls 3 [(0, .ref (qx 0)), (1, .int p0), (2, .int p1)] := hl
  obtain ⟨H, eH⟩ : ∃ H : Heap, H = s.heap := ⟨_, rfl⟩
  obtain ⟨locs, el⟩ : ∃ L : List Loc, L = [] := ⟨_, rfl⟩
  have hP : va_P D vwCl [cell30_ qx sx, cell28_ k qx sx, cell29_ k qx sx, cell31_ qx sh qh, cell0_ k qh sh, cell1_ k qh sh, cell4_ k qh sh, cell3_ k qh sh, cell2_ k qh sh, cell44_ qx sbh qbh, cell0_ k qbh sbh, cell1_ k qbh sbh, cell4_ k qbh sbh, cell3_ k qbh sbh, cell2_ k qbh sbh, cell43_ qx sbp qbp, cell26_ k qbp tbp, cell23_ k qbp sbp, cell24_ k qbp tbp, cell25_ k qbp sbp] H := by rw [eH]; exact hP
  have hD : va_D A [cell30_ qx sx, cell28_ k qx sx, cell29_ k qx sx, cell31_ qx sh qh, cell0_ k qh sh, cell1_ k qh sh, cell4_ k qh sh, cell3_ k qh sh, cell2_ k qh sh, cell44_ qx sbh qbh, cell0_ k qbh sbh, cell1_ k qbh sbh, cell4_ k qbh sbh, cell3_ k qbh sbh, cell2_ k qbh sbh, cell43_ qx sbp qbp, cell26_ k qbp tbp, cell23_ k qbp sbp, cell24_ k qbp tbp, cell25_ k qbp sbp] := hD
  have hS : va_S A s.heap H locs := by rw [eH, el]; exact hS
  suffices goal : W p l e ({ frames := 6, cells := 0, slots := 0, locals := 156 } : Room) s m ([.ref (qx 0), .int p0, .int p1] : List Value).toArray below meth c H locs 0 0 Q (F0 m 0 ls []) by rw [eH, el] at goal; exact goal
  refine lv_iload_n hx hb dX11_without_0 rfl (lv_at hl 1 rfl) ?_
  refine lv_if_lt (tgt := 10) hx hb dX11_without_1 (by decide) (fun c1 => ?_) (fun c1 => ?_)
  · have f1 : p0.toInt < 0 := f_lt rfl (by decide) c1
    refine lv_ldc2 (v := (-2)) hx hb cx.1.2.2.2.1 (cx.1.2.2.2.2 _ kJ_X11_without_205) dX11_without_10 ?_
    rw [hQ]
    exact x_l cx hr ((sbh 0 0), (sbh 0 1), (sbh 1), (sbh 2), (sbh 3), (sbh 4), (sbh 0 6), (sbh 0 7), (sbh 0 8), (sbh 0 9), (sbh 0 10), (sbh 0 11), (sbh 0 12), (sbh 5), (sbp 0 0), (tbp 1), (sbp 2), (tbp 3), (sbp 4), (sx 0 16)) hP hD hS ⟨b_of, b_go, (show (sx 0 16).toInt = -9 ∨ (0 ≤ (sbp 0 0).toInt ∧ (sbp 0 0).toInt ≤ 5) from by omega)⟩ dX11_without_13
  · have f1 : 0 ≤ p0.toInt := f_nlt rfl (by decide) c1
    refine lv_iload_n hx hb dX11_without_4 rfl (lv_at hl 1 rfl) ?_
    refine lv_bipush (v := 15) hx hb dX11_without_5 (by decide) ?_
    refine lv_icmp_le (tgt := 14) hx hb dX11_without_7 (by decide) (fun c2 => ?_) (fun c2 => ?_)
    · have f2 : p0.toInt ≤ 15 := f_le rfl (by decide) c2
      refine lv_aload_n hx hb dX11_without_14 rfl (lv_at hl 0 rfl) ?_
      refine g_get cx hP iw_X11_without_X11 0 rfl rfl 16 (by decide) rfl fw_X11_without_90 rfl dX11_without_15 ?_
      refine lv_iload_n hx hb dX11_without_18 rfl (lv_at hl 1 rfl) ?_
      have hJ50 : ∀ (x50 : Int32) (x51 : Int32) (x52 : Int32) (x53 : Int32) (x54 : Int32) (x55 : Int32) (x56 : Int32) (x57 : Int32) (x58 : Int32) (x59 : Int32) (g60 : Nat → Int32) (g61 : Nat → Int32) (g62 : Nat → Int32) (g63 : Nat → Int32) (g64 : Nat → Int32) (x65 : Int32) (g66 : Nat → Int64) (g67 : Nat → Int32) (g68 : Nat → Int64) (g69 : Nat → Int32) (H : Heap) (locs : List Loc) (ls : Array Slot), (0 ≤ x50.toInt ∧ x50.toInt ≤ 15) → (0 ≤ x65.toInt ∧ x65.toInt ≤ 5) → (∀ j, 0 ≤ (g61 j).toInt ∧ (g61 j).toInt ≤ 4) → (∀ j, 0 ≤ (g62 j).toInt ∧ (g62 j).toInt ≤ 5) → va_P D vwCl [cell136_ qx sx x50, cell28_ k qx sx, cell29_ k qx sx, cell31_ qx sh qh, cell0_ k qh sh, cell1_ k qh sh, cell4_ k qh sh, cell3_ k qh sh, cell2_ k qh sh, cell111_ qx qbh x51 x52 x53 x54 x55 x56 x57 x58 x59, (qbh 1, .inl (k 0, 5, .inl g60)), (qbh 2, .inl (k 0, 5, .inl g61)), (qbh 3, .inl (k 0, 3, .inl g62)), (qbh 4, .inl (k 0, 3, .inl g63)), (qbh 5, .inl (k 0, 525, .inl g64)), cell118_ qx qbp x65, (qbp 1, .inl (k 1, 630, .inr (.inl g66))), (qbp 2, .inl (k 0, 525, .inl g67)), (qbp 3, .inl (k 1, 35, .inr (.inl g68))), (qbp 4, .inl (k 0, 35, .inl g69))] H → va_D A [cell136_ qx sx x50, cell28_ k qx sx, cell29_ k qx sx, cell31_ qx sh qh, cell0_ k qh sh, cell1_ k qh sh, cell4_ k qh sh, cell3_ k qh sh, cell2_ k qh sh, cell111_ qx qbh x51 x52 x53 x54 x55 x56 x57 x58 x59, (qbh 1, .inl (k 0, 5, .inl g60)), (qbh 2, .inl (k 0, 5, .inl g61)), (qbh 3, .inl (k 0, 3, .inl g62)), (qbh 4, .inl (k 0, 3, .inl g63)), (qbh 5, .inl (k 0, 525, .inl g64)), cell118_ qx qbp x65, (qbp 1, .inl (k 1, 630, .inr (.inl g66))), (qbp 2, .inl (k 0, 525, .inl g67)), (qbp 3, .inl (k 1, 35, .inr (.inl g68))), (qbp 4, .inl (k 0, 35, .inl g69))] → va_S A s.heap H locs → lv_has ls 3 [(0, .ref (qx 0)), (2, .int p1)] → W p l e ({ frames := 6, cells := 0, slots := 0, locals := 156 } : Room) s m ([.ref (qx 0), .int p0, .int p1] : List Value).toArray below meth c H locs 0 0 Q (F0 m 50 ls []) := by
        intro x50 x51 x52 x53 x54 x55 x56 x57 x58 x59 g60 g61 g62 g63 g64 x65 g66 g67 g68 g69 H locs ls bx50 bx65 ag61 ag62 hP hD hS hl
        refine lv_aload_n hx hb dX11_without_50 rfl (lv_at hl 0 rfl) ?_
        refine g_get cx hP iw_X11_without_X11 0 rfl rfl 9 (by decide) rfl fw_X11_without_63 rfl dX11_without_51 ?_
        refine lv_iconst (v := 0) hx hb dX11_without_54 (by decide) ?_
        refine lv_iconst (v := 0) hx hb dX11_without_55 (by decide) ?_
        refine lv_iconst (v := 0) hx hb dX11_without_56 (by decide) ?_
        have hlit70 : (0 : Int32).toInt = 0 := by decide
        have hlit71 : (0 : Int32).toInt = 0 := by decide
        have hlit72 : (0 : Int32).toInt = 0 := by decide
        refine g_lr (g_runV (wc := [cell118_ qx qbp x65, (qbp 1, .inl (k 1, 630, .inr (.inl g66))), (qbp 2, .inl (k 0, 525, .inl g67)), (qbp 3, .inl (k 1, 35, .inr (.inl g68))), (qbp 4, .inl (k 0, 35, .inl g69))]) (rest := []) cx hP hD hS [15, 16, 17, 18, 19] rfl (by decide) [.int 0, .int 0, .int 0] (c_X6_leastFrom l D k b (lq [qx 11, qbp 1, qbp 2, qbp 3, qbp 4]) (lS [(lI [x65]), (fun _ => 0), g67, (fun _ => 0), g69]) (lT [(lJ []), g66, (fun _ => 0), g68, (fun _ => 0)]) H.size 0 0 0 (show 0 ≤ (0 : Int32).toInt ∧ (0 : Int32).toInt ≤ 400 ∧ tot (0 : Int32) ≤ 4 from by first | decide | omega) (show 0 ≤ (0 : Int32).toInt ∧ (0 : Int32).toInt ≤ 5 from by first | decide | omega) (show 0 ≤ (0 : Int32).toInt ∧ (0 : Int32).toInt ≤ 2 from by first | decide | omega)) gX11_without_X6_leastFrom rfl rfl rfl nd_X6_leastFrom ⟨Nat.le_of_ble_eq_true rfl, Nat.le_of_ble_eq_true rfl⟩ (ci := 4) (q0 := 0) rfl rfl rfl hl.1 rfl (Nat.le_of_ble_eq_true rfl) ⟨Nat.zero_le _, Nat.zero_le _⟩ dX11_without_57) cx.2.2.1 hP hD hS [15, 16, 17, 18, 19] rfl rfl (fun r74 H locs hw73 hP hS => ?_)
        clear hw73
        refine lv_aload_n hx hb dX11_without_60 rfl (lv_at hl 0 rfl) ?_
        refine g_get cx hP iw_X11_without_X11 0 rfl rfl 9 (by decide) rfl fw_X11_without_63 rfl dX11_without_61 ?_
        refine lv_iconst (v := 0) hx hb dX11_without_64 (by decide) ?_
        have hlit75 : (0 : Int32).toInt = 0 := by decide
        refine g_lr (g_runV (wc := [cell118_ qx qbp x65, (qbp 1, .inl (k 1, 630, .inr (.inl g66))), (qbp 2, .inl (k 0, 525, .inl g67)), (qbp 3, .inl (k 1, 35, .inr (.inl g68))), (qbp 4, .inl (k 0, 35, .inl g69))]) (rest := [.long r74]) cx hP hD hS [15, 16, 17, 18, 19] rfl (by decide) [.int 0] (c_X6_scale l D k b (lq [qx 11, qbp 1, qbp 2, qbp 3, qbp 4]) (lS [(lI [x65]), (fun _ => 0), g67, (fun _ => 0), g69]) (lT [(lJ []), g66, (fun _ => 0), g68, (fun _ => 0)]) H.size 0 (show 0 ≤ x65.toInt ∧ x65.toInt ≤ 5 from by first | decide | omega) (show (0 : Int32).toInt ≤ x65.toInt from by first | decide | omega) (show 0 ≤ (0 : Int32).toInt ∧ (0 : Int32).toInt ≤ 5 from by first | decide | omega)) gX11_without_X6_scale rfl rfl rfl nd_X6_scale ⟨Nat.le_of_ble_eq_true rfl, Nat.le_of_ble_eq_true rfl⟩ (ci := 4) (q0 := 0) rfl rfl rfl hl.1 rfl (Nat.le_of_ble_eq_true rfl) ⟨Nat.zero_le _, Nat.zero_le _⟩ dX11_without_65) cx.2.2.1 hP hD hS [15, 16, 17, 18, 19] rfl rfl (fun r77 H locs hw76 hP hS => ?_)
        clear hw76
        refine lv_iload_n hx hb dX11_without_68 rfl (lv_at hl 1 rfl) ?_
        refine g_lr (g_runS (wc := []) (rest := []) cx hP hD hS [] rfl (by decide) [.long r74, .long r77, .int p1] (c_X11_told l D k b H.size r74 r77 p1) gX11_without_X11_told rfl rfl rfl nd_X11_told ⟨Nat.le_of_ble_eq_true rfl, Nat.le_of_ble_eq_true rfl⟩ rfl hl.1 rfl (Nat.le_of_ble_eq_true rfl) ⟨Nat.zero_le _, Nat.zero_le _⟩ dX11_without_69) cx.2.2.1 hP hD hS [] rfl rfl (fun r79 H locs hw78 hP hS => ?_)
        have w80 : r79 = J_X11_told r74 r77 p1 := hw78
        clear hw78
        have k82 : r79 = (J_X11_told r74 r77 p1) := congrArg (fun z => z) w80
        rw [hQ]
        exact x_l cx hr (x51, x52, g60, g61, g62, g63, x53, x54, x55, x56, x57, x58, x59, g64, x65, g66, g67, g68, g69, x50) hP hD hS ⟨ag61, ag62, (show x50.toInt = -9 ∨ (0 ≤ x65.toInt ∧ x65.toInt ≤ 5) from by omega)⟩ dX11_without_72
      refine lv_icmp_eq (tgt := 50) hx hb dX11_without_19 (by decide) (fun c83 => ?_) (fun c83 => ?_)
      · have f83 : (sx 0 16).toInt = p0.toInt := f_eq rfl rfl c83
        exact hJ50 (sx 0 16) (sbh 0 0) (sbh 0 1) (sbh 0 6) (sbh 0 7) (sbh 0 8) (sbh 0 9) (sbh 0 10) (sbh 0 11) (sbh 0 12) (sbh 1) (sbh 2) (sbh 3) (sbh 4) (sbh 5) (sbp 0 0) (tbp 1) (sbp 2) (tbp 3) (sbp 4) _ _ _ (by first | decide | omega) (by first | decide | omega) b_of b_go hP hD hS (lv_sub hl [0, 2] rfl)
      · have f83 : ¬ (sx 0 16).toInt = p0.toInt := f_ne rfl rfl c83
        refine lv_aload_n hx hb dX11_without_22 rfl (lv_at hl 0 rfl) ?_
        refine g_get cx hP iw_X11_without_X11 0 rfl rfl 5 (by decide) rfl fw_X11_without_42 rfl dX11_without_23 ?_
        refine lv_aload_n hx hb dX11_without_26 rfl (lv_at hl 0 rfl) ?_
        refine g_get cx hP iw_X11_without_X11 0 rfl rfl 4 (by decide) rfl fw_X11_without_39 rfl dX11_without_27 ?_
        refine lv_iload_n hx hb dX11_without_30 rfl (lv_at hl 1 rfl) ?_
        refine g_v (w1 := fun (u : Int32 × Int32 × (Nat → Int32) × (Nat → Int32) × (Nat → Int32) × (Nat → Int32) × Int32 × Int32 × Int32 × Int32 × Int32 × Int32 × Int32 × (Nat → Int32)) => [cell111_ qx qbh (u.1) (u.2.1) (u.2.2.2.2.2.2.1) (u.2.2.2.2.2.2.2.1) (u.2.2.2.2.2.2.2.2.1) (u.2.2.2.2.2.2.2.2.2.1) (u.2.2.2.2.2.2.2.2.2.2.1) (u.2.2.2.2.2.2.2.2.2.2.2.1) (u.2.2.2.2.2.2.2.2.2.2.2.2.1), cell85_ k qbh (u.2.2.1), cell97_ k qbh (u.2.2.2.1), cell102_ k qbh (u.2.2.2.2.1), cell103_ k qbh (u.2.2.2.2.2.1), cell164_ k qbh (u.2.2.2.2.2.2.2.2.2.2.2.2.2), cell31_ qx sh qh, cell0_ k qh sh, cell1_ k qh sh, cell4_ k qh sh, cell3_ k qh sh, cell2_ k qh sh]) (g_runV (wc := [cell44_ qx sbh qbh, cell0_ k qbh sbh, cell1_ k qbh sbh, cell4_ k qbh sbh, cell3_ k qbh sbh, cell2_ k qbh sbh, cell31_ qx sh qh, cell0_ k qh sh, cell1_ k qh sh, cell4_ k qh sh, cell3_ k qh sh, cell2_ k qh sh]) (rest := []) cx hP hD hS [9, 10, 11, 12, 13, 14, 3, 4, 5, 6, 7, 8] rfl (by decide) [.ref (qx 7), .int p0] (c_X4_copy l D k b (lq [qx 8, qbh 1, qbh 2, qbh 3, qbh 4, qbh 5]) (lS [(lI [(sbh 0 0), (sbh 0 1), 0, 0, 0, 0, (sbh 0 6), (sbh 0 7), (sbh 0 8), (sbh 0 9), (sbh 0 10), (sbh 0 11), (sbh 0 12)]), (sbh 1), (sbh 2), (sbh 3), (sbh 4), (sbh 5)]) (lq [qx 7, qh 1, qh 2, qh 3, qh 4, qh 5]) (lS [(lI [(sh 0 0), (sh 0 1), 0, 0, 0, 0, (sh 0 6), (sh 0 7), (sh 0 8), (sh 0 9), (sh 0 10), (sh 0 11), (sh 0 12)]), (sh 1), (sh 2), (sh 3), (sh 4), (sh 5)]) H.size p0 (show 0 ≤ (sh 0 0).toInt ∧ (sh 0 0).toInt ≤ 5 from by first | decide | omega) (show 0 ≤ (sh 0 1).toInt ∧ (sh 0 1).toInt ≤ 4 from by first | decide | omega) (show 0 ≤ (sh 0 12).toInt ∧ (sh 0 12).toInt ≤ 5 from by first | decide | omega) h_of h_go b_of b_go) gX11_without_X4_copy rfl rfl rfl nd_X4_copy ⟨Nat.le_of_ble_eq_true rfl, Nat.le_of_ble_eq_true rfl⟩ (ci := 2) (q0 := 0) rfl rfl rfl hl.1 rfl (Nat.le_of_ble_eq_true rfl) ⟨Nat.zero_le _, Nat.zero_le _⟩ dX11_without_31) cx.2.2.1 hP hD hS [9, 10, 11, 12, 13, 14, 3, 4, 5, 6, 7, 8] rfl (fun _ => rfl) (fun u85 H locs hw84 hP hD hS => ?_)
        obtain ⟨m86, m87, m88, m89, m90, m91, m92, m93, m94, m95, m96, m97, m98, m99⟩ := u85
        have hP : va_P D vwCl [cell30_ qx sx, cell28_ k qx sx, cell29_ k qx sx, cell31_ qx sh qh, cell0_ k qh sh, cell1_ k qh sh, cell4_ k qh sh, cell3_ k qh sh, cell2_ k qh sh, cell111_ qx qbh m86 m87 m92 m93 m94 m95 m96 m97 m98, (qbh 1, .inl (k 0, 5, .inl m88)), (qbh 2, .inl (k 0, 5, .inl m89)), (qbh 3, .inl (k 0, 3, .inl m90)), (qbh 4, .inl (k 0, 3, .inl m91)), (qbh 5, .inl (k 0, 525, .inl m99)), cell43_ qx sbp qbp, cell26_ k qbp tbp, cell23_ k qbp sbp, cell24_ k qbp tbp, cell25_ k qbp sbp] H := hP
        have hD : va_D A [cell30_ qx sx, cell28_ k qx sx, cell29_ k qx sx, cell31_ qx sh qh, cell0_ k qh sh, cell1_ k qh sh, cell4_ k qh sh, cell3_ k qh sh, cell2_ k qh sh, cell111_ qx qbh m86 m87 m92 m93 m94 m95 m96 m97 m98, (qbh 1, .inl (k 0, 5, .inl m88)), (qbh 2, .inl (k 0, 5, .inl m89)), (qbh 3, .inl (k 0, 3, .inl m90)), (qbh 4, .inl (k 0, 3, .inl m91)), (qbh 5, .inl (k 0, 525, .inl m99)), cell43_ qx sbp qbp, cell26_ k qbp tbp, cell23_ k qbp sbp, cell24_ k qbp tbp, cell25_ k qbp sbp] := hD
        replace hw84 : (0 ≤ m86.toInt ∧ m86.toInt ≤ 5) ∧ (0 ≤ m87.toInt ∧ m87.toInt ≤ 4) ∧ (0 ≤ m98.toInt ∧ m98.toInt ≤ 5) ∧ (∀ j, 0 ≤ (m89 j).toInt ∧ (m89 j).toInt ≤ 4) ∧ (∀ j, 0 ≤ (m90 j).toInt ∧ (m90 j).toInt ≤ 5) ∧ (SUok m99) ∧ (m86.toInt = (sh 0 0).toInt) ∧ ((m86, m87, m88, m89, m90, m91, m92, m93, m94, m95, m96, m97, m98, m99) = J_X4_copy (lS [(lI [(sbh 0 0), (sbh 0 1), 0, 0, 0, 0, (sbh 0 6), (sbh 0 7), (sbh 0 8), (sbh 0 9), (sbh 0 10), (sbh 0 11), (sbh 0 12)]), (sbh 1), (sbh 2), (sbh 3), (sbh 4), (sbh 5)]) (lS [(lI [(sh 0 0), (sh 0 1), 0, 0, 0, 0, (sh 0 6), (sh 0 7), (sh 0 8), (sh 0 9), (sh 0 10), (sh 0 11), (sh 0 12)]), (sh 1), (sh 2), (sh 3), (sh 4), (sh 5)]) p0) := hw84
        obtain ⟨w100, w101, w102, w103, w104, w105, w106, w107⟩ := hw84
        have k109 : m86 = ((J_X4_copy (lS [(lI [(sbh 0 0), (sbh 0 1), 0, 0, 0, 0, (sbh 0 6), (sbh 0 7), (sbh 0 8), (sbh 0 9), (sbh 0 10), (sbh 0 11), (sbh 0 12)]), (sbh 1), (sbh 2), (sbh 3), (sbh 4), (sbh 5)]) (lS [(lI [(sh 0 0), (sh 0 1), 0, 0, 0, 0, (sh 0 6), (sh 0 7), (sh 0 8), (sh 0 9), (sh 0 10), (sh 0 11), (sh 0 12)]), (sh 1), (sh 2), (sh 3), (sh 4), (sh 5)]) p0).1) := congrArg (fun z => (z.1)) w107
        have k110 : m87 = ((J_X4_copy (lS [(lI [(sbh 0 0), (sbh 0 1), 0, 0, 0, 0, (sbh 0 6), (sbh 0 7), (sbh 0 8), (sbh 0 9), (sbh 0 10), (sbh 0 11), (sbh 0 12)]), (sbh 1), (sbh 2), (sbh 3), (sbh 4), (sbh 5)]) (lS [(lI [(sh 0 0), (sh 0 1), 0, 0, 0, 0, (sh 0 6), (sh 0 7), (sh 0 8), (sh 0 9), (sh 0 10), (sh 0 11), (sh 0 12)]), (sh 1), (sh 2), (sh 3), (sh 4), (sh 5)]) p0).2.1) := congrArg (fun z => (z.2.1)) w107
        have k111 : m88 = ((J_X4_copy (lS [(lI [(sbh 0 0), (sbh 0 1), 0, 0, 0, 0, (sbh 0 6), (sbh 0 7), (sbh 0 8), (sbh 0 9), (sbh 0 10), (sbh 0 11), (sbh 0 12)]), (sbh 1), (sbh 2), (sbh 3), (sbh 4), (sbh 5)]) (lS [(lI [(sh 0 0), (sh 0 1), 0, 0, 0, 0, (sh 0 6), (sh 0 7), (sh 0 8), (sh 0 9), (sh 0 10), (sh 0 11), (sh 0 12)]), (sh 1), (sh 2), (sh 3), (sh 4), (sh 5)]) p0).2.2.1) := congrArg (fun z => (z.2.2.1)) w107
        have k112 : m89 = ((J_X4_copy (lS [(lI [(sbh 0 0), (sbh 0 1), 0, 0, 0, 0, (sbh 0 6), (sbh 0 7), (sbh 0 8), (sbh 0 9), (sbh 0 10), (sbh 0 11), (sbh 0 12)]), (sbh 1), (sbh 2), (sbh 3), (sbh 4), (sbh 5)]) (lS [(lI [(sh 0 0), (sh 0 1), 0, 0, 0, 0, (sh 0 6), (sh 0 7), (sh 0 8), (sh 0 9), (sh 0 10), (sh 0 11), (sh 0 12)]), (sh 1), (sh 2), (sh 3), (sh 4), (sh 5)]) p0).2.2.2.1) := congrArg (fun z => (z.2.2.2.1)) w107
        have k113 : m90 = ((J_X4_copy (lS [(lI [(sbh 0 0), (sbh 0 1), 0, 0, 0, 0, (sbh 0 6), (sbh 0 7), (sbh 0 8), (sbh 0 9), (sbh 0 10), (sbh 0 11), (sbh 0 12)]), (sbh 1), (sbh 2), (sbh 3), (sbh 4), (sbh 5)]) (lS [(lI [(sh 0 0), (sh 0 1), 0, 0, 0, 0, (sh 0 6), (sh 0 7), (sh 0 8), (sh 0 9), (sh 0 10), (sh 0 11), (sh 0 12)]), (sh 1), (sh 2), (sh 3), (sh 4), (sh 5)]) p0).2.2.2.2.1) := congrArg (fun z => (z.2.2.2.2.1)) w107
        have k114 : m91 = ((J_X4_copy (lS [(lI [(sbh 0 0), (sbh 0 1), 0, 0, 0, 0, (sbh 0 6), (sbh 0 7), (sbh 0 8), (sbh 0 9), (sbh 0 10), (sbh 0 11), (sbh 0 12)]), (sbh 1), (sbh 2), (sbh 3), (sbh 4), (sbh 5)]) (lS [(lI [(sh 0 0), (sh 0 1), 0, 0, 0, 0, (sh 0 6), (sh 0 7), (sh 0 8), (sh 0 9), (sh 0 10), (sh 0 11), (sh 0 12)]), (sh 1), (sh 2), (sh 3), (sh 4), (sh 5)]) p0).2.2.2.2.2.1) := congrArg (fun z => (z.2.2.2.2.2.1)) w107
        have k115 : m92 = ((J_X4_copy (lS [(lI [(sbh 0 0), (sbh 0 1), 0, 0, 0, 0, (sbh 0 6), (sbh 0 7), (sbh 0 8), (sbh 0 9), (sbh 0 10), (sbh 0 11), (sbh 0 12)]), (sbh 1), (sbh 2), (sbh 3), (sbh 4), (sbh 5)]) (lS [(lI [(sh 0 0), (sh 0 1), 0, 0, 0, 0, (sh 0 6), (sh 0 7), (sh 0 8), (sh 0 9), (sh 0 10), (sh 0 11), (sh 0 12)]), (sh 1), (sh 2), (sh 3), (sh 4), (sh 5)]) p0).2.2.2.2.2.2.1) := congrArg (fun z => (z.2.2.2.2.2.2.1)) w107
        have k116 : m93 = ((J_X4_copy (lS [(lI [(sbh 0 0), (sbh 0 1), 0, 0, 0, 0, (sbh 0 6), (sbh 0 7), (sbh 0 8), (sbh 0 9), (sbh 0 10), (sbh 0 11), (sbh 0 12)]), (sbh 1), (sbh 2), (sbh 3), (sbh 4), (sbh 5)]) (lS [(lI [(sh 0 0), (sh 0 1), 0, 0, 0, 0, (sh 0 6), (sh 0 7), (sh 0 8), (sh 0 9), (sh 0 10), (sh 0 11), (sh 0 12)]), (sh 1), (sh 2), (sh 3), (sh 4), (sh 5)]) p0).2.2.2.2.2.2.2.1) := congrArg (fun z => (z.2.2.2.2.2.2.2.1)) w107
        have k117 : m94 = ((J_X4_copy (lS [(lI [(sbh 0 0), (sbh 0 1), 0, 0, 0, 0, (sbh 0 6), (sbh 0 7), (sbh 0 8), (sbh 0 9), (sbh 0 10), (sbh 0 11), (sbh 0 12)]), (sbh 1), (sbh 2), (sbh 3), (sbh 4), (sbh 5)]) (lS [(lI [(sh 0 0), (sh 0 1), 0, 0, 0, 0, (sh 0 6), (sh 0 7), (sh 0 8), (sh 0 9), (sh 0 10), (sh 0 11), (sh 0 12)]), (sh 1), (sh 2), (sh 3), (sh 4), (sh 5)]) p0).2.2.2.2.2.2.2.2.1) := congrArg (fun z => (z.2.2.2.2.2.2.2.2.1)) w107
        have k118 : m95 = ((J_X4_copy (lS [(lI [(sbh 0 0), (sbh 0 1), 0, 0, 0, 0, (sbh 0 6), (sbh 0 7), (sbh 0 8), (sbh 0 9), (sbh 0 10), (sbh 0 11), (sbh 0 12)]), (sbh 1), (sbh 2), (sbh 3), (sbh 4), (sbh 5)]) (lS [(lI [(sh 0 0), (sh 0 1), 0, 0, 0, 0, (sh 0 6), (sh 0 7), (sh 0 8), (sh 0 9), (sh 0 10), (sh 0 11), (sh 0 12)]), (sh 1), (sh 2), (sh 3), (sh 4), (sh 5)]) p0).2.2.2.2.2.2.2.2.2.1) := congrArg (fun z => (z.2.2.2.2.2.2.2.2.2.1)) w107
        have k119 : m96 = ((J_X4_copy (lS [(lI [(sbh 0 0), (sbh 0 1), 0, 0, 0, 0, (sbh 0 6), (sbh 0 7), (sbh 0 8), (sbh 0 9), (sbh 0 10), (sbh 0 11), (sbh 0 12)]), (sbh 1), (sbh 2), (sbh 3), (sbh 4), (sbh 5)]) (lS [(lI [(sh 0 0), (sh 0 1), 0, 0, 0, 0, (sh 0 6), (sh 0 7), (sh 0 8), (sh 0 9), (sh 0 10), (sh 0 11), (sh 0 12)]), (sh 1), (sh 2), (sh 3), (sh 4), (sh 5)]) p0).2.2.2.2.2.2.2.2.2.2.1) := congrArg (fun z => (z.2.2.2.2.2.2.2.2.2.2.1)) w107
        have k120 : m97 = ((J_X4_copy (lS [(lI [(sbh 0 0), (sbh 0 1), 0, 0, 0, 0, (sbh 0 6), (sbh 0 7), (sbh 0 8), (sbh 0 9), (sbh 0 10), (sbh 0 11), (sbh 0 12)]), (sbh 1), (sbh 2), (sbh 3), (sbh 4), (sbh 5)]) (lS [(lI [(sh 0 0), (sh 0 1), 0, 0, 0, 0, (sh 0 6), (sh 0 7), (sh 0 8), (sh 0 9), (sh 0 10), (sh 0 11), (sh 0 12)]), (sh 1), (sh 2), (sh 3), (sh 4), (sh 5)]) p0).2.2.2.2.2.2.2.2.2.2.2.1) := congrArg (fun z => (z.2.2.2.2.2.2.2.2.2.2.2.1)) w107
        have k121 : m98 = ((J_X4_copy (lS [(lI [(sbh 0 0), (sbh 0 1), 0, 0, 0, 0, (sbh 0 6), (sbh 0 7), (sbh 0 8), (sbh 0 9), (sbh 0 10), (sbh 0 11), (sbh 0 12)]), (sbh 1), (sbh 2), (sbh 3), (sbh 4), (sbh 5)]) (lS [(lI [(sh 0 0), (sh 0 1), 0, 0, 0, 0, (sh 0 6), (sh 0 7), (sh 0 8), (sh 0 9), (sh 0 10), (sh 0 11), (sh 0 12)]), (sh 1), (sh 2), (sh 3), (sh 4), (sh 5)]) p0).2.2.2.2.2.2.2.2.2.2.2.2.1) := congrArg (fun z => (z.2.2.2.2.2.2.2.2.2.2.2.2.1)) w107
        have k122 : m99 = ((J_X4_copy (lS [(lI [(sbh 0 0), (sbh 0 1), 0, 0, 0, 0, (sbh 0 6), (sbh 0 7), (sbh 0 8), (sbh 0 9), (sbh 0 10), (sbh 0 11), (sbh 0 12)]), (sbh 1), (sbh 2), (sbh 3), (sbh 4), (sbh 5)]) (lS [(lI [(sh 0 0), (sh 0 1), 0, 0, 0, 0, (sh 0 6), (sh 0 7), (sh 0 8), (sh 0 9), (sh 0 10), (sh 0 11), (sh 0 12)]), (sh 1), (sh 2), (sh 3), (sh 4), (sh 5)]) p0).2.2.2.2.2.2.2.2.2.2.2.2.2) := congrArg (fun z => (z.2.2.2.2.2.2.2.2.2.2.2.2.2)) w107
        refine lv_aload_n hx hb dX11_without_34 rfl (lv_at hl 0 rfl) ?_
        refine g_get cx hP iw_X11_without_X11 0 rfl rfl 9 (by decide) rfl fw_X11_without_63 rfl dX11_without_35 ?_
        refine lv_aload_n hx hb dX11_without_38 rfl (lv_at hl 0 rfl) ?_
        refine g_get cx hP iw_X11_without_X11 0 rfl rfl 5 (by decide) rfl fw_X11_without_42 rfl dX11_without_39 ?_
        refine g_v (w1 := fun (u : Int32 × (Nat → Int64) × (Nat → Int32) × (Nat → Int64) × (Nat → Int32)) => [cell118_ qx qbp (u.1), cell108_ k qbp (u.2.1), cell109_ k qbp (u.2.2.1), cell115_ k qbp (u.2.2.2.1), cell116_ k qbp (u.2.2.2.2), cell111_ qx qbh m86 m87 m92 m93 m94 m95 m96 m97 m98, (qbh 1, .inl (k 0, 5, .inl m88)), (qbh 2, .inl (k 0, 5, .inl m89)), (qbh 3, .inl (k 0, 3, .inl m90)), (qbh 4, .inl (k 0, 3, .inl m91)), (qbh 5, .inl (k 0, 525, .inl m99))]) (g_runV (wc := [cell43_ qx sbp qbp, cell26_ k qbp tbp, cell23_ k qbp sbp, cell24_ k qbp tbp, cell25_ k qbp sbp, cell111_ qx qbh m86 m87 m92 m93 m94 m95 m96 m97 m98, (qbh 1, .inl (k 0, 5, .inl m88)), (qbh 2, .inl (k 0, 5, .inl m89)), (qbh 3, .inl (k 0, 3, .inl m90)), (qbh 4, .inl (k 0, 3, .inl m91)), (qbh 5, .inl (k 0, 525, .inl m99))]) (rest := []) cx hP hD hS [15, 16, 17, 18, 19, 9, 10, 11, 12, 13, 14] rfl (by decide) [.ref (qx 8)] (c_X6_solve l D k b (lq [qx 11, qbp 1, qbp 2, qbp 3, qbp 4]) (lS [(lI [(sbp 0 0)]), (fun _ => 0), (sbp 2), (fun _ => 0), (sbp 4)]) (lT [(lJ []), (tbp 1), (fun _ => 0), (tbp 3), (fun _ => 0)]) (lq [qx 8, qbh 1, qbh 2, qbh 3, qbh 4, qbh 5]) (lS [(lI [m86, m87, 0, 0, 0, 0, m92, m93, m94, m95, m96, m97, m98]), m88, m89, m90, m91, m99]) H.size (show SUok m99 from by assumption) (show 0 ≤ m86.toInt ∧ m86.toInt ≤ 5 from by first | decide | omega) (show 0 ≤ m87.toInt ∧ m87.toInt ≤ 4 from by first | decide | omega) w103) gX11_without_X6_solve rfl rfl rfl nd_X6_solve ⟨Nat.le_of_ble_eq_true rfl, Nat.le_of_ble_eq_true rfl⟩ (ci := 4) (q0 := 0) rfl rfl rfl hl.1 rfl (Nat.le_of_ble_eq_true rfl) ⟨Nat.zero_le _, Nat.zero_le _⟩ dX11_without_42) cx.2.2.1 hP hD hS [15, 16, 17, 18, 19, 9, 10, 11, 12, 13, 14] rfl (fun _ => rfl) (fun u124 H locs hw123 hP hD hS => ?_)
        obtain ⟨m125, m126, m127, m128, m129⟩ := u124
        have hP : va_P D vwCl [cell30_ qx sx, cell28_ k qx sx, cell29_ k qx sx, cell31_ qx sh qh, cell0_ k qh sh, cell1_ k qh sh, cell4_ k qh sh, cell3_ k qh sh, cell2_ k qh sh, cell111_ qx qbh m86 m87 m92 m93 m94 m95 m96 m97 m98, (qbh 1, .inl (k 0, 5, .inl m88)), (qbh 2, .inl (k 0, 5, .inl m89)), (qbh 3, .inl (k 0, 3, .inl m90)), (qbh 4, .inl (k 0, 3, .inl m91)), (qbh 5, .inl (k 0, 525, .inl m99)), cell118_ qx qbp m125, (qbp 1, .inl (k 1, 630, .inr (.inl m126))), (qbp 2, .inl (k 0, 525, .inl m127)), (qbp 3, .inl (k 1, 35, .inr (.inl m128))), (qbp 4, .inl (k 0, 35, .inl m129))] H := hP
        have hD : va_D A [cell30_ qx sx, cell28_ k qx sx, cell29_ k qx sx, cell31_ qx sh qh, cell0_ k qh sh, cell1_ k qh sh, cell4_ k qh sh, cell3_ k qh sh, cell2_ k qh sh, cell111_ qx qbh m86 m87 m92 m93 m94 m95 m96 m97 m98, (qbh 1, .inl (k 0, 5, .inl m88)), (qbh 2, .inl (k 0, 5, .inl m89)), (qbh 3, .inl (k 0, 3, .inl m90)), (qbh 4, .inl (k 0, 3, .inl m91)), (qbh 5, .inl (k 0, 525, .inl m99)), cell118_ qx qbp m125, (qbp 1, .inl (k 1, 630, .inr (.inl m126))), (qbp 2, .inl (k 0, 525, .inl m127)), (qbp 3, .inl (k 1, 35, .inr (.inl m128))), (qbp 4, .inl (k 0, 35, .inl m129))] := hD
        have w130 : m125.toInt = m86.toInt := hw123
        clear hw123
        refine lv_aload_n hx hb dX11_without_45 rfl (lv_at hl 0 rfl) ?_
        refine lv_iload_n hx hb dX11_without_46 rfl (lv_at hl 1 rfl) ?_
        refine g_pt cx hP hD hS iw_X11_without_X11 tyX11 tyX11_ok nmX11 0 rfl rfl 16 (by decide) rfl fw_X11_without_90 (ty := .int) rfl rfl rfl (Nat.le_of_ble_eq_true rfl) dX11_without_47 (fun H locs hP hD hS => ?_)
        have hP : va_P D vwCl [cell136_ qx sx p0, cell28_ k qx sx, cell29_ k qx sx, cell31_ qx sh qh, cell0_ k qh sh, cell1_ k qh sh, cell4_ k qh sh, cell3_ k qh sh, cell2_ k qh sh, cell111_ qx qbh m86 m87 m92 m93 m94 m95 m96 m97 m98, (qbh 1, .inl (k 0, 5, .inl m88)), (qbh 2, .inl (k 0, 5, .inl m89)), (qbh 3, .inl (k 0, 3, .inl m90)), (qbh 4, .inl (k 0, 3, .inl m91)), (qbh 5, .inl (k 0, 525, .inl m99)), cell118_ qx qbp m125, (qbp 1, .inl (k 1, 630, .inr (.inl m126))), (qbp 2, .inl (k 0, 525, .inl m127)), (qbp 3, .inl (k 1, 35, .inr (.inl m128))), (qbp 4, .inl (k 0, 35, .inl m129))] H := hP
        have hD : va_D A [cell136_ qx sx p0, cell28_ k qx sx, cell29_ k qx sx, cell31_ qx sh qh, cell0_ k qh sh, cell1_ k qh sh, cell4_ k qh sh, cell3_ k qh sh, cell2_ k qh sh, cell111_ qx qbh m86 m87 m92 m93 m94 m95 m96 m97 m98, (qbh 1, .inl (k 0, 5, .inl m88)), (qbh 2, .inl (k 0, 5, .inl m89)), (qbh 3, .inl (k 0, 3, .inl m90)), (qbh 4, .inl (k 0, 3, .inl m91)), (qbh 5, .inl (k 0, 525, .inl m99)), cell118_ qx qbp m125, (qbp 1, .inl (k 1, 630, .inr (.inl m126))), (qbp 2, .inl (k 0, 525, .inl m127)), (qbp 3, .inl (k 1, 35, .inr (.inl m128))), (qbp 4, .inl (k 0, 35, .inl m129))] := hD
        exact hJ50 p0 m86 m87 m92 m93 m94 m95 m96 m97 m98 m88 m89 m90 m91 m99 m125 m126 m127 m128 m129 _ _ _ (by first | decide | omega) (by first | decide | omega) w103 w104 hP hD hS (lv_sub hl [0, 2] rfl)
    · have f2 : 15 < p0.toInt := f_nle rfl (by decide) c2
      refine lv_ldc2 (v := (-2)) hx hb cx.1.2.2.2.1 (cx.1.2.2.2.2 _ kJ_X11_without_205) dX11_without_10 ?_
      rw [hQ]
      exact x_l cx hr ((sbh 0 0), (sbh 0 1), (sbh 1), (sbh 2), (sbh 3), (sbh 4), (sbh 0 6), (sbh 0 7), (sbh 0 8), (sbh 0 9), (sbh 0 10), (sbh 0 11), (sbh 0 12), (sbh 5), (sbp 0 0), (tbp 1), (sbp 2), (tbp 3), (sbp 4), (sx 0 16)) hP hD hS ⟨b_of, b_go, (show (sx 0 16).toInt = -9 ∨ (0 ≤ (sbp 0 0).toInt ∧ (sbp 0 0).toInt ≤ 5) from by omega)⟩ dX11_without_13
