theorem fw_X4_putMeans_51 : Cond.fieldLink RX4 51 "StillInAugust$House" "letGoPrice" "I" ∈ wsX4_putMeans := by decide +kernel
theorem fw_X4_putMeans_54 : Cond.fieldLink RX4 54 "StillInAugust$House" "teachPrice" "I" ∈ wsX4_putMeans := by decide +kernel
theorem fw_X4_putMeans_57 : Cond.fieldLink RX4 57 "StillInAugust$House" "agencyPrice" "I" ∈ wsX4_putMeans := by decide +kernel
theorem fw_X4_putMeans_60 : Cond.fieldLink RX4 60 "StillInAugust$House" "bonus" "I" ∈ wsX4_putMeans := by decide +kernel
theorem fw_X4_putMeans_63 : Cond.fieldLink RX4 63 "StillInAugust$House" "fifthsLess" "I" ∈ wsX4_putMeans := by decide +kernel
theorem iw_X4_putMeans_X4 : ∀ w ∈ u_ws RX4 TX4 14, w ∈ wsX4_putMeans := fun _ h => List.mem_cons_of_mem _ (List.mem_append_right _ h)
def J_X4_putMeans (sh : Nat → Nat → Int32) (p0 : Int32) (p1 : Int32) (p2 : Int32) : Int32 × Int32 × Int32 × Int32 × Int32 := if p0 = 65 then ((sh 0 8), (sh 0 9), p1, (sh 0 11), (sh 0 12)) else if p0 = 66 then ((sh 0 8), (sh 0 9), (sh 0 10), p1, p2) else if p0 = 71 then (p1, (sh 0 9), (sh 0 10), (sh 0 11), (sh 0 12)) else if p0 = 84 then ((sh 0 8), p1, (sh 0 10), (sh 0 11), (sh 0 12)) else ((sh 0 8), (sh 0 9), (sh 0 10), (sh 0 11), (sh 0 12))
set_option maxHeartbeats 4000000 in
set_option maxRecDepth 100000 in
theorem c_X4_putMeans (l : Launch) (D : va_G) (k : Nat → ClassId) (b : Nat → Nat) (qh : Nat → Nat) (sh : Nat → Nat → Int32) (sz : Nat) (p0 : Int32) (p1 : Int32) (p2 : Int32) (h_fl : 0 ≤ (sh 0 12).toInt ∧ (sh 0 12).toInt ≤ 5) (hs : ¬ p0.toInt = 66 ∨ (0 ≤ p2.toInt ∧ p2.toInt ≤ 5)) : MetV l D k b yX4_putMeans wsX4_putMeans ({ frames := 0, cells := 0, slots := 0, locals := 0 } : Room) [cell32_ qh sh, cell0_ k qh sh, cell1_ k qh sh, cell4_ k qh sh, cell3_ k qh sh, cell2_ k qh sh] sz [.ref (qh 0), .int p0, .int p1, .int p2] (fun (u : Int32 × Int32 × Int32 × Int32 × Int32) => (0 ≤ (u.2.2.2.2).toInt ∧ (u.2.2.2.2).toInt ≤ 5) ∧ (((u.1), (u.2.1), (u.2.2.1), (u.2.2.2.1), (u.2.2.2.2)) = J_X4_putMeans sh p0 p1 p2)) (fun u => [cell82_ qh sh (u.1) (u.2.1) (u.2.2.1) (u.2.2.2.1) (u.2.2.2.2), cell0_ k qh sh, cell1_ k qh sh, cell4_ k qh sh, cell3_ k qh sh, cell2_ k qh sh]) := by
  refine g_enter (cc := cX4_putMeans) (maxL := 4) (ret := none) (by decide) rfl (Nat.le_of_ble_eq_true rfl) ?_
  intro p e s m below meth c A hsz hAe cx hr hP hD hS ls hl
  rw [hAe]
  refine g_q (fun Q hQ => ?_)
  have hx := cx.1.1
  have hb := cx.1.2.1
  have bp0 := i_rng p0
  have bp1 := i_rng p1
  have bp2 := i_rng p2
  have hl : lv_has ls 4 [(0, .ref (qh 0)), (1, .int p0), (2, .int p1), (3, .int p2)] := hl
  obtain ⟨H, eH⟩ : ∃ H : Heap, H = s.heap := ⟨_, rfl⟩
  obtain ⟨locs, el⟩ : ∃ L : List Loc, L = [] := ⟨_, rfl⟩
  have hP : va_P D vwCl [cell32_ qh sh, cell0_ k qh sh, cell1_ k qh sh, cell4_ k qh sh, cell3_ k qh sh, cell2_ k qh sh] H := by rw [eH]; exact hP
  have hD : va_D A [cell32_ qh sh, cell0_ k qh sh, cell1_ k qh sh, cell4_ k qh sh, cell3_ k qh sh, cell2_ k qh sh] := hD
  have hS : va_S A s.heap H locs := by rw [eH, el]; exact hS
  suffices goal : W p l e ({ frames := 0, cells := 0, slots := 0, locals := 0 } : Room) s m ([.ref (qh 0), .int p0, .int p1, .int p2] : List Value).toArray below meth c H locs 0 0 Q (F0 m 0 ls []) by rw [eH, el] at goal; exact goal
  refine lv_iload_n hx hb dX4_putMeans_0 rfl (lv_at hl 1 rfl) ?_
  by_cases c1 : p0 = 65
  · refine lv_lookup (tgt := 60) (off := 59) hx hb dX4_putMeans_1 (by decide) (by rw [c1]; decide) (by decide) ?_
    have f1 : p0.toInt = 65 := f_eq rfl (by decide) c1
    refine lv_aload_n hx hb dX4_putMeans_60 rfl (lv_at hl 0 rfl) ?_
    refine lv_iload_n hx hb dX4_putMeans_61 rfl (lv_at hl 2 rfl) ?_
    refine g_pt cx hP hD hS iw_X4_putMeans_X4 tyX4 tyX4_ok nmX4 0 rfl rfl 10 (by decide) rfl fw_X4_putMeans_57 (ty := .int) rfl rfl rfl (Nat.le_of_ble_eq_true rfl) dX4_putMeans_62 (fun H locs hP hD hS => ?_)
    have hP : va_P D vwCl [cell157_ qh sh p1, cell0_ k qh sh, cell1_ k qh sh, cell4_ k qh sh, cell3_ k qh sh, cell2_ k qh sh] H := hP
    have hD : va_D A [cell157_ qh sh p1, cell0_ k qh sh, cell1_ k qh sh, cell4_ k qh sh, cell3_ k qh sh, cell2_ k qh sh] := hD
    refine lv_goto (tgt := 81) hx hb dX4_putMeans_65 (by decide) ?_
    rw [hQ]
    exact x_v cx hr ((sh 0 8), (sh 0 9), p1, (sh 0 11), (sh 0 12)) hP hD hS ⟨(show 0 ≤ (sh 0 12).toInt ∧ (sh 0 12).toInt ≤ 5 from by omega), (show ((sh 0 8), (sh 0 9), p1, (sh 0 11), (sh 0 12)) = J_X4_putMeans sh p0 p1 p2 from by first | (refine Eq.symm ?_; refine Eq.trans (if_pos c1) ?_; rfl) | (unfold J_X4_putMeans; try dsimp only; rw [if_pos c1]))⟩ dX4_putMeans_81
  by_cases c2 : p0 = 66
  · refine lv_lookup (tgt := 68) (off := 67) hx hb dX4_putMeans_1 (by decide) (by rw [c2]; decide) (by decide) ?_
    have f2 : p0.toInt = 66 := f_eq rfl (by decide) c2
    refine lv_aload_n hx hb dX4_putMeans_68 rfl (lv_at hl 0 rfl) ?_
    refine lv_iload_n hx hb dX4_putMeans_69 rfl (lv_at hl 2 rfl) ?_
    refine g_pt cx hP hD hS iw_X4_putMeans_X4 tyX4 tyX4_ok nmX4 0 rfl rfl 11 (by decide) rfl fw_X4_putMeans_60 (ty := .int) rfl rfl rfl (Nat.le_of_ble_eq_true rfl) dX4_putMeans_70 (fun H locs hP hD hS => ?_)
    have hP : va_P D vwCl [cell158_ qh sh p1, cell0_ k qh sh, cell1_ k qh sh, cell4_ k qh sh, cell3_ k qh sh, cell2_ k qh sh] H := hP
    have hD : va_D A [cell158_ qh sh p1, cell0_ k qh sh, cell1_ k qh sh, cell4_ k qh sh, cell3_ k qh sh, cell2_ k qh sh] := hD
    refine lv_aload_n hx hb dX4_putMeans_73 rfl (lv_at hl 0 rfl) ?_
    refine lv_iload_n hx hb dX4_putMeans_74 rfl (lv_at hl 3 rfl) ?_
    refine g_pt cx hP hD hS iw_X4_putMeans_X4 tyX4 tyX4_ok nmX4 0 rfl rfl 12 (by decide) rfl fw_X4_putMeans_63 (ty := .int) rfl rfl rfl (Nat.le_of_ble_eq_true rfl) dX4_putMeans_75 (fun H locs hP hD hS => ?_)
    have hP : va_P D vwCl [cell159_ qh sh p1 p2, cell0_ k qh sh, cell1_ k qh sh, cell4_ k qh sh, cell3_ k qh sh, cell2_ k qh sh] H := hP
    have hD : va_D A [cell159_ qh sh p1 p2, cell0_ k qh sh, cell1_ k qh sh, cell4_ k qh sh, cell3_ k qh sh, cell2_ k qh sh] := hD
    refine lv_goto (tgt := 81) hx hb dX4_putMeans_78 (by decide) ?_
    rw [hQ]
    exact x_v cx hr ((sh 0 8), (sh 0 9), (sh 0 10), p1, p2) hP hD hS ⟨(show 0 ≤ p2.toInt ∧ p2.toInt ≤ 5 from by omega), (show ((sh 0 8), (sh 0 9), (sh 0 10), p1, p2) = J_X4_putMeans sh p0 p1 p2 from by first | (refine Eq.symm ?_; refine Eq.trans (if_neg c1) ?_; refine Eq.trans (if_pos c2) ?_; rfl) | (unfold J_X4_putMeans; try dsimp only; rw [if_neg c1, if_pos c2]))⟩ dX4_putMeans_81
  by_cases c3 : p0 = 71
  · refine lv_lookup (tgt := 44) (off := 43) hx hb dX4_putMeans_1 (by decide) (by rw [c3]; decide) (by decide) ?_
    have f3 : p0.toInt = 71 := f_eq rfl (by decide) c3
    refine lv_aload_n hx hb dX4_putMeans_44 rfl (lv_at hl 0 rfl) ?_
    refine lv_iload_n hx hb dX4_putMeans_45 rfl (lv_at hl 2 rfl) ?_
    refine g_pt cx hP hD hS iw_X4_putMeans_X4 tyX4 tyX4_ok nmX4 0 rfl rfl 8 (by decide) rfl fw_X4_putMeans_51 (ty := .int) rfl rfl rfl (Nat.le_of_ble_eq_true rfl) dX4_putMeans_46 (fun H locs hP hD hS => ?_)
    have hP : va_P D vwCl [cell160_ qh sh p1, cell0_ k qh sh, cell1_ k qh sh, cell4_ k qh sh, cell3_ k qh sh, cell2_ k qh sh] H := hP
    have hD : va_D A [cell160_ qh sh p1, cell0_ k qh sh, cell1_ k qh sh, cell4_ k qh sh, cell3_ k qh sh, cell2_ k qh sh] := hD
    refine lv_goto (tgt := 81) hx hb dX4_putMeans_49 (by decide) ?_
    rw [hQ]
    exact x_v cx hr (p1, (sh 0 9), (sh 0 10), (sh 0 11), (sh 0 12)) hP hD hS ⟨(show 0 ≤ (sh 0 12).toInt ∧ (sh 0 12).toInt ≤ 5 from by omega), (show (p1, (sh 0 9), (sh 0 10), (sh 0 11), (sh 0 12)) = J_X4_putMeans sh p0 p1 p2 from by first | (refine Eq.symm ?_; refine Eq.trans (if_neg c1) ?_; refine Eq.trans (if_neg c2) ?_; refine Eq.trans (if_pos c3) ?_; rfl) | (unfold J_X4_putMeans; try dsimp only; rw [if_neg c1, if_neg c2, if_pos c3]))⟩ dX4_putMeans_81
  by_cases c4 : p0 = 84
  · refine lv_lookup (tgt := 52) (off := 51) hx hb dX4_putMeans_1 (by decide) (by rw [c4]; decide) (by decide) ?_
    have f4 : p0.toInt = 84 := f_eq rfl (by decide) c4
    refine lv_aload_n hx hb dX4_putMeans_52 rfl (lv_at hl 0 rfl) ?_
    refine lv_iload_n hx hb dX4_putMeans_53 rfl (lv_at hl 2 rfl) ?_
    refine g_pt cx hP hD hS iw_X4_putMeans_X4 tyX4 tyX4_ok nmX4 0 rfl rfl 9 (by decide) rfl fw_X4_putMeans_54 (ty := .int) rfl rfl rfl (Nat.le_of_ble_eq_true rfl) dX4_putMeans_54 (fun H locs hP hD hS => ?_)
    have hP : va_P D vwCl [cell161_ qh sh p1, cell0_ k qh sh, cell1_ k qh sh, cell4_ k qh sh, cell3_ k qh sh, cell2_ k qh sh] H := hP
    have hD : va_D A [cell161_ qh sh p1, cell0_ k qh sh, cell1_ k qh sh, cell4_ k qh sh, cell3_ k qh sh, cell2_ k qh sh] := hD
    refine lv_goto (tgt := 81) hx hb dX4_putMeans_57 (by decide) ?_
    rw [hQ]
    exact x_v cx hr ((sh 0 8), p1, (sh 0 10), (sh 0 11), (sh 0 12)) hP hD hS ⟨(show 0 ≤ (sh 0 12).toInt ∧ (sh 0 12).toInt ≤ 5 from by omega), (show ((sh 0 8), p1, (sh 0 10), (sh 0 11), (sh 0 12)) = J_X4_putMeans sh p0 p1 p2 from by first | (refine Eq.symm ?_; refine Eq.trans (if_neg c1) ?_; refine Eq.trans (if_neg c2) ?_; refine Eq.trans (if_neg c3) ?_; refine Eq.trans (if_pos c4) ?_; rfl) | (unfold J_X4_putMeans; try dsimp only; rw [if_neg c1, if_neg c2, if_neg c3, if_pos c4]))⟩ dX4_putMeans_81
  refine lv_lookup (tgt := 81) (off := 80) hx hb dX4_putMeans_1 (by decide) (by show Op.lookupswitch.offset [(65, 59), (66, 67), (71, 43), (84, 51)] 80 p0.toInt = 80; rw [lv_osw c1 (by decide)]; rw [lv_osw c2 (by decide)]; rw [lv_osw c3 (by decide)]; rw [lv_osw c4 (by decide)]; rfl) (by decide) ?_
  rw [hQ]
  exact x_v cx hr ((sh 0 8), (sh 0 9), (sh 0 10), (sh 0 11), (sh 0 12)) hP hD hS ⟨(show 0 ≤ (sh 0 12).toInt ∧ (sh 0 12).toInt ≤ 5 from by omega), (show ((sh 0 8), (sh 0 9), (sh 0 10), (sh 0 11), (sh 0 12)) = J_X4_putMeans sh p0 p1 p2 from by first | (refine Eq.symm ?_; refine Eq.trans (if_neg c1) ?_; refine Eq.trans (if_neg c2) ?_; refine Eq.trans (if_neg c3) ?_; refine Eq.trans (if_neg c4) ?_; rfl) | (unfold J_X4_putMeans; try dsimp only; rw [if_neg c1, if_neg c2, if_neg c3, if_neg c4]))⟩ dX4_putMeans_81
