theorem fw_X11_about_126 : Cond.fieldLink RX11 126 "StillInAugust$House" "weeks" "I" ∈ wsX11_about := by decide +kernel
theorem fw_X11_about_158 : Cond.fieldLink RX11 158 "StillInAugust$House" "hooks" "I" ∈ wsX11_about := by decide +kernel
theorem fw_X11_about_161 : Cond.fieldLink RX11 161 "StillInAugust$House" "pay" "I" ∈ wsX11_about := by decide +kernel
theorem fw_X11_about_164 : Cond.fieldLink RX11 164 "StillInAugust$House" "shortPrice" "I" ∈ wsX11_about := by decide +kernel
theorem fw_X11_about_167 : Cond.fieldLink RX11 167 "StillInAugust$House" "letGoPrice" "I" ∈ wsX11_about := by decide +kernel
theorem fw_X11_about_170 : Cond.fieldLink RX11 170 "StillInAugust$House" "teachPrice" "I" ∈ wsX11_about := by decide +kernel
theorem fw_X11_about_173 : Cond.fieldLink RX11 173 "StillInAugust$House" "agencyPrice" "I" ∈ wsX11_about := by decide +kernel
theorem fw_X11_about_176 : Cond.fieldLink RX11 176 "StillInAugust$House" "bonus" "I" ∈ wsX11_about := by decide +kernel
theorem fw_X11_about_39 : Cond.fieldLink RX11 39 "StillInAugust" "house" "LStillInAugust$House;" ∈ wsX11_about := by decide +kernel
theorem iw_X11_about_X11 : ∀ w ∈ u_ws RX11 TX11 17, w ∈ wsX11_about := fun _ h => List.mem_cons_of_mem _ (List.mem_append_left _ (List.mem_append_right _ h))
theorem iw_X11_about_X4 : ∀ w ∈ u_ws RX4 TX4 14, w ∈ wsX11_about := fun _ h => List.mem_cons_of_mem _ (List.mem_append_right _ h)
def J_X11_about (sx : Nat → Nat → Int32) (sh : Nat → Nat → Int32) (p0 : Int32) : Int32 := if p0 = 0 then (sh 0 0) else if p0 = 1 then (sh 0 1) else if p0 = 2 then (sh 0 6) else if p0 = 3 then (sh 0 7) else if p0 = 4 then (sh 0 8) else if p0 = 5 then (sh 0 9) else if p0 = 6 then (sh 0 10) else if p0 = 7 then (sh 0 11) else ((-2) : Int32)
set_option maxHeartbeats 4000000 in
set_option maxRecDepth 100000 in
theorem c_X11_about (l : Launch) (D : va_G) (k : Nat → ClassId) (b : Nat → Nat) (qx : Nat → Nat) (sx : Nat → Nat → Int32) (qh : Nat → Nat) (sh : Nat → Nat → Int32) (sz : Nat) (p0 : Int32) : MetI l D k b yX11_about wsX11_about ({ frames := 0, cells := 0, slots := 0, locals := 0 } : Room) [cell30_ qx sx, cell28_ k qx sx, cell29_ k qx sx, cell31_ qx sh qh, cell0_ k qh sh, cell1_ k qh sh, cell4_ k qh sh, cell3_ k qh sh, cell2_ k qh sh] sz [.ref (qx 0), .int p0] (fun (r : Int32) (u : Unit) => r = J_X11_about sx sh p0) (fun u => [cell30_ qx sx, cell28_ k qx sx, cell29_ k qx sx, cell31_ qx sh qh, cell0_ k qh sh, cell1_ k qh sh, cell4_ k qh sh, cell3_ k qh sh, cell2_ k qh sh]) := by
  refine g_enter (cc := cX11_about) (maxL := 2) (ret := (some .int)) (by decide) rfl (Nat.le_of_ble_eq_true rfl) ?_
  intro p e s m below meth c A hsz hAe cx hr hP hD hS ls hl
  rw [hAe]
  refine g_q (fun Q hQ => ?_)
  have hx := cx.1.1
  have hb := cx.1.2.1
  have bp0 := i_rng p0
  have hl : lv_has ls 2 [(0, .ref (qx 0)), (1, .int p0)] := hl
  obtain ⟨H, eH⟩ : ∃ H : Heap, H = s.heap := ⟨_, rfl⟩
  obtain ⟨locs, el⟩ : ∃ L : List Loc, L = [] := ⟨_, rfl⟩
  have hP : va_P D vwCl [cell30_ qx sx, cell28_ k qx sx, cell29_ k qx sx, cell31_ qx sh qh, cell0_ k qh sh, cell1_ k qh sh, cell4_ k qh sh, cell3_ k qh sh, cell2_ k qh sh] H := by rw [eH]; exact hP
  have hD : va_D A [cell30_ qx sx, cell28_ k qx sx, cell29_ k qx sx, cell31_ qx sh qh, cell0_ k qh sh, cell1_ k qh sh, cell4_ k qh sh, cell3_ k qh sh, cell2_ k qh sh] := hD
  have hS : va_S A s.heap H locs := by rw [eH, el]; exact hS
  suffices goal : W p l e ({ frames := 0, cells := 0, slots := 0, locals := 0 } : Room) s m ([.ref (qx 0), .int p0] : List Value).toArray below meth c H locs 0 0 Q (F0 m 0 ls []) by rw [eH, el] at goal; exact goal
  refine lv_iload_n hx hb dX11_about_0 rfl (lv_at hl 1 rfl) ?_
  by_cases c1 : p0 = 0
  · refine lv_tableIn (tgt := 48) (off := 47) hx hb dX11_about_1 (by rw [c1]; decide) (by rw [c1]; decide) (by rw [c1]; decide) (by decide) ?_
    have f1 : p0.toInt = 0 := f_eq rfl (by decide) c1
    refine lv_aload_n hx hb dX11_about_48 rfl (lv_at hl 0 rfl) ?_
    refine g_get cx hP iw_X11_about_X11 0 rfl rfl 4 (by decide) rfl fw_X11_about_39 rfl dX11_about_49 ?_
    refine g_get cx hP iw_X11_about_X4 3 rfl rfl 0 (by decide) rfl fw_X11_about_126 rfl dX11_about_52 ?_
    rw [hQ]
    exact x_i cx hr () hP hD hS (show (sh 0 0) = J_X11_about sx sh p0 from by first | (refine Eq.symm ?_; refine Eq.trans (if_pos c1) ?_; rfl) | (unfold J_X11_about; try dsimp only; rw [if_pos c1])) dX11_about_55
  by_cases c2 : p0 = 1
  · refine lv_tableIn (tgt := 56) (off := 55) hx hb dX11_about_1 (by rw [c2]; decide) (by rw [c2]; decide) (by rw [c2]; decide) (by decide) ?_
    have f2 : p0.toInt = 1 := f_eq rfl (by decide) c2
    refine lv_aload_n hx hb dX11_about_56 rfl (lv_at hl 0 rfl) ?_
    refine g_get cx hP iw_X11_about_X11 0 rfl rfl 4 (by decide) rfl fw_X11_about_39 rfl dX11_about_57 ?_
    refine g_get cx hP iw_X11_about_X4 3 rfl rfl 1 (by decide) rfl fw_X11_about_158 rfl dX11_about_60 ?_
    rw [hQ]
    exact x_i cx hr () hP hD hS (show (sh 0 1) = J_X11_about sx sh p0 from by first | (refine Eq.symm ?_; refine Eq.trans (if_neg c1) ?_; refine Eq.trans (if_pos c2) ?_; rfl) | (unfold J_X11_about; try dsimp only; rw [if_neg c1, if_pos c2])) dX11_about_63
  by_cases c3 : p0 = 2
  · refine lv_tableIn (tgt := 64) (off := 63) hx hb dX11_about_1 (by rw [c3]; decide) (by rw [c3]; decide) (by rw [c3]; decide) (by decide) ?_
    have f3 : p0.toInt = 2 := f_eq rfl (by decide) c3
    refine lv_aload_n hx hb dX11_about_64 rfl (lv_at hl 0 rfl) ?_
    refine g_get cx hP iw_X11_about_X11 0 rfl rfl 4 (by decide) rfl fw_X11_about_39 rfl dX11_about_65 ?_
    refine g_get cx hP iw_X11_about_X4 3 rfl rfl 6 (by decide) rfl fw_X11_about_161 rfl dX11_about_68 ?_
    rw [hQ]
    exact x_i cx hr () hP hD hS (show (sh 0 6) = J_X11_about sx sh p0 from by first | (refine Eq.symm ?_; refine Eq.trans (if_neg c1) ?_; refine Eq.trans (if_neg c2) ?_; refine Eq.trans (if_pos c3) ?_; rfl) | (unfold J_X11_about; try dsimp only; rw [if_neg c1, if_neg c2, if_pos c3])) dX11_about_71
  by_cases c4 : p0 = 3
  · refine lv_tableIn (tgt := 72) (off := 71) hx hb dX11_about_1 (by rw [c4]; decide) (by rw [c4]; decide) (by rw [c4]; decide) (by decide) ?_
    have f4 : p0.toInt = 3 := f_eq rfl (by decide) c4
    refine lv_aload_n hx hb dX11_about_72 rfl (lv_at hl 0 rfl) ?_
    refine g_get cx hP iw_X11_about_X11 0 rfl rfl 4 (by decide) rfl fw_X11_about_39 rfl dX11_about_73 ?_
    refine g_get cx hP iw_X11_about_X4 3 rfl rfl 7 (by decide) rfl fw_X11_about_164 rfl dX11_about_76 ?_
    rw [hQ]
    exact x_i cx hr () hP hD hS (show (sh 0 7) = J_X11_about sx sh p0 from by first | (refine Eq.symm ?_; refine Eq.trans (if_neg c1) ?_; refine Eq.trans (if_neg c2) ?_; refine Eq.trans (if_neg c3) ?_; refine Eq.trans (if_pos c4) ?_; rfl) | (unfold J_X11_about; try dsimp only; rw [if_neg c1, if_neg c2, if_neg c3, if_pos c4])) dX11_about_79
  by_cases c5 : p0 = 4
  · refine lv_tableIn (tgt := 80) (off := 79) hx hb dX11_about_1 (by rw [c5]; decide) (by rw [c5]; decide) (by rw [c5]; decide) (by decide) ?_
    have f5 : p0.toInt = 4 := f_eq rfl (by decide) c5
    refine lv_aload_n hx hb dX11_about_80 rfl (lv_at hl 0 rfl) ?_
    refine g_get cx hP iw_X11_about_X11 0 rfl rfl 4 (by decide) rfl fw_X11_about_39 rfl dX11_about_81 ?_
    refine g_get cx hP iw_X11_about_X4 3 rfl rfl 8 (by decide) rfl fw_X11_about_167 rfl dX11_about_84 ?_
    rw [hQ]
    exact x_i cx hr () hP hD hS (show (sh 0 8) = J_X11_about sx sh p0 from by first | (refine Eq.symm ?_; refine Eq.trans (if_neg c1) ?_; refine Eq.trans (if_neg c2) ?_; refine Eq.trans (if_neg c3) ?_; refine Eq.trans (if_neg c4) ?_; refine Eq.trans (if_pos c5) ?_; rfl) | (unfold J_X11_about; try dsimp only; rw [if_neg c1, if_neg c2, if_neg c3, if_neg c4, if_pos c5])) dX11_about_87
  by_cases c6 : p0 = 5
  · refine lv_tableIn (tgt := 88) (off := 87) hx hb dX11_about_1 (by rw [c6]; decide) (by rw [c6]; decide) (by rw [c6]; decide) (by decide) ?_
    have f6 : p0.toInt = 5 := f_eq rfl (by decide) c6
    refine lv_aload_n hx hb dX11_about_88 rfl (lv_at hl 0 rfl) ?_
    refine g_get cx hP iw_X11_about_X11 0 rfl rfl 4 (by decide) rfl fw_X11_about_39 rfl dX11_about_89 ?_
    refine g_get cx hP iw_X11_about_X4 3 rfl rfl 9 (by decide) rfl fw_X11_about_170 rfl dX11_about_92 ?_
    rw [hQ]
    exact x_i cx hr () hP hD hS (show (sh 0 9) = J_X11_about sx sh p0 from by first | (refine Eq.symm ?_; refine Eq.trans (if_neg c1) ?_; refine Eq.trans (if_neg c2) ?_; refine Eq.trans (if_neg c3) ?_; refine Eq.trans (if_neg c4) ?_; refine Eq.trans (if_neg c5) ?_; refine Eq.trans (if_pos c6) ?_; rfl) | (unfold J_X11_about; try dsimp only; rw [if_neg c1, if_neg c2, if_neg c3, if_neg c4, if_neg c5, if_pos c6])) dX11_about_95
  by_cases c7 : p0 = 6
  · refine lv_tableIn (tgt := 96) (off := 95) hx hb dX11_about_1 (by rw [c7]; decide) (by rw [c7]; decide) (by rw [c7]; decide) (by decide) ?_
    have f7 : p0.toInt = 6 := f_eq rfl (by decide) c7
    refine lv_aload_n hx hb dX11_about_96 rfl (lv_at hl 0 rfl) ?_
    refine g_get cx hP iw_X11_about_X11 0 rfl rfl 4 (by decide) rfl fw_X11_about_39 rfl dX11_about_97 ?_
    refine g_get cx hP iw_X11_about_X4 3 rfl rfl 10 (by decide) rfl fw_X11_about_173 rfl dX11_about_100 ?_
    rw [hQ]
    exact x_i cx hr () hP hD hS (show (sh 0 10) = J_X11_about sx sh p0 from by first | (refine Eq.symm ?_; refine Eq.trans (if_neg c1) ?_; refine Eq.trans (if_neg c2) ?_; refine Eq.trans (if_neg c3) ?_; refine Eq.trans (if_neg c4) ?_; refine Eq.trans (if_neg c5) ?_; refine Eq.trans (if_neg c6) ?_; refine Eq.trans (if_pos c7) ?_; rfl) | (unfold J_X11_about; try dsimp only; rw [if_neg c1, if_neg c2, if_neg c3, if_neg c4, if_neg c5, if_neg c6, if_pos c7])) dX11_about_103
  by_cases c8 : p0 = 7
  · refine lv_tableIn (tgt := 104) (off := 103) hx hb dX11_about_1 (by rw [c8]; decide) (by rw [c8]; decide) (by rw [c8]; decide) (by decide) ?_
    have f8 : p0.toInt = 7 := f_eq rfl (by decide) c8
    refine lv_aload_n hx hb dX11_about_104 rfl (lv_at hl 0 rfl) ?_
    refine g_get cx hP iw_X11_about_X11 0 rfl rfl 4 (by decide) rfl fw_X11_about_39 rfl dX11_about_105 ?_
    refine g_get cx hP iw_X11_about_X4 3 rfl rfl 11 (by decide) rfl fw_X11_about_176 rfl dX11_about_108 ?_
    rw [hQ]
    exact x_i cx hr () hP hD hS (show (sh 0 11) = J_X11_about sx sh p0 from by first | (refine Eq.symm ?_; refine Eq.trans (if_neg c1) ?_; refine Eq.trans (if_neg c2) ?_; refine Eq.trans (if_neg c3) ?_; refine Eq.trans (if_neg c4) ?_; refine Eq.trans (if_neg c5) ?_; refine Eq.trans (if_neg c6) ?_; refine Eq.trans (if_neg c7) ?_; refine Eq.trans (if_pos c8) ?_; rfl) | (unfold J_X11_about; try dsimp only; rw [if_neg c1, if_neg c2, if_neg c3, if_neg c4, if_neg c5, if_neg c6, if_neg c7, if_pos c8])) dX11_about_111
  have gc1 : ¬ p0.toInt = 0 := f_ne rfl (by decide) c1
  have gc2 : ¬ p0.toInt = 1 := f_ne rfl (by decide) c2
  have gc3 : ¬ p0.toInt = 2 := f_ne rfl (by decide) c3
  have gc4 : ¬ p0.toInt = 3 := f_ne rfl (by decide) c4
  have gc5 : ¬ p0.toInt = 4 := f_ne rfl (by decide) c5
  have gc6 : ¬ p0.toInt = 5 := f_ne rfl (by decide) c6
  have gc7 : ¬ p0.toInt = 6 := f_ne rfl (by decide) c7
  have gc8 : ¬ p0.toInt = 7 := f_ne rfl (by decide) c8
  refine lv_tableOut (tgt := 112) hx hb dX11_about_1 (by omega) (by decide) ?_
  refine lv_bipush (v := (-2)) hx hb dX11_about_112 (by decide) ?_
  have hlit10 : ((-2) : Int32).toInt = -2 := by decide
  rw [hQ]
  exact x_i cx hr () hP hD hS (show ((-2) : Int32) = J_X11_about sx sh p0 from by first | (refine Eq.symm ?_; refine Eq.trans (if_neg c1) ?_; refine Eq.trans (if_neg c2) ?_; refine Eq.trans (if_neg c3) ?_; refine Eq.trans (if_neg c4) ?_; refine Eq.trans (if_neg c5) ?_; refine Eq.trans (if_neg c6) ?_; refine Eq.trans (if_neg c7) ?_; refine Eq.trans (if_neg c8) ?_; rfl) | (unfold J_X11_about; try dsimp only; rw [if_neg c1, if_neg c2, if_neg c3, if_neg c4, if_neg c5, if_neg c6, if_neg c7, if_neg c8])) dX11_about_114
