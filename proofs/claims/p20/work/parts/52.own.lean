def J_X11_isRule (sx : Nat → Nat → Int32) (p0 : Int32) : Int32 := if p0 < 0 then (0 : Int32) else if 3 ≤ p0 then (0 : Int32) else (1 : Int32)
set_option maxHeartbeats 4000000 in
set_option maxRecDepth 100000 in
theorem c_X11_isRule (l : Launch) (D : va_G) (k : Nat → ClassId) (b : Nat → Nat) (qx : Nat → Nat) (sx : Nat → Nat → Int32) (sz : Nat) (p0 : Int32) : MetI l D k b yX11_isRule wsX11_isRule ({ frames := 0, cells := 0, slots := 0, locals := 0 } : Room) [cell30_ qx sx, cell28_ k qx sx, cell29_ k qx sx] sz [.ref (qx 0), .int p0] (fun (r : Int32) (u : Unit) => (0 ≤ r.toInt ∧ r.toInt ≤ 1) ∧ (Imp (r.toInt = 1) (0 ≤ p0.toInt ∧ p0.toInt ≤ 2)) ∧ (r = J_X11_isRule sx p0)) (fun u => [cell30_ qx sx, cell28_ k qx sx, cell29_ k qx sx]) := by
  refine g_enter (cc := cX11_isRule) (maxL := 2) (ret := (some .boolean)) (by decide) rfl (Nat.le_of_ble_eq_true rfl) ?_
  intro p e s m below meth c A hsz hAe cx hr hP hD hS ls hl
  rw [hAe]
  refine g_q (fun Q hQ => ?_)
  have hx := cx.1.1
  have hb := cx.1.2.1
  have bp0 := i_rng p0
  have hl : lv_has ls 2 [(0, .ref (qx 0)), (1, .int p0)] := hl
  obtain ⟨H, eH⟩ : ∃ H : Heap, H = s.heap := ⟨_, rfl⟩
  obtain ⟨locs, el⟩ : ∃ L : List Loc, L = [] := ⟨_, rfl⟩
  have hP : va_P D vwCl [cell30_ qx sx, cell28_ k qx sx, cell29_ k qx sx] H := by rw [eH]; exact hP
  have hD : va_D A [cell30_ qx sx, cell28_ k qx sx, cell29_ k qx sx] := hD
  have hS : va_S A s.heap H locs := by rw [eH, el]; exact hS
  suffices goal : W p l e ({ frames := 0, cells := 0, slots := 0, locals := 0 } : Room) s m ([.ref (qx 0), .int p0] : List Value).toArray below meth c H locs 0 0 Q (F0 m 0 ls []) by rw [eH, el] at goal; exact goal
  refine lv_iload_n hx hb dX11_isRule_0 rfl (lv_at hl 1 rfl) ?_
  refine lv_if_lt (tgt := 13) hx hb dX11_isRule_1 (by decide) (fun c1 => ?_) (fun c1 => ?_)
  · have f1 : p0.toInt < 0 := f_lt rfl (by decide) c1
    refine lv_iconst (v := 0) hx hb dX11_isRule_13 (by decide) ?_
    have hlit2 : (0 : Int32).toInt = 0 := by decide
    rw [hQ]
    exact x_z cx hr (by decide) () hP hD hS ⟨(show 0 ≤ (0 : Int32).toInt ∧ (0 : Int32).toInt ≤ 1 from by omega), (show Imp ((0 : Int32).toInt = 1) (0 ≤ p0.toInt ∧ p0.toInt ≤ 2) from fun h => by first | exact absurd h (by decide) | omega), (show (0 : Int32) = J_X11_isRule sx p0 from by first | (refine Eq.symm ?_; refine Eq.trans (if_pos c1) ?_; rfl) | (unfold J_X11_isRule; try dsimp only; rw [if_pos c1]))⟩ dX11_isRule_14
  · have f1 : 0 ≤ p0.toInt := f_nlt rfl (by decide) c1
    refine lv_iload_n hx hb dX11_isRule_4 rfl (lv_at hl 1 rfl) ?_
    refine lv_iconst (v := 3) hx hb dX11_isRule_5 (by decide) ?_
    refine lv_icmp_ge (tgt := 13) hx hb dX11_isRule_6 (by decide) (fun c3 => ?_) (fun c3 => ?_)
    · have f3 : 3 ≤ p0.toInt := f_le (by decide) rfl c3
      refine lv_iconst (v := 0) hx hb dX11_isRule_13 (by decide) ?_
      have hlit4 : (0 : Int32).toInt = 0 := by decide
      rw [hQ]
      exact x_z cx hr (by decide) () hP hD hS ⟨(show 0 ≤ (0 : Int32).toInt ∧ (0 : Int32).toInt ≤ 1 from by omega), (show Imp ((0 : Int32).toInt = 1) (0 ≤ p0.toInt ∧ p0.toInt ≤ 2) from fun h => by first | exact absurd h (by decide) | omega), (show (0 : Int32) = J_X11_isRule sx p0 from by first | (refine Eq.symm ?_; refine Eq.trans (if_neg c1) ?_; refine Eq.trans (if_pos c3) ?_; rfl) | (unfold J_X11_isRule; try dsimp only; rw [if_neg c1, if_pos c3]))⟩ dX11_isRule_14
    · have f3 : p0.toInt < 3 := f_nle (by decide) rfl c3
      refine lv_iconst (v := 1) hx hb dX11_isRule_9 (by decide) ?_
      refine lv_goto (tgt := 14) hx hb dX11_isRule_10 (by decide) ?_
      have hlit5 : (1 : Int32).toInt = 1 := by decide
      rw [hQ]
      exact x_z cx hr (by decide) () hP hD hS ⟨(show 0 ≤ (1 : Int32).toInt ∧ (1 : Int32).toInt ≤ 1 from by omega), (show Imp ((1 : Int32).toInt = 1) (0 ≤ p0.toInt ∧ p0.toInt ≤ 2) from fun h => by first | exact absurd h (by decide) | omega), (show (1 : Int32) = J_X11_isRule sx p0 from by first | (refine Eq.symm ?_; refine Eq.trans (if_neg c1) ?_; refine Eq.trans (if_neg c3) ?_; rfl) | (unfold J_X11_isRule; try dsimp only; rw [if_neg c1, if_neg c3]))⟩ dX11_isRule_14
def J_X11_isSlot (sx : Nat → Nat → Int32) (p0 : Int32) : Int32 := if p0 < 0 then (0 : Int32) else if 2 ≤ p0 then (0 : Int32) else (1 : Int32)
set_option maxHeartbeats 4000000 in
set_option maxRecDepth 100000 in
theorem c_X11_isSlot (l : Launch) (D : va_G) (k : Nat → ClassId) (b : Nat → Nat) (qx : Nat → Nat) (sx : Nat → Nat → Int32) (sz : Nat) (p0 : Int32) : MetI l D k b yX11_isSlot wsX11_isSlot ({ frames := 0, cells := 0, slots := 0, locals := 0 } : Room) [cell30_ qx sx, cell28_ k qx sx, cell29_ k qx sx] sz [.ref (qx 0), .int p0] (fun (r : Int32) (u : Unit) => (0 ≤ r.toInt ∧ r.toInt ≤ 1) ∧ (Imp (r.toInt = 1) (0 ≤ p0.toInt ∧ p0.toInt ≤ 1)) ∧ (r = J_X11_isSlot sx p0)) (fun u => [cell30_ qx sx, cell28_ k qx sx, cell29_ k qx sx]) := by
  refine g_enter (cc := cX11_isSlot) (maxL := 2) (ret := (some .boolean)) (by decide) rfl (Nat.le_of_ble_eq_true rfl) ?_
  intro p e s m below meth c A hsz hAe cx hr hP hD hS ls hl
  rw [hAe]
  refine g_q (fun Q hQ => ?_)
  have hx := cx.1.1
  have hb := cx.1.2.1
  have bp0 := i_rng p0
  have hl : lv_has ls 2 [(0, .ref (qx 0)), (1, .int p0)] := hl
  obtain ⟨H, eH⟩ : ∃ H : Heap, H = s.heap := ⟨_, rfl⟩
  obtain ⟨locs, el⟩ : ∃ L : List Loc, L = [] := ⟨_, rfl⟩
  have hP : va_P D vwCl [cell30_ qx sx, cell28_ k qx sx, cell29_ k qx sx] H := by rw [eH]; exact hP
  have hD : va_D A [cell30_ qx sx, cell28_ k qx sx, cell29_ k qx sx] := hD
  have hS : va_S A s.heap H locs := by rw [eH, el]; exact hS
  suffices goal : W p l e ({ frames := 0, cells := 0, slots := 0, locals := 0 } : Room) s m ([.ref (qx 0), .int p0] : List Value).toArray below meth c H locs 0 0 Q (F0 m 0 ls []) by rw [eH, el] at goal; exact goal
  refine lv_iload_n hx hb dX11_isSlot_0 rfl (lv_at hl 1 rfl) ?_
  refine lv_if_lt (tgt := 13) hx hb dX11_isSlot_1 (by decide) (fun c1 => ?_) (fun c1 => ?_)
  · have f1 : p0.toInt < 0 := f_lt rfl (by decide) c1
    refine lv_iconst (v := 0) hx hb dX11_isSlot_13 (by decide) ?_
    have hlit2 : (0 : Int32).toInt = 0 := by decide
    rw [hQ]
    exact x_z cx hr (by decide) () hP hD hS ⟨(show 0 ≤ (0 : Int32).toInt ∧ (0 : Int32).toInt ≤ 1 from by omega), (show Imp ((0 : Int32).toInt = 1) (0 ≤ p0.toInt ∧ p0.toInt ≤ 1) from fun h => by first | exact absurd h (by decide) | omega), (show (0 : Int32) = J_X11_isSlot sx p0 from by first | (refine Eq.symm ?_; refine Eq.trans (if_pos c1) ?_; rfl) | (unfold J_X11_isSlot; try dsimp only; rw [if_pos c1]))⟩ dX11_isSlot_14
  · have f1 : 0 ≤ p0.toInt := f_nlt rfl (by decide) c1
    refine lv_iload_n hx hb dX11_isSlot_4 rfl (lv_at hl 1 rfl) ?_
    refine lv_iconst (v := 2) hx hb dX11_isSlot_5 (by decide) ?_
    refine lv_icmp_ge (tgt := 13) hx hb dX11_isSlot_6 (by decide) (fun c3 => ?_) (fun c3 => ?_)
    · have f3 : 2 ≤ p0.toInt := f_le (by decide) rfl c3
      refine lv_iconst (v := 0) hx hb dX11_isSlot_13 (by decide) ?_
      have hlit4 : (0 : Int32).toInt = 0 := by decide
      rw [hQ]
      exact x_z cx hr (by decide) () hP hD hS ⟨(show 0 ≤ (0 : Int32).toInt ∧ (0 : Int32).toInt ≤ 1 from by omega), (show Imp ((0 : Int32).toInt = 1) (0 ≤ p0.toInt ∧ p0.toInt ≤ 1) from fun h => by first | exact absurd h (by decide) | omega), (show (0 : Int32) = J_X11_isSlot sx p0 from by first | (refine Eq.symm ?_; refine Eq.trans (if_neg c1) ?_; refine Eq.trans (if_pos c3) ?_; rfl) | (unfold J_X11_isSlot; try dsimp only; rw [if_neg c1, if_pos c3]))⟩ dX11_isSlot_14
    · have f3 : p0.toInt < 2 := f_nle (by decide) rfl c3
      refine lv_iconst (v := 1) hx hb dX11_isSlot_9 (by decide) ?_
      refine lv_goto (tgt := 14) hx hb dX11_isSlot_10 (by decide) ?_
      have hlit5 : (1 : Int32).toInt = 1 := by decide
      rw [hQ]
      exact x_z cx hr (by decide) () hP hD hS ⟨(show 0 ≤ (1 : Int32).toInt ∧ (1 : Int32).toInt ≤ 1 from by omega), (show Imp ((1 : Int32).toInt = 1) (0 ≤ p0.toInt ∧ p0.toInt ≤ 1) from fun h => by first | exact absurd h (by decide) | omega), (show (1 : Int32) = J_X11_isSlot sx p0 from by first | (refine Eq.symm ?_; refine Eq.trans (if_neg c1) ?_; refine Eq.trans (if_neg c3) ?_; rfl) | (unfold J_X11_isSlot; try dsimp only; rw [if_neg c1, if_neg c3]))⟩ dX11_isSlot_14
theorem fw_X11_isWeek_126 : Cond.fieldLink RX11 126 "StillInAugust$House" "weeks" "I" ∈ wsX11_isWeek := by decide +kernel
theorem fw_X11_isWeek_39 : Cond.fieldLink RX11 39 "StillInAugust" "house" "LStillInAugust$House;" ∈ wsX11_isWeek := by decide +kernel
theorem iw_X11_isWeek_X11 : ∀ w ∈ u_ws RX11 TX11 17, w ∈ wsX11_isWeek := fun _ h => List.mem_cons_of_mem _ (List.mem_append_left _ (List.mem_append_right _ h))
theorem iw_X11_isWeek_X4 : ∀ w ∈ u_ws RX4 TX4 14, w ∈ wsX11_isWeek := fun _ h => List.mem_cons_of_mem _ (List.mem_append_right _ h)
def J_X11_isWeek (sx : Nat → Nat → Int32) (sh : Nat → Nat → Int32) (p0 : Int32) : Int32 := if p0 < 0 then (0 : Int32) else if (sh 0 0) ≤ p0 then (0 : Int32) else (1 : Int32)
set_option maxHeartbeats 4000000 in
set_option maxRecDepth 100000 in
theorem c_X11_isWeek (l : Launch) (D : va_G) (k : Nat → ClassId) (b : Nat → Nat) (qx : Nat → Nat) (sx : Nat → Nat → Int32) (qh : Nat → Nat) (sh : Nat → Nat → Int32) (sz : Nat) (p0 : Int32) (h_wk : 0 ≤ (sh 0 0).toInt ∧ (sh 0 0).toInt ≤ 5) : MetI l D k b yX11_isWeek wsX11_isWeek ({ frames := 0, cells := 0, slots := 0, locals := 0 } : Room) [cell30_ qx sx, cell28_ k qx sx, cell29_ k qx sx, cell31_ qx sh qh, cell0_ k qh sh, cell1_ k qh sh, cell4_ k qh sh, cell3_ k qh sh, cell2_ k qh sh] sz [.ref (qx 0), .int p0] (fun (r : Int32) (u : Unit) => (0 ≤ r.toInt ∧ r.toInt ≤ 1) ∧ (Imp (r.toInt = 1) (0 ≤ p0.toInt ∧ p0.toInt ≤ 4 ∧ p0.toInt < (sh 0 0).toInt)) ∧ (r = J_X11_isWeek sx sh p0)) (fun u => [cell30_ qx sx, cell28_ k qx sx, cell29_ k qx sx, cell31_ qx sh qh, cell0_ k qh sh, cell1_ k qh sh, cell4_ k qh sh, cell3_ k qh sh, cell2_ k qh sh]) := by
  refine g_enter (cc := cX11_isWeek) (maxL := 2) (ret := (some .boolean)) (by decide) rfl (Nat.le_of_ble_eq_true rfl) ?_
  intro p e s m below meth c A hsz hAe cx hr hP hD hS ls hl
  rw [hAe]
  refine g_q (fun Q hQ => ?_)
  have hx := cx.1.1
  have hb := cx.1.2.1
  have bp0 := i_rng p0
  have hl : lv_has ls 2 [(0, .ref (qx 0)), (1, .int p0)] := hl
  obtain ⟨H, eH⟩ : ∃ H : Heap, H = s.heap := ⟨_, rfl⟩
  obtain ⟨locs, el⟩ : ∃ L : List Loc, L = [] := ⟨_, rfl⟩
  have hP : va_P D vwCl [cell30_ qx sx, cell28_ k qx sx, cell29_ k qx sx, cell31_ qx sh qh, cell0_ k qh sh, cell1_ k qh sh, cell4_ k qh sh, cell3_ k qh sh, cell2_ k qh sh] H := by rw [eH]; exact hP
  have hD : va_D A [cell30_ qx sx, cell28_ k qx sx, cell29_ k qx sx, cell31_ qx sh qh, cell0_ k qh sh, cell1_ k qh sh, cell4_ k qh sh, cell3_ k qh sh, cell2_ k qh sh] := hD
  have hS : va_S A s.heap H locs := by rw [eH, el]; exact hS
  suffices goal : W p l e ({ frames := 0, cells := 0, slots := 0, locals := 0 } : Room) s m ([.ref (qx 0), .int p0] : List Value).toArray below meth c H locs 0 0 Q (F0 m 0 ls []) by rw [eH, el] at goal; exact goal
  refine lv_iload_n hx hb dX11_isWeek_0 rfl (lv_at hl 1 rfl) ?_
  refine lv_if_lt (tgt := 19) hx hb dX11_isWeek_1 (by decide) (fun c1 => ?_) (fun c1 => ?_)
  · have f1 : p0.toInt < 0 := f_lt rfl (by decide) c1
    refine lv_iconst (v := 0) hx hb dX11_isWeek_19 (by decide) ?_
    have hlit2 : (0 : Int32).toInt = 0 := by decide
    rw [hQ]
    exact x_z cx hr (by decide) () hP hD hS ⟨(show 0 ≤ (0 : Int32).toInt ∧ (0 : Int32).toInt ≤ 1 from by omega), (show Imp ((0 : Int32).toInt = 1) (0 ≤ p0.toInt ∧ p0.toInt ≤ 4 ∧ p0.toInt < (sh 0 0).toInt) from fun h => by first | exact absurd h (by decide) | omega), (show (0 : Int32) = J_X11_isWeek sx sh p0 from by first | (refine Eq.symm ?_; refine Eq.trans (if_pos c1) ?_; rfl) | (unfold J_X11_isWeek; try dsimp only; rw [if_pos c1]))⟩ dX11_isWeek_20
  · have f1 : 0 ≤ p0.toInt := f_nlt rfl (by decide) c1
    refine lv_iload_n hx hb dX11_isWeek_4 rfl (lv_at hl 1 rfl) ?_
    refine lv_aload_n hx hb dX11_isWeek_5 rfl (lv_at hl 0 rfl) ?_
    refine g_get cx hP iw_X11_isWeek_X11 0 rfl rfl 4 (by decide) rfl fw_X11_isWeek_39 rfl dX11_isWeek_6 ?_
    refine g_get cx hP iw_X11_isWeek_X4 3 rfl rfl 0 (by decide) rfl fw_X11_isWeek_126 rfl dX11_isWeek_9 ?_
    refine lv_icmp_ge (tgt := 19) hx hb dX11_isWeek_12 (by decide) (fun c3 => ?_) (fun c3 => ?_)
    · have f3 : (sh 0 0).toInt ≤ p0.toInt := f_le rfl rfl c3
      refine lv_iconst (v := 0) hx hb dX11_isWeek_19 (by decide) ?_
      have hlit4 : (0 : Int32).toInt = 0 := by decide
      rw [hQ]
      exact x_z cx hr (by decide) () hP hD hS ⟨(show 0 ≤ (0 : Int32).toInt ∧ (0 : Int32).toInt ≤ 1 from by omega), (show Imp ((0 : Int32).toInt = 1) (0 ≤ p0.toInt ∧ p0.toInt ≤ 4 ∧ p0.toInt < (sh 0 0).toInt) from fun h => by first | exact absurd h (by decide) | omega), (show (0 : Int32) = J_X11_isWeek sx sh p0 from by first | (refine Eq.symm ?_; refine Eq.trans (if_neg c1) ?_; refine Eq.trans (if_pos c3) ?_; rfl) | (unfold J_X11_isWeek; try dsimp only; rw [if_neg c1, if_pos c3]))⟩ dX11_isWeek_20
    · have f3 : p0.toInt < (sh 0 0).toInt := f_nle rfl rfl c3
      refine lv_iconst (v := 1) hx hb dX11_isWeek_15 (by decide) ?_
      refine lv_goto (tgt := 20) hx hb dX11_isWeek_16 (by decide) ?_
      have hlit5 : (1 : Int32).toInt = 1 := by decide
      rw [hQ]
      exact x_z cx hr (by decide) () hP hD hS ⟨(show 0 ≤ (1 : Int32).toInt ∧ (1 : Int32).toInt ≤ 1 from by omega), (show Imp ((1 : Int32).toInt = 1) (0 ≤ p0.toInt ∧ p0.toInt ≤ 4 ∧ p0.toInt < (sh 0 0).toInt) from fun h => by first | exact absurd h (by decide) | omega), (show (1 : Int32) = J_X11_isWeek sx sh p0 from by first | (refine Eq.symm ?_; refine Eq.trans (if_neg c1) ?_; refine Eq.trans (if_neg c3) ?_; rfl) | (unfold J_X11_isWeek; try dsimp only; rw [if_neg c1, if_neg c3]))⟩ dX11_isWeek_20
theorem fw_X11_isHands_158 : Cond.fieldLink RX11 158 "StillInAugust$House" "hooks" "I" ∈ wsX11_isHands := by decide +kernel
theorem fw_X11_isHands_39 : Cond.fieldLink RX11 39 "StillInAugust" "house" "LStillInAugust$House;" ∈ wsX11_isHands := by decide +kernel
theorem iw_X11_isHands_X11 : ∀ w ∈ u_ws RX11 TX11 17, w ∈ wsX11_isHands := fun _ h => List.mem_cons_of_mem _ (List.mem_append_left _ (List.mem_append_right _ h))
theorem iw_X11_isHands_X4 : ∀ w ∈ u_ws RX4 TX4 14, w ∈ wsX11_isHands := fun _ h => List.mem_cons_of_mem _ (List.mem_append_right _ h)
def J_X11_isHands (sx : Nat → Nat → Int32) (sh : Nat → Nat → Int32) (p0 : Int32) : Int32 := (J_X3_areAtMost p0 (sh 0 1))
set_option maxHeartbeats 4000000 in
set_option maxRecDepth 100000 in
theorem c_X11_isHands (l : Launch) (D : va_G) (k : Nat → ClassId) (b : Nat → Nat) (qx : Nat → Nat) (sx : Nat → Nat → Int32) (qh : Nat → Nat) (sh : Nat → Nat → Int32) (sz : Nat) (p0 : Int32) (h_hk : 0 ≤ (sh 0 1).toInt ∧ (sh 0 1).toInt ≤ 4) : MetI l D k b yX11_isHands wsX11_isHands ({ frames := 2, cells := 0, slots := 0, locals := 41 } : Room) [cell30_ qx sx, cell28_ k qx sx, cell29_ k qx sx, cell31_ qx sh qh, cell0_ k qh sh, cell1_ k qh sh, cell4_ k qh sh, cell3_ k qh sh, cell2_ k qh sh] sz [.ref (qx 0), .int p0] (fun (r : Int32) (u : Unit) => (0 ≤ r.toInt ∧ r.toInt ≤ 1) ∧ (Imp (r.toInt = 1) ((0 ≤ p0.toInt ∧ p0.toInt ≤ 400 ∧ tot p0 ≤ 4) ∧ tot p0 ≤ (sh 0 1).toInt)) ∧ (r = J_X11_isHands sx sh p0)) (fun u => [cell30_ qx sx, cell28_ k qx sx, cell29_ k qx sx, cell31_ qx sh qh, cell0_ k qh sh, cell1_ k qh sh, cell4_ k qh sh, cell3_ k qh sh, cell2_ k qh sh]) := by
  refine g_enter (cc := cX11_isHands) (maxL := 2) (ret := (some .boolean)) (by decide) rfl (Nat.le_of_ble_eq_true rfl) ?_
  intro p e s m below meth c A hsz hAe cx hr hP hD hS ls hl
  rw [hAe]
  refine g_q (fun Q hQ => ?_)
  have hx := cx.1.1
  have hb := cx.1.2.1
  have bp0 := i_rng p0
  have hl : lv_has ls 2 [(0, .ref (qx 0)), (1, .int p0)] := hl
  obtain ⟨H, eH⟩ : ∃ H : Heap, H = s.heap := ⟨_, rfl⟩
  obtain ⟨locs, el⟩ : ∃ L : List Loc, L = [] := ⟨_, rfl⟩
  have hP : va_P D vwCl [cell30_ qx sx, cell28_ k qx sx, cell29_ k qx sx, cell31_ qx sh qh, cell0_ k qh sh, cell1_ k qh sh, cell4_ k qh sh, cell3_ k qh sh, cell2_ k qh sh] H := by rw [eH]; exact hP
  have hD : va_D A [cell30_ qx sx, cell28_ k qx sx, cell29_ k qx sx, cell31_ qx sh qh, cell0_ k qh sh, cell1_ k qh sh, cell4_ k qh sh, cell3_ k qh sh, cell2_ k qh sh] := hD
  have hS : va_S A s.heap H locs := by rw [eH, el]; exact hS
  suffices goal : W p l e ({ frames := 2, cells := 0, slots := 0, locals := 41 } : Room) s m ([.ref (qx 0), .int p0] : List Value).toArray below meth c H locs 0 0 Q (F0 m 0 ls []) by rw [eH, el] at goal; exact goal
  refine lv_iload_n hx hb dX11_isHands_0 rfl (lv_at hl 1 rfl) ?_
  refine lv_aload_n hx hb dX11_isHands_1 rfl (lv_at hl 0 rfl) ?_
  refine g_get cx hP iw_X11_isHands_X11 0 rfl rfl 4 (by decide) rfl fw_X11_isHands_39 rfl dX11_isHands_2 ?_
  refine g_get cx hP iw_X11_isHands_X4 3 rfl rfl 1 (by decide) rfl fw_X11_isHands_158 rfl dX11_isHands_5 ?_
  refine g_ir (g_runS (wc := []) (rest := []) cx hP hD hS [] rfl (by decide) [.int p0, .int (sh 0 1)] (c_X3_areAtMost l D k b H.size p0 (sh 0 1)) gX11_isHands_X3_areAtMost rfl rfl rfl nd_X3_areAtMost ⟨Nat.le_of_ble_eq_true rfl, Nat.le_of_ble_eq_true rfl⟩ rfl hl.1 rfl (Nat.le_of_ble_eq_true rfl) ⟨Nat.zero_le _, Nat.zero_le _⟩ dX11_isHands_8) cx.2.2.1 hP hD hS [] rfl rfl (fun r2 H locs hw1 hP hS => ?_)
  have w3 : r2 = J_X3_areAtMost p0 (sh 0 1) := hw1
  clear hw1
  have zr2 := atm_b w3
  have aw := w3
  rw [hQ]
  exact x_z cx hr (nar_z (by omega)) () hP hD hS ⟨(show 0 ≤ r2.toInt ∧ r2.toInt ≤ 1 from by omega), (show Imp (r2.toInt = 1) ((0 ≤ p0.toInt ∧ p0.toInt ≤ 400 ∧ tot p0 ≤ 4) ∧ tot p0 ≤ (sh 0 1).toInt) from fun h => atm_v aw (ne1 h) (by omega)), (show r2 = J_X11_isHands sx sh p0 from by subst w3; rfl)⟩ dX11_isHands_11
theorem kJ_X11_told_347 : Cond.constantLong RX11 347 (5) ∈ wsX11_told := by decide +kernel
def B_X11_told_9 (p0 : Int64) (p1 : Int64) (p2 : Int32) (z : Int32 × Int64 × Int64) : Sum (Int32 × Int64 × Int64) (Int64) := let v8 := (z.1); let v9 := (z.2.1); let v10 := (z.2.2); if 20 ≤ v8 then if p2 = 0 then Sum.inr (v9) else Sum.inr (v10) else if (lg_cmp (v10 - v10 / (5 : Int64) * (5 : Int64)) 0) = 0 then if (lg_cmp (v9 - v9 / (5 : Int64) * (5 : Int64)) 0) = 0 then Sum.inl (((v8 + 1), (v9 / (5 : Int64)), (v10 / (5 : Int64)))) else if p2 = 0 then Sum.inr (v9) else Sum.inr (v10) else if p2 = 0 then Sum.inr (v9) else Sum.inr (v10)
def J_X11_told (p0 : Int64) (p1 : Int64) (p2 : Int32) : Int64 := LTs default (B_X11_told_9 p0 p1 p2) 21 ((0 : Int32), p1, p0)
set_option maxHeartbeats 4000000 in
set_option maxRecDepth 100000 in
theorem c_X11_told (l : Launch) (D : va_G) (k : Nat → ClassId) (b : Nat → Nat) (sz : Nat) (p0 : Int64) (p1 : Int64) (p2 : Int32) : MetL l D k b yX11_told wsX11_told ({ frames := 0, cells := 0, slots := 0, locals := 0 } : Room) [] sz [.long p0, .long p1, .int p2] (fun (r : Int64) (u : Unit) => r = J_X11_told p0 p1 p2) (fun u => []) := by
  refine g_enter (cc := cX11_told) (maxL := 10) (ret := (some .long)) (by decide) rfl (Nat.le_of_ble_eq_true rfl) ?_
  intro p e s m below meth c A hsz hAe cx hr hP hD hS ls hl
  rw [hAe]
  refine g_q (fun Q hQ => ?_)
  have hx := cx.1.1
  have hb := cx.1.2.1
  have bp2 := i_rng p2
  have hl : lv_has ls 10 [(0, .long p0), (2, .long p1), (4, .int p2)] := hl
  obtain ⟨H, eH⟩ : ∃ H : Heap, H = s.heap := ⟨_, rfl⟩
  obtain ⟨locs, el⟩ : ∃ L : List Loc, L = [] := ⟨_, rfl⟩
  have hP : va_P D vwCl [] H := by rw [eH]; exact hP
  have hD : va_D A [] := hD
  have hS : va_S A s.heap H locs := by rw [eH, el]; exact hS
  suffices goal : W p l e ({ frames := 0, cells := 0, slots := 0, locals := 0 } : Room) s m ([.long p0, .long p1, .int p2] : List Value).toArray below meth c H locs 0 0 Q (F0 m 0 ls []) by rw [eH, el] at goal; exact goal
  refine lv_lload_n hx hb dX11_told_0 rfl (lv_at hl 0 rfl) ?_
  refine lv_lstore (lv' := [(5, .long p0), (0, .long p0), (2, .long p1), (4, .int p2)]) hx hb dX11_told_1 hl (by decide) rfl (fun ls hl => ?_)
  refine lv_lload_n hx hb dX11_told_3 rfl (lv_at hl 2 rfl) ?_
  refine lv_lstore (lv' := [(7, .long p1), (5, .long p0), (0, .long p0), (2, .long p1), (4, .int p2)]) hx hb dX11_told_4 hl (by decide) rfl (fun ls hl => ?_)
  refine lv_iconst (v := 0) hx hb dX11_told_6 (by decide) ?_
  refine lv_istore (lv' := [(9, .int 0), (7, .long p1), (5, .long p0), (0, .long p0), (2, .long p1), (4, .int p2)]) hx hb dX11_told_7 hl (by decide) rfl (fun ls hl => ?_)
  obtain ⟨rr9_1, err9_1⟩ : ∃ r : Int64, LTs (default : Int64) (B_X11_told_9 p0 p1 p2) 21 ((0 : Int32), p1, p0) = r := ⟨_, rfl⟩
  have hrr9_1 : J_X11_told p0 p1 p2 = rr9_1 := by exact err9_1
  have hL9 : ∀ (n11 : Nat) (v8 : Int32) (v9 : Int64) (v10 : Int64) (H : Heap) (locs : List Loc) (ls : Array Slot), 20 - v8.toInt < (n11 : Int) → (0 ≤ v8.toInt ∧ v8.toInt ≤ 20) → (LTs (default : Int64) (B_X11_told_9 p0 p1 p2) n11 (v8, v9, v10) = rr9_1) → va_P D vwCl [] H → va_D A [] → va_S A s.heap H locs → lv_has ls 10 [(9, .int v8), (7, .long v9), (5, .long v10), (4, .int p2)] → W p l e ({ frames := 0, cells := 0, slots := 0, locals := 0 } : Room) s m ([.long p0, .long p1, .int p2] : List Value).toArray below meth c H locs 0 0 Q (F0 m 9 ls []) := by
    intro n11
    induction n11 with
    | zero => intro v8 v9 v10 H locs ls hmn11 bv8 hzrr9_1 hP hD hS hl; exact absurd hmn11 (by omega)
    | succ n11 ih9 =>
      intro v8 v9 v10 H locs ls hmn11 bv8 hzrr9_1 hP hD hS hl
      refine lv_iload hx hb dX11_told_9 (lv_at hl 0 rfl) ?_
      refine lv_bipush (v := 20) hx hb dX11_told_11 (by decide) ?_
      refine lv_icmp_ge (tgt := 60) hx hb dX11_told_13 (by decide) (fun c12 => ?_) (fun c12 => ?_)
      · have f12 : 20 ≤ v8.toInt := f_le (by decide) rfl c12
        refine lv_iload hx hb dX11_told_60 (lv_at hl 3 rfl) ?_
        refine lv_if_eq (tgt := 70) hx hb dX11_told_62 (by decide) (fun c13 => ?_) (fun c13 => ?_)
        · have f13 : p2.toInt = 0 := f_eq rfl (by decide) c13
          refine lv_lload hx hb dX11_told_70 (lv_at hl 1 rfl) ?_
          rw [hQ]
          exact x_l cx hr () hP hD hS (show v9 = J_X11_told p0 p1 p2 from ((hrr9_1.trans (LT_r hzrr9_1 (show (B_X11_told_9 p0 p1 p2) (v8, v9, v10) = Sum.inr (v9) from by refine Eq.trans (if_pos c12) ?_; refine Eq.trans (if_pos c13) ?_; rfl)))).symm) dX11_told_72
        · have f13 : ¬ p2.toInt = 0 := f_ne rfl (by decide) c13
          refine lv_lload hx hb dX11_told_65 (lv_at hl 2 rfl) ?_
          refine lv_goto (tgt := 72) hx hb dX11_told_67 (by decide) ?_
          rw [hQ]
          exact x_l cx hr () hP hD hS (show v10 = J_X11_told p0 p1 p2 from ((hrr9_1.trans (LT_r hzrr9_1 (show (B_X11_told_9 p0 p1 p2) (v8, v9, v10) = Sum.inr (v10) from by refine Eq.trans (if_pos c12) ?_; refine Eq.trans (if_neg c13) ?_; rfl)))).symm) dX11_told_72
      · have f12 : v8.toInt < 20 := f_nle (by decide) rfl c12
        refine lv_lload hx hb dX11_told_16 (lv_at hl 2 rfl) ?_
        refine lv_ldc2 (v := 5) hx hb cx.1.2.2.2.1 (cx.1.2.2.2.2 _ kJ_X11_told_347) dX11_told_18 ?_
        refine lv_lrem hx hb dX11_told_21 (by decide) (lv_topl (fun v14 e14 => ?_))
        refine lv_lconst (v := 0) hx hb dX11_told_22 (by decide) ?_
        refine W.lcmp hx hb dX11_told_23 (lv_topi (fun v15 e15 => ?_))
        refine lv_if_ne (tgt := 60) hx hb dX11_told_24 (by decide) (fun c16 => ?_) (fun c16 => ?_)
        · have f16 : ¬ v15.toInt = 0 := f_ne rfl (by decide) c16
          refine lv_iload hx hb dX11_told_60 (lv_at hl 3 rfl) ?_
          refine lv_if_eq (tgt := 70) hx hb dX11_told_62 (by decide) (fun c17 => ?_) (fun c17 => ?_)
          · have f17 : p2.toInt = 0 := f_eq rfl (by decide) c17
            refine lv_lload hx hb dX11_told_70 (lv_at hl 1 rfl) ?_
            rw [hQ]
            exact x_l cx hr () hP hD hS (show v9 = J_X11_told p0 p1 p2 from ((hrr9_1.trans (LT_r hzrr9_1 (show (B_X11_told_9 p0 p1 p2) (v8, v9, v10) = Sum.inr (v9) from by subst e14 e15; refine Eq.trans (if_neg c12) ?_; refine Eq.trans (if_neg c16) ?_; refine Eq.trans (if_pos c17) ?_; rfl)))).symm) dX11_told_72
          · have f17 : ¬ p2.toInt = 0 := f_ne rfl (by decide) c17
            refine lv_lload hx hb dX11_told_65 (lv_at hl 2 rfl) ?_
            refine lv_goto (tgt := 72) hx hb dX11_told_67 (by decide) ?_
            rw [hQ]
            exact x_l cx hr () hP hD hS (show v10 = J_X11_told p0 p1 p2 from ((hrr9_1.trans (LT_r hzrr9_1 (show (B_X11_told_9 p0 p1 p2) (v8, v9, v10) = Sum.inr (v10) from by subst e14 e15; refine Eq.trans (if_neg c12) ?_; refine Eq.trans (if_neg c16) ?_; refine Eq.trans (if_neg c17) ?_; rfl)))).symm) dX11_told_72
        · have f16 : v15.toInt = 0 := f_eq rfl (by decide) c16
          refine lv_lload hx hb dX11_told_27 (lv_at hl 1 rfl) ?_
          refine lv_ldc2 (v := 5) hx hb cx.1.2.2.2.1 (cx.1.2.2.2.2 _ kJ_X11_told_347) dX11_told_29 ?_
          refine lv_lrem hx hb dX11_told_32 (by decide) (lv_topl (fun v18 e18 => ?_))
          refine lv_lconst (v := 0) hx hb dX11_told_33 (by decide) ?_
          refine W.lcmp hx hb dX11_told_34 (lv_topi (fun v19 e19 => ?_))
          refine lv_if_ne (tgt := 60) hx hb dX11_told_35 (by decide) (fun c20 => ?_) (fun c20 => ?_)
          · have f20 : ¬ v19.toInt = 0 := f_ne rfl (by decide) c20
            refine lv_iload hx hb dX11_told_60 (lv_at hl 3 rfl) ?_
            refine lv_if_eq (tgt := 70) hx hb dX11_told_62 (by decide) (fun c21 => ?_) (fun c21 => ?_)
            · have f21 : p2.toInt = 0 := f_eq rfl (by decide) c21
              refine lv_lload hx hb dX11_told_70 (lv_at hl 1 rfl) ?_
              rw [hQ]
              exact x_l cx hr () hP hD hS (show v9 = J_X11_told p0 p1 p2 from ((hrr9_1.trans (LT_r hzrr9_1 (show (B_X11_told_9 p0 p1 p2) (v8, v9, v10) = Sum.inr (v9) from by subst e14 e15 e18 e19; refine Eq.trans (if_neg c12) ?_; refine Eq.trans (if_pos c16) ?_; refine Eq.trans (if_neg c20) ?_; refine Eq.trans (if_pos c21) ?_; rfl)))).symm) dX11_told_72
            · have f21 : ¬ p2.toInt = 0 := f_ne rfl (by decide) c21
              refine lv_lload hx hb dX11_told_65 (lv_at hl 2 rfl) ?_
              refine lv_goto (tgt := 72) hx hb dX11_told_67 (by decide) ?_
              rw [hQ]
              exact x_l cx hr () hP hD hS (show v10 = J_X11_told p0 p1 p2 from ((hrr9_1.trans (LT_r hzrr9_1 (show (B_X11_told_9 p0 p1 p2) (v8, v9, v10) = Sum.inr (v10) from by subst e14 e15 e18 e19; refine Eq.trans (if_neg c12) ?_; refine Eq.trans (if_pos c16) ?_; refine Eq.trans (if_neg c20) ?_; refine Eq.trans (if_neg c21) ?_; rfl)))).symm) dX11_told_72
          · have f20 : v19.toInt = 0 := f_eq rfl (by decide) c20
            refine lv_lload hx hb dX11_told_38 (lv_at hl 2 rfl) ?_
            refine lv_ldc2 (v := 5) hx hb cx.1.2.2.2.1 (cx.1.2.2.2.2 _ kJ_X11_told_347) dX11_told_40 ?_
            refine lv_ldiv hx hb dX11_told_43 (by decide) (lv_topl (fun v22 e22 => ?_))
            refine lv_lstore (lv' := [(5, .long v22), (9, .int v8), (7, .long v9), (4, .int p2)]) hx hb dX11_told_44 hl (by decide) rfl (fun ls hl => ?_)
            refine lv_lload hx hb dX11_told_46 (lv_at hl 2 rfl) ?_
            refine lv_ldc2 (v := 5) hx hb cx.1.2.2.2.1 (cx.1.2.2.2.2 _ kJ_X11_told_347) dX11_told_48 ?_
            refine lv_ldiv hx hb dX11_told_51 (by decide) (lv_topl (fun v23 e23 => ?_))
            refine lv_lstore (lv' := [(7, .long v23), (5, .long v22), (9, .int v8), (4, .int p2)]) hx hb dX11_told_52 hl (by decide) rfl (fun ls hl => ?_)
            obtain ⟨v24, e24⟩ : ∃ z : Int32, z = v8 + 1 := ⟨_, rfl⟩
            refine lv_iinc (v := v24) (lv' := [(9, .int v24), (7, .long v23), (5, .long v22), (4, .int p2)]) hx hb dX11_told_54 hl (k := 2) rfl (by rw [e24]; rfl) (by decide) rfl (fun ls hl => ?_)
            have t24 : v24.toInt = v8.toInt + 1 := by rw [e24]; exact i_add rfl (by decide) (by omega) (by omega)
            refine lv_goto (tgt := 9) hx hb dX11_told_57 (by decide) ?_
            exact ih9 v24 v23 v22 _ _ _ (by omega) (by first | decide | omega) (LT_g hzrr9_1 (show (B_X11_told_9 p0 p1 p2) (v8, v9, v10) = Sum.inl (v24, v23, v22) from by subst e14 e15 e18 e19 e22 e23 e24; refine Eq.trans (if_neg c12) ?_; refine Eq.trans (if_pos c16) ?_; refine Eq.trans (if_pos c20) ?_; rfl)) hP hD hS (lv_sub hl [0, 1, 2, 3] rfl)
  have hlit25 : (0 : Int32).toInt = 0 := by decide
  exact hL9 (21) 0 p1 p0 _ _ _ (by omega) (by first | decide | omega) err9_1 hP hD hS (lv_sub hl [0, 1, 2, 5] rfl)
theorem fw_X11_levelBy_45 : Cond.fieldLink RX11 45 "StillInAugust" "levels" "[I" ∈ wsX11_levelBy := by decide +kernel
theorem iw_X11_levelBy_X11 : ∀ w ∈ u_ws RX11 TX11 17, w ∈ wsX11_levelBy := fun _ h => List.mem_cons_of_mem _ (List.mem_append_right _ h)
def J_X11_levelBy (sx : Nat → Nat → Int32) (p0 : Int32) (p1 : Int32) : Int32 := ((sx 1) (((p0 * (5 : Int32)) + p1)).toNatClampNeg)
set_option maxHeartbeats 4000000 in
set_option maxRecDepth 100000 in
theorem c_X11_levelBy (l : Launch) (D : va_G) (k : Nat → ClassId) (b : Nat → Nat) (qx : Nat → Nat) (sx : Nat → Nat → Int32) (sz : Nat) (p0 : Int32) (p1 : Int32) (hp0 : 0 ≤ p0.toInt ∧ p0.toInt ≤ 2) (hp1 : 0 ≤ p1.toInt ∧ p1.toInt ≤ 4) : MetI l D k b yX11_levelBy wsX11_levelBy ({ frames := 0, cells := 0, slots := 0, locals := 0 } : Room) [cell30_ qx sx, cell28_ k qx sx, cell29_ k qx sx] sz [.ref (qx 0), .int p0, .int p1] (fun (r : Int32) (u : Unit) => r = J_X11_levelBy sx p0 p1) (fun u => [cell30_ qx sx, cell28_ k qx sx, cell29_ k qx sx]) := by
  refine g_enter (cc := cX11_levelBy) (maxL := 3) (ret := (some .int)) (by decide) rfl (Nat.le_of_ble_eq_true rfl) ?_
  intro p e s m below meth c A hsz hAe cx hr hP hD hS ls hl
  rw [hAe]
  refine g_q (fun Q hQ => ?_)
  have hx := cx.1.1
  have hb := cx.1.2.1
  have bp0 := i_rng p0
  have bp1 := i_rng p1
  have hl : lv_has ls 3 [(0, .ref (qx 0)), (1, .int p0), (2, .int p1)] := hl
  obtain ⟨H, eH⟩ : ∃ H : Heap, H = s.heap := ⟨_, rfl⟩
  obtain ⟨locs, el⟩ : ∃ L : List Loc, L = [] := ⟨_, rfl⟩
  have hP : va_P D vwCl [cell30_ qx sx, cell28_ k qx sx, cell29_ k qx sx] H := by rw [eH]; exact hP
  have hD : va_D A [cell30_ qx sx, cell28_ k qx sx, cell29_ k qx sx] := hD
  have hS : va_S A s.heap H locs := by rw [eH, el]; exact hS
  suffices goal : W p l e ({ frames := 0, cells := 0, slots := 0, locals := 0 } : Room) s m ([.ref (qx 0), .int p0, .int p1] : List Value).toArray below meth c H locs 0 0 Q (F0 m 0 ls []) by rw [eH, el] at goal; exact goal
  refine lv_aload_n hx hb dX11_levelBy_0 rfl (lv_at hl 0 rfl) ?_
  refine g_get cx hP iw_X11_levelBy_X11 0 rfl rfl 6 (by decide) rfl fw_X11_levelBy_45 rfl dX11_levelBy_1 ?_
  refine lv_iload_n hx hb dX11_levelBy_4 rfl (lv_at hl 1 rfl) ?_
  refine lv_iconst (v := 5) hx hb dX11_levelBy_5 (by decide) ?_
  refine lv_imul hx hb dX11_levelBy_6 (lv_topi (fun v1 e1 => ?_))
  have t1 : v1.toInt = p0.toInt * 5 := by rw [e1]; exact i_mul rfl (by decide) (by omega) (by omega)
  refine lv_iload_n hx hb dX11_levelBy_7 rfl (lv_at hl 2 rfl) ?_
  refine lv_iadd hx hb dX11_levelBy_8 (lv_topi (fun v2 e2 => ?_))
  have t2 : v2.toInt = v1.toInt + p1.toInt := by rw [e2]; exact i_add rfl rfl (by omega) (by omega)
  have hn3 : vp_in v2 15 := f_in (a := v2.toInt) rfl (by omega) (by omega)
  refine va_iald hx hb cx.2.1 hP 1 0 rfl rfl hn3 dX11_levelBy_9 (lv_topi (fun v4 e4 => ?_))
  rw [hQ]
  exact x_i cx hr () hP hD hS (show v4 = J_X11_levelBy sx p0 p1 from by subst e1 e2 e4; rfl) dX11_levelBy_10
theorem fw_X11_refuseState_39 : Cond.fieldLink RX11 39 "StillInAugust" "house" "LStillInAugust$House;" ∈ wsX11_refuseState := by decide +kernel
theorem nd_X11_isHands : yX11_isHands.cls = RX11 ∧ yX11_isHands.cls ≠ "java/lang/invoke/MethodHandle" ∧ yX11_isHands.cls ≠ "java/lang/invoke/VarHandle" ∧ (parseMethodDescriptor yX11_isHands.desc).map (fun d => d.parameters.length) = some 1 := by decide +kernel
theorem nd_X11_isWeek : yX11_isWeek.cls = RX11 ∧ yX11_isWeek.cls ≠ "java/lang/invoke/MethodHandle" ∧ yX11_isWeek.cls ≠ "java/lang/invoke/VarHandle" ∧ (parseMethodDescriptor yX11_isWeek.desc).map (fun d => d.parameters.length) = some 1 := by decide +kernel
theorem iw_X11_refuseState_X11 : ∀ w ∈ u_ws RX11 TX11 17, w ∈ wsX11_refuseState := fun _ h => List.mem_cons_of_mem _ (List.mem_append_left _ (List.mem_append_right _ h))
def J_X11_refuseState (sx : Nat → Nat → Int32) (sh : Nat → Nat → Int32) (p0 : Int32) (p1 : Int32) (p2 : Int32) : Int32 := let y6 := J_X11_isWeek sx (lS [(lI [(sh 0 0), (sh 0 1), 0, 0, 0, 0, (sh 0 6), (sh 0 7), (sh 0 8), (sh 0 9), (sh 0 10), (sh 0 11), (sh 0 12)]), (sh 1), (sh 2), (sh 3), (sh 4), (sh 5)]) p0; if y6 = 0 then ((-1) : Int32) else let y14 := J_X11_isHands sx (lS [(lI [(sh 0 0), (sh 0 1), 0, 0, 0, 0, (sh 0 6), (sh 0 7), (sh 0 8), (sh 0 9), (sh 0 10), (sh 0 11), (sh 0 12)]), (sh 1), (sh 2), (sh 3), (sh 4), (sh 5)]) p1; if y14 = 0 then ((-2) : Int32) else if p2 < 0 then ((-2) : Int32) else let y24 := J_X4_mostComing (lS [(lI [(sh 0 0), (sh 0 1), 0, 0, 0, 0, (sh 0 6), (sh 0 7), (sh 0 8), (sh 0 9), (sh 0 10), (sh 0 11), (sh 0 12)]), (sh 1), (sh 2), (sh 3), (sh 4), (sh 5)]); if p2 ≤ y24 then (0 : Int32) else ((-2) : Int32)
set_option maxHeartbeats 4000000 in
set_option maxRecDepth 100000 in
theorem c_X11_refuseState (l : Launch) (D : va_G) (k : Nat → ClassId) (b : Nat → Nat) (qx : Nat → Nat) (sx : Nat → Nat → Int32) (qh : Nat → Nat) (sh : Nat → Nat → Int32) (sz : Nat) (p0 : Int32) (p1 : Int32) (p2 : Int32) (h_wk : 0 ≤ (sh 0 0).toInt ∧ (sh 0 0).toInt ≤ 5) (h_hk : 0 ≤ (sh 0 1).toInt ∧ (sh 0 1).toInt ≤ 4) : MetI l D k b yX11_refuseState wsX11_refuseState ({ frames := 3, cells := 0, slots := 0, locals := 62 } : Room) [cell30_ qx sx, cell28_ k qx sx, cell29_ k qx sx, cell31_ qx sh qh, cell0_ k qh sh, cell1_ k qh sh, cell4_ k qh sh, cell3_ k qh sh, cell2_ k qh sh] sz [.ref (qx 0), .int p0, .int p1, .int p2] (fun (r : Int32) (u : Unit) => (¬ r.toInt = 0 ∨ (0 ≤ p0.toInt ∧ p0.toInt ≤ 4 ∧ p0.toInt < (sh 0 0).toInt ∧ (0 ≤ p1.toInt ∧ p1.toInt ≤ 400 ∧ tot p1 ≤ 4) ∧ tot p1 ≤ (sh 0 1).toInt ∧ 0 ≤ p2.toInt ∧ p2.toInt ≤ 2)) ∧ (r = J_X11_refuseState sx sh p0 p1 p2)) (fun u => [cell30_ qx sx, cell28_ k qx sx, cell29_ k qx sx, cell31_ qx sh qh, cell0_ k qh sh, cell1_ k qh sh, cell4_ k qh sh, cell3_ k qh sh, cell2_ k qh sh]) := by
  refine g_enter (cc := cX11_refuseState) (maxL := 4) (ret := (some .int)) (by decide) rfl (Nat.le_of_ble_eq_true rfl) ?_
  intro p e s m below meth c A hsz hAe cx hr hP hD hS ls hl
  rw [hAe]
  refine g_q (fun Q hQ => ?_)
  have hx := cx.1.1
  have hb := cx.1.2.1
  have bp0 := i_rng p0
  have bp1 := i_rng p1
  have bp2 := i_rng p2
  have hl : lv_has ls 4 [(0, .ref (qx 0)), (1, .int p0), (2, .int p1), (3, .int p2)] := hl
  obtain ⟨H, eH⟩ : ∃ H : Heap, H = s.heap := ⟨_, rfl⟩
  obtain ⟨locs, el⟩ : ∃ L : List Loc, L = [] := ⟨_, rfl⟩
  have hP : va_P D vwCl [cell30_ qx sx, cell28_ k qx sx, cell29_ k qx sx, cell31_ qx sh qh, cell0_ k qh sh, cell1_ k qh sh, cell4_ k qh sh, cell3_ k qh sh, cell2_ k qh sh] H := by rw [eH]; exact hP
  have hD : va_D A [cell30_ qx sx, cell28_ k qx sx, cell29_ k qx sx, cell31_ qx sh qh, cell0_ k qh sh, cell1_ k qh sh, cell4_ k qh sh, cell3_ k qh sh, cell2_ k qh sh] := hD
  have hS : va_S A s.heap H locs := by rw [eH, el]; exact hS
  suffices goal : W p l e ({ frames := 3, cells := 0, slots := 0, locals := 62 } : Room) s m ([.ref (qx 0), .int p0, .int p1, .int p2] : List Value).toArray below meth c H locs 0 0 Q (F0 m 0 ls []) by rw [eH, el] at goal; exact goal
  refine lv_aload_n hx hb dX11_refuseState_0 rfl (lv_at hl 0 rfl) ?_
  refine lv_iload_n hx hb dX11_refuseState_1 rfl (lv_at hl 1 rfl) ?_
  refine g_iF (w1 := fun (_ : Unit) => [cell30_ qx sx, cell28_ k qx sx, cell29_ k qx sx, cell31_ qx sh qh, cell0_ k qh sh, cell1_ k qh sh, cell4_ k qh sh, cell3_ k qh sh, cell2_ k qh sh]) (g_runVF (ws := [cell30_ qx sx, cell28_ k qx sx, cell29_ k qx sx, cell31_ qx sh qh, cell0_ k qh sh, cell1_ k qh sh, cell4_ k qh sh, cell3_ k qh sh, cell2_ k qh sh]) (rest := []) cx hP hD hS [.int p0] (c_X11_isWeek l D k b qx sx (lq [0, qh 1, qh 2, qh 3, qh 4, qh 5]) (lS [(lI [(sh 0 0), (sh 0 1), 0, 0, 0, 0, (sh 0 6), (sh 0 7), (sh 0 8), (sh 0 9), (sh 0 10), (sh 0 11), (sh 0 12)]), (sh 1), (sh 2), (sh 3), (sh 4), (sh 5)]) H.size p0 (show 0 ≤ (sh 0 0).toInt ∧ (sh 0 0).toInt ≤ 5 from by first | decide | omega)) gX11_refuseState_X11_isWeek rfl rfl rfl nd_X11_isWeek ⟨Nat.le_of_ble_eq_true rfl, Nat.le_of_ble_eq_true rfl⟩ (ci := 9) (q0 := 0) rfl rfl rfl hl.1 rfl (Nat.le_of_ble_eq_true rfl) ⟨Nat.zero_le _, Nat.zero_le _⟩ dX11_refuseState_2) cx.2.2.1 hD hS (fun r2 _ H locs hw1 hP hD hS => ?_)
  replace hw1 : (0 ≤ r2.toInt ∧ r2.toInt ≤ 1) ∧ (Imp (r2.toInt = 1) (0 ≤ p0.toInt ∧ p0.toInt ≤ 4 ∧ p0.toInt < (sh 0 0).toInt)) ∧ (r2 = J_X11_isWeek sx (lS [(lI [(sh 0 0), (sh 0 1), 0, 0, 0, 0, (sh 0 6), (sh 0 7), (sh 0 8), (sh 0 9), (sh 0 10), (sh 0 11), (sh 0 12)]), (sh 1), (sh 2), (sh 3), (sh 4), (sh 5)]) p0) := hw1
  obtain ⟨w3, w4, w5⟩ := hw1
  have k7 : r2 = (J_X11_isWeek sx (lS [(lI [(sh 0 0), (sh 0 1), 0, 0, 0, 0, (sh 0 6), (sh 0 7), (sh 0 8), (sh 0 9), (sh 0 10), (sh 0 11), (sh 0 12)]), (sh 1), (sh 2), (sh 3), (sh 4), (sh 5)]) p0) := congrArg (fun z => z) w5
  have zr2 : 0 ≤ r2.toInt ∧ r2.toInt ≤ 1 := w3
  refine lv_if_ne (tgt := 10) hx hb dX11_refuseState_5 (by decide) (fun c8 => ?_) (fun c8 => ?_)
  · have f8 : ¬ r2.toInt = 0 := f_ne rfl (by decide) c8
    have k8 : (0 ≤ p0.toInt ∧ p0.toInt ≤ 4 ∧ p0.toInt < (sh 0 0).toInt) := w4 (by omega)
    refine lv_aload_n hx hb dX11_refuseState_10 rfl (lv_at hl 0 rfl) ?_
    refine lv_iload_n hx hb dX11_refuseState_11 rfl (lv_at hl 2 rfl) ?_
    refine g_iF (w1 := fun (_ : Unit) => [cell30_ qx sx, cell28_ k qx sx, cell29_ k qx sx, cell31_ qx sh qh, cell0_ k qh sh, cell1_ k qh sh, cell4_ k qh sh, cell3_ k qh sh, cell2_ k qh sh]) (g_runVF (ws := [cell30_ qx sx, cell28_ k qx sx, cell29_ k qx sx, cell31_ qx sh qh, cell0_ k qh sh, cell1_ k qh sh, cell4_ k qh sh, cell3_ k qh sh, cell2_ k qh sh]) (rest := []) cx hP hD hS [.int p1] (c_X11_isHands l D k b qx sx (lq [0, qh 1, qh 2, qh 3, qh 4, qh 5]) (lS [(lI [(sh 0 0), (sh 0 1), 0, 0, 0, 0, (sh 0 6), (sh 0 7), (sh 0 8), (sh 0 9), (sh 0 10), (sh 0 11), (sh 0 12)]), (sh 1), (sh 2), (sh 3), (sh 4), (sh 5)]) H.size p1 (show 0 ≤ (sh 0 1).toInt ∧ (sh 0 1).toInt ≤ 4 from by first | decide | omega)) gX11_refuseState_X11_isHands rfl rfl rfl nd_X11_isHands ⟨Nat.le_of_ble_eq_true rfl, Nat.le_of_ble_eq_true rfl⟩ (ci := 9) (q0 := 0) rfl rfl rfl hl.1 rfl (Nat.le_of_ble_eq_true rfl) ⟨Nat.zero_le _, Nat.zero_le _⟩ dX11_refuseState_12) cx.2.2.1 hD hS (fun r10 _ H locs hw9 hP hD hS => ?_)
    replace hw9 : (0 ≤ r10.toInt ∧ r10.toInt ≤ 1) ∧ (Imp (r10.toInt = 1) ((0 ≤ p1.toInt ∧ p1.toInt ≤ 400 ∧ tot p1 ≤ 4) ∧ tot p1 ≤ (sh 0 1).toInt)) ∧ (r10 = J_X11_isHands sx (lS [(lI [(sh 0 0), (sh 0 1), 0, 0, 0, 0, (sh 0 6), (sh 0 7), (sh 0 8), (sh 0 9), (sh 0 10), (sh 0 11), (sh 0 12)]), (sh 1), (sh 2), (sh 3), (sh 4), (sh 5)]) p1) := hw9
    obtain ⟨w11, w12, w13⟩ := hw9
    have k15 : r10 = (J_X11_isHands sx (lS [(lI [(sh 0 0), (sh 0 1), 0, 0, 0, 0, (sh 0 6), (sh 0 7), (sh 0 8), (sh 0 9), (sh 0 10), (sh 0 11), (sh 0 12)]), (sh 1), (sh 2), (sh 3), (sh 4), (sh 5)]) p1) := congrArg (fun z => z) w13
    have zr10 : 0 ≤ r10.toInt ∧ r10.toInt ≤ 1 := w11
    refine lv_if_eq (tgt := 33) hx hb dX11_refuseState_15 (by decide) (fun c16 => ?_) (fun c16 => ?_)
    · have f16 : r10.toInt = 0 := f_eq rfl (by decide) c16
      refine lv_bipush (v := (-2)) hx hb dX11_refuseState_33 (by decide) ?_
      have hlit17 : ((-2) : Int32).toInt = -2 := by decide
      rw [hQ]
      exact x_i cx hr () hP hD hS ⟨(show ¬ ((-2) : Int32).toInt = 0 ∨ (0 ≤ p0.toInt ∧ p0.toInt ≤ 4 ∧ p0.toInt < (sh 0 0).toInt ∧ (0 ≤ p1.toInt ∧ p1.toInt ≤ 400 ∧ tot p1 ≤ 4) ∧ tot p1 ≤ (sh 0 1).toInt ∧ 0 ≤ p2.toInt ∧ p2.toInt ≤ 2) from by omega), (show ((-2) : Int32) = J_X11_refuseState sx sh p0 p1 p2 from by subst k7 k15; first | (refine Eq.symm ?_; refine Eq.trans (if_neg c8) ?_; refine Eq.trans (if_pos c16) ?_; rfl) | (unfold J_X11_refuseState; try dsimp only; rw [if_neg c8, if_pos c16]))⟩ dX11_refuseState_35
    · have f16 : ¬ r10.toInt = 0 := f_ne rfl (by decide) c16
      have k16 : ((0 ≤ p1.toInt ∧ p1.toInt ≤ 400 ∧ tot p1 ≤ 4) ∧ tot p1 ≤ (sh 0 1).toInt) := w12 (by omega)
      refine lv_iload_n hx hb dX11_refuseState_18 rfl (lv_at hl 3 rfl) ?_
      refine lv_if_lt (tgt := 33) hx hb dX11_refuseState_19 (by decide) (fun c18 => ?_) (fun c18 => ?_)
      · have f18 : p2.toInt < 0 := f_lt rfl (by decide) c18
        refine lv_bipush (v := (-2)) hx hb dX11_refuseState_33 (by decide) ?_
        have hlit19 : ((-2) : Int32).toInt = -2 := by decide
        rw [hQ]
        exact x_i cx hr () hP hD hS ⟨(show ¬ ((-2) : Int32).toInt = 0 ∨ (0 ≤ p0.toInt ∧ p0.toInt ≤ 4 ∧ p0.toInt < (sh 0 0).toInt ∧ (0 ≤ p1.toInt ∧ p1.toInt ≤ 400 ∧ tot p1 ≤ 4) ∧ tot p1 ≤ (sh 0 1).toInt ∧ 0 ≤ p2.toInt ∧ p2.toInt ≤ 2) from by omega), (show ((-2) : Int32) = J_X11_refuseState sx sh p0 p1 p2 from by subst k7 k15; first | (refine Eq.symm ?_; refine Eq.trans (if_neg c8) ?_; refine Eq.trans (if_neg c16) ?_; refine Eq.trans (if_pos c18) ?_; rfl) | (unfold J_X11_refuseState; try dsimp only; rw [if_neg c8, if_neg c16, if_pos c18]))⟩ dX11_refuseState_35
      · have f18 : 0 ≤ p2.toInt := f_nlt rfl (by decide) c18
        refine lv_iload_n hx hb dX11_refuseState_22 rfl (lv_at hl 3 rfl) ?_
        refine lv_aload_n hx hb dX11_refuseState_23 rfl (lv_at hl 0 rfl) ?_
        refine g_get cx hP iw_X11_refuseState_X11 0 rfl rfl 4 (by decide) rfl fw_X11_refuseState_39 rfl dX11_refuseState_24 ?_
        refine g_ir (g_runV (wc := [cell31_ qx sh qh, cell0_ k qh sh, cell1_ k qh sh, cell4_ k qh sh, cell3_ k qh sh, cell2_ k qh sh]) (rest := [.int p2]) cx hP hD hS [3, 4, 5, 6, 7, 8] rfl (by decide) [] (c_X4_mostComing l D k b (lq [qx 7, qh 1, qh 2, qh 3, qh 4, qh 5]) (lS [(lI [(sh 0 0), (sh 0 1), 0, 0, 0, 0, (sh 0 6), (sh 0 7), (sh 0 8), (sh 0 9), (sh 0 10), (sh 0 11), (sh 0 12)]), (sh 1), (sh 2), (sh 3), (sh 4), (sh 5)]) H.size) gX11_refuseState_X4_mostComing rfl rfl rfl nd_X4_mostComing ⟨Nat.le_of_ble_eq_true rfl, Nat.le_of_ble_eq_true rfl⟩ (ci := 2) (q0 := 0) rfl rfl rfl hl.1 rfl (Nat.le_of_ble_eq_true rfl) ⟨Nat.zero_le _, Nat.zero_le _⟩ dX11_refuseState_27) cx.2.2.1 hP hD hS [3, 4, 5, 6, 7, 8] rfl rfl (fun r21 H locs hw20 hP hS => ?_)
        replace hw20 : (r21.toInt = 0 ∨ r21.toInt = 2) ∧ (r21 = J_X4_mostComing (lS [(lI [(sh 0 0), (sh 0 1), 0, 0, 0, 0, (sh 0 6), (sh 0 7), (sh 0 8), (sh 0 9), (sh 0 10), (sh 0 11), (sh 0 12)]), (sh 1), (sh 2), (sh 3), (sh 4), (sh 5)])) := hw20
        obtain ⟨w22, w23⟩ := hw20
        have k25 : r21 = (J_X4_mostComing (lS [(lI [(sh 0 0), (sh 0 1), 0, 0, 0, 0, (sh 0 6), (sh 0 7), (sh 0 8), (sh 0 9), (sh 0 10), (sh 0 11), (sh 0 12)]), (sh 1), (sh 2), (sh 3), (sh 4), (sh 5)])) := congrArg (fun z => z) w23
        refine lv_icmp_le (tgt := 36) hx hb dX11_refuseState_30 (by decide) (fun c26 => ?_) (fun c26 => ?_)
        · have f26 : p2.toInt ≤ r21.toInt := f_le rfl rfl c26
          refine lv_iconst (v := 0) hx hb dX11_refuseState_36 (by decide) ?_
          have hlit27 : (0 : Int32).toInt = 0 := by decide
          rw [hQ]
          exact x_i cx hr () hP hD hS ⟨(show ¬ (0 : Int32).toInt = 0 ∨ (0 ≤ p0.toInt ∧ p0.toInt ≤ 4 ∧ p0.toInt < (sh 0 0).toInt ∧ (0 ≤ p1.toInt ∧ p1.toInt ≤ 400 ∧ tot p1 ≤ 4) ∧ tot p1 ≤ (sh 0 1).toInt ∧ 0 ≤ p2.toInt ∧ p2.toInt ≤ 2) from by omega), (show (0 : Int32) = J_X11_refuseState sx sh p0 p1 p2 from by subst k7 k15 k25; first | (refine Eq.symm ?_; refine Eq.trans (if_neg c8) ?_; refine Eq.trans (if_neg c16) ?_; refine Eq.trans (if_neg c18) ?_; refine Eq.trans (if_pos c26) ?_; rfl) | (unfold J_X11_refuseState; try dsimp only; rw [if_neg c8, if_neg c16, if_neg c18, if_pos c26]))⟩ dX11_refuseState_37
        · have f26 : r21.toInt < p2.toInt := f_nle rfl rfl c26
          refine lv_bipush (v := (-2)) hx hb dX11_refuseState_33 (by decide) ?_
          have hlit28 : ((-2) : Int32).toInt = -2 := by decide
          rw [hQ]
          exact x_i cx hr () hP hD hS ⟨(show ¬ ((-2) : Int32).toInt = 0 ∨ (0 ≤ p0.toInt ∧ p0.toInt ≤ 4 ∧ p0.toInt < (sh 0 0).toInt ∧ (0 ≤ p1.toInt ∧ p1.toInt ≤ 400 ∧ tot p1 ≤ 4) ∧ tot p1 ≤ (sh 0 1).toInt ∧ 0 ≤ p2.toInt ∧ p2.toInt ≤ 2) from by omega), (show ((-2) : Int32) = J_X11_refuseState sx sh p0 p1 p2 from by subst k7 k15 k25; first | (refine Eq.symm ?_; refine Eq.trans (if_neg c8) ?_; refine Eq.trans (if_neg c16) ?_; refine Eq.trans (if_neg c18) ?_; refine Eq.trans (if_neg c26) ?_; rfl) | (unfold J_X11_refuseState; try dsimp only; rw [if_neg c8, if_neg c16, if_neg c18, if_neg c26]))⟩ dX11_refuseState_35
  · have f8 : r2.toInt = 0 := f_eq rfl (by decide) c8
    refine lv_iconst (v := (-1)) hx hb dX11_refuseState_8 (by decide) ?_
    have hlit29 : ((-1) : Int32).toInt = -1 := by decide
    rw [hQ]
    exact x_i cx hr () hP hD hS ⟨(show ¬ ((-1) : Int32).toInt = 0 ∨ (0 ≤ p0.toInt ∧ p0.toInt ≤ 4 ∧ p0.toInt < (sh 0 0).toInt ∧ (0 ≤ p1.toInt ∧ p1.toInt ≤ 400 ∧ tot p1 ≤ 4) ∧ tot p1 ≤ (sh 0 1).toInt ∧ 0 ≤ p2.toInt ∧ p2.toInt ≤ 2) from by omega), (show ((-1) : Int32) = J_X11_refuseState sx sh p0 p1 p2 from by subst k7; first | (refine Eq.symm ?_; refine Eq.trans (if_pos c8) ?_; rfl) | (unfold J_X11_refuseState; try dsimp only; rw [if_pos c8]))⟩ dX11_refuseState_9
theorem fw_X11_refuseAct_39 : Cond.fieldLink RX11 39 "StillInAugust" "house" "LStillInAugust$House;" ∈ wsX11_refuseAct := by decide +kernel
theorem nd_X11_refuseState : yX11_refuseState.cls = RX11 ∧ yX11_refuseState.cls ≠ "java/lang/invoke/MethodHandle" ∧ yX11_refuseState.cls ≠ "java/lang/invoke/VarHandle" ∧ (parseMethodDescriptor yX11_refuseState.desc).map (fun d => d.parameters.length) = some 3 := by decide +kernel
theorem iw_X11_refuseAct_X11 : ∀ w ∈ u_ws RX11 TX11 17, w ∈ wsX11_refuseAct := fun _ h => List.mem_cons_of_mem _ (List.mem_append_left _ (List.mem_append_right _ h))
def J_X11_refuseAct (sx : Nat → Nat → Int32) (sh : Nat → Nat → Int32) (p0 : Int32) (p1 : Int32) (p2 : Int32) (p3 : Int32) : Int32 := let y5 := J_X11_refuseState sx (lS [(lI [(sh 0 0), (sh 0 1), 0, 0, 0, 0, (sh 0 6), (sh 0 7), (sh 0 8), (sh 0 9), (sh 0 10), (sh 0 11), (sh 0 12)]), (sh 1), (sh 2), (sh 3), (sh 4), (sh 5)]) p0 p1 p2; if y5 = 0 then if 0 ≤ p3 then let y14 := J_X4_allows (lS [(lI [(sh 0 0), (sh 0 1), 0, 0, 0, 0, (sh 0 6), (sh 0 7), (sh 0 8), (sh 0 9), (sh 0 10), (sh 0 11), (sh 0 12)]), (sh 1), (sh 2), (sh 3), (sh 4), (sh 5)]) p0 p1 p3; if y14 = 0 then ((-3) : Int32) else (0 : Int32) else ((-2) : Int32) else y5
set_option maxHeartbeats 4000000 in
set_option maxRecDepth 100000 in
theorem c_X11_refuseAct (l : Launch) (D : va_G) (k : Nat → ClassId) (b : Nat → Nat) (qx : Nat → Nat) (sx : Nat → Nat → Int32) (qh : Nat → Nat) (sh : Nat → Nat → Int32) (sz : Nat) (p0 : Int32) (p1 : Int32) (p2 : Int32) (p3 : Int32) (h_wk : 0 ≤ (sh 0 0).toInt ∧ (sh 0 0).toInt ≤ 5) (h_hk : 0 ≤ (sh 0 1).toInt ∧ (sh 0 1).toInt ≤ 4) (h_fl : 0 ≤ (sh 0 12).toInt ∧ (sh 0 12).toInt ≤ 5) (h_of : ∀ j, 0 ≤ (sh 2 j).toInt ∧ (sh 2 j).toInt ≤ 4) (h_go : ∀ j, 0 ≤ (sh 3 j).toInt ∧ (sh 3 j).toInt ≤ 5) : MetI l D k b yX11_refuseAct wsX11_refuseAct ({ frames := 4, cells := 0, slots := 0, locals := 85 } : Room) [cell30_ qx sx, cell28_ k qx sx, cell29_ k qx sx, cell31_ qx sh qh, cell0_ k qh sh, cell1_ k qh sh, cell4_ k qh sh, cell3_ k qh sh, cell2_ k qh sh] sz [.ref (qx 0), .int p0, .int p1, .int p2, .int p3] (fun (r : Int32) (u : Unit) => (¬ r.toInt = 0 ∨ (0 ≤ p0.toInt ∧ p0.toInt ≤ 4 ∧ p0.toInt < (sh 0 0).toInt ∧ (0 ≤ p1.toInt ∧ p1.toInt ≤ 400 ∧ tot p1 ≤ 4) ∧ tot p1 ≤ (sh 0 1).toInt ∧ 0 ≤ p2.toInt ∧ p2.toInt ≤ 2 ∧ 0 ≤ p3.toInt ∧ 0 ≤ (J_X0_done p1 p3).toInt ∧ (J_X0_done p1 p3).toInt ≤ 400 ∧ tot (J_X0_done p1 p3) ≤ 4)) ∧ (r = J_X11_refuseAct sx sh p0 p1 p2 p3)) (fun u => [cell30_ qx sx, cell28_ k qx sx, cell29_ k qx sx, cell31_ qx sh qh, cell0_ k qh sh, cell1_ k qh sh, cell4_ k qh sh, cell3_ k qh sh, cell2_ k qh sh]) := by
  refine g_enter (cc := cX11_refuseAct) (maxL := 6) (ret := (some .int)) (by decide) rfl (Nat.le_of_ble_eq_true rfl) ?_
  intro p e s m below meth c A hsz hAe cx hr hP hD hS ls hl
  rw [hAe]
  refine g_q (fun Q hQ => ?_)
  have hx := cx.1.1
  have hb := cx.1.2.1
  have bp0 := i_rng p0
  have bp1 := i_rng p1
  have bp2 := i_rng p2
  have bp3 := i_rng p3
  have hl : lv_has ls 6 [(0, .ref (qx 0)), (1, .int p0), (2, .int p1), (3, .int p2), (4, .int p3)] := hl
  obtain ⟨H, eH⟩ : ∃ H : Heap, H = s.heap := ⟨_, rfl⟩
  obtain ⟨locs, el⟩ : ∃ L : List Loc, L = [] := ⟨_, rfl⟩
  have hP : va_P D vwCl [cell30_ qx sx, cell28_ k qx sx, cell29_ k qx sx, cell31_ qx sh qh, cell0_ k qh sh, cell1_ k qh sh, cell4_ k qh sh, cell3_ k qh sh, cell2_ k qh sh] H := by rw [eH]; exact hP
  have hD : va_D A [cell30_ qx sx, cell28_ k qx sx, cell29_ k qx sx, cell31_ qx sh qh, cell0_ k qh sh, cell1_ k qh sh, cell4_ k qh sh, cell3_ k qh sh, cell2_ k qh sh] := hD
  have hS : va_S A s.heap H locs := by rw [eH, el]; exact hS
  suffices goal : W p l e ({ frames := 4, cells := 0, slots := 0, locals := 85 } : Room) s m ([.ref (qx 0), .int p0, .int p1, .int p2, .int p3] : List Value).toArray below meth c H locs 0 0 Q (F0 m 0 ls []) by rw [eH, el] at goal; exact goal
  refine lv_aload_n hx hb dX11_refuseAct_0 rfl (lv_at hl 0 rfl) ?_
  refine lv_iload_n hx hb dX11_refuseAct_1 rfl (lv_at hl 1 rfl) ?_
  refine lv_iload_n hx hb dX11_refuseAct_2 rfl (lv_at hl 2 rfl) ?_
  refine lv_iload_n hx hb dX11_refuseAct_3 rfl (lv_at hl 3 rfl) ?_
  refine g_iF (w1 := fun (_ : Unit) => [cell30_ qx sx, cell28_ k qx sx, cell29_ k qx sx, cell31_ qx sh qh, cell0_ k qh sh, cell1_ k qh sh, cell4_ k qh sh, cell3_ k qh sh, cell2_ k qh sh]) (g_runVF (ws := [cell30_ qx sx, cell28_ k qx sx, cell29_ k qx sx, cell31_ qx sh qh, cell0_ k qh sh, cell1_ k qh sh, cell4_ k qh sh, cell3_ k qh sh, cell2_ k qh sh]) (rest := []) cx hP hD hS [.int p0, .int p1, .int p2] (c_X11_refuseState l D k b qx sx (lq [0, qh 1, qh 2, qh 3, qh 4, qh 5]) (lS [(lI [(sh 0 0), (sh 0 1), 0, 0, 0, 0, (sh 0 6), (sh 0 7), (sh 0 8), (sh 0 9), (sh 0 10), (sh 0 11), (sh 0 12)]), (sh 1), (sh 2), (sh 3), (sh 4), (sh 5)]) H.size p0 p1 p2 (show 0 ≤ (sh 0 0).toInt ∧ (sh 0 0).toInt ≤ 5 from by first | decide | omega) (show 0 ≤ (sh 0 1).toInt ∧ (sh 0 1).toInt ≤ 4 from by first | decide | omega)) gX11_refuseAct_X11_refuseState rfl rfl rfl nd_X11_refuseState ⟨Nat.le_of_ble_eq_true rfl, Nat.le_of_ble_eq_true rfl⟩ (ci := 9) (q0 := 0) rfl rfl rfl hl.1 rfl (Nat.le_of_ble_eq_true rfl) ⟨Nat.zero_le _, Nat.zero_le _⟩ dX11_refuseAct_4) cx.2.2.1 hD hS (fun r2 _ H locs hw1 hP hD hS => ?_)
  replace hw1 : (¬ r2.toInt = 0 ∨ (0 ≤ p0.toInt ∧ p0.toInt ≤ 4 ∧ p0.toInt < (sh 0 0).toInt ∧ (0 ≤ p1.toInt ∧ p1.toInt ≤ 400 ∧ tot p1 ≤ 4) ∧ tot p1 ≤ (sh 0 1).toInt ∧ 0 ≤ p2.toInt ∧ p2.toInt ≤ 2)) ∧ (r2 = J_X11_refuseState sx (lS [(lI [(sh 0 0), (sh 0 1), 0, 0, 0, 0, (sh 0 6), (sh 0 7), (sh 0 8), (sh 0 9), (sh 0 10), (sh 0 11), (sh 0 12)]), (sh 1), (sh 2), (sh 3), (sh 4), (sh 5)]) p0 p1 p2) := hw1
  obtain ⟨w3, w4⟩ := hw1
  have k6 : r2 = (J_X11_refuseState sx (lS [(lI [(sh 0 0), (sh 0 1), 0, 0, 0, 0, (sh 0 6), (sh 0 7), (sh 0 8), (sh 0 9), (sh 0 10), (sh 0 11), (sh 0 12)]), (sh 1), (sh 2), (sh 3), (sh 4), (sh 5)]) p0 p1 p2) := congrArg (fun z => z) w4
  refine lv_istore (lv' := [(5, .int r2), (0, .ref (qx 0)), (1, .int p0), (2, .int p1), (3, .int p2), (4, .int p3)]) hx hb dX11_refuseAct_7 hl (by decide) rfl (fun ls hl => ?_)
  refine lv_iload hx hb dX11_refuseAct_9 (lv_at hl 0 rfl) ?_
  refine lv_if_eq (tgt := 17) hx hb dX11_refuseAct_11 (by decide) (fun c7 => ?_) (fun c7 => ?_)
  · have f7 : r2.toInt = 0 := f_eq rfl (by decide) c7
    refine lv_iload hx hb dX11_refuseAct_17 (lv_at hl 5 rfl) ?_
    refine lv_if_ge (tgt := 25) hx hb dX11_refuseAct_19 (by decide) (fun c8 => ?_) (fun c8 => ?_)
    · have f8 : 0 ≤ p3.toInt := f_le (by decide) rfl c8
      refine lv_aload_n hx hb dX11_refuseAct_25 rfl (lv_at hl 1 rfl) ?_
      refine g_get cx hP iw_X11_refuseAct_X11 0 rfl rfl 4 (by decide) rfl fw_X11_refuseAct_39 rfl dX11_refuseAct_26 ?_
      refine lv_iload_n hx hb dX11_refuseAct_29 rfl (lv_at hl 2 rfl) ?_
      refine lv_iload_n hx hb dX11_refuseAct_30 rfl (lv_at hl 3 rfl) ?_
      refine lv_iload hx hb dX11_refuseAct_31 (lv_at hl 5 rfl) ?_
      refine g_ir (g_runV (wc := [cell31_ qx sh qh, cell0_ k qh sh, cell1_ k qh sh, cell4_ k qh sh, cell3_ k qh sh, cell2_ k qh sh]) (rest := []) cx hP hD hS [3, 4, 5, 6, 7, 8] rfl (by decide) [.int p0, .int p1, .int p3] (c_X4_allows l D k b (lq [qx 7, qh 1, qh 2, qh 3, qh 4, qh 5]) (lS [(lI [(sh 0 0), (sh 0 1), 0, 0, 0, 0, (sh 0 6), (sh 0 7), (sh 0 8), (sh 0 9), (sh 0 10), (sh 0 11), (sh 0 12)]), (sh 1), (sh 2), (sh 3), (sh 4), (sh 5)]) H.size p0 p1 p3 (show 0 ≤ (sh 0 0).toInt ∧ (sh 0 0).toInt ≤ 5 from by first | decide | omega) (show 0 ≤ (sh 0 1).toInt ∧ (sh 0 1).toInt ≤ 4 from by first | decide | omega) (show 0 ≤ (sh 0 12).toInt ∧ (sh 0 12).toInt ≤ 5 from by first | decide | omega) h_of h_go (show 0 ≤ p1.toInt ∧ p1.toInt ≤ 400 ∧ tot p1 ≤ 4 from by first | decide | omega) (show 0 ≤ p3.toInt from by first | decide | omega) (show 0 ≤ p0.toInt ∧ p0.toInt ≤ 4 from by first | decide | omega)) gX11_refuseAct_X4_allows rfl rfl rfl nd_X4_allows ⟨Nat.le_of_ble_eq_true rfl, Nat.le_of_ble_eq_true rfl⟩ (ci := 2) (q0 := 0) rfl rfl rfl hl.1 rfl (Nat.le_of_ble_eq_true rfl) ⟨Nat.zero_le _, Nat.zero_le _⟩ dX11_refuseAct_33) cx.2.2.1 hP hD hS [3, 4, 5, 6, 7, 8] rfl rfl (fun r10 H locs hw9 hP hS => ?_)
      replace hw9 : (0 ≤ r10.toInt ∧ r10.toInt ≤ 1) ∧ (Imp (r10.toInt = 1) (0 ≤ (J_X0_done p1 p3).toInt ∧ (J_X0_done p1 p3).toInt ≤ 400 ∧ tot (J_X0_done p1 p3) ≤ 4)) ∧ (r10 = J_X4_allows (lS [(lI [(sh 0 0), (sh 0 1), 0, 0, 0, 0, (sh 0 6), (sh 0 7), (sh 0 8), (sh 0 9), (sh 0 10), (sh 0 11), (sh 0 12)]), (sh 1), (sh 2), (sh 3), (sh 4), (sh 5)]) p0 p1 p3) := hw9
      obtain ⟨w11, w12, w13⟩ := hw9
      have k15 : r10 = (J_X4_allows (lS [(lI [(sh 0 0), (sh 0 1), 0, 0, 0, 0, (sh 0 6), (sh 0 7), (sh 0 8), (sh 0 9), (sh 0 10), (sh 0 11), (sh 0 12)]), (sh 1), (sh 2), (sh 3), (sh 4), (sh 5)]) p0 p1 p3) := congrArg (fun z => z) w13
      have zr10 : 0 ≤ r10.toInt ∧ r10.toInt ≤ 1 := w11
      refine lv_if_eq (tgt := 43) hx hb dX11_refuseAct_36 (by decide) (fun c16 => ?_) (fun c16 => ?_)
      · have f16 : r10.toInt = 0 := f_eq rfl (by decide) c16
        refine lv_bipush (v := (-3)) hx hb dX11_refuseAct_43 (by decide) ?_
        have hlit17 : ((-3) : Int32).toInt = -3 := by decide
        rw [hQ]
        exact x_i cx hr () hP hD hS ⟨(show ¬ ((-3) : Int32).toInt = 0 ∨ (0 ≤ p0.toInt ∧ p0.toInt ≤ 4 ∧ p0.toInt < (sh 0 0).toInt ∧ (0 ≤ p1.toInt ∧ p1.toInt ≤ 400 ∧ tot p1 ≤ 4) ∧ tot p1 ≤ (sh 0 1).toInt ∧ 0 ≤ p2.toInt ∧ p2.toInt ≤ 2 ∧ 0 ≤ p3.toInt ∧ 0 ≤ (J_X0_done p1 p3).toInt ∧ (J_X0_done p1 p3).toInt ≤ 400 ∧ tot (J_X0_done p1 p3) ≤ 4) from by omega), (show ((-3) : Int32) = J_X11_refuseAct sx sh p0 p1 p2 p3 from by subst k6 k15; first | (refine Eq.symm ?_; refine Eq.trans (if_pos c7) ?_; refine Eq.trans (if_pos c8) ?_; refine Eq.trans (if_pos c16) ?_; rfl) | (unfold J_X11_refuseAct; try dsimp only; rw [if_pos c7, if_pos c8, if_pos c16]))⟩ dX11_refuseAct_45
      · have f16 : ¬ r10.toInt = 0 := f_ne rfl (by decide) c16
        have k16 : (0 ≤ (J_X0_done p1 p3).toInt ∧ (J_X0_done p1 p3).toInt ≤ 400 ∧ tot (J_X0_done p1 p3) ≤ 4) := w12 (by omega)
        refine lv_iconst (v := 0) hx hb dX11_refuseAct_39 (by decide) ?_
        refine lv_goto (tgt := 45) hx hb dX11_refuseAct_40 (by decide) ?_
        have hlit18 : (0 : Int32).toInt = 0 := by decide
        rw [hQ]
        exact x_i cx hr () hP hD hS ⟨(show ¬ (0 : Int32).toInt = 0 ∨ (0 ≤ p0.toInt ∧ p0.toInt ≤ 4 ∧ p0.toInt < (sh 0 0).toInt ∧ (0 ≤ p1.toInt ∧ p1.toInt ≤ 400 ∧ tot p1 ≤ 4) ∧ tot p1 ≤ (sh 0 1).toInt ∧ 0 ≤ p2.toInt ∧ p2.toInt ≤ 2 ∧ 0 ≤ p3.toInt ∧ 0 ≤ (J_X0_done p1 p3).toInt ∧ (J_X0_done p1 p3).toInt ≤ 400 ∧ tot (J_X0_done p1 p3) ≤ 4) from by omega), (show (0 : Int32) = J_X11_refuseAct sx sh p0 p1 p2 p3 from by subst k6 k15; first | (refine Eq.symm ?_; refine Eq.trans (if_pos c7) ?_; refine Eq.trans (if_pos c8) ?_; refine Eq.trans (if_neg c16) ?_; rfl) | (unfold J_X11_refuseAct; try dsimp only; rw [if_pos c7, if_pos c8, if_neg c16]))⟩ dX11_refuseAct_45
    · have f8 : p3.toInt < 0 := f_nle (by decide) rfl c8
      refine lv_bipush (v := (-2)) hx hb dX11_refuseAct_22 (by decide) ?_
      have hlit19 : ((-2) : Int32).toInt = -2 := by decide
      rw [hQ]
      exact x_i cx hr () hP hD hS ⟨(show ¬ ((-2) : Int32).toInt = 0 ∨ (0 ≤ p0.toInt ∧ p0.toInt ≤ 4 ∧ p0.toInt < (sh 0 0).toInt ∧ (0 ≤ p1.toInt ∧ p1.toInt ≤ 400 ∧ tot p1 ≤ 4) ∧ tot p1 ≤ (sh 0 1).toInt ∧ 0 ≤ p2.toInt ∧ p2.toInt ≤ 2 ∧ 0 ≤ p3.toInt ∧ 0 ≤ (J_X0_done p1 p3).toInt ∧ (J_X0_done p1 p3).toInt ≤ 400 ∧ tot (J_X0_done p1 p3) ≤ 4) from by omega), (show ((-2) : Int32) = J_X11_refuseAct sx sh p0 p1 p2 p3 from by subst k6; first | (refine Eq.symm ?_; refine Eq.trans (if_pos c7) ?_; refine Eq.trans (if_neg c8) ?_; rfl) | (unfold J_X11_refuseAct; try dsimp only; rw [if_pos c7, if_neg c8]))⟩ dX11_refuseAct_24
  · have f7 : ¬ r2.toInt = 0 := f_ne rfl (by decide) c7
    refine lv_iload hx hb dX11_refuseAct_14 (lv_at hl 0 rfl) ?_
    rw [hQ]
    exact x_i cx hr () hP hD hS ⟨(show ¬ r2.toInt = 0 ∨ (0 ≤ p0.toInt ∧ p0.toInt ≤ 4 ∧ p0.toInt < (sh 0 0).toInt ∧ (0 ≤ p1.toInt ∧ p1.toInt ≤ 400 ∧ tot p1 ≤ 4) ∧ tot p1 ≤ (sh 0 1).toInt ∧ 0 ≤ p2.toInt ∧ p2.toInt ≤ 2 ∧ 0 ≤ p3.toInt ∧ 0 ≤ (J_X0_done p1 p3).toInt ∧ (J_X0_done p1 p3).toInt ≤ 400 ∧ tot (J_X0_done p1 p3) ≤ 4) from by omega), (show r2 = J_X11_refuseAct sx sh p0 p1 p2 p3 from by subst k6; first | (refine Eq.symm ?_; refine Eq.trans (if_neg c7) ?_; rfl) | (unfold J_X11_refuseAct; try dsimp only; rw [if_neg c7]))⟩ dX11_refuseAct_16
theorem fw_X11_goAheadOf_39 : Cond.fieldLink RX11 39 "StillInAugust" "house" "LStillInAugust$House;" ∈ wsX11_goAheadOf := by decide +kernel
theorem fw_X11_goAheadOf_52 : Cond.fieldLink RX11 52 "StillInAugust" "course" "LStillInAugust$Course;" ∈ wsX11_goAheadOf := by decide +kernel
theorem nd_X11_levelBy : yX11_levelBy.cls = RX11 ∧ yX11_levelBy.cls ≠ "java/lang/invoke/MethodHandle" ∧ yX11_levelBy.cls ≠ "java/lang/invoke/VarHandle" ∧ (parseMethodDescriptor yX11_levelBy.desc).map (fun d => d.parameters.length) = some 2 := by decide +kernel
theorem nd_X1_passSunday : yX1_passSunday.cls = RX1 ∧ yX1_passSunday.cls ≠ "java/lang/invoke/MethodHandle" ∧ yX1_passSunday.cls ≠ "java/lang/invoke/VarHandle" ∧ (parseMethodDescriptor yX1_passSunday.desc).map (fun d => d.parameters.length) = some 1 := by decide +kernel
theorem nd_X1_passWeek : yX1_passWeek.cls = RX1 ∧ yX1_passWeek.cls ≠ "java/lang/invoke/MethodHandle" ∧ yX1_passWeek.cls ≠ "java/lang/invoke/VarHandle" ∧ (parseMethodDescriptor yX1_passWeek.desc).map (fun d => d.parameters.length) = some 4 := by decide +kernel
theorem nd_X1_start : yX1_start.cls = RX1 ∧ yX1_start.cls ≠ "java/lang/invoke/MethodHandle" ∧ yX1_start.cls ≠ "java/lang/invoke/VarHandle" ∧ (parseMethodDescriptor yX1_start.desc).map (fun d => d.parameters.length) = some 1 := by decide +kernel
theorem iw_X11_goAheadOf_X11 : ∀ w ∈ u_ws RX11 TX11 17, w ∈ wsX11_goAheadOf := fun _ h => List.mem_cons_of_mem _ (List.mem_append_left _ (List.mem_append_left _ (List.mem_append_right _ h)))
def B_X11_goAheadOf_10 (sx : Nat → Nat → Int32) (sh : Nat → Nat → Int32) (sco : Nat → Nat → Int32) (tco : Nat → Nat → Int64) (p0 : Int32) (p1 : Int32) (y9 : (Nat → Int64) × Int64 × Int64) (z : Int32 × Int64 × Int64 × Int64 × Int64 × (Nat → Int64) × (Nat → Int64)) : Sum (Int32 × Int64 × Int64 × Int64 × Int64 × (Nat → Int64) × (Nat → Int64)) ((Nat → Int64) × (Nat → Int64) × Int64 × Int64 × Int64 × Int64) := let v35 := (z.1); let x36 := (z.2.1); let x37 := (z.2.2.1); let x38 := (z.2.2.2.1); let x39 := (z.2.2.2.2.1); let g40 := (z.2.2.2.2.2.1); let g41 := (z.2.2.2.2.2.2); if p1 ≤ v35 then Sum.inr ((g40, g41, x36, x37, x38, x39)) else LetF (J_X11_levelBy sx p0 v35) (fun y47 => LetF (J_X1_passWeek (lS [(lI []), (fun _ => 0), (fun _ => 0)]) (lT [(lJ [0, 0, x36, x37, x38, x39]), g40, g41]) (lS [(lI [(sh 0 0), (sh 0 1), 0, 0, 0, 0, (sh 0 6), (sh 0 7), (sh 0 8), (sh 0 9), (sh 0 10), (sh 0 11), (sh 0 12)]), (sh 1), (sh 2), (sh 3), (sh 4), (sh 5)]) v35 y47 0) (fun y57 => LetF (J_X1_passSunday (lS [(lI []), (fun _ => 0), (fun _ => 0)]) (lT [(lJ [0, 0, x36, (y57.2.1), (y57.2.2.1), (y57.2.2.2)]), g40, (y57.1)]) (lS [(lI [(sh 0 0), (sh 0 1), 0, 0, 0, 0, (sh 0 6), (sh 0 7), (sh 0 8), (sh 0 9), (sh 0 10), (sh 0 11), (sh 0 12)]), (sh 1), (sh 2), (sh 3), (sh 4), (sh 5)])) (fun y65 => Sum.inl (((v35 + 1), (y65.2.1), (y65.2.2), (y57.2.2.1), (y57.2.2.2), (y65.1), (y57.1))))))
def J_X11_goAheadOf (sx : Nat → Nat → Int32) (sh : Nat → Nat → Int32) (sco : Nat → Nat → Int32) (tco : Nat → Nat → Int64) (p0 : Int32) (p1 : Int32) : (Nat → Int64) × (Nat → Int64) × Int64 × Int64 × Int64 × Int64 := LetF (J_X1_start (lS [(lI []), (fun _ => 0), (fun _ => 0)]) (lT [(lJ [0, 0, (tco 0 2), (tco 0 3), (tco 0 4), (tco 0 5)]), (tco 1), (tco 2)]) 0) (fun y9 => LTs default (B_X11_goAheadOf_10 sx sh sco tco p0 p1 y9) 6 ((0 : Int32), (y9.2.1), (y9.2.2), (tco 0 4), (tco 0 5), (y9.1), (tco 2)))
theorem exl_X11_goAheadOf_0 {sx : Nat → Nat → Int32} {sh : Nat → Nat → Int32} {sco : Nat → Nat → Int32} {tco : Nat → Nat → Int64} {p0 : Int32} {p1 : Int32} {m4 : Nat → Int64} {m5 : Int64} {m6 : Int64} (w8 : (m4, m5, m6) = J_X1_start (lS [(lI []), (fun _ => 0), (fun _ => 0)]) (lT [(lJ [0, 0, (tco 0 2), (tco 0 3), (tco 0 4), (tco 0 5)]), (tco 1), (tco 2)]) (0 : Int32)) : J_X11_goAheadOf sx sh sco tco p0 p1 = LTs (default : (Nat → Int64) × (Nat → Int64) × Int64 × Int64 × Int64 × Int64) (B_X11_goAheadOf_10 sx sh sco tco p0 p1 (m4, m5, m6)) 6 ((0 : Int32), m5, m6, (tco 0 4), (tco 0 5), m4, (tco 2)) := by unfold J_X11_goAheadOf; refine lt_e w8 ?_; rfl
theorem exl_X11_goAheadOf_1 {sx : Nat → Nat → Int32} {sh : Nat → Nat → Int32} {sco : Nat → Nat → Int32} {tco : Nat → Nat → Int64} {p0 : Int32} {p1 : Int32} {m4 : Nat → Int64} {m5 : Int64} {m6 : Int64} {v35 : Int32} {x36 : Int64} {x37 : Int64} {x38 : Int64} {x39 : Int64} {g40 : Nat → Int64} {g41 : Nat → Int64} (c43 : p1 ≤ v35) : (B_X11_goAheadOf_10 sx sh sco tco p0 p1 (m4, m5, m6)) (v35, x36, x37, x38, x39, g40, g41) = Sum.inr ((g40, g41, x36, x37, x38, x39)) := by unfold B_X11_goAheadOf_10; refine Eq.trans (if_pos c43) ?_; rfl
theorem exl_X11_goAheadOf_2 {sx : Nat → Nat → Int32} {sh : Nat → Nat → Int32} {sco : Nat → Nat → Int32} {tco : Nat → Nat → Int64} {p0 : Int32} {p1 : Int32} {m4 : Nat → Int64} {m5 : Int64} {m6 : Int64} {v35 : Int32} {x36 : Int64} {x37 : Int64} {x38 : Int64} {x39 : Int64} {g40 : Nat → Int64} {g41 : Nat → Int64} {v66 : Int32} {m61 : Int64} {m62 : Int64} {m53 : Int64} {m54 : Int64} {m60 : Nat → Int64} {m51 : Nat → Int64} {r45 : Int32} {m52 : Int64} (e66 : v66 = v35 + 1) (c43 : ¬ (p1 ≤ v35)) (w46 : r45 = J_X11_levelBy sx p0 v35) (w56 : (m51, m52, m53, m54) = J_X1_passWeek (lS [(lI []), (fun _ => 0), (fun _ => 0)]) (lT [(lJ [0, 0, x36, x37, x38, x39]), g40, g41]) (lS [(lI [(sh 0 0), (sh 0 1), 0, 0, 0, 0, (sh 0 6), (sh 0 7), (sh 0 8), (sh 0 9), (sh 0 10), (sh 0 11), (sh 0 12)]), (sh 1), (sh 2), (sh 3), (sh 4), (sh 5)]) v35 r45 (0 : Int32)) (w64 : (m60, m61, m62) = J_X1_passSunday (lS [(lI []), (fun _ => 0), (fun _ => 0)]) (lT [(lJ [0, 0, x36, m52, m53, m54]), g40, m51]) (lS [(lI [(sh 0 0), (sh 0 1), 0, 0, 0, 0, (sh 0 6), (sh 0 7), (sh 0 8), (sh 0 9), (sh 0 10), (sh 0 11), (sh 0 12)]), (sh 1), (sh 2), (sh 3), (sh 4), (sh 5)])) : (B_X11_goAheadOf_10 sx sh sco tco p0 p1 (m4, m5, m6)) (v35, x36, x37, x38, x39, g40, g41) = Sum.inl (v66, m61, m62, m53, m54, m60, m51) := by subst e66; unfold B_X11_goAheadOf_10; refine Eq.trans (if_neg c43) ?_; refine lt_e w46 ?_; refine lt_e w56 ?_; refine lt_e w64 ?_; rfl
set_option maxHeartbeats 4000000 in
set_option maxRecDepth 100000 in
theorem c_X11_goAheadOf (l : Launch) (D : va_G) (k : Nat → ClassId) (b : Nat → Nat) (qx : Nat → Nat) (sx : Nat → Nat → Int32) (qh : Nat → Nat) (sh : Nat → Nat → Int32) (qco : Nat → Nat) (sco : Nat → Nat → Int32) (tco : Nat → Nat → Int64) (sz : Nat) (p0 : Int32) (p1 : Int32) (h_wk : 0 ≤ (sh 0 0).toInt ∧ (sh 0 0).toInt ≤ 5) (h_hk : 0 ≤ (sh 0 1).toInt ∧ (sh 0 1).toInt ≤ 4) (h_fl : 0 ≤ (sh 0 12).toInt ∧ (sh 0 12).toInt ≤ 5) (h_of : ∀ j, 0 ≤ (sh 2 j).toInt ∧ (sh 2 j).toInt ≤ 4) (h_go : ∀ j, 0 ≤ (sh 3 j).toInt ∧ (sh 3 j).toInt ≤ 5) (h_su : SUok (sh 5)) (hp0 : 0 ≤ p0.toInt ∧ p0.toInt ≤ 2) (hp1 : 0 ≤ p1.toInt ∧ p1.toInt ≤ 5) : MetV l D k b yX11_goAheadOf wsX11_goAheadOf ({ frames := 4, cells := 0, slots := 0, locals := 105 } : Room) [cell30_ qx sx, cell28_ k qx sx, cell29_ k qx sx, cell31_ qx sh qh, cell0_ k qh sh, cell1_ k qh sh, cell4_ k qh sh, cell3_ k qh sh, cell2_ k qh sh, cell47_ qx qco tco, cell35_ k qco tco, cell34_ k qco tco] sz [.ref (qx 0), .int p0, .int p1] (fun (u : (Nat → Int64) × (Nat → Int64) × Int64 × Int64 × Int64 × Int64) => (CUok (u.1) (sh 0 1).toInt) ∧ (((u.1), (u.2.1), (u.2.2.1), (u.2.2.2.1), (u.2.2.2.2.1), (u.2.2.2.2.2)) = J_X11_goAheadOf sx sh sco tco p0 p1)) (fun u => [cell30_ qx sx, cell28_ k qx sx, cell29_ k qx sx, cell31_ qx sh qh, cell0_ k qh sh, cell1_ k qh sh, cell4_ k qh sh, cell3_ k qh sh, cell2_ k qh sh, cell56_ qx qco (u.2.2.1) (u.2.2.2.1) (u.2.2.2.2.1) (u.2.2.2.2.2), cell98_ k qco (u.1), cell99_ k qco (u.2.1)]) := by
  refine g_enter (cc := cX11_goAheadOf) (maxL := 4) (ret := none) (by decide) rfl (Nat.le_of_ble_eq_true rfl) ?_
  intro p e s m below meth c A hsz hAe cx hr hP hD hS ls hl
  rw [hAe]
  refine g_q (fun Q hQ => ?_)
  have hx := cx.1.1
  have hb := cx.1.2.1
  have bp0 := i_rng p0
  have bp1 := i_rng p1
  have hl : lv_has ls 4 [(0, .ref (qx 0)), (1, .int p0), (2, .int p1)] := hl
  obtain ⟨H, eH⟩ : ∃ H : Heap, H = s.heap := ⟨_, rfl⟩
  obtain ⟨locs, el⟩ : ∃ L : List Loc, L = [] := ⟨_, rfl⟩
  have hP : va_P D vwCl [cell30_ qx sx, cell28_ k qx sx, cell29_ k qx sx, cell31_ qx sh qh, cell0_ k qh sh, cell1_ k qh sh, cell4_ k qh sh, cell3_ k qh sh, cell2_ k qh sh, cell47_ qx qco tco, cell35_ k qco tco, cell34_ k qco tco] H := by rw [eH]; exact hP
  have hD : va_D A [cell30_ qx sx, cell28_ k qx sx, cell29_ k qx sx, cell31_ qx sh qh, cell0_ k qh sh, cell1_ k qh sh, cell4_ k qh sh, cell3_ k qh sh, cell2_ k qh sh, cell47_ qx qco tco, cell35_ k qco tco, cell34_ k qco tco] := hD
  have hS : va_S A s.heap H locs := by rw [eH, el]; exact hS
  suffices goal : W p l e ({ frames := 4, cells := 0, slots := 0, locals := 105 } : Room) s m ([.ref (qx 0), .int p0, .int p1] : List Value).toArray below meth c H locs 0 0 Q (F0 m 0 ls []) by rw [eH, el] at goal; exact goal
  refine lv_aload_n hx hb dX11_goAheadOf_0 rfl (lv_at hl 0 rfl) ?_
  refine g_get cx hP iw_X11_goAheadOf_X11 0 rfl rfl 7 (by decide) rfl fw_X11_goAheadOf_52 rfl dX11_goAheadOf_1 ?_
  refine lv_iconst (v := 0) hx hb dX11_goAheadOf_4 (by decide) ?_
  have hlit1 : (0 : Int32).toInt = 0 := by decide
  refine g_v (w1 := fun (u : (Nat → Int64) × Int64 × Int64) => [cell195_ qx qco tco (u.2.1) (u.2.2), cell98_ k qco (u.1), cell34_ k qco tco]) (g_runV (wc := [cell47_ qx qco tco, cell35_ k qco tco, cell34_ k qco tco]) (rest := []) cx hP hD hS [9, 10, 11] rfl (by decide) [.int 0] (c_X1_start l D k b (lq [qx 9, qco 1, qco 2]) (lS [(lI []), (fun _ => 0), (fun _ => 0)]) (lT [(lJ [0, 0, (tco 0 2), (tco 0 3), (tco 0 4), (tco 0 5)]), (tco 1), (tco 2)]) H.size 0 (show 0 ≤ (0 : Int32).toInt ∧ (0 : Int32).toInt ≤ 400 ∧ tot (0 : Int32) ≤ 4 from by first | decide | omega)) gX11_goAheadOf_X1_start rfl rfl rfl nd_X1_start ⟨Nat.le_of_ble_eq_true rfl, Nat.le_of_ble_eq_true rfl⟩ (ci := 0) (q0 := 0) rfl rfl rfl hl.1 rfl (Nat.le_of_ble_eq_true rfl) ⟨Nat.zero_le _, Nat.zero_le _⟩ dX11_goAheadOf_5) cx.2.2.1 hP hD hS [9, 10, 11] rfl (fun _ => rfl) (fun u3 H locs hw2 hP hD hS => ?_)
  obtain ⟨m4, m5, m6⟩ := u3
  have hP : va_P D vwCl [cell30_ qx sx, cell28_ k qx sx, cell29_ k qx sx, cell31_ qx sh qh, cell0_ k qh sh, cell1_ k qh sh, cell4_ k qh sh, cell3_ k qh sh, cell2_ k qh sh, cell195_ qx qco tco m5 m6, (qco 1, .inl (k 1, 35, .inr (.inl m4))), cell34_ k qco tco] H := hP
  have hD : va_D A [cell30_ qx sx, cell28_ k qx sx, cell29_ k qx sx, cell31_ qx sh qh, cell0_ k qh sh, cell1_ k qh sh, cell4_ k qh sh, cell3_ k qh sh, cell2_ k qh sh, cell195_ qx qco tco m5 m6, (qco 1, .inl (k 1, 35, .inr (.inl m4))), cell34_ k qco tco] := hD
  replace hw2 : (∀ H : Int, tot (0 : Int32) ≤ H → CUok m4 H) ∧ ((m4, m5, m6) = J_X1_start (lS [(lI []), (fun _ => 0), (fun _ => 0)]) (lT [(lJ [0, 0, (tco 0 2), (tco 0 3), (tco 0 4), (tco 0 5)]), (tco 1), (tco 2)]) (0 : Int32)) := hw2
  obtain ⟨w7, w8⟩ := hw2
  have cu : CUok m4 (sh 0 1).toInt := w7 _ (by rw [show tot (0 : Int32) = 0 from by decide]; omega)
  refine lv_iconst (v := 0) hx hb dX11_goAheadOf_8 (by decide) ?_
  refine lv_istore_n (lv' := [(3, .int 0), (0, .ref (qx 0)), (1, .int p0), (2, .int p1)]) hx hb dX11_goAheadOf_9 rfl hl (by decide) rfl (fun ls hl => ?_)
  obtain ⟨rr10_1, err10_1⟩ : ∃ r : (Nat → Int64) × (Nat → Int64) × Int64 × Int64 × Int64 × Int64, LTs (default : (Nat → Int64) × (Nat → Int64) × Int64 × Int64 × Int64 × Int64) (B_X11_goAheadOf_10 sx sh sco tco p0 p1 (m4, m5, m6)) 6 ((0 : Int32), m5, m6, (tco 0 4), (tco 0 5), m4, (tco 2)) = r := ⟨_, rfl⟩
  have hrr10_1 : J_X11_goAheadOf sx sh sco tco p0 p1 = rr10_1 := ((exl_X11_goAheadOf_0 w8)).trans err10_1
  have hL10 : ∀ (n42 : Nat) (v35 : Int32) (x36 : Int64) (x37 : Int64) (x38 : Int64) (x39 : Int64) (g40 : Nat → Int64) (g41 : Nat → Int64) (H : Heap) (locs : List Loc) (ls : Array Slot), 5 - v35.toInt < (n42 : Int) → (0 ≤ v35.toInt ∧ v35.toInt ≤ 5) → (CUok g40 (sh 0 1).toInt) → (LTs (default : (Nat → Int64) × (Nat → Int64) × Int64 × Int64 × Int64 × Int64) (B_X11_goAheadOf_10 sx sh sco tco p0 p1 (m4, m5, m6)) n42 (v35, x36, x37, x38, x39, g40, g41) = rr10_1) → va_P D vwCl [cell30_ qx sx, cell28_ k qx sx, cell29_ k qx sx, cell31_ qx sh qh, cell0_ k qh sh, cell1_ k qh sh, cell4_ k qh sh, cell3_ k qh sh, cell2_ k qh sh, cell56_ qx qco x36 x37 x38 x39, (qco 1, .inl (k 1, 35, .inr (.inl g40))), (qco 2, .inl (k 1, 35, .inr (.inl g41)))] H → va_D A [cell30_ qx sx, cell28_ k qx sx, cell29_ k qx sx, cell31_ qx sh qh, cell0_ k qh sh, cell1_ k qh sh, cell4_ k qh sh, cell3_ k qh sh, cell2_ k qh sh, cell56_ qx qco x36 x37 x38 x39, (qco 1, .inl (k 1, 35, .inr (.inl g40))), (qco 2, .inl (k 1, 35, .inr (.inl g41)))] → va_S A s.heap H locs → lv_has ls 4 [(3, .int v35), (0, .ref (qx 0)), (1, .int p0), (2, .int p1)] → W p l e ({ frames := 4, cells := 0, slots := 0, locals := 105 } : Room) s m ([.ref (qx 0), .int p0, .int p1] : List Value).toArray below meth c H locs 0 0 Q (F0 m 10 ls []) := by
    intro n42
    induction n42 with
    | zero => intro v35 x36 x37 x38 x39 g40 g41 H locs ls hmn42 bv35 cu hzrr10_1 hP hD hS hl; exact absurd hmn42 (by omega)
    | succ n42 ih10 =>
      intro v35 x36 x37 x38 x39 g40 g41 H locs ls hmn42 bv35 cu hzrr10_1 hP hD hS hl
      refine lv_iload_n hx hb dX11_goAheadOf_10 rfl (lv_at hl 0 rfl) ?_
      refine lv_iload_n hx hb dX11_goAheadOf_11 rfl (lv_at hl 3 rfl) ?_
      refine lv_icmp_ge (tgt := 51) hx hb dX11_goAheadOf_12 (by decide) (fun c43 => ?_) (fun c43 => ?_)
      · have f43 : p1.toInt ≤ v35.toInt := f_le rfl rfl c43
        rw [hQ]
        exact x_v cx hr (g40, g41, x36, x37, x38, x39) hP hD hS ⟨(show CUok g40 (sh 0 1).toInt from cu), (show (g40, g41, x36, x37, x38, x39) = J_X11_goAheadOf sx sh sco tco p0 p1 from ((hrr10_1.trans (LT_r hzrr10_1 (exl_X11_goAheadOf_1 c43)))).symm)⟩ dX11_goAheadOf_51
      · have f43 : v35.toInt < p1.toInt := f_nle rfl rfl c43
        refine lv_aload_n hx hb dX11_goAheadOf_15 rfl (lv_at hl 1 rfl) ?_
        refine g_get cx hP iw_X11_goAheadOf_X11 0 rfl rfl 7 (by decide) rfl fw_X11_goAheadOf_52 rfl dX11_goAheadOf_16 ?_
        refine lv_aload_n hx hb dX11_goAheadOf_19 rfl (lv_at hl 1 rfl) ?_
        refine g_get cx hP iw_X11_goAheadOf_X11 0 rfl rfl 4 (by decide) rfl fw_X11_goAheadOf_39 rfl dX11_goAheadOf_20 ?_
        refine lv_iload_n hx hb dX11_goAheadOf_23 rfl (lv_at hl 0 rfl) ?_
        refine lv_aload_n hx hb dX11_goAheadOf_24 rfl (lv_at hl 1 rfl) ?_
        refine lv_iload_n hx hb dX11_goAheadOf_25 rfl (lv_at hl 2 rfl) ?_
        refine lv_iload_n hx hb dX11_goAheadOf_26 rfl (lv_at hl 0 rfl) ?_
        refine g_ir (g_runV (wc := [cell30_ qx sx, cell28_ k qx sx, cell29_ k qx sx]) (rest := [.int v35, .ref (qx 7), .ref (qx 9)]) cx hP hD hS [0, 1, 2] rfl (by decide) [.int p0, .int v35] (c_X11_levelBy l D k b qx sx H.size p0 v35 (show 0 ≤ p0.toInt ∧ p0.toInt ≤ 2 from by first | decide | omega) (show 0 ≤ v35.toInt ∧ v35.toInt ≤ 4 from by first | decide | omega)) gX11_goAheadOf_X11_levelBy rfl rfl rfl nd_X11_levelBy ⟨Nat.le_of_ble_eq_true rfl, Nat.le_of_ble_eq_true rfl⟩ (ci := 9) (q0 := 0) rfl rfl rfl hl.1 rfl (Nat.le_of_ble_eq_true rfl) ⟨Nat.zero_le _, Nat.zero_le _⟩ dX11_goAheadOf_27) cx.2.2.1 hP hD hS [0, 1, 2] rfl rfl (fun r45 H locs hw44 hP hS => ?_)
        have w46 : r45 = J_X11_levelBy sx p0 v35 := hw44
        clear hw44
        refine lv_iconst (v := 0) hx hb dX11_goAheadOf_30 (by decide) ?_
        have hlit48 : (0 : Int32).toInt = 0 := by decide
        refine g_v (w1 := fun (u : (Nat → Int64) × Int64 × Int64 × Int64) => [cell56_ qx qco x36 (u.2.1) (u.2.2.1) (u.2.2.2), (qco 1, .inl (k 1, 35, .inr (.inl g40))), cell99_ k qco (u.1), cell31_ qx sh qh, cell0_ k qh sh, cell1_ k qh sh, cell4_ k qh sh, cell3_ k qh sh, cell2_ k qh sh]) (g_runV (wc := [cell56_ qx qco x36 x37 x38 x39, (qco 1, .inl (k 1, 35, .inr (.inl g40))), (qco 2, .inl (k 1, 35, .inr (.inl g41))), cell31_ qx sh qh, cell0_ k qh sh, cell1_ k qh sh, cell4_ k qh sh, cell3_ k qh sh, cell2_ k qh sh]) (rest := []) cx hP hD hS [9, 10, 11, 3, 4, 5, 6, 7, 8] rfl (by decide) [.ref (qx 7), .int v35, .int r45, .int 0] (c_X1_passWeek l D k b (lq [qx 9, qco 1, qco 2]) (lS [(lI []), (fun _ => 0), (fun _ => 0)]) (lT [(lJ [0, 0, x36, x37, x38, x39]), g40, g41]) (lq [qx 7, qh 1, qh 2, qh 3, qh 4, qh 5]) (lS [(lI [(sh 0 0), (sh 0 1), 0, 0, 0, 0, (sh 0 6), (sh 0 7), (sh 0 8), (sh 0 9), (sh 0 10), (sh 0 11), (sh 0 12)]), (sh 1), (sh 2), (sh 3), (sh 4), (sh 5)]) H.size v35 r45 0 (show 0 ≤ (sh 0 1).toInt ∧ (sh 0 1).toInt ≤ 4 from by first | decide | omega) h_of (show CUok g40 (sh 0 1).toInt from by assumption) (show 0 ≤ v35.toInt ∧ v35.toInt ≤ 4 from by first | decide | omega)) gX11_goAheadOf_X1_passWeek rfl rfl rfl nd_X1_passWeek ⟨Nat.le_of_ble_eq_true rfl, Nat.le_of_ble_eq_true rfl⟩ (ci := 0) (q0 := 0) rfl rfl rfl hl.1 rfl (Nat.le_of_ble_eq_true rfl) ⟨Nat.zero_le _, Nat.zero_le _⟩ dX11_goAheadOf_31) cx.2.2.1 hP hD hS [9, 10, 11, 3, 4, 5, 6, 7, 8] rfl (fun _ => rfl) (fun u50 H locs hw49 hP hD hS => ?_)
        obtain ⟨m51, m52, m53, m54⟩ := u50
        have hP : va_P D vwCl [cell30_ qx sx, cell28_ k qx sx, cell29_ k qx sx, cell31_ qx sh qh, cell0_ k qh sh, cell1_ k qh sh, cell4_ k qh sh, cell3_ k qh sh, cell2_ k qh sh, cell56_ qx qco x36 m52 m53 m54, (qco 1, .inl (k 1, 35, .inr (.inl g40))), (qco 2, .inl (k 1, 35, .inr (.inl m51)))] H := hP
        have hD : va_D A [cell30_ qx sx, cell28_ k qx sx, cell29_ k qx sx, cell31_ qx sh qh, cell0_ k qh sh, cell1_ k qh sh, cell4_ k qh sh, cell3_ k qh sh, cell2_ k qh sh, cell56_ qx qco x36 m52 m53 m54, (qco 1, .inl (k 1, 35, .inr (.inl g40))), (qco 2, .inl (k 1, 35, .inr (.inl m51)))] := hD
        replace hw49 : (CUok m51 (sh 0 1).toInt) ∧ ((m51, m52, m53, m54) = J_X1_passWeek (lS [(lI []), (fun _ => 0), (fun _ => 0)]) (lT [(lJ [0, 0, x36, x37, x38, x39]), g40, g41]) (lS [(lI [(sh 0 0), (sh 0 1), 0, 0, 0, 0, (sh 0 6), (sh 0 7), (sh 0 8), (sh 0 9), (sh 0 10), (sh 0 11), (sh 0 12)]), (sh 1), (sh 2), (sh 3), (sh 4), (sh 5)]) v35 r45 (0 : Int32)) := hw49
        obtain ⟨w55, w56⟩ := hw49
        refine lv_aload_n hx hb dX11_goAheadOf_34 rfl (lv_at hl 1 rfl) ?_
        refine g_get cx hP iw_X11_goAheadOf_X11 0 rfl rfl 7 (by decide) rfl fw_X11_goAheadOf_52 rfl dX11_goAheadOf_35 ?_
        refine lv_aload_n hx hb dX11_goAheadOf_38 rfl (lv_at hl 1 rfl) ?_
        refine g_get cx hP iw_X11_goAheadOf_X11 0 rfl rfl 4 (by decide) rfl fw_X11_goAheadOf_39 rfl dX11_goAheadOf_39 ?_
        refine g_v (w1 := fun (u : (Nat → Int64) × Int64 × Int64) => [cell56_ qx qco (u.2.1) (u.2.2) m53 m54, cell98_ k qco (u.1), (qco 2, .inl (k 1, 35, .inr (.inl m51))), cell31_ qx sh qh, cell0_ k qh sh, cell1_ k qh sh, cell4_ k qh sh, cell3_ k qh sh, cell2_ k qh sh]) (g_runV (wc := [cell56_ qx qco x36 m52 m53 m54, (qco 1, .inl (k 1, 35, .inr (.inl g40))), (qco 2, .inl (k 1, 35, .inr (.inl m51))), cell31_ qx sh qh, cell0_ k qh sh, cell1_ k qh sh, cell4_ k qh sh, cell3_ k qh sh, cell2_ k qh sh]) (rest := []) cx hP hD hS [9, 10, 11, 3, 4, 5, 6, 7, 8] rfl (by decide) [.ref (qx 7)] (c_X1_passSunday l D k b (lq [qx 9, qco 1, qco 2]) (lS [(lI []), (fun _ => 0), (fun _ => 0)]) (lT [(lJ [0, 0, x36, m52, m53, m54]), g40, m51]) (lq [qx 7, qh 1, qh 2, qh 3, qh 4, qh 5]) (lS [(lI [(sh 0 0), (sh 0 1), 0, 0, 0, 0, (sh 0 6), (sh 0 7), (sh 0 8), (sh 0 9), (sh 0 10), (sh 0 11), (sh 0 12)]), (sh 1), (sh 2), (sh 3), (sh 4), (sh 5)]) H.size (show SUok (sh 5) from by assumption) (show CUok m51 (sh 0 1).toInt from by assumption)) gX11_goAheadOf_X1_passSunday rfl rfl rfl nd_X1_passSunday ⟨Nat.le_of_ble_eq_true rfl, Nat.le_of_ble_eq_true rfl⟩ (ci := 0) (q0 := 0) rfl rfl rfl hl.1 rfl (Nat.le_of_ble_eq_true rfl) ⟨Nat.zero_le _, Nat.zero_le _⟩ dX11_goAheadOf_42) cx.2.2.1 hP hD hS [9, 10, 11, 3, 4, 5, 6, 7, 8] rfl (fun _ => rfl) (fun u59 H locs hw58 hP hD hS => ?_)
        obtain ⟨m60, m61, m62⟩ := u59
        have hP : va_P D vwCl [cell30_ qx sx, cell28_ k qx sx, cell29_ k qx sx, cell31_ qx sh qh, cell0_ k qh sh, cell1_ k qh sh, cell4_ k qh sh, cell3_ k qh sh, cell2_ k qh sh, cell56_ qx qco m61 m62 m53 m54, (qco 1, .inl (k 1, 35, .inr (.inl m60))), (qco 2, .inl (k 1, 35, .inr (.inl m51)))] H := hP
        have hD : va_D A [cell30_ qx sx, cell28_ k qx sx, cell29_ k qx sx, cell31_ qx sh qh, cell0_ k qh sh, cell1_ k qh sh, cell4_ k qh sh, cell3_ k qh sh, cell2_ k qh sh, cell56_ qx qco m61 m62 m53 m54, (qco 1, .inl (k 1, 35, .inr (.inl m60))), (qco 2, .inl (k 1, 35, .inr (.inl m51)))] := hD
        replace hw58 : (CUok m60 (sh 0 1).toInt) ∧ ((m60, m61, m62) = J_X1_passSunday (lS [(lI []), (fun _ => 0), (fun _ => 0)]) (lT [(lJ [0, 0, x36, m52, m53, m54]), g40, m51]) (lS [(lI [(sh 0 0), (sh 0 1), 0, 0, 0, 0, (sh 0 6), (sh 0 7), (sh 0 8), (sh 0 9), (sh 0 10), (sh 0 11), (sh 0 12)]), (sh 1), (sh 2), (sh 3), (sh 4), (sh 5)])) := hw58
        obtain ⟨w63, w64⟩ := hw58
        obtain ⟨v66, e66⟩ : ∃ z : Int32, z = v35 + 1 := ⟨_, rfl⟩
        refine lv_iinc (v := v66) (lv' := [(3, .int v66), (0, .ref (qx 0)), (1, .int p0), (2, .int p1)]) hx hb dX11_goAheadOf_45 hl (k := 0) rfl (by rw [e66]; rfl) (by decide) rfl (fun ls hl => ?_)
        have t66 : v66.toInt = v35.toInt + 1 := by rw [e66]; exact i_add rfl (by decide) (by omega) (by omega)
        refine lv_goto (tgt := 10) hx hb dX11_goAheadOf_48 (by decide) ?_
        exact ih10 v66 m61 m62 m53 m54 m60 m51 _ _ _ (by omega) (by first | decide | omega) (by assumption) (LT_g hzrr10_1 (exl_X11_goAheadOf_2 e66 c43 w46 w56 w64)) hP hD hS (lv_sub hl [0, 1, 2, 3] rfl)
  have hlit67 : (0 : Int32).toInt = 0 := by decide
  exact hL10 (6) 0 m5 m6 (tco 0 4) (tco 0 5) m4 (tco 2) _ _ _ (by omega) (by first | decide | omega) (by assumption) err10_1 hP hD hS (lv_sub hl [0, 1, 2, 3] rfl)
theorem fw_X11_goInto_39 : Cond.fieldLink RX11 39 "StillInAugust" "house" "LStillInAugust$House;" ∈ wsX11_goInto := by decide +kernel
theorem fw_X11_goInto_52 : Cond.fieldLink RX11 52 "StillInAugust" "course" "LStillInAugust$Course;" ∈ wsX11_goInto := by decide +kernel
theorem nd_X11_goAheadOf : yX11_goAheadOf.cls = RX11 ∧ yX11_goAheadOf.cls ≠ "java/lang/invoke/MethodHandle" ∧ yX11_goAheadOf.cls ≠ "java/lang/invoke/VarHandle" ∧ (parseMethodDescriptor yX11_goAheadOf.desc).map (fun d => d.parameters.length) = some 2 := by decide +kernel
theorem iw_X11_goInto_X11 : ∀ w ∈ u_ws RX11 TX11 17, w ∈ wsX11_goInto := fun _ h => List.mem_cons_of_mem _ (List.mem_append_left _ (List.mem_append_left _ (List.mem_append_right _ h)))
def J_X11_goInto (sx : Nat → Nat → Int32) (sh : Nat → Nat → Int32) (sco : Nat → Nat → Int32) (tco : Nat → Nat → Int64) (p0 : Int32) (p1 : Int32) : (Nat → Int64) × (Nat → Int64) × Int64 × Int64 × Int64 × Int64 := LetF (J_X11_goAheadOf sx (lS [(lI [(sh 0 0), (sh 0 1), 0, 0, 0, 0, (sh 0 6), (sh 0 7), (sh 0 8), (sh 0 9), (sh 0 10), (sh 0 11), (sh 0 12)]), (sh 1), (sh 2), (sh 3), (sh 4), (sh 5)]) (lS [(lI []), (fun _ => 0), (fun _ => 0)]) (lT [(lJ [0, 0, (tco 0 2), (tco 0 3), (tco 0 4), (tco 0 5)]), (tco 1), (tco 2)]) p0 p1) (fun y11 => LetF (J_X11_levelBy sx p0 p1) (fun y15 => LetF (J_X1_passWeek (lS [(lI []), (fun _ => 0), (fun _ => 0)]) (lT [(lJ [0, 0, (y11.2.2.1), (y11.2.2.2.1), (y11.2.2.2.2.1), (y11.2.2.2.2.2)]), (y11.1), (y11.2.1)]) (lS [(lI [(sh 0 0), (sh 0 1), 0, 0, 0, 0, (sh 0 6), (sh 0 7), (sh 0 8), (sh 0 9), (sh 0 10), (sh 0 11), (sh 0 12)]), (sh 1), (sh 2), (sh 3), (sh 4), (sh 5)]) p1 y15 0) (fun y25 => ((y11.1), (y25.1), (y11.2.2.1), (y25.2.1), (y25.2.2.1), (y25.2.2.2)))))
theorem exl_X11_goInto_0 {sx : Nat → Nat → Int32} {sh : Nat → Nat → Int32} {sco : Nat → Nat → Int32} {tco : Nat → Nat → Int64} {p0 : Int32} {p1 : Int32} {m3 : Nat → Int64} {m19 : Nat → Int64} {m5 : Int64} {m20 : Int64} {m21 : Int64} {m22 : Int64} {m4 : Nat → Int64} {m6 : Int64} {m7 : Int64} {m8 : Int64} {r13 : Int32} (w10 : (m3, m4, m5, m6, m7, m8) = J_X11_goAheadOf sx (lS [(lI [(sh 0 0), (sh 0 1), 0, 0, 0, 0, (sh 0 6), (sh 0 7), (sh 0 8), (sh 0 9), (sh 0 10), (sh 0 11), (sh 0 12)]), (sh 1), (sh 2), (sh 3), (sh 4), (sh 5)]) (lS [(lI []), (fun _ => 0), (fun _ => 0)]) (lT [(lJ [0, 0, (tco 0 2), (tco 0 3), (tco 0 4), (tco 0 5)]), (tco 1), (tco 2)]) p0 p1) (w14 : r13 = J_X11_levelBy sx p0 p1) (w24 : (m19, m20, m21, m22) = J_X1_passWeek (lS [(lI []), (fun _ => 0), (fun _ => 0)]) (lT [(lJ [0, 0, m5, m6, m7, m8]), m3, m4]) (lS [(lI [(sh 0 0), (sh 0 1), 0, 0, 0, 0, (sh 0 6), (sh 0 7), (sh 0 8), (sh 0 9), (sh 0 10), (sh 0 11), (sh 0 12)]), (sh 1), (sh 2), (sh 3), (sh 4), (sh 5)]) p1 r13 (0 : Int32)) : (m3, m19, m5, m20, m21, m22) = J_X11_goInto sx sh sco tco p0 p1 := by refine Eq.symm ?_; unfold J_X11_goInto; refine lt_e w10 ?_; refine lt_e w14 ?_; refine lt_e w24 ?_; rfl
set_option maxHeartbeats 4000000 in
set_option maxRecDepth 100000 in
theorem c_X11_goInto (l : Launch) (D : va_G) (k : Nat → ClassId) (b : Nat → Nat) (qx : Nat → Nat) (sx : Nat → Nat → Int32) (qh : Nat → Nat) (sh : Nat → Nat → Int32) (qco : Nat → Nat) (sco : Nat → Nat → Int32) (tco : Nat → Nat → Int64) (sz : Nat) (p0 : Int32) (p1 : Int32) (h_wk : 0 ≤ (sh 0 0).toInt ∧ (sh 0 0).toInt ≤ 5) (h_hk : 0 ≤ (sh 0 1).toInt ∧ (sh 0 1).toInt ≤ 4) (h_fl : 0 ≤ (sh 0 12).toInt ∧ (sh 0 12).toInt ≤ 5) (h_of : ∀ j, 0 ≤ (sh 2 j).toInt ∧ (sh 2 j).toInt ≤ 4) (h_go : ∀ j, 0 ≤ (sh 3 j).toInt ∧ (sh 3 j).toInt ≤ 5) (h_su : SUok (sh 5)) (hp0 : 0 ≤ p0.toInt ∧ p0.toInt ≤ 2) (hp1 : 0 ≤ p1.toInt ∧ p1.toInt ≤ 4) : MetV l D k b yX11_goInto wsX11_goInto ({ frames := 5, cells := 0, slots := 0, locals := 128 } : Room) [cell30_ qx sx, cell28_ k qx sx, cell29_ k qx sx, cell31_ qx sh qh, cell0_ k qh sh, cell1_ k qh sh, cell4_ k qh sh, cell3_ k qh sh, cell2_ k qh sh, cell47_ qx qco tco, cell35_ k qco tco, cell34_ k qco tco] sz [.ref (qx 0), .int p0, .int p1] (fun (u : (Nat → Int64) × (Nat → Int64) × Int64 × Int64 × Int64 × Int64) => ((u.1), (u.2.1), (u.2.2.1), (u.2.2.2.1), (u.2.2.2.2.1), (u.2.2.2.2.2)) = J_X11_goInto sx sh sco tco p0 p1) (fun u => [cell30_ qx sx, cell28_ k qx sx, cell29_ k qx sx, cell31_ qx sh qh, cell0_ k qh sh, cell1_ k qh sh, cell4_ k qh sh, cell3_ k qh sh, cell2_ k qh sh, cell56_ qx qco (u.2.2.1) (u.2.2.2.1) (u.2.2.2.2.1) (u.2.2.2.2.2), cell98_ k qco (u.1), cell99_ k qco (u.2.1)]) := by
  refine g_enter (cc := cX11_goInto) (maxL := 3) (ret := none) (by decide) rfl (Nat.le_of_ble_eq_true rfl) ?_
  intro p e s m below meth c A hsz hAe cx hr hP hD hS ls hl
  rw [hAe]
  refine g_q (fun Q hQ => ?_)
  have hx := cx.1.1
  have hb := cx.1.2.1
  have bp0 := i_rng p0
  have bp1 := i_rng p1
  have hl : lv_has ls 3 [(0, .ref (qx 0)), (1, .int p0), (2, .int p1)] := hl
  obtain ⟨H, eH⟩ : ∃ H : Heap, H = s.heap := ⟨_, rfl⟩
  obtain ⟨locs, el⟩ : ∃ L : List Loc, L = [] := ⟨_, rfl⟩
  have hP : va_P D vwCl [cell30_ qx sx, cell28_ k qx sx, cell29_ k qx sx, cell31_ qx sh qh, cell0_ k qh sh, cell1_ k qh sh, cell4_ k qh sh, cell3_ k qh sh, cell2_ k qh sh, cell47_ qx qco tco, cell35_ k qco tco, cell34_ k qco tco] H := by rw [eH]; exact hP
  have hD : va_D A [cell30_ qx sx, cell28_ k qx sx, cell29_ k qx sx, cell31_ qx sh qh, cell0_ k qh sh, cell1_ k qh sh, cell4_ k qh sh, cell3_ k qh sh, cell2_ k qh sh, cell47_ qx qco tco, cell35_ k qco tco, cell34_ k qco tco] := hD
  have hS : va_S A s.heap H locs := by rw [eH, el]; exact hS
  suffices goal : W p l e ({ frames := 5, cells := 0, slots := 0, locals := 128 } : Room) s m ([.ref (qx 0), .int p0, .int p1] : List Value).toArray below meth c H locs 0 0 Q (F0 m 0 ls []) by rw [eH, el] at goal; exact goal
  refine lv_aload_n hx hb dX11_goInto_0 rfl (lv_at hl 0 rfl) ?_
  refine lv_iload_n hx hb dX11_goInto_1 rfl (lv_at hl 1 rfl) ?_
  refine lv_iload_n hx hb dX11_goInto_2 rfl (lv_at hl 2 rfl) ?_
  refine g_vF (w1 := fun (u : (Nat → Int64) × (Nat → Int64) × Int64 × Int64 × Int64 × Int64) => [cell30_ qx sx, cell28_ k qx sx, cell29_ k qx sx, cell31_ qx sh qh, cell0_ k qh sh, cell1_ k qh sh, cell4_ k qh sh, cell3_ k qh sh, cell2_ k qh sh, cell56_ qx qco (u.2.2.1) (u.2.2.2.1) (u.2.2.2.2.1) (u.2.2.2.2.2), cell98_ k qco (u.1), cell99_ k qco (u.2.1)]) (g_runVF (ws := [cell30_ qx sx, cell28_ k qx sx, cell29_ k qx sx, cell31_ qx sh qh, cell0_ k qh sh, cell1_ k qh sh, cell4_ k qh sh, cell3_ k qh sh, cell2_ k qh sh, cell47_ qx qco tco, cell35_ k qco tco, cell34_ k qco tco]) (rest := []) cx hP hD hS [.int p0, .int p1] (c_X11_goAheadOf l D k b qx sx (lq [0, qh 1, qh 2, qh 3, qh 4, qh 5]) (lS [(lI [(sh 0 0), (sh 0 1), 0, 0, 0, 0, (sh 0 6), (sh 0 7), (sh 0 8), (sh 0 9), (sh 0 10), (sh 0 11), (sh 0 12)]), (sh 1), (sh 2), (sh 3), (sh 4), (sh 5)]) (lq [0, qco 1, qco 2]) (lS [(lI []), (fun _ => 0), (fun _ => 0)]) (lT [(lJ [0, 0, (tco 0 2), (tco 0 3), (tco 0 4), (tco 0 5)]), (tco 1), (tco 2)]) H.size p0 p1 (show 0 ≤ (sh 0 0).toInt ∧ (sh 0 0).toInt ≤ 5 from by first | decide | omega) (show 0 ≤ (sh 0 1).toInt ∧ (sh 0 1).toInt ≤ 4 from by first | decide | omega) (show 0 ≤ (sh 0 12).toInt ∧ (sh 0 12).toInt ≤ 5 from by first | decide | omega) h_of h_go (show SUok (sh 5) from by assumption) (show 0 ≤ p0.toInt ∧ p0.toInt ≤ 2 from by first | decide | omega) (show 0 ≤ p1.toInt ∧ p1.toInt ≤ 5 from by first | decide | omega)) gX11_goInto_X11_goAheadOf rfl rfl rfl nd_X11_goAheadOf ⟨Nat.le_of_ble_eq_true rfl, Nat.le_of_ble_eq_true rfl⟩ (ci := 9) (q0 := 0) rfl rfl rfl hl.1 rfl (Nat.le_of_ble_eq_true rfl) ⟨Nat.zero_le _, Nat.zero_le _⟩ dX11_goInto_3) cx.2.2.1 hD hS (fun u2 H locs hw1 hP hD hS => ?_)
  obtain ⟨m3, m4, m5, m6, m7, m8⟩ := u2
  have hP : va_P D vwCl [cell30_ qx sx, cell28_ k qx sx, cell29_ k qx sx, cell31_ qx sh qh, cell0_ k qh sh, cell1_ k qh sh, cell4_ k qh sh, cell3_ k qh sh, cell2_ k qh sh, cell56_ qx qco m5 m6 m7 m8, (qco 1, .inl (k 1, 35, .inr (.inl m3))), (qco 2, .inl (k 1, 35, .inr (.inl m4)))] H := hP
  have hD : va_D A [cell30_ qx sx, cell28_ k qx sx, cell29_ k qx sx, cell31_ qx sh qh, cell0_ k qh sh, cell1_ k qh sh, cell4_ k qh sh, cell3_ k qh sh, cell2_ k qh sh, cell56_ qx qco m5 m6 m7 m8, (qco 1, .inl (k 1, 35, .inr (.inl m3))), (qco 2, .inl (k 1, 35, .inr (.inl m4)))] := hD
  replace hw1 : (CUok m3 (sh 0 1).toInt) ∧ ((m3, m4, m5, m6, m7, m8) = J_X11_goAheadOf sx (lS [(lI [(sh 0 0), (sh 0 1), 0, 0, 0, 0, (sh 0 6), (sh 0 7), (sh 0 8), (sh 0 9), (sh 0 10), (sh 0 11), (sh 0 12)]), (sh 1), (sh 2), (sh 3), (sh 4), (sh 5)]) (lS [(lI []), (fun _ => 0), (fun _ => 0)]) (lT [(lJ [0, 0, (tco 0 2), (tco 0 3), (tco 0 4), (tco 0 5)]), (tco 1), (tco 2)]) p0 p1) := hw1
  obtain ⟨w9, w10⟩ := hw1
  refine lv_aload_n hx hb dX11_goInto_6 rfl (lv_at hl 0 rfl) ?_
  refine g_get cx hP iw_X11_goInto_X11 0 rfl rfl 7 (by decide) rfl fw_X11_goInto_52 rfl dX11_goInto_7 ?_
  refine lv_aload_n hx hb dX11_goInto_10 rfl (lv_at hl 0 rfl) ?_
  refine g_get cx hP iw_X11_goInto_X11 0 rfl rfl 4 (by decide) rfl fw_X11_goInto_39 rfl dX11_goInto_11 ?_
  refine lv_iload_n hx hb dX11_goInto_14 rfl (lv_at hl 2 rfl) ?_
  refine lv_aload_n hx hb dX11_goInto_15 rfl (lv_at hl 0 rfl) ?_
  refine lv_iload_n hx hb dX11_goInto_16 rfl (lv_at hl 1 rfl) ?_
  refine lv_iload_n hx hb dX11_goInto_17 rfl (lv_at hl 2 rfl) ?_
  refine g_ir (g_runV (wc := [cell30_ qx sx, cell28_ k qx sx, cell29_ k qx sx]) (rest := [.int p1, .ref (qx 7), .ref (qx 9)]) cx hP hD hS [0, 1, 2] rfl (by decide) [.int p0, .int p1] (c_X11_levelBy l D k b qx sx H.size p0 p1 (show 0 ≤ p0.toInt ∧ p0.toInt ≤ 2 from by first | decide | omega) (show 0 ≤ p1.toInt ∧ p1.toInt ≤ 4 from by first | decide | omega)) gX11_goInto_X11_levelBy rfl rfl rfl nd_X11_levelBy ⟨Nat.le_of_ble_eq_true rfl, Nat.le_of_ble_eq_true rfl⟩ (ci := 9) (q0 := 0) rfl rfl rfl hl.1 rfl (Nat.le_of_ble_eq_true rfl) ⟨Nat.zero_le _, Nat.zero_le _⟩ dX11_goInto_18) cx.2.2.1 hP hD hS [0, 1, 2] rfl rfl (fun r13 H locs hw12 hP hS => ?_)
  have w14 : r13 = J_X11_levelBy sx p0 p1 := hw12
  clear hw12
  refine lv_iconst (v := 0) hx hb dX11_goInto_21 (by decide) ?_
  have hlit16 : (0 : Int32).toInt = 0 := by decide
  refine g_v (w1 := fun (u : (Nat → Int64) × Int64 × Int64 × Int64) => [cell56_ qx qco m5 (u.2.1) (u.2.2.1) (u.2.2.2), (qco 1, .inl (k 1, 35, .inr (.inl m3))), cell99_ k qco (u.1), cell31_ qx sh qh, cell0_ k qh sh, cell1_ k qh sh, cell4_ k qh sh, cell3_ k qh sh, cell2_ k qh sh]) (g_runV (wc := [cell56_ qx qco m5 m6 m7 m8, (qco 1, .inl (k 1, 35, .inr (.inl m3))), (qco 2, .inl (k 1, 35, .inr (.inl m4))), cell31_ qx sh qh, cell0_ k qh sh, cell1_ k qh sh, cell4_ k qh sh, cell3_ k qh sh, cell2_ k qh sh]) (rest := []) cx hP hD hS [9, 10, 11, 3, 4, 5, 6, 7, 8] rfl (by decide) [.ref (qx 7), .int p1, .int r13, .int 0] (c_X1_passWeek l D k b (lq [qx 9, qco 1, qco 2]) (lS [(lI []), (fun _ => 0), (fun _ => 0)]) (lT [(lJ [0, 0, m5, m6, m7, m8]), m3, m4]) (lq [qx 7, qh 1, qh 2, qh 3, qh 4, qh 5]) (lS [(lI [(sh 0 0), (sh 0 1), 0, 0, 0, 0, (sh 0 6), (sh 0 7), (sh 0 8), (sh 0 9), (sh 0 10), (sh 0 11), (sh 0 12)]), (sh 1), (sh 2), (sh 3), (sh 4), (sh 5)]) H.size p1 r13 0 (show 0 ≤ (sh 0 1).toInt ∧ (sh 0 1).toInt ≤ 4 from by first | decide | omega) h_of (show CUok m3 (sh 0 1).toInt from by assumption) (show 0 ≤ p1.toInt ∧ p1.toInt ≤ 4 from by first | decide | omega)) gX11_goInto_X1_passWeek rfl rfl rfl nd_X1_passWeek ⟨Nat.le_of_ble_eq_true rfl, Nat.le_of_ble_eq_true rfl⟩ (ci := 0) (q0 := 0) rfl rfl rfl hl.1 rfl (Nat.le_of_ble_eq_true rfl) ⟨Nat.zero_le _, Nat.zero_le _⟩ dX11_goInto_22) cx.2.2.1 hP hD hS [9, 10, 11, 3, 4, 5, 6, 7, 8] rfl (fun _ => rfl) (fun u18 H locs hw17 hP hD hS => ?_)
  obtain ⟨m19, m20, m21, m22⟩ := u18
  have hP : va_P D vwCl [cell30_ qx sx, cell28_ k qx sx, cell29_ k qx sx, cell31_ qx sh qh, cell0_ k qh sh, cell1_ k qh sh, cell4_ k qh sh, cell3_ k qh sh, cell2_ k qh sh, cell56_ qx qco m5 m20 m21 m22, (qco 1, .inl (k 1, 35, .inr (.inl m3))), (qco 2, .inl (k 1, 35, .inr (.inl m19)))] H := hP
  have hD : va_D A [cell30_ qx sx, cell28_ k qx sx, cell29_ k qx sx, cell31_ qx sh qh, cell0_ k qh sh, cell1_ k qh sh, cell4_ k qh sh, cell3_ k qh sh, cell2_ k qh sh, cell56_ qx qco m5 m20 m21 m22, (qco 1, .inl (k 1, 35, .inr (.inl m3))), (qco 2, .inl (k 1, 35, .inr (.inl m19)))] := hD
  replace hw17 : (CUok m19 (sh 0 1).toInt) ∧ ((m19, m20, m21, m22) = J_X1_passWeek (lS [(lI []), (fun _ => 0), (fun _ => 0)]) (lT [(lJ [0, 0, m5, m6, m7, m8]), m3, m4]) (lS [(lI [(sh 0 0), (sh 0 1), 0, 0, 0, 0, (sh 0 6), (sh 0 7), (sh 0 8), (sh 0 9), (sh 0 10), (sh 0 11), (sh 0 12)]), (sh 1), (sh 2), (sh 3), (sh 4), (sh 5)]) p1 r13 (0 : Int32)) := hw17
  obtain ⟨w23, w24⟩ := hw17
  rw [hQ]
  exact x_v cx hr (m3, m19, m5, m20, m21, m22) hP hD hS (show (m3, m19, m5, m20, m21, m22) = J_X11_goInto sx sh sco tco p0 p1 from (exl_X11_goInto_0 w10 w14 w24)) dX11_goInto_25
theorem fw_X11_goToTheEnd_126 : Cond.fieldLink RX11 126 "StillInAugust$House" "weeks" "I" ∈ wsX11_goToTheEnd := by decide +kernel
theorem fw_X11_goToTheEnd_39 : Cond.fieldLink RX11 39 "StillInAugust" "house" "LStillInAugust$House;" ∈ wsX11_goToTheEnd := by decide +kernel
theorem fw_X11_goToTheEnd_52 : Cond.fieldLink RX11 52 "StillInAugust" "course" "LStillInAugust$Course;" ∈ wsX11_goToTheEnd := by decide +kernel
theorem nd_X1_payBonus : yX1_payBonus.cls = RX1 ∧ yX1_payBonus.cls ≠ "java/lang/invoke/MethodHandle" ∧ yX1_payBonus.cls ≠ "java/lang/invoke/VarHandle" ∧ (parseMethodDescriptor yX1_payBonus.desc).map (fun d => d.parameters.length) = some 1 := by decide +kernel
theorem iw_X11_goToTheEnd_X11 : ∀ w ∈ u_ws RX11 TX11 17, w ∈ wsX11_goToTheEnd := fun _ h => List.mem_cons_of_mem _ (List.mem_append_left _ (List.mem_append_left _ (List.mem_append_right _ h)))
theorem iw_X11_goToTheEnd_X4 : ∀ w ∈ u_ws RX4 TX4 14, w ∈ wsX11_goToTheEnd := fun _ h => List.mem_cons_of_mem _ (List.mem_append_left _ (List.mem_append_right _ h))
def B_X11_goToTheEnd_11 (sx : Nat → Nat → Int32) (sh : Nat → Nat → Int32) (sco : Nat → Nat → Int32) (tco : Nat → Nat → Int64) (p0 : Int32) (p1 : Int32) (p2 : Int32) (p3 : Int32) (y8 : (Nat → Int64) × Int64 × Int64) (z : Int32 × Int64 × Int64 × Int64 × Int64 × (Nat → Int64) × (Nat → Int64)) : Sum (Int32 × Int64 × Int64 × Int64 × Int64 × (Nat → Int64) × (Nat → Int64)) ((Nat → Int64) × (Nat → Int64) × Int64 × Int64 × Int64 × Int64) := let v31 := (z.1); let x32 := (z.2.1); let x33 := (z.2.2.1); let x34 := (z.2.2.2.1); let x35 := (z.2.2.2.2.1); let g36 := (z.2.2.2.2.2.1); let g37 := (z.2.2.2.2.2.2); if (sh 0 0) ≤ v31 then LetF (J_X1_payBonus (lS [(lI []), (fun _ => 0), (fun _ => 0)]) (lT [(lJ [0, 0, x32, x33, x34, x35]), g36, g37]) (lS [(lI [(sh 0 0), (sh 0 1), 0, 0, 0, 0, (sh 0 6), (sh 0 7), (sh 0 8), (sh 0 9), (sh 0 10), (sh 0 11), (sh 0 12)]), (sh 1), (sh 2), (sh 3), (sh 4), (sh 5)])) (fun y44 => Sum.inr ((g36, g37, x32, y44, x34, x35))) else LetF (J_X11_levelBy sx p0 v31) (fun y48 => if v31 = p1 then LetF (J_X1_passWeek (lS [(lI []), (fun _ => 0), (fun _ => 0)]) (lT [(lJ [0, 0, x32, x33, x34, x35]), g36, g37]) (lS [(lI [(sh 0 0), (sh 0 1), 0, 0, 0, 0, (sh 0 6), (sh 0 7), (sh 0 8), (sh 0 9), (sh 0 10), (sh 0 11), (sh 0 12)]), (sh 1), (sh 2), (sh 3), (sh 4), (sh 5)]) v31 y48 p3) (fun y77 => LetF (J_X1_passSunday (lS [(lI []), (fun _ => 0), (fun _ => 0)]) (lT [(lJ [0, 0, x32, (y77.2.1), (y77.2.2.1), (y77.2.2.2)]), g36, (y77.1)]) (lS [(lI [(sh 0 0), (sh 0 1), 0, 0, 0, 0, (sh 0 6), (sh 0 7), (sh 0 8), (sh 0 9), (sh 0 10), (sh 0 11), (sh 0 12)]), (sh 1), (sh 2), (sh 3), (sh 4), (sh 5)])) (fun y85 => Sum.inl (((v31 + 1), (y85.2.1), (y85.2.2), (y77.2.2.1), (y77.2.2.2), (y85.1), (y77.1))))) else LetF (J_X1_passWeek (lS [(lI []), (fun _ => 0), (fun _ => 0)]) (lT [(lJ [0, 0, x32, x33, x34, x35]), g36, g37]) (lS [(lI [(sh 0 0), (sh 0 1), 0, 0, 0, 0, (sh 0 6), (sh 0 7), (sh 0 8), (sh 0 9), (sh 0 10), (sh 0 11), (sh 0 12)]), (sh 1), (sh 2), (sh 3), (sh 4), (sh 5)]) v31 y48 0) (fun y59 => LetF (J_X1_passSunday (lS [(lI []), (fun _ => 0), (fun _ => 0)]) (lT [(lJ [0, 0, x32, (y59.2.1), (y59.2.2.1), (y59.2.2.2)]), g36, (y59.1)]) (lS [(lI [(sh 0 0), (sh 0 1), 0, 0, 0, 0, (sh 0 6), (sh 0 7), (sh 0 8), (sh 0 9), (sh 0 10), (sh 0 11), (sh 0 12)]), (sh 1), (sh 2), (sh 3), (sh 4), (sh 5)])) (fun y67 => Sum.inl (((v31 + 1), (y67.2.1), (y67.2.2), (y59.2.2.1), (y59.2.2.2), (y67.1), (y59.1))))))
def J_X11_goToTheEnd (sx : Nat → Nat → Int32) (sh : Nat → Nat → Int32) (sco : Nat → Nat → Int32) (tco : Nat → Nat → Int64) (p0 : Int32) (p1 : Int32) (p2 : Int32) (p3 : Int32) : (Nat → Int64) × (Nat → Int64) × Int64 × Int64 × Int64 × Int64 := LetF (J_X1_start (lS [(lI []), (fun _ => 0), (fun _ => 0)]) (lT [(lJ [0, 0, (tco 0 2), (tco 0 3), (tco 0 4), (tco 0 5)]), (tco 1), (tco 2)]) p2) (fun y8 => LTs default (B_X11_goToTheEnd_11 sx sh sco tco p0 p1 p2 p3 y8) 6 (p1, (y8.2.1), (y8.2.2), (tco 0 4), (tco 0 5), (y8.1), (tco 2)))
theorem exl_X11_goToTheEnd_0 {sx : Nat → Nat → Int32} {sh : Nat → Nat → Int32} {sco : Nat → Nat → Int32} {tco : Nat → Nat → Int64} {p0 : Int32} {p1 : Int32} {p2 : Int32} {p3 : Int32} {m3 : Nat → Int64} {m4 : Int64} {m5 : Int64} (w7 : (m3, m4, m5) = J_X1_start (lS [(lI []), (fun _ => 0), (fun _ => 0)]) (lT [(lJ [0, 0, (tco 0 2), (tco 0 3), (tco 0 4), (tco 0 5)]), (tco 1), (tco 2)]) p2) : J_X11_goToTheEnd sx sh sco tco p0 p1 p2 p3 = LTs (default : (Nat → Int64) × (Nat → Int64) × Int64 × Int64 × Int64 × Int64) (B_X11_goToTheEnd_11 sx sh sco tco p0 p1 p2 p3 (m3, m4, m5)) 6 (p1, m4, m5, (tco 0 4), (tco 0 5), m3, (tco 2)) := by unfold J_X11_goToTheEnd; refine lt_e w7 ?_; rfl
theorem exl_X11_goToTheEnd_1 {sx : Nat → Nat → Int32} {sh : Nat → Nat → Int32} {sco : Nat → Nat → Int32} {tco : Nat → Nat → Int64} {p0 : Int32} {p1 : Int32} {p2 : Int32} {p3 : Int32} {m3 : Nat → Int64} {m4 : Int64} {m5 : Int64} {v31 : Int32} {x32 : Int64} {x33 : Int64} {x34 : Int64} {x35 : Int64} {g36 : Nat → Int64} {g37 : Nat → Int64} {m42 : Int64} (c39 : (sh 0 0) ≤ v31) (w43 : m42 = J_X1_payBonus (lS [(lI []), (fun _ => 0), (fun _ => 0)]) (lT [(lJ [0, 0, x32, x33, x34, x35]), g36, g37]) (lS [(lI [(sh 0 0), (sh 0 1), 0, 0, 0, 0, (sh 0 6), (sh 0 7), (sh 0 8), (sh 0 9), (sh 0 10), (sh 0 11), (sh 0 12)]), (sh 1), (sh 2), (sh 3), (sh 4), (sh 5)])) : (B_X11_goToTheEnd_11 sx sh sco tco p0 p1 p2 p3 (m3, m4, m5)) (v31, x32, x33, x34, x35, g36, g37) = Sum.inr ((g36, g37, x32, m42, x34, x35)) := by unfold B_X11_goToTheEnd_11; refine Eq.trans (if_pos c39) ?_; refine lt_e w43 ?_; rfl
theorem exl_X11_goToTheEnd_2 {sx : Nat → Nat → Int32} {sh : Nat → Nat → Int32} {sco : Nat → Nat → Int32} {tco : Nat → Nat → Int64} {p0 : Int32} {p1 : Int32} {p2 : Int32} {p3 : Int32} {m3 : Nat → Int64} {m4 : Int64} {m5 : Int64} {v31 : Int32} {x32 : Int64} {x33 : Int64} {x34 : Int64} {x35 : Int64} {g36 : Nat → Int64} {g37 : Nat → Int64} {v68 : Int32} {m63 : Int64} {m64 : Int64} {m55 : Int64} {m56 : Int64} {m62 : Nat → Int64} {m53 : Nat → Int64} {r46 : Int32} {m54 : Int64} (e68 : v68 = v31 + 1) (c39 : ¬ ((sh 0 0) ≤ v31)) (w47 : r46 = J_X11_levelBy sx p0 v31) (c49 : ¬ (v31 = p1)) (w58 : (m53, m54, m55, m56) = J_X1_passWeek (lS [(lI []), (fun _ => 0), (fun _ => 0)]) (lT [(lJ [0, 0, x32, x33, x34, x35]), g36, g37]) (lS [(lI [(sh 0 0), (sh 0 1), 0, 0, 0, 0, (sh 0 6), (sh 0 7), (sh 0 8), (sh 0 9), (sh 0 10), (sh 0 11), (sh 0 12)]), (sh 1), (sh 2), (sh 3), (sh 4), (sh 5)]) v31 r46 (0 : Int32)) (w66 : (m62, m63, m64) = J_X1_passSunday (lS [(lI []), (fun _ => 0), (fun _ => 0)]) (lT [(lJ [0, 0, x32, m54, m55, m56]), g36, m53]) (lS [(lI [(sh 0 0), (sh 0 1), 0, 0, 0, 0, (sh 0 6), (sh 0 7), (sh 0 8), (sh 0 9), (sh 0 10), (sh 0 11), (sh 0 12)]), (sh 1), (sh 2), (sh 3), (sh 4), (sh 5)])) : (B_X11_goToTheEnd_11 sx sh sco tco p0 p1 p2 p3 (m3, m4, m5)) (v31, x32, x33, x34, x35, g36, g37) = Sum.inl (v68, m63, m64, m55, m56, m62, m53) := by subst e68; unfold B_X11_goToTheEnd_11; refine Eq.trans (if_neg c39) ?_; refine lt_e w47 ?_; refine Eq.trans (if_neg c49) ?_; refine lt_e w58 ?_; refine lt_e w66 ?_; rfl
theorem exl_X11_goToTheEnd_3 {sx : Nat → Nat → Int32} {sh : Nat → Nat → Int32} {sco : Nat → Nat → Int32} {tco : Nat → Nat → Int64} {p0 : Int32} {p1 : Int32} {p2 : Int32} {p3 : Int32} {m3 : Nat → Int64} {m4 : Int64} {m5 : Int64} {v31 : Int32} {x32 : Int64} {x33 : Int64} {x34 : Int64} {x35 : Int64} {g36 : Nat → Int64} {g37 : Nat → Int64} {v86 : Int32} {m81 : Int64} {m82 : Int64} {m73 : Int64} {m74 : Int64} {m80 : Nat → Int64} {m71 : Nat → Int64} {r46 : Int32} {m72 : Int64} (e86 : v86 = v31 + 1) (c39 : ¬ ((sh 0 0) ≤ v31)) (w47 : r46 = J_X11_levelBy sx p0 v31) (c49 : v31 = p1) (w76 : (m71, m72, m73, m74) = J_X1_passWeek (lS [(lI []), (fun _ => 0), (fun _ => 0)]) (lT [(lJ [0, 0, x32, x33, x34, x35]), g36, g37]) (lS [(lI [(sh 0 0), (sh 0 1), 0, 0, 0, 0, (sh 0 6), (sh 0 7), (sh 0 8), (sh 0 9), (sh 0 10), (sh 0 11), (sh 0 12)]), (sh 1), (sh 2), (sh 3), (sh 4), (sh 5)]) v31 r46 p3) (w84 : (m80, m81, m82) = J_X1_passSunday (lS [(lI []), (fun _ => 0), (fun _ => 0)]) (lT [(lJ [0, 0, x32, m72, m73, m74]), g36, m71]) (lS [(lI [(sh 0 0), (sh 0 1), 0, 0, 0, 0, (sh 0 6), (sh 0 7), (sh 0 8), (sh 0 9), (sh 0 10), (sh 0 11), (sh 0 12)]), (sh 1), (sh 2), (sh 3), (sh 4), (sh 5)])) : (B_X11_goToTheEnd_11 sx sh sco tco p0 p1 p2 p3 (m3, m4, m5)) (v31, x32, x33, x34, x35, g36, g37) = Sum.inl (v86, m81, m82, m73, m74, m80, m71) := by subst e86; unfold B_X11_goToTheEnd_11; refine Eq.trans (if_neg c39) ?_; refine lt_e w47 ?_; refine Eq.trans (if_pos c49) ?_; refine lt_e w76 ?_; refine lt_e w84 ?_; rfl
set_option maxHeartbeats 4000000 in
set_option maxRecDepth 100000 in
theorem c_X11_goToTheEnd (l : Launch) (D : va_G) (k : Nat → ClassId) (b : Nat → Nat) (qx : Nat → Nat) (sx : Nat → Nat → Int32) (qh : Nat → Nat) (sh : Nat → Nat → Int32) (qco : Nat → Nat) (sco : Nat → Nat → Int32) (tco : Nat → Nat → Int64) (sz : Nat) (p0 : Int32) (p1 : Int32) (p2 : Int32) (p3 : Int32) (h_wk : 0 ≤ (sh 0 0).toInt ∧ (sh 0 0).toInt ≤ 5) (h_hk : 0 ≤ (sh 0 1).toInt ∧ (sh 0 1).toInt ≤ 4) (h_fl : 0 ≤ (sh 0 12).toInt ∧ (sh 0 12).toInt ≤ 5) (h_of : ∀ j, 0 ≤ (sh 2 j).toInt ∧ (sh 2 j).toInt ≤ 4) (h_go : ∀ j, 0 ≤ (sh 3 j).toInt ∧ (sh 3 j).toInt ≤ 5) (h_su : SUok (sh 5)) (hv : 0 ≤ p2.toInt ∧ p2.toInt ≤ 400 ∧ tot p2 ≤ 4) (ht : tot p2 ≤ (sh 0 1).toInt) (hp0 : 0 ≤ p0.toInt ∧ p0.toInt ≤ 2) (hp1 : 0 ≤ p1.toInt ∧ p1.toInt ≤ 5) : MetV l D k b yX11_goToTheEnd wsX11_goToTheEnd ({ frames := 4, cells := 0, slots := 0, locals := 105 } : Room) [cell30_ qx sx, cell28_ k qx sx, cell29_ k qx sx, cell31_ qx sh qh, cell0_ k qh sh, cell1_ k qh sh, cell4_ k qh sh, cell3_ k qh sh, cell2_ k qh sh, cell47_ qx qco tco, cell35_ k qco tco, cell34_ k qco tco] sz [.ref (qx 0), .int p0, .int p1, .int p2, .int p3] (fun (u : (Nat → Int64) × (Nat → Int64) × Int64 × Int64 × Int64 × Int64) => ((u.1), (u.2.1), (u.2.2.1), (u.2.2.2.1), (u.2.2.2.2.1), (u.2.2.2.2.2)) = J_X11_goToTheEnd sx sh sco tco p0 p1 p2 p3) (fun u => [cell30_ qx sx, cell28_ k qx sx, cell29_ k qx sx, cell31_ qx sh qh, cell0_ k qh sh, cell1_ k qh sh, cell4_ k qh sh, cell3_ k qh sh, cell2_ k qh sh, cell56_ qx qco (u.2.2.1) (u.2.2.2.1) (u.2.2.2.2.1) (u.2.2.2.2.2), cell98_ k qco (u.1), cell99_ k qco (u.2.1)]) := by
  refine g_enter (cc := cX11_goToTheEnd) (maxL := 6) (ret := none) (by decide) rfl (Nat.le_of_ble_eq_true rfl) ?_
  intro p e s m below meth c A hsz hAe cx hr hP hD hS ls hl
  rw [hAe]
  refine g_q (fun Q hQ => ?_)
  have hx := cx.1.1
  have hb := cx.1.2.1
  have bp0 := i_rng p0
  have bp1 := i_rng p1
  have bp2 := i_rng p2
  have bp3 := i_rng p3
  have hl : lv_has ls 6 [(0, .ref (qx 0)), (1, .int p0), (2, .int p1), (3, .int p2), (4, .int p3)] := hl
  obtain ⟨H, eH⟩ : ∃ H : Heap, H = s.heap := ⟨_, rfl⟩
  obtain ⟨locs, el⟩ : ∃ L : List Loc, L = [] := ⟨_, rfl⟩
  have hP : va_P D vwCl [cell30_ qx sx, cell28_ k qx sx, cell29_ k qx sx, cell31_ qx sh qh, cell0_ k qh sh, cell1_ k qh sh, cell4_ k qh sh, cell3_ k qh sh, cell2_ k qh sh, cell47_ qx qco tco, cell35_ k qco tco, cell34_ k qco tco] H := by rw [eH]; exact hP
  have hD : va_D A [cell30_ qx sx, cell28_ k qx sx, cell29_ k qx sx, cell31_ qx sh qh, cell0_ k qh sh, cell1_ k qh sh, cell4_ k qh sh, cell3_ k qh sh, cell2_ k qh sh, cell47_ qx qco tco, cell35_ k qco tco, cell34_ k qco tco] := hD
  have hS : va_S A s.heap H locs := by rw [eH, el]; exact hS
  suffices goal : W p l e ({ frames := 4, cells := 0, slots := 0, locals := 105 } : Room) s m ([.ref (qx 0), .int p0, .int p1, .int p2, .int p3] : List Value).toArray below meth c H locs 0 0 Q (F0 m 0 ls []) by rw [eH, el] at goal; exact goal
  refine lv_aload_n hx hb dX11_goToTheEnd_0 rfl (lv_at hl 0 rfl) ?_
  refine g_get cx hP iw_X11_goToTheEnd_X11 0 rfl rfl 7 (by decide) rfl fw_X11_goToTheEnd_52 rfl dX11_goToTheEnd_1 ?_
  refine lv_iload_n hx hb dX11_goToTheEnd_4 rfl (lv_at hl 3 rfl) ?_
  refine g_v (w1 := fun (u : (Nat → Int64) × Int64 × Int64) => [cell195_ qx qco tco (u.2.1) (u.2.2), cell98_ k qco (u.1), cell34_ k qco tco]) (g_runV (wc := [cell47_ qx qco tco, cell35_ k qco tco, cell34_ k qco tco]) (rest := []) cx hP hD hS [9, 10, 11] rfl (by decide) [.int p2] (c_X1_start l D k b (lq [qx 9, qco 1, qco 2]) (lS [(lI []), (fun _ => 0), (fun _ => 0)]) (lT [(lJ [0, 0, (tco 0 2), (tco 0 3), (tco 0 4), (tco 0 5)]), (tco 1), (tco 2)]) H.size p2 (show 0 ≤ p2.toInt ∧ p2.toInt ≤ 400 ∧ tot p2 ≤ 4 from by first | decide | omega)) gX11_goToTheEnd_X1_start rfl rfl rfl nd_X1_start ⟨Nat.le_of_ble_eq_true rfl, Nat.le_of_ble_eq_true rfl⟩ (ci := 0) (q0 := 0) rfl rfl rfl hl.1 rfl (Nat.le_of_ble_eq_true rfl) ⟨Nat.zero_le _, Nat.zero_le _⟩ dX11_goToTheEnd_5) cx.2.2.1 hP hD hS [9, 10, 11] rfl (fun _ => rfl) (fun u2 H locs hw1 hP hD hS => ?_)
  obtain ⟨m3, m4, m5⟩ := u2
  have hP : va_P D vwCl [cell30_ qx sx, cell28_ k qx sx, cell29_ k qx sx, cell31_ qx sh qh, cell0_ k qh sh, cell1_ k qh sh, cell4_ k qh sh, cell3_ k qh sh, cell2_ k qh sh, cell195_ qx qco tco m4 m5, (qco 1, .inl (k 1, 35, .inr (.inl m3))), cell34_ k qco tco] H := hP
  have hD : va_D A [cell30_ qx sx, cell28_ k qx sx, cell29_ k qx sx, cell31_ qx sh qh, cell0_ k qh sh, cell1_ k qh sh, cell4_ k qh sh, cell3_ k qh sh, cell2_ k qh sh, cell195_ qx qco tco m4 m5, (qco 1, .inl (k 1, 35, .inr (.inl m3))), cell34_ k qco tco] := hD
  replace hw1 : (∀ H : Int, tot p2 ≤ H → CUok m3 H) ∧ ((m3, m4, m5) = J_X1_start (lS [(lI []), (fun _ => 0), (fun _ => 0)]) (lT [(lJ [0, 0, (tco 0 2), (tco 0 3), (tco 0 4), (tco 0 5)]), (tco 1), (tco 2)]) p2) := hw1
  obtain ⟨w6, w7⟩ := hw1
  have cu : CUok m3 (sh 0 1).toInt := w6 _ (by omega)
  refine lv_iload_n hx hb dX11_goToTheEnd_8 rfl (lv_at hl 2 rfl) ?_
  refine lv_istore (lv' := [(5, .int p1), (0, .ref (qx 0)), (1, .int p0), (2, .int p1), (3, .int p2), (4, .int p3)]) hx hb dX11_goToTheEnd_9 hl (by decide) rfl (fun ls hl => ?_)
  obtain ⟨rr11_1, err11_1⟩ : ∃ r : (Nat → Int64) × (Nat → Int64) × Int64 × Int64 × Int64 × Int64, LTs (default : (Nat → Int64) × (Nat → Int64) × Int64 × Int64 × Int64 × Int64) (B_X11_goToTheEnd_11 sx sh sco tco p0 p1 p2 p3 (m3, m4, m5)) 6 (p1, m4, m5, (tco 0 4), (tco 0 5), m3, (tco 2)) = r := ⟨_, rfl⟩
  have hrr11_1 : J_X11_goToTheEnd sx sh sco tco p0 p1 p2 p3 = rr11_1 := ((exl_X11_goToTheEnd_0 w7)).trans err11_1
  have hL11 : ∀ (n38 : Nat) (v31 : Int32) (x32 : Int64) (x33 : Int64) (x34 : Int64) (x35 : Int64) (g36 : Nat → Int64) (g37 : Nat → Int64) (H : Heap) (locs : List Loc) (ls : Array Slot), 5 - v31.toInt < (n38 : Int) → (0 ≤ v31.toInt ∧ v31.toInt ≤ 5) → (CUok g36 (sh 0 1).toInt) → (LTs (default : (Nat → Int64) × (Nat → Int64) × Int64 × Int64 × Int64 × Int64) (B_X11_goToTheEnd_11 sx sh sco tco p0 p1 p2 p3 (m3, m4, m5)) n38 (v31, x32, x33, x34, x35, g36, g37) = rr11_1) → va_P D vwCl [cell30_ qx sx, cell28_ k qx sx, cell29_ k qx sx, cell31_ qx sh qh, cell0_ k qh sh, cell1_ k qh sh, cell4_ k qh sh, cell3_ k qh sh, cell2_ k qh sh, cell56_ qx qco x32 x33 x34 x35, (qco 1, .inl (k 1, 35, .inr (.inl g36))), (qco 2, .inl (k 1, 35, .inr (.inl g37)))] H → va_D A [cell30_ qx sx, cell28_ k qx sx, cell29_ k qx sx, cell31_ qx sh qh, cell0_ k qh sh, cell1_ k qh sh, cell4_ k qh sh, cell3_ k qh sh, cell2_ k qh sh, cell56_ qx qco x32 x33 x34 x35, (qco 1, .inl (k 1, 35, .inr (.inl g36))), (qco 2, .inl (k 1, 35, .inr (.inl g37)))] → va_S A s.heap H locs → lv_has ls 6 [(5, .int v31), (0, .ref (qx 0)), (1, .int p0), (2, .int p1), (4, .int p3)] → W p l e ({ frames := 4, cells := 0, slots := 0, locals := 105 } : Room) s m ([.ref (qx 0), .int p0, .int p1, .int p2, .int p3] : List Value).toArray below meth c H locs 0 0 Q (F0 m 11 ls []) := by
    intro n38
    induction n38 with
    | zero => intro v31 x32 x33 x34 x35 g36 g37 H locs ls hmn38 bv31 cu hzrr11_1 hP hD hS hl; exact absurd hmn38 (by omega)
    | succ n38 ih11 =>
      intro v31 x32 x33 x34 x35 g36 g37 H locs ls hmn38 bv31 cu hzrr11_1 hP hD hS hl
      refine lv_iload hx hb dX11_goToTheEnd_11 (lv_at hl 0 rfl) ?_
      refine lv_aload_n hx hb dX11_goToTheEnd_13 rfl (lv_at hl 1 rfl) ?_
      refine g_get cx hP iw_X11_goToTheEnd_X11 0 rfl rfl 4 (by decide) rfl fw_X11_goToTheEnd_39 rfl dX11_goToTheEnd_14 ?_
      refine g_get cx hP iw_X11_goToTheEnd_X4 3 rfl rfl 0 (by decide) rfl fw_X11_goToTheEnd_126 rfl dX11_goToTheEnd_17 ?_
      refine lv_icmp_ge (tgt := 72) hx hb dX11_goToTheEnd_20 (by decide) (fun c39 => ?_) (fun c39 => ?_)
      · have f39 : (sh 0 0).toInt ≤ v31.toInt := f_le rfl rfl c39
        refine lv_aload_n hx hb dX11_goToTheEnd_72 rfl (lv_at hl 1 rfl) ?_
        refine g_get cx hP iw_X11_goToTheEnd_X11 0 rfl rfl 7 (by decide) rfl fw_X11_goToTheEnd_52 rfl dX11_goToTheEnd_73 ?_
        refine lv_aload_n hx hb dX11_goToTheEnd_76 rfl (lv_at hl 1 rfl) ?_
        refine g_get cx hP iw_X11_goToTheEnd_X11 0 rfl rfl 4 (by decide) rfl fw_X11_goToTheEnd_39 rfl dX11_goToTheEnd_77 ?_
        refine g_v (w1 := fun (u : Int64) => [cell56_ qx qco x32 u x34 x35, (qco 1, .inl (k 1, 35, .inr (.inl g36))), (qco 2, .inl (k 1, 35, .inr (.inl g37))), cell31_ qx sh qh, cell0_ k qh sh, cell1_ k qh sh, cell4_ k qh sh, cell3_ k qh sh, cell2_ k qh sh]) (g_runV (wc := [cell56_ qx qco x32 x33 x34 x35, (qco 1, .inl (k 1, 35, .inr (.inl g36))), (qco 2, .inl (k 1, 35, .inr (.inl g37))), cell31_ qx sh qh, cell0_ k qh sh, cell1_ k qh sh, cell4_ k qh sh, cell3_ k qh sh, cell2_ k qh sh]) (rest := []) cx hP hD hS [9, 10, 11, 3, 4, 5, 6, 7, 8] rfl (by decide) [.ref (qx 7)] (c_X1_payBonus l D k b (lq [qx 9, qco 1, qco 2]) (lS [(lI []), (fun _ => 0), (fun _ => 0)]) (lT [(lJ [0, 0, x32, x33, x34, x35]), g36, g37]) (lq [qx 7, qh 1, qh 2, qh 3, qh 4, qh 5]) (lS [(lI [(sh 0 0), (sh 0 1), 0, 0, 0, 0, (sh 0 6), (sh 0 7), (sh 0 8), (sh 0 9), (sh 0 10), (sh 0 11), (sh 0 12)]), (sh 1), (sh 2), (sh 3), (sh 4), (sh 5)]) H.size) gX11_goToTheEnd_X1_payBonus rfl rfl rfl nd_X1_payBonus ⟨Nat.le_of_ble_eq_true rfl, Nat.le_of_ble_eq_true rfl⟩ (ci := 0) (q0 := 0) rfl rfl rfl hl.1 rfl (Nat.le_of_ble_eq_true rfl) ⟨Nat.zero_le _, Nat.zero_le _⟩ dX11_goToTheEnd_80) cx.2.2.1 hP hD hS [9, 10, 11, 3, 4, 5, 6, 7, 8] rfl (fun _ => rfl) (fun u41 H locs hw40 hP hD hS => ?_)
        obtain ⟨m42, rfl⟩ : ∃ z, z = u41 := ⟨_, rfl⟩
        have hP : va_P D vwCl [cell30_ qx sx, cell28_ k qx sx, cell29_ k qx sx, cell31_ qx sh qh, cell0_ k qh sh, cell1_ k qh sh, cell4_ k qh sh, cell3_ k qh sh, cell2_ k qh sh, cell56_ qx qco x32 m42 x34 x35, (qco 1, .inl (k 1, 35, .inr (.inl g36))), (qco 2, .inl (k 1, 35, .inr (.inl g37)))] H := hP
        have hD : va_D A [cell30_ qx sx, cell28_ k qx sx, cell29_ k qx sx, cell31_ qx sh qh, cell0_ k qh sh, cell1_ k qh sh, cell4_ k qh sh, cell3_ k qh sh, cell2_ k qh sh, cell56_ qx qco x32 m42 x34 x35, (qco 1, .inl (k 1, 35, .inr (.inl g36))), (qco 2, .inl (k 1, 35, .inr (.inl g37)))] := hD
        have w43 : m42 = J_X1_payBonus (lS [(lI []), (fun _ => 0), (fun _ => 0)]) (lT [(lJ [0, 0, x32, x33, x34, x35]), g36, g37]) (lS [(lI [(sh 0 0), (sh 0 1), 0, 0, 0, 0, (sh 0 6), (sh 0 7), (sh 0 8), (sh 0 9), (sh 0 10), (sh 0 11), (sh 0 12)]), (sh 1), (sh 2), (sh 3), (sh 4), (sh 5)]) := hw40
        clear hw40
        rw [hQ]
        exact x_v cx hr (g36, g37, x32, m42, x34, x35) hP hD hS (show (g36, g37, x32, m42, x34, x35) = J_X11_goToTheEnd sx sh sco tco p0 p1 p2 p3 from ((hrr11_1.trans (LT_r hzrr11_1 (exl_X11_goToTheEnd_1 c39 w43)))).symm) dX11_goToTheEnd_83
      · have f39 : v31.toInt < (sh 0 0).toInt := f_nle rfl rfl c39
        refine lv_aload_n hx hb dX11_goToTheEnd_23 rfl (lv_at hl 1 rfl) ?_
        refine g_get cx hP iw_X11_goToTheEnd_X11 0 rfl rfl 7 (by decide) rfl fw_X11_goToTheEnd_52 rfl dX11_goToTheEnd_24 ?_
        refine lv_aload_n hx hb dX11_goToTheEnd_27 rfl (lv_at hl 1 rfl) ?_
        refine g_get cx hP iw_X11_goToTheEnd_X11 0 rfl rfl 4 (by decide) rfl fw_X11_goToTheEnd_39 rfl dX11_goToTheEnd_28 ?_
        refine lv_iload hx hb dX11_goToTheEnd_31 (lv_at hl 0 rfl) ?_
        refine lv_aload_n hx hb dX11_goToTheEnd_33 rfl (lv_at hl 1 rfl) ?_
        refine lv_iload_n hx hb dX11_goToTheEnd_34 rfl (lv_at hl 2 rfl) ?_
        refine lv_iload hx hb dX11_goToTheEnd_35 (lv_at hl 0 rfl) ?_
        refine g_ir (g_runV (wc := [cell30_ qx sx, cell28_ k qx sx, cell29_ k qx sx]) (rest := [.int v31, .ref (qx 7), .ref (qx 9)]) cx hP hD hS [0, 1, 2] rfl (by decide) [.int p0, .int v31] (c_X11_levelBy l D k b qx sx H.size p0 v31 (show 0 ≤ p0.toInt ∧ p0.toInt ≤ 2 from by first | decide | omega) (show 0 ≤ v31.toInt ∧ v31.toInt ≤ 4 from by first | decide | omega)) gX11_goToTheEnd_X11_levelBy rfl rfl rfl nd_X11_levelBy ⟨Nat.le_of_ble_eq_true rfl, Nat.le_of_ble_eq_true rfl⟩ (ci := 9) (q0 := 0) rfl rfl rfl hl.1 rfl (Nat.le_of_ble_eq_true rfl) ⟨Nat.zero_le _, Nat.zero_le _⟩ dX11_goToTheEnd_37) cx.2.2.1 hP hD hS [0, 1, 2] rfl rfl (fun r46 H locs hw45 hP hS => ?_)
        have w47 : r46 = J_X11_levelBy sx p0 v31 := hw45
        clear hw45
        refine lv_iload hx hb dX11_goToTheEnd_40 (lv_at hl 0 rfl) ?_
        refine lv_iload_n hx hb dX11_goToTheEnd_42 rfl (lv_at hl 3 rfl) ?_
        refine lv_icmp_ne (tgt := 51) hx hb dX11_goToTheEnd_43 (by decide) (fun c49 => ?_) (fun c49 => ?_)
        · have f49 : ¬ v31.toInt = p1.toInt := f_ne rfl rfl c49
          refine lv_iconst (v := 0) hx hb dX11_goToTheEnd_51 (by decide) ?_
          have hlit50 : (0 : Int32).toInt = 0 := by decide
          refine g_v (w1 := fun (u : (Nat → Int64) × Int64 × Int64 × Int64) => [cell56_ qx qco x32 (u.2.1) (u.2.2.1) (u.2.2.2), (qco 1, .inl (k 1, 35, .inr (.inl g36))), cell99_ k qco (u.1), cell31_ qx sh qh, cell0_ k qh sh, cell1_ k qh sh, cell4_ k qh sh, cell3_ k qh sh, cell2_ k qh sh]) (g_runV (wc := [cell56_ qx qco x32 x33 x34 x35, (qco 1, .inl (k 1, 35, .inr (.inl g36))), (qco 2, .inl (k 1, 35, .inr (.inl g37))), cell31_ qx sh qh, cell0_ k qh sh, cell1_ k qh sh, cell4_ k qh sh, cell3_ k qh sh, cell2_ k qh sh]) (rest := []) cx hP hD hS [9, 10, 11, 3, 4, 5, 6, 7, 8] rfl (by decide) [.ref (qx 7), .int v31, .int r46, .int 0] (c_X1_passWeek l D k b (lq [qx 9, qco 1, qco 2]) (lS [(lI []), (fun _ => 0), (fun _ => 0)]) (lT [(lJ [0, 0, x32, x33, x34, x35]), g36, g37]) (lq [qx 7, qh 1, qh 2, qh 3, qh 4, qh 5]) (lS [(lI [(sh 0 0), (sh 0 1), 0, 0, 0, 0, (sh 0 6), (sh 0 7), (sh 0 8), (sh 0 9), (sh 0 10), (sh 0 11), (sh 0 12)]), (sh 1), (sh 2), (sh 3), (sh 4), (sh 5)]) H.size v31 r46 0 (show 0 ≤ (sh 0 1).toInt ∧ (sh 0 1).toInt ≤ 4 from by first | decide | omega) h_of (show CUok g36 (sh 0 1).toInt from by assumption) (show 0 ≤ v31.toInt ∧ v31.toInt ≤ 4 from by first | decide | omega)) gX11_goToTheEnd_X1_passWeek rfl rfl rfl nd_X1_passWeek ⟨Nat.le_of_ble_eq_true rfl, Nat.le_of_ble_eq_true rfl⟩ (ci := 0) (q0 := 0) rfl rfl rfl hl.1 rfl (Nat.le_of_ble_eq_true rfl) ⟨Nat.zero_le _, Nat.zero_le _⟩ dX11_goToTheEnd_52) cx.2.2.1 hP hD hS [9, 10, 11, 3, 4, 5, 6, 7, 8] rfl (fun _ => rfl) (fun u52 H locs hw51 hP hD hS => ?_)
          obtain ⟨m53, m54, m55, m56⟩ := u52
          have hP : va_P D vwCl [cell30_ qx sx, cell28_ k qx sx, cell29_ k qx sx, cell31_ qx sh qh, cell0_ k qh sh, cell1_ k qh sh, cell4_ k qh sh, cell3_ k qh sh, cell2_ k qh sh, cell56_ qx qco x32 m54 m55 m56, (qco 1, .inl (k 1, 35, .inr (.inl g36))), (qco 2, .inl (k 1, 35, .inr (.inl m53)))] H := hP
          have hD : va_D A [cell30_ qx sx, cell28_ k qx sx, cell29_ k qx sx, cell31_ qx sh qh, cell0_ k qh sh, cell1_ k qh sh, cell4_ k qh sh, cell3_ k qh sh, cell2_ k qh sh, cell56_ qx qco x32 m54 m55 m56, (qco 1, .inl (k 1, 35, .inr (.inl g36))), (qco 2, .inl (k 1, 35, .inr (.inl m53)))] := hD
          replace hw51 : (CUok m53 (sh 0 1).toInt) ∧ ((m53, m54, m55, m56) = J_X1_passWeek (lS [(lI []), (fun _ => 0), (fun _ => 0)]) (lT [(lJ [0, 0, x32, x33, x34, x35]), g36, g37]) (lS [(lI [(sh 0 0), (sh 0 1), 0, 0, 0, 0, (sh 0 6), (sh 0 7), (sh 0 8), (sh 0 9), (sh 0 10), (sh 0 11), (sh 0 12)]), (sh 1), (sh 2), (sh 3), (sh 4), (sh 5)]) v31 r46 (0 : Int32)) := hw51
          obtain ⟨w57, w58⟩ := hw51
          refine lv_aload_n hx hb dX11_goToTheEnd_55 rfl (lv_at hl 1 rfl) ?_
          refine g_get cx hP iw_X11_goToTheEnd_X11 0 rfl rfl 7 (by decide) rfl fw_X11_goToTheEnd_52 rfl dX11_goToTheEnd_56 ?_
          refine lv_aload_n hx hb dX11_goToTheEnd_59 rfl (lv_at hl 1 rfl) ?_
          refine g_get cx hP iw_X11_goToTheEnd_X11 0 rfl rfl 4 (by decide) rfl fw_X11_goToTheEnd_39 rfl dX11_goToTheEnd_60 ?_
          refine g_v (w1 := fun (u : (Nat → Int64) × Int64 × Int64) => [cell56_ qx qco (u.2.1) (u.2.2) m55 m56, cell98_ k qco (u.1), (qco 2, .inl (k 1, 35, .inr (.inl m53))), cell31_ qx sh qh, cell0_ k qh sh, cell1_ k qh sh, cell4_ k qh sh, cell3_ k qh sh, cell2_ k qh sh]) (g_runV (wc := [cell56_ qx qco x32 m54 m55 m56, (qco 1, .inl (k 1, 35, .inr (.inl g36))), (qco 2, .inl (k 1, 35, .inr (.inl m53))), cell31_ qx sh qh, cell0_ k qh sh, cell1_ k qh sh, cell4_ k qh sh, cell3_ k qh sh, cell2_ k qh sh]) (rest := []) cx hP hD hS [9, 10, 11, 3, 4, 5, 6, 7, 8] rfl (by decide) [.ref (qx 7)] (c_X1_passSunday l D k b (lq [qx 9, qco 1, qco 2]) (lS [(lI []), (fun _ => 0), (fun _ => 0)]) (lT [(lJ [0, 0, x32, m54, m55, m56]), g36, m53]) (lq [qx 7, qh 1, qh 2, qh 3, qh 4, qh 5]) (lS [(lI [(sh 0 0), (sh 0 1), 0, 0, 0, 0, (sh 0 6), (sh 0 7), (sh 0 8), (sh 0 9), (sh 0 10), (sh 0 11), (sh 0 12)]), (sh 1), (sh 2), (sh 3), (sh 4), (sh 5)]) H.size (show SUok (sh 5) from by assumption) (show CUok m53 (sh 0 1).toInt from by assumption)) gX11_goToTheEnd_X1_passSunday rfl rfl rfl nd_X1_passSunday ⟨Nat.le_of_ble_eq_true rfl, Nat.le_of_ble_eq_true rfl⟩ (ci := 0) (q0 := 0) rfl rfl rfl hl.1 rfl (Nat.le_of_ble_eq_true rfl) ⟨Nat.zero_le _, Nat.zero_le _⟩ dX11_goToTheEnd_63) cx.2.2.1 hP hD hS [9, 10, 11, 3, 4, 5, 6, 7, 8] rfl (fun _ => rfl) (fun u61 H locs hw60 hP hD hS => ?_)
          obtain ⟨m62, m63, m64⟩ := u61
          have hP : va_P D vwCl [cell30_ qx sx, cell28_ k qx sx, cell29_ k qx sx, cell31_ qx sh qh, cell0_ k qh sh, cell1_ k qh sh, cell4_ k qh sh, cell3_ k qh sh, cell2_ k qh sh, cell56_ qx qco m63 m64 m55 m56, (qco 1, .inl (k 1, 35, .inr (.inl m62))), (qco 2, .inl (k 1, 35, .inr (.inl m53)))] H := hP
          have hD : va_D A [cell30_ qx sx, cell28_ k qx sx, cell29_ k qx sx, cell31_ qx sh qh, cell0_ k qh sh, cell1_ k qh sh, cell4_ k qh sh, cell3_ k qh sh, cell2_ k qh sh, cell56_ qx qco m63 m64 m55 m56, (qco 1, .inl (k 1, 35, .inr (.inl m62))), (qco 2, .inl (k 1, 35, .inr (.inl m53)))] := hD
          replace hw60 : (CUok m62 (sh 0 1).toInt) ∧ ((m62, m63, m64) = J_X1_passSunday (lS [(lI []), (fun _ => 0), (fun _ => 0)]) (lT [(lJ [0, 0, x32, m54, m55, m56]), g36, m53]) (lS [(lI [(sh 0 0), (sh 0 1), 0, 0, 0, 0, (sh 0 6), (sh 0 7), (sh 0 8), (sh 0 9), (sh 0 10), (sh 0 11), (sh 0 12)]), (sh 1), (sh 2), (sh 3), (sh 4), (sh 5)])) := hw60
          obtain ⟨w65, w66⟩ := hw60
          obtain ⟨v68, e68⟩ : ∃ z : Int32, z = v31 + 1 := ⟨_, rfl⟩
          refine lv_iinc (v := v68) (lv' := [(5, .int v68), (0, .ref (qx 0)), (1, .int p0), (2, .int p1), (4, .int p3)]) hx hb dX11_goToTheEnd_66 hl (k := 0) rfl (by rw [e68]; rfl) (by decide) rfl (fun ls hl => ?_)
          have t68 : v68.toInt = v31.toInt + 1 := by rw [e68]; exact i_add rfl (by decide) (by omega) (by omega)
          refine lv_goto (tgt := 11) hx hb dX11_goToTheEnd_69 (by decide) ?_
          exact ih11 v68 m63 m64 m55 m56 m62 m53 _ _ _ (by omega) (by first | decide | omega) (by assumption) (LT_g hzrr11_1 (exl_X11_goToTheEnd_2 e68 c39 w47 c49 w58 w66)) hP hD hS (lv_sub hl [0, 1, 2, 3, 4] rfl)
        · have f49 : v31.toInt = p1.toInt := f_eq rfl rfl c49
          refine lv_iload hx hb dX11_goToTheEnd_46 (lv_at hl 4 rfl) ?_
          refine lv_goto (tgt := 52) hx hb dX11_goToTheEnd_48 (by decide) ?_
          refine g_v (w1 := fun (u : (Nat → Int64) × Int64 × Int64 × Int64) => [cell56_ qx qco x32 (u.2.1) (u.2.2.1) (u.2.2.2), (qco 1, .inl (k 1, 35, .inr (.inl g36))), cell99_ k qco (u.1), cell31_ qx sh qh, cell0_ k qh sh, cell1_ k qh sh, cell4_ k qh sh, cell3_ k qh sh, cell2_ k qh sh]) (g_runV (wc := [cell56_ qx qco x32 x33 x34 x35, (qco 1, .inl (k 1, 35, .inr (.inl g36))), (qco 2, .inl (k 1, 35, .inr (.inl g37))), cell31_ qx sh qh, cell0_ k qh sh, cell1_ k qh sh, cell4_ k qh sh, cell3_ k qh sh, cell2_ k qh sh]) (rest := []) cx hP hD hS [9, 10, 11, 3, 4, 5, 6, 7, 8] rfl (by decide) [.ref (qx 7), .int v31, .int r46, .int p3] (c_X1_passWeek l D k b (lq [qx 9, qco 1, qco 2]) (lS [(lI []), (fun _ => 0), (fun _ => 0)]) (lT [(lJ [0, 0, x32, x33, x34, x35]), g36, g37]) (lq [qx 7, qh 1, qh 2, qh 3, qh 4, qh 5]) (lS [(lI [(sh 0 0), (sh 0 1), 0, 0, 0, 0, (sh 0 6), (sh 0 7), (sh 0 8), (sh 0 9), (sh 0 10), (sh 0 11), (sh 0 12)]), (sh 1), (sh 2), (sh 3), (sh 4), (sh 5)]) H.size v31 r46 p3 (show 0 ≤ (sh 0 1).toInt ∧ (sh 0 1).toInt ≤ 4 from by first | decide | omega) h_of (show CUok g36 (sh 0 1).toInt from by assumption) (show 0 ≤ v31.toInt ∧ v31.toInt ≤ 4 from by first | decide | omega)) gX11_goToTheEnd_X1_passWeek rfl rfl rfl nd_X1_passWeek ⟨Nat.le_of_ble_eq_true rfl, Nat.le_of_ble_eq_true rfl⟩ (ci := 0) (q0 := 0) rfl rfl rfl hl.1 rfl (Nat.le_of_ble_eq_true rfl) ⟨Nat.zero_le _, Nat.zero_le _⟩ dX11_goToTheEnd_52) cx.2.2.1 hP hD hS [9, 10, 11, 3, 4, 5, 6, 7, 8] rfl (fun _ => rfl) (fun u70 H locs hw69 hP hD hS => ?_)
          obtain ⟨m71, m72, m73, m74⟩ := u70
          have hP : va_P D vwCl [cell30_ qx sx, cell28_ k qx sx, cell29_ k qx sx, cell31_ qx sh qh, cell0_ k qh sh, cell1_ k qh sh, cell4_ k qh sh, cell3_ k qh sh, cell2_ k qh sh, cell56_ qx qco x32 m72 m73 m74, (qco 1, .inl (k 1, 35, .inr (.inl g36))), (qco 2, .inl (k 1, 35, .inr (.inl m71)))] H := hP
          have hD : va_D A [cell30_ qx sx, cell28_ k qx sx, cell29_ k qx sx, cell31_ qx sh qh, cell0_ k qh sh, cell1_ k qh sh, cell4_ k qh sh, cell3_ k qh sh, cell2_ k qh sh, cell56_ qx qco x32 m72 m73 m74, (qco 1, .inl (k 1, 35, .inr (.inl g36))), (qco 2, .inl (k 1, 35, .inr (.inl m71)))] := hD
          replace hw69 : (CUok m71 (sh 0 1).toInt) ∧ ((m71, m72, m73, m74) = J_X1_passWeek (lS [(lI []), (fun _ => 0), (fun _ => 0)]) (lT [(lJ [0, 0, x32, x33, x34, x35]), g36, g37]) (lS [(lI [(sh 0 0), (sh 0 1), 0, 0, 0, 0, (sh 0 6), (sh 0 7), (sh 0 8), (sh 0 9), (sh 0 10), (sh 0 11), (sh 0 12)]), (sh 1), (sh 2), (sh 3), (sh 4), (sh 5)]) v31 r46 p3) := hw69
          obtain ⟨w75, w76⟩ := hw69
          refine lv_aload_n hx hb dX11_goToTheEnd_55 rfl (lv_at hl 1 rfl) ?_
          refine g_get cx hP iw_X11_goToTheEnd_X11 0 rfl rfl 7 (by decide) rfl fw_X11_goToTheEnd_52 rfl dX11_goToTheEnd_56 ?_
          refine lv_aload_n hx hb dX11_goToTheEnd_59 rfl (lv_at hl 1 rfl) ?_
          refine g_get cx hP iw_X11_goToTheEnd_X11 0 rfl rfl 4 (by decide) rfl fw_X11_goToTheEnd_39 rfl dX11_goToTheEnd_60 ?_
          refine g_v (w1 := fun (u : (Nat → Int64) × Int64 × Int64) => [cell56_ qx qco (u.2.1) (u.2.2) m73 m74, cell98_ k qco (u.1), (qco 2, .inl (k 1, 35, .inr (.inl m71))), cell31_ qx sh qh, cell0_ k qh sh, cell1_ k qh sh, cell4_ k qh sh, cell3_ k qh sh, cell2_ k qh sh]) (g_runV (wc := [cell56_ qx qco x32 m72 m73 m74, (qco 1, .inl (k 1, 35, .inr (.inl g36))), (qco 2, .inl (k 1, 35, .inr (.inl m71))), cell31_ qx sh qh, cell0_ k qh sh, cell1_ k qh sh, cell4_ k qh sh, cell3_ k qh sh, cell2_ k qh sh]) (rest := []) cx hP hD hS [9, 10, 11, 3, 4, 5, 6, 7, 8] rfl (by decide) [.ref (qx 7)] (c_X1_passSunday l D k b (lq [qx 9, qco 1, qco 2]) (lS [(lI []), (fun _ => 0), (fun _ => 0)]) (lT [(lJ [0, 0, x32, m72, m73, m74]), g36, m71]) (lq [qx 7, qh 1, qh 2, qh 3, qh 4, qh 5]) (lS [(lI [(sh 0 0), (sh 0 1), 0, 0, 0, 0, (sh 0 6), (sh 0 7), (sh 0 8), (sh 0 9), (sh 0 10), (sh 0 11), (sh 0 12)]), (sh 1), (sh 2), (sh 3), (sh 4), (sh 5)]) H.size (show SUok (sh 5) from by assumption) (show CUok m71 (sh 0 1).toInt from by assumption)) gX11_goToTheEnd_X1_passSunday rfl rfl rfl nd_X1_passSunday ⟨Nat.le_of_ble_eq_true rfl, Nat.le_of_ble_eq_true rfl⟩ (ci := 0) (q0 := 0) rfl rfl rfl hl.1 rfl (Nat.le_of_ble_eq_true rfl) ⟨Nat.zero_le _, Nat.zero_le _⟩ dX11_goToTheEnd_63) cx.2.2.1 hP hD hS [9, 10, 11, 3, 4, 5, 6, 7, 8] rfl (fun _ => rfl) (fun u79 H locs hw78 hP hD hS => ?_)
          obtain ⟨m80, m81, m82⟩ := u79
          have hP : va_P D vwCl [cell30_ qx sx, cell28_ k qx sx, cell29_ k qx sx, cell31_ qx sh qh, cell0_ k qh sh, cell1_ k qh sh, cell4_ k qh sh, cell3_ k qh sh, cell2_ k qh sh, cell56_ qx qco m81 m82 m73 m74, (qco 1, .inl (k 1, 35, .inr (.inl m80))), (qco 2, .inl (k 1, 35, .inr (.inl m71)))] H := hP
          have hD : va_D A [cell30_ qx sx, cell28_ k qx sx, cell29_ k qx sx, cell31_ qx sh qh, cell0_ k qh sh, cell1_ k qh sh, cell4_ k qh sh, cell3_ k qh sh, cell2_ k qh sh, cell56_ qx qco m81 m82 m73 m74, (qco 1, .inl (k 1, 35, .inr (.inl m80))), (qco 2, .inl (k 1, 35, .inr (.inl m71)))] := hD
          replace hw78 : (CUok m80 (sh 0 1).toInt) ∧ ((m80, m81, m82) = J_X1_passSunday (lS [(lI []), (fun _ => 0), (fun _ => 0)]) (lT [(lJ [0, 0, x32, m72, m73, m74]), g36, m71]) (lS [(lI [(sh 0 0), (sh 0 1), 0, 0, 0, 0, (sh 0 6), (sh 0 7), (sh 0 8), (sh 0 9), (sh 0 10), (sh 0 11), (sh 0 12)]), (sh 1), (sh 2), (sh 3), (sh 4), (sh 5)])) := hw78
          obtain ⟨w83, w84⟩ := hw78
          obtain ⟨v86, e86⟩ : ∃ z : Int32, z = v31 + 1 := ⟨_, rfl⟩
          refine lv_iinc (v := v86) (lv' := [(5, .int v86), (0, .ref (qx 0)), (1, .int p0), (2, .int p1), (4, .int p3)]) hx hb dX11_goToTheEnd_66 hl (k := 0) rfl (by rw [e86]; rfl) (by decide) rfl (fun ls hl => ?_)
          have t86 : v86.toInt = v31.toInt + 1 := by rw [e86]; exact i_add rfl (by decide) (by omega) (by omega)
          refine lv_goto (tgt := 11) hx hb dX11_goToTheEnd_69 (by decide) ?_
          exact ih11 v86 m81 m82 m73 m74 m80 m71 _ _ _ (by omega) (by first | decide | omega) (by assumption) (LT_g hzrr11_1 (exl_X11_goToTheEnd_3 e86 c39 w47 c49 w76 w84)) hP hD hS (lv_sub hl [0, 1, 2, 3, 4] rfl)
  exact hL11 (6) p1 m4 m5 (tco 0 4) (tco 0 5) m3 (tco 2) _ _ _ (by omega) (by first | decide | omega) (by assumption) err11_1 hP hD hS (lv_sub hl [0, 1, 2, 3, 5] rfl)
theorem fw_X11_planOnce_119 : Cond.fieldLink RX11 119 "StillInAugust" "planned" "Z" ∈ wsX11_planOnce := by decide +kernel
theorem fw_X11_planOnce_39 : Cond.fieldLink RX11 39 "StillInAugust" "house" "LStillInAugust$House;" ∈ wsX11_planOnce := by decide +kernel
theorem fw_X11_planOnce_59 : Cond.fieldLink RX11 59 "StillInAugust" "plan" "LStillInAugust$Plan;" ∈ wsX11_planOnce := by decide +kernel
theorem nd_X6_solve : yX6_solve.cls = RX6 ∧ yX6_solve.cls ≠ "java/lang/invoke/MethodHandle" ∧ yX6_solve.cls ≠ "java/lang/invoke/VarHandle" ∧ (parseMethodDescriptor yX6_solve.desc).map (fun d => d.parameters.length) = some 1 := by decide +kernel
theorem iw_X11_planOnce_X11 : ∀ w ∈ u_ws RX11 TX11 17, w ∈ wsX11_planOnce := fun _ h => List.mem_cons_of_mem _ (List.mem_append_left _ (List.mem_append_left _ (List.mem_append_right _ h)))
set_option maxHeartbeats 4000000 in
set_option maxRecDepth 100000 in
theorem c_X11_planOnce (l : Launch) (D : va_G) (k : Nat → ClassId) (b : Nat → Nat) (qx : Nat → Nat) (sx : Nat → Nat → Int32) (qh : Nat → Nat) (sh : Nat → Nat → Int32) (qpl : Nat → Nat) (spl : Nat → Nat → Int32) (tpl : Nat → Nat → Int64) (sz : Nat) (h_wk : 0 ≤ (sh 0 0).toInt ∧ (sh 0 0).toInt ≤ 5) (h_hk : 0 ≤ (sh 0 1).toInt ∧ (sh 0 1).toInt ≤ 4) (h_fl : 0 ≤ (sh 0 12).toInt ∧ (sh 0 12).toInt ≤ 5) (h_of : ∀ j, 0 ≤ (sh 2 j).toInt ∧ (sh 2 j).toInt ≤ 4) (h_go : ∀ j, 0 ≤ (sh 3 j).toInt ∧ (sh 3 j).toInt ≤ 5) (h_su : SUok (sh 5)) (h_pl : (sx 0 15).toInt = 0 ∨ (spl 0 0).toInt = (sh 0 0).toInt) : MetV l D k b yX11_planOnce wsX11_planOnce ({ frames := 6, cells := 0, slots := 0, locals := 156 } : Room) [cell30_ qx sx, cell28_ k qx sx, cell29_ k qx sx, cell31_ qx sh qh, cell0_ k qh sh, cell1_ k qh sh, cell4_ k qh sh, cell3_ k qh sh, cell2_ k qh sh, cell42_ qx spl qpl, cell26_ k qpl tpl, cell23_ k qpl spl, cell24_ k qpl tpl, cell25_ k qpl spl] sz [.ref (qx 0)] (fun (u : Int32 × Int32 × (Nat → Int64) × (Nat → Int32) × (Nat → Int64) × (Nat → Int32)) => (u.2.1).toInt = (sh 0 0).toInt) (fun u => [cell75_ qx sx (u.1), cell28_ k qx sx, cell29_ k qx sx, cell31_ qx sh qh, cell0_ k qh sh, cell1_ k qh sh, cell4_ k qh sh, cell3_ k qh sh, cell2_ k qh sh, cell73_ qx qpl (u.2.1), cell108_ k qpl (u.2.2.1), cell109_ k qpl (u.2.2.2.1), cell115_ k qpl (u.2.2.2.2.1), cell116_ k qpl (u.2.2.2.2.2)]) := by
  refine g_enter (cc := cX11_planOnce) (maxL := 1) (ret := none) (by decide) rfl (Nat.le_of_ble_eq_true rfl) ?_
  intro p e s m below meth c A hsz hAe cx hr hP hD hS ls hl
  rw [hAe]
  refine g_q (fun Q hQ => ?_)
  have hx := cx.1.1
  have hb := cx.1.2.1
  have hl : lv_has ls 1 [(0, .ref (qx 0))] := hl
  obtain ⟨H, eH⟩ : ∃ H : Heap, H = s.heap := ⟨_, rfl⟩
  obtain ⟨locs, el⟩ : ∃ L : List Loc, L = [] := ⟨_, rfl⟩
  have hP : va_P D vwCl [cell30_ qx sx, cell28_ k qx sx, cell29_ k qx sx, cell31_ qx sh qh, cell0_ k qh sh, cell1_ k qh sh, cell4_ k qh sh, cell3_ k qh sh, cell2_ k qh sh, cell42_ qx spl qpl, cell26_ k qpl tpl, cell23_ k qpl spl, cell24_ k qpl tpl, cell25_ k qpl spl] H := by rw [eH]; exact hP
  have hD : va_D A [cell30_ qx sx, cell28_ k qx sx, cell29_ k qx sx, cell31_ qx sh qh, cell0_ k qh sh, cell1_ k qh sh, cell4_ k qh sh, cell3_ k qh sh, cell2_ k qh sh, cell42_ qx spl qpl, cell26_ k qpl tpl, cell23_ k qpl spl, cell24_ k qpl tpl, cell25_ k qpl spl] := hD
  have hS : va_S A s.heap H locs := by rw [eH, el]; exact hS
  suffices goal : W p l e ({ frames := 6, cells := 0, slots := 0, locals := 156 } : Room) s m ([.ref (qx 0)] : List Value).toArray below meth c H locs 0 0 Q (F0 m 0 ls []) by rw [eH, el] at goal; exact goal
  refine lv_aload_n hx hb dX11_planOnce_0 rfl (lv_at hl 0 rfl) ?_
  refine g_get cx hP iw_X11_planOnce_X11 0 rfl rfl 15 (by decide) rfl fw_X11_planOnce_119 rfl dX11_planOnce_1 ?_
  refine lv_if_ne (tgt := 23) hx hb dX11_planOnce_4 (by decide) (fun c1 => ?_) (fun c1 => ?_)
  · have f1 : ¬ (sx 0 15).toInt = 0 := f_ne rfl (by decide) c1
    rw [hQ]
    exact x_v cx hr ((sx 0 15), (spl 0 0), (tpl 1), (spl 2), (tpl 3), (spl 4)) hP hD hS (show (spl 0 0).toInt = (sh 0 0).toInt from by omega) dX11_planOnce_23
  · have f1 : (sx 0 15).toInt = 0 := f_eq rfl (by decide) c1
    refine lv_aload_n hx hb dX11_planOnce_7 rfl (lv_at hl 0 rfl) ?_
    refine g_get cx hP iw_X11_planOnce_X11 0 rfl rfl 8 (by decide) rfl fw_X11_planOnce_59 rfl dX11_planOnce_8 ?_
    refine lv_aload_n hx hb dX11_planOnce_11 rfl (lv_at hl 0 rfl) ?_
    refine g_get cx hP iw_X11_planOnce_X11 0 rfl rfl 4 (by decide) rfl fw_X11_planOnce_39 rfl dX11_planOnce_12 ?_
    refine g_v (w1 := fun (u : Int32 × (Nat → Int64) × (Nat → Int32) × (Nat → Int64) × (Nat → Int32)) => [cell73_ qx qpl (u.1), cell108_ k qpl (u.2.1), cell109_ k qpl (u.2.2.1), cell115_ k qpl (u.2.2.2.1), cell116_ k qpl (u.2.2.2.2), cell31_ qx sh qh, cell0_ k qh sh, cell1_ k qh sh, cell4_ k qh sh, cell3_ k qh sh, cell2_ k qh sh]) (g_runV (wc := [cell42_ qx spl qpl, cell26_ k qpl tpl, cell23_ k qpl spl, cell24_ k qpl tpl, cell25_ k qpl spl, cell31_ qx sh qh, cell0_ k qh sh, cell1_ k qh sh, cell4_ k qh sh, cell3_ k qh sh, cell2_ k qh sh]) (rest := []) cx hP hD hS [9, 10, 11, 12, 13, 3, 4, 5, 6, 7, 8] rfl (by decide) [.ref (qx 7)] (c_X6_solve l D k b (lq [qx 10, qpl 1, qpl 2, qpl 3, qpl 4]) (lS [(lI [(spl 0 0)]), (fun _ => 0), (spl 2), (fun _ => 0), (spl 4)]) (lT [(lJ []), (tpl 1), (fun _ => 0), (tpl 3), (fun _ => 0)]) (lq [qx 7, qh 1, qh 2, qh 3, qh 4, qh 5]) (lS [(lI [(sh 0 0), (sh 0 1), 0, 0, 0, 0, (sh 0 6), (sh 0 7), (sh 0 8), (sh 0 9), (sh 0 10), (sh 0 11), (sh 0 12)]), (sh 1), (sh 2), (sh 3), (sh 4), (sh 5)]) H.size (show SUok (sh 5) from by assumption) (show 0 ≤ (sh 0 0).toInt ∧ (sh 0 0).toInt ≤ 5 from by first | decide | omega) (show 0 ≤ (sh 0 1).toInt ∧ (sh 0 1).toInt ≤ 4 from by first | decide | omega) h_of) gX11_planOnce_X6_solve rfl rfl rfl nd_X6_solve ⟨Nat.le_of_ble_eq_true rfl, Nat.le_of_ble_eq_true rfl⟩ (ci := 4) (q0 := 0) rfl rfl rfl hl.1 rfl (Nat.le_of_ble_eq_true rfl) ⟨Nat.zero_le _, Nat.zero_le _⟩ dX11_planOnce_15) cx.2.2.1 hP hD hS [9, 10, 11, 12, 13, 3, 4, 5, 6, 7, 8] rfl (fun _ => rfl) (fun u3 H locs hw2 hP hD hS => ?_)
    obtain ⟨m4, m5, m6, m7, m8⟩ := u3
    have hP : va_P D vwCl [cell30_ qx sx, cell28_ k qx sx, cell29_ k qx sx, cell31_ qx sh qh, cell0_ k qh sh, cell1_ k qh sh, cell4_ k qh sh, cell3_ k qh sh, cell2_ k qh sh, cell73_ qx qpl m4, (qpl 1, .inl (k 1, 630, .inr (.inl m5))), (qpl 2, .inl (k 0, 525, .inl m6)), (qpl 3, .inl (k 1, 35, .inr (.inl m7))), (qpl 4, .inl (k 0, 35, .inl m8))] H := hP
    have hD : va_D A [cell30_ qx sx, cell28_ k qx sx, cell29_ k qx sx, cell31_ qx sh qh, cell0_ k qh sh, cell1_ k qh sh, cell4_ k qh sh, cell3_ k qh sh, cell2_ k qh sh, cell73_ qx qpl m4, (qpl 1, .inl (k 1, 630, .inr (.inl m5))), (qpl 2, .inl (k 0, 525, .inl m6)), (qpl 3, .inl (k 1, 35, .inr (.inl m7))), (qpl 4, .inl (k 0, 35, .inl m8))] := hD
    have w9 : m4.toInt = (sh 0 0).toInt := hw2
    clear hw2
    refine lv_aload_n hx hb dX11_planOnce_18 rfl (lv_at hl 0 rfl) ?_
    refine lv_iconst (v := 1) hx hb dX11_planOnce_19 (by decide) ?_
    refine g_pt cx hP hD hS iw_X11_planOnce_X11 tyX11 tyX11_ok nmX11 0 rfl rfl 15 (by decide) rfl fw_X11_planOnce_119 (ty := .boolean) rfl rfl rfl (Nat.le_of_ble_eq_true rfl) dX11_planOnce_20 (fun H locs hP hD hS => ?_)
    have hP : va_P D vwCl [cell75_ qx sx 1, cell28_ k qx sx, cell29_ k qx sx, cell31_ qx sh qh, cell0_ k qh sh, cell1_ k qh sh, cell4_ k qh sh, cell3_ k qh sh, cell2_ k qh sh, cell73_ qx qpl m4, (qpl 1, .inl (k 1, 630, .inr (.inl m5))), (qpl 2, .inl (k 0, 525, .inl m6)), (qpl 3, .inl (k 1, 35, .inr (.inl m7))), (qpl 4, .inl (k 0, 35, .inl m8))] H := hP
    have hD : va_D A [cell75_ qx sx 1, cell28_ k qx sx, cell29_ k qx sx, cell31_ qx sh qh, cell0_ k qh sh, cell1_ k qh sh, cell4_ k qh sh, cell3_ k qh sh, cell2_ k qh sh, cell73_ qx qpl m4, (qpl 1, .inl (k 1, 630, .inr (.inl m5))), (qpl 2, .inl (k 0, 525, .inl m6)), (qpl 3, .inl (k 1, 35, .inr (.inl m7))), (qpl 4, .inl (k 0, 35, .inl m8))] := hD
    have hlit10 : (1 : Int32).toInt = 1 := by decide
    have hlit11 : (1 : Int32).toInt = 1 := by decide
    rw [hQ]
    exact x_v cx hr (1, m4, m5, m6, m7, m8) hP hD hS (show m4.toInt = (sh 0 0).toInt from by omega) dX11_planOnce_23
theorem fw_X11_firstAgainst_368 : Cond.fieldLink RX11 368 "StillInAugust$Hands" "ALL" "[I" ∈ wsX11_firstAgainst := by decide +kernel
theorem fw_X11_firstAgainst_39 : Cond.fieldLink RX11 39 "StillInAugust" "house" "LStillInAugust$House;" ∈ wsX11_firstAgainst := by decide +kernel
theorem fw_X11_firstAgainst_59 : Cond.fieldLink RX11 59 "StillInAugust" "plan" "LStillInAugust$Plan;" ∈ wsX11_firstAgainst := by decide +kernel
theorem nd_X6_firstAct : yX6_firstAct.cls = RX6 ∧ yX6_firstAct.cls ≠ "java/lang/invoke/MethodHandle" ∧ yX6_firstAct.cls ≠ "java/lang/invoke/VarHandle" ∧ (parseMethodDescriptor yX6_firstAct.desc).map (fun d => d.parameters.length) = some 3 := by decide +kernel
theorem iw_X11_firstAgainst_X11 : ∀ w ∈ u_ws RX11 TX11 17, w ∈ wsX11_firstAgainst := fun _ h => List.mem_cons_of_mem _ (List.mem_append_left _ (List.mem_append_left _ (List.mem_append_right _ h)))
set_option maxHeartbeats 4000000 in
set_option maxRecDepth 100000 in
theorem c_X11_firstAgainst (l : Launch) (D : va_G) (k : Nat → ClassId) (b : Nat → Nat) (qx : Nat → Nat) (sx : Nat → Nat → Int32) (qh : Nat → Nat) (sh : Nat → Nat → Int32) (qpl : Nat → Nat) (spl : Nat → Nat → Int32) (tpl : Nat → Nat → Int64) (sz : Nat) (p0 : Int32) (p1 : Int32) (h_wk : 0 ≤ (sh 0 0).toInt ∧ (sh 0 0).toInt ≤ 5) (h_hk : 0 ≤ (sh 0 1).toInt ∧ (sh 0 1).toInt ≤ 4) (h_fl : 0 ≤ (sh 0 12).toInt ∧ (sh 0 12).toInt ≤ 5) (h_of : ∀ j, 0 ≤ (sh 2 j).toInt ∧ (sh 2 j).toInt ≤ 4) (h_go : ∀ j, 0 ≤ (sh 3 j).toInt ∧ (sh 3 j).toInt ≤ 5) (h_su : SUok (sh 5)) (hp0 : 0 ≤ p0.toInt ∧ p0.toInt ≤ 4) : MetI l D k b yX11_firstAgainst wsX11_firstAgainst ({ frames := 3, cells := 0, slots := 0, locals := 66 } : Room) [cell30_ qx sx, cell28_ k qx sx, cell29_ k qx sx, cell31_ qx sh qh, cell0_ k qh sh, cell1_ k qh sh, cell4_ k qh sh, cell3_ k qh sh, cell2_ k qh sh, cell42_ qx spl qpl, cell26_ k qpl tpl, cell23_ k qpl spl, cell24_ k qpl tpl, cell25_ k qpl spl] sz [.ref (qx 0), .int p0, .int p1] (fun (r : Int32) (u : Unit) => True) (fun u => [cell30_ qx sx, cell28_ k qx sx, cell29_ k qx sx, cell31_ qx sh qh, cell0_ k qh sh, cell1_ k qh sh, cell4_ k qh sh, cell3_ k qh sh, cell2_ k qh sh, cell42_ qx spl qpl, cell26_ k qpl tpl, cell23_ k qpl spl, cell24_ k qpl tpl, cell25_ k qpl spl]) := by
  refine g_enter (cc := cX11_firstAgainst) (maxL := 7) (ret := (some .int)) (by decide) rfl (Nat.le_of_ble_eq_true rfl) ?_
  intro p e s m below meth c A hsz hAe cx hr hP hD hS ls hl
  rw [hAe]
  refine g_q (fun Q hQ => ?_)
  have hx := cx.1.1
  have hb := cx.1.2.1
  have bp0 := i_rng p0
  have bp1 := i_rng p1
  have hl : lv_has ls 7 [(0, .ref (qx 0)), (1, .int p0), (2, .int p1)] := hl
  obtain ⟨H, eH⟩ : ∃ H : Heap, H = s.heap := ⟨_, rfl⟩
  obtain ⟨locs, el⟩ : ∃ L : List Loc, L = [] := ⟨_, rfl⟩
  have hP : va_P D vwCl [cell30_ qx sx, cell28_ k qx sx, cell29_ k qx sx, cell31_ qx sh qh, cell0_ k qh sh, cell1_ k qh sh, cell4_ k qh sh, cell3_ k qh sh, cell2_ k qh sh, cell42_ qx spl qpl, cell26_ k qpl tpl, cell23_ k qpl spl, cell24_ k qpl tpl, cell25_ k qpl spl] H := by rw [eH]; exact hP
  have hD : va_D A [cell30_ qx sx, cell28_ k qx sx, cell29_ k qx sx, cell31_ qx sh qh, cell0_ k qh sh, cell1_ k qh sh, cell4_ k qh sh, cell3_ k qh sh, cell2_ k qh sh, cell42_ qx spl qpl, cell26_ k qpl tpl, cell23_ k qpl spl, cell24_ k qpl tpl, cell25_ k qpl spl] := hD
  have hS : va_S A s.heap H locs := by rw [eH, el]; exact hS
  suffices goal : W p l e ({ frames := 3, cells := 0, slots := 0, locals := 66 } : Room) s m ([.ref (qx 0), .int p0, .int p1] : List Value).toArray below meth c H locs 0 0 Q (F0 m 0 ls []) by rw [eH, el] at goal; exact goal
  refine va_gets hx hb cx.2.2.2.t0.1 hS cx.1.2.2.2.1 (cx.1.2.2.2.2 _ fw_X11_firstAgainst_368) (fun _ h => h) dX11_firstAgainst_0 ?_
  refine lv_astore_n (lv' := [(3, .ref (b 0)), (0, .ref (qx 0)), (1, .int p0), (2, .int p1)]) hx hb dX11_firstAgainst_3 rfl hl (by decide) rfl (fun ls hl => ?_)
  refine lv_aload_n hx hb dX11_firstAgainst_4 rfl (lv_at hl 0 rfl) ?_
  refine va_tlen hx hb cx.2.2.2.t0.2 hS (v := 35) (by decide) dX11_firstAgainst_5 ?_
  refine lv_istore (lv' := [(4, .int 35), (3, .ref (b 0)), (0, .ref (qx 0)), (1, .int p0), (2, .int p1)]) hx hb dX11_firstAgainst_6 hl (by decide) rfl (fun ls hl => ?_)
  refine lv_iconst (v := 0) hx hb dX11_firstAgainst_8 (by decide) ?_
  refine lv_istore (lv' := [(5, .int 0), (4, .int 35), (3, .ref (b 0)), (0, .ref (qx 0)), (1, .int p0), (2, .int p1)]) hx hb dX11_firstAgainst_9 hl (by decide) rfl (fun ls hl => ?_)
  have hL11 : ∀ (n24 : Nat) (v23 : Int32) (H : Heap) (locs : List Loc) (ls : Array Slot), 35 - v23.toInt < (n24 : Int) → (0 ≤ v23.toInt ∧ v23.toInt ≤ 35) → va_P D vwCl [cell30_ qx sx, cell28_ k qx sx, cell29_ k qx sx, cell31_ qx sh qh, cell0_ k qh sh, cell1_ k qh sh, cell4_ k qh sh, cell3_ k qh sh, cell2_ k qh sh, cell42_ qx spl qpl, cell26_ k qpl tpl, cell23_ k qpl spl, cell24_ k qpl tpl, cell25_ k qpl spl] H → va_D A [cell30_ qx sx, cell28_ k qx sx, cell29_ k qx sx, cell31_ qx sh qh, cell0_ k qh sh, cell1_ k qh sh, cell4_ k qh sh, cell3_ k qh sh, cell2_ k qh sh, cell42_ qx spl qpl, cell26_ k qpl tpl, cell23_ k qpl spl, cell24_ k qpl tpl, cell25_ k qpl spl] → va_S A s.heap H locs → lv_has ls 7 [(5, .int v23), (4, .int 35), (3, .ref (b 0)), (0, .ref (qx 0)), (1, .int p0), (2, .int p1)] → W p l e ({ frames := 3, cells := 0, slots := 0, locals := 66 } : Room) s m ([.ref (qx 0), .int p0, .int p1] : List Value).toArray below meth c H locs 0 0 Q (F0 m 11 ls []) := by
    intro n24
    induction n24 with
    | zero => intro v23 H locs ls hmn24 bv23 hP hD hS hl; exact absurd hmn24 (by omega)
    | succ n24 ih11 =>
      intro v23 H locs ls hmn24 bv23 hP hD hS hl
      refine lv_iload hx hb dX11_firstAgainst_11 (lv_at hl 0 rfl) ?_
      refine lv_iload hx hb dX11_firstAgainst_13 (lv_at hl 1 rfl) ?_
      refine lv_icmp_ge (tgt := 70) hx hb dX11_firstAgainst_15 (by decide) (fun c25 => ?_) (fun c25 => ?_)
      · have f25 : 35 ≤ v23.toInt := f_le (by decide) rfl c25
        refine lv_bipush (v := (-9)) hx hb dX11_firstAgainst_70 (by decide) ?_
        have hlit26 : ((-9) : Int32).toInt = -9 := by decide
        rw [hQ]
        exact x_i cx hr () hP hD hS trivial dX11_firstAgainst_72
      · have f25 : v23.toInt < 35 := f_nle (by decide) rfl c25
        refine lv_aload_n hx hb dX11_firstAgainst_18 rfl (lv_at hl 2 rfl) ?_
        refine lv_iload hx hb dX11_firstAgainst_19 (lv_at hl 0 rfl) ?_
        have hn27 : vp_in v23 35 := f_in (a := v23.toInt) rfl (by omega) (by omega)
        refine va_ti hx hb cx.2.2.2.t0.2 hS hn27 rfl dX11_firstAgainst_21 (lv_topi (fun v28 e28 => ?_))
        have t28 : 0 ≤ v28.toInt ∧ v28.toInt ≤ 400 ∧ v28.toInt / 100 + v28.toInt / 10 % 10 + v28.toInt % 10 ≤ 4 := by rw [e28]; exact zALL_v _
        refine lv_istore (lv' := [(6, .int v28), (5, .int v23), (4, .int 35), (3, .ref (b 0)), (0, .ref (qx 0)), (1, .int p0), (2, .int p1)]) hx hb dX11_firstAgainst_22 hl (by decide) rfl (fun ls hl => ?_)
        refine lv_aload_n hx hb dX11_firstAgainst_24 rfl (lv_at hl 4 rfl) ?_
        refine lv_iload hx hb dX11_firstAgainst_25 (lv_at hl 0 rfl) ?_
        refine g_ir (g_runV (wc := [cell30_ qx sx, cell28_ k qx sx, cell29_ k qx sx, cell31_ qx sh qh, cell0_ k qh sh, cell1_ k qh sh, cell4_ k qh sh, cell3_ k qh sh, cell2_ k qh sh]) (rest := []) cx hP hD hS [0, 1, 2, 3, 4, 5, 6, 7, 8] rfl (by decide) [.int v28] (c_X11_isHands l D k b qx sx (lq [0, qh 1, qh 2, qh 3, qh 4, qh 5]) (lS [(lI [(sh 0 0), (sh 0 1), 0, 0, 0, 0, (sh 0 6), (sh 0 7), (sh 0 8), (sh 0 9), (sh 0 10), (sh 0 11), (sh 0 12)]), (sh 1), (sh 2), (sh 3), (sh 4), (sh 5)]) H.size v28 (show 0 ≤ (sh 0 1).toInt ∧ (sh 0 1).toInt ≤ 4 from by first | decide | omega)) gX11_firstAgainst_X11_isHands rfl rfl rfl nd_X11_isHands ⟨Nat.le_of_ble_eq_true rfl, Nat.le_of_ble_eq_true rfl⟩ (ci := 9) (q0 := 0) rfl rfl rfl hl.1 rfl (Nat.le_of_ble_eq_true rfl) ⟨Nat.zero_le _, Nat.zero_le _⟩ dX11_firstAgainst_27) cx.2.2.1 hP hD hS [0, 1, 2, 3, 4, 5, 6, 7, 8] rfl rfl (fun r30 H locs hw29 hP hS => ?_)
        replace hw29 : (0 ≤ r30.toInt ∧ r30.toInt ≤ 1) ∧ (Imp (r30.toInt = 1) ((0 ≤ v28.toInt ∧ v28.toInt ≤ 400 ∧ tot v28 ≤ 4) ∧ tot v28 ≤ (sh 0 1).toInt)) ∧ (r30 = J_X11_isHands sx (lS [(lI [(sh 0 0), (sh 0 1), 0, 0, 0, 0, (sh 0 6), (sh 0 7), (sh 0 8), (sh 0 9), (sh 0 10), (sh 0 11), (sh 0 12)]), (sh 1), (sh 2), (sh 3), (sh 4), (sh 5)]) v28) := hw29
        obtain ⟨w31, w32, w33⟩ := hw29
        have k35 : r30 = (J_X11_isHands sx (lS [(lI [(sh 0 0), (sh 0 1), 0, 0, 0, 0, (sh 0 6), (sh 0 7), (sh 0 8), (sh 0 9), (sh 0 10), (sh 0 11), (sh 0 12)]), (sh 1), (sh 2), (sh 3), (sh 4), (sh 5)]) v28) := congrArg (fun z => z) w33
        have zr30 : 0 ≤ r30.toInt ∧ r30.toInt ≤ 1 := w31
        have hJ64 : ∀  (H : Heap) (locs : List Loc) (ls : Array Slot), va_P D vwCl [cell30_ qx sx, cell28_ k qx sx, cell29_ k qx sx, cell31_ qx sh qh, cell0_ k qh sh, cell1_ k qh sh, cell4_ k qh sh, cell3_ k qh sh, cell2_ k qh sh, cell42_ qx spl qpl, cell26_ k qpl tpl, cell23_ k qpl spl, cell24_ k qpl tpl, cell25_ k qpl spl] H → va_D A [cell30_ qx sx, cell28_ k qx sx, cell29_ k qx sx, cell31_ qx sh qh, cell0_ k qh sh, cell1_ k qh sh, cell4_ k qh sh, cell3_ k qh sh, cell2_ k qh sh, cell42_ qx spl qpl, cell26_ k qpl tpl, cell23_ k qpl spl, cell24_ k qpl tpl, cell25_ k qpl spl] → va_S A s.heap H locs → lv_has ls 7 [(5, .int v23), (4, .int 35), (3, .ref (b 0)), (0, .ref (qx 0)), (1, .int p0), (2, .int p1)] → W p l e ({ frames := 3, cells := 0, slots := 0, locals := 66 } : Room) s m ([.ref (qx 0), .int p0, .int p1] : List Value).toArray below meth c H locs 0 0 Q (F0 m 64 ls []) := by
          intro  H locs ls  hP hD hS hl
          obtain ⟨v48, e48⟩ : ∃ z : Int32, z = v23 + 1 := ⟨_, rfl⟩
          refine lv_iinc (v := v48) (lv' := [(5, .int v48), (4, .int 35), (3, .ref (b 0)), (0, .ref (qx 0)), (1, .int p0), (2, .int p1)]) hx hb dX11_firstAgainst_64 hl (k := 0) rfl (by rw [e48]; rfl) (by decide) rfl (fun ls hl => ?_)
          have t48 : v48.toInt = v23.toInt + 1 := by rw [e48]; exact i_add rfl (by decide) (by omega) (by omega)
          refine lv_goto (tgt := 11) hx hb dX11_firstAgainst_67 (by decide) ?_
          exact ih11 v48 _ _ _ (by omega) (by first | decide | omega) hP hD hS (lv_sub hl [0, 1, 2, 3, 4, 5] rfl)
        refine lv_if_eq (tgt := 64) hx hb dX11_firstAgainst_30 (by decide) (fun c49 => ?_) (fun c49 => ?_)
        · have f49 : r30.toInt = 0 := f_eq rfl (by decide) c49
          exact hJ64  _ _ _  hP hD hS (lv_sub hl [1, 2, 3, 4, 5, 6] rfl)
        · have f49 : ¬ r30.toInt = 0 := f_ne rfl (by decide) c49
          have k49 : ((0 ≤ v28.toInt ∧ v28.toInt ≤ 400 ∧ tot v28 ≤ 4) ∧ tot v28 ≤ (sh 0 1).toInt) := w32 (by omega)
          refine lv_aload_n hx hb dX11_firstAgainst_33 rfl (lv_at hl 4 rfl) ?_
          refine g_get cx hP iw_X11_firstAgainst_X11 0 rfl rfl 8 (by decide) rfl fw_X11_firstAgainst_59 rfl dX11_firstAgainst_34 ?_
          refine lv_iload_n hx hb dX11_firstAgainst_37 rfl (lv_at hl 5 rfl) ?_
          refine lv_iload hx hb dX11_firstAgainst_38 (lv_at hl 0 rfl) ?_
          refine lv_iconst (v := 0) hx hb dX11_firstAgainst_40 (by decide) ?_
          have hlit50 : (0 : Int32).toInt = 0 := by decide
          refine g_ir (g_runV (wc := [cell42_ qx spl qpl, cell26_ k qpl tpl, cell23_ k qpl spl, cell24_ k qpl tpl, cell25_ k qpl spl]) (rest := []) cx hP hD hS [9, 10, 11, 12, 13] rfl (by decide) [.int p0, .int v28, .int 0] (c_X6_firstAct l D k b (lq [qx 10, qpl 1, qpl 2, qpl 3, qpl 4]) (lS [(lI [(spl 0 0)]), (fun _ => 0), (spl 2), (fun _ => 0), (spl 4)]) (lT [(lJ []), (tpl 1), (fun _ => 0), (tpl 3), (fun _ => 0)]) H.size p0 v28 0 (show 0 ≤ v28.toInt ∧ v28.toInt ≤ 400 ∧ tot v28 ≤ 4 from by first | decide | omega) (show 0 ≤ p0.toInt ∧ p0.toInt ≤ 4 from by first | decide | omega) (show 0 ≤ (0 : Int32).toInt ∧ (0 : Int32).toInt ≤ 2 from by first | decide | omega)) gX11_firstAgainst_X6_firstAct rfl rfl rfl nd_X6_firstAct ⟨Nat.le_of_ble_eq_true rfl, Nat.le_of_ble_eq_true rfl⟩ (ci := 4) (q0 := 0) rfl rfl rfl hl.1 rfl (Nat.le_of_ble_eq_true rfl) ⟨Nat.zero_le _, Nat.zero_le _⟩ dX11_firstAgainst_41) cx.2.2.1 hP hD hS [9, 10, 11, 12, 13] rfl rfl (fun r52 H locs hw51 hP hS => ?_)
          clear hw51
          refine g_ir (g_runS (wc := []) (rest := []) cx hP hD hS [] rfl (by decide) [.int r52] (c_X0_taken l D k b H.size r52) gX11_firstAgainst_X0_taken rfl rfl rfl nd_X0_taken ⟨Nat.le_of_ble_eq_true rfl, Nat.le_of_ble_eq_true rfl⟩ rfl hl.1 rfl (Nat.le_of_ble_eq_true rfl) ⟨Nat.zero_le _, Nat.zero_le _⟩ dX11_firstAgainst_44) cx.2.2.1 hP hD hS [] rfl rfl (fun r54 H locs hw53 hP hS => ?_)
          have w55 : r54 = J_X0_taken r52 := hw53
          clear hw53
          refine lv_aload_n hx hb dX11_firstAgainst_47 rfl (lv_at hl 4 rfl) ?_
          refine g_get cx hP iw_X11_firstAgainst_X11 0 rfl rfl 4 (by decide) rfl fw_X11_firstAgainst_39 rfl dX11_firstAgainst_48 ?_
          refine lv_iload_n hx hb dX11_firstAgainst_51 rfl (lv_at hl 5 rfl) ?_
          refine lv_iload hx hb dX11_firstAgainst_52 (lv_at hl 0 rfl) ?_
          refine lv_iload_n hx hb dX11_firstAgainst_54 rfl (lv_at hl 6 rfl) ?_
          refine g_ir (g_runV (wc := [cell31_ qx sh qh, cell0_ k qh sh, cell1_ k qh sh, cell4_ k qh sh, cell3_ k qh sh, cell2_ k qh sh]) (rest := [.int r54]) cx hP hD hS [3, 4, 5, 6, 7, 8] rfl (by decide) [.int p0, .int v28, .int p1] (c_X4_takenByLevel l D k b (lq [qx 7, qh 1, qh 2, qh 3, qh 4, qh 5]) (lS [(lI [(sh 0 0), (sh 0 1), 0, 0, 0, 0, (sh 0 6), (sh 0 7), (sh 0 8), (sh 0 9), (sh 0 10), (sh 0 11), (sh 0 12)]), (sh 1), (sh 2), (sh 3), (sh 4), (sh 5)]) H.size p0 v28 p1 (show 0 ≤ (sh 0 1).toInt ∧ (sh 0 1).toInt ≤ 4 from by first | decide | omega) h_of (show 0 ≤ v28.toInt ∧ v28.toInt ≤ 400 ∧ tot v28 ≤ 4 from by first | decide | omega) (show tot v28 ≤ (sh 0 1).toInt from by first | decide | omega) (show 0 ≤ p0.toInt ∧ p0.toInt ≤ 4 from by first | decide | omega)) gX11_firstAgainst_X4_takenByLevel rfl rfl rfl nd_X4_takenByLevel ⟨Nat.le_of_ble_eq_true rfl, Nat.le_of_ble_eq_true rfl⟩ (ci := 2) (q0 := 0) rfl rfl rfl hl.1 rfl (Nat.le_of_ble_eq_true rfl) ⟨Nat.zero_le _, Nat.zero_le _⟩ dX11_firstAgainst_55) cx.2.2.1 hP hD hS [3, 4, 5, 6, 7, 8] rfl rfl (fun r57 H locs hw56 hP hS => ?_)
          replace hw56 : (0 ≤ r57.toInt ∧ r57.toInt ≤ 4 ∧ r57.toInt ≤ (sh 0 1).toInt - (tot v28)) ∧ (r57 = J_X4_takenByLevel (lS [(lI [(sh 0 0), (sh 0 1), 0, 0, 0, 0, (sh 0 6), (sh 0 7), (sh 0 8), (sh 0 9), (sh 0 10), (sh 0 11), (sh 0 12)]), (sh 1), (sh 2), (sh 3), (sh 4), (sh 5)]) p0 v28 p1) := hw56
          obtain ⟨w58, w59⟩ := hw56
          have k61 : r57 = (J_X4_takenByLevel (lS [(lI [(sh 0 0), (sh 0 1), 0, 0, 0, 0, (sh 0 6), (sh 0 7), (sh 0 8), (sh 0 9), (sh 0 10), (sh 0 11), (sh 0 12)]), (sh 1), (sh 2), (sh 3), (sh 4), (sh 5)]) p0 v28 p1) := congrArg (fun z => z) w59
          refine lv_icmp_eq (tgt := 64) hx hb dX11_firstAgainst_58 (by decide) (fun c62 => ?_) (fun c62 => ?_)
          · have f62 : r54.toInt = r57.toInt := f_eq rfl rfl c62
            exact hJ64  _ _ _  hP hD hS (lv_sub hl [1, 2, 3, 4, 5, 6] rfl)
          · have f62 : ¬ r54.toInt = r57.toInt := f_ne rfl rfl c62
            refine lv_iload hx hb dX11_firstAgainst_61 (lv_at hl 0 rfl) ?_
            rw [hQ]
            exact x_i cx hr () hP hD hS trivial dX11_firstAgainst_63
  have hlit63 : (0 : Int32).toInt = 0 := by decide
  exact hL11 (Int.toNat (35 - 0) + 1) 0 _ _ _ (by omega) (by first | decide | omega) hP hD hS (lv_sub hl [0, 1, 2, 3, 4, 5] rfl)
