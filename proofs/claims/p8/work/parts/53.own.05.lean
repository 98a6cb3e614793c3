def J_X11_level (sx : Nat → Nat → Int32) (p0 : Int32) (p1 : Int32) : Int32 := let y6 := J_X11_isRule sx p0; if y6 = 0 then ((-1) : Int32) else if p1 < 0 then ((-1) : Int32) else if p1 < 5 then let y16 := J_X11_levelBy sx p0 p1; y16 else ((-1) : Int32)
set_option maxHeartbeats 4000000 in
set_option maxRecDepth 100000 in
theorem c_X11_level (l : Launch) (D : va_G) (k : Nat → ClassId) (b : Nat → Nat) (qx : Nat → Nat) (sx : Nat → Nat → Int32) (sz : Nat) (p0 : Int32) (p1 : Int32) : MetI l D k b yX11_level wsX11_level ({ frames := 1, cells := 0, slots := 0, locals := 22 } : Room) [cell30_ qx sx, cell28_ k qx sx, cell29_ k qx sx] sz [.ref (qx 0), .int p0, .int p1] (fun (r : Int32) (u : Unit) => r = J_X11_level sx p0 p1) (fun u => [cell30_ qx sx, cell28_ k qx sx, cell29_ k qx sx]) := by
  refine g_enter (cc := cX11_level) (maxL := 3) (ret := (some .int)) (by decide) rfl (Nat.le_of_ble_eq_true rfl) ?_
  intro p e s m below meth c A hsz hAe cx hr hP hD hS ls hl
  rw [hAe]
  refine g_q (fun Q hQ => ?_)
  have hx := cx.1.1
  have hb := cx.1.2.1
  have bp0 := i_rng p0
  have bp1 := i_rng p1
  have hl : lv_has ls 3 [(0, .ref (qx 0)), (1, .int p0), (2, .int p1)] := hl
  obtain ⟨H, eH⟩ : ∃ H : Heap, H = s.heap := ⟨_, rfl⟩
  obtain ⟨locs, el⟩ : ∃ L : List Loc, L = [] := ⟨_, rfl⟩
  have hP : va_P D vwCl [cell30_ qx sx, cell28_ k qx sx, cell29_ k qx sx] H := by rw [eH]; exact hP
  have hD : va_D A [cell30_ qx sx, cell28_ k qx sx, cell29_ k qx sx] := hD
  have hS : va_S A s.heap H locs := by rw [eH, el]; exact hS
  suffices goal : W p l e ({ frames := 1, cells := 0, slots := 0, locals := 22 } : Room) s m ([.ref (qx 0), .int p0, .int p1] : List Value).toArray below meth c H locs 0 0 Q (F0 m 0 ls []) by rw [eH, el] at goal; exact goal
  refine lv_aload_n hx hb dX11_level_0 rfl (lv_at hl 0 rfl) ?_
  refine lv_iload_n hx hb dX11_level_1 rfl (lv_at hl 1 rfl) ?_
  refine g_iF (w1 := fun (_ : Unit) => [cell30_ qx sx, cell28_ k qx sx, cell29_ k qx sx]) (g_runVF (ws := [cell30_ qx sx, cell28_ k qx sx, cell29_ k qx sx]) (rest := []) cx hP hD hS [.int p0] (c_X11_isRule l D k b qx sx H.size p0) gX11_level_X11_isRule rfl rfl rfl nd_X11_isRule ⟨Nat.le_of_ble_eq_true rfl, Nat.le_of_ble_eq_true rfl⟩ (ci := 9) (q0 := 0) rfl rfl rfl hl.1 rfl (Nat.le_of_ble_eq_true rfl) ⟨Nat.zero_le _, Nat.zero_le _⟩ dX11_level_2) cx.2.2.1 hD hS (fun r2 _ H locs hw1 hP hD hS => ?_)
  replace hw1 : (0 ≤ r2.toInt ∧ r2.toInt ≤ 1) ∧ (Imp (r2.toInt = 1) (0 ≤ p0.toInt ∧ p0.toInt ≤ 2)) ∧ (r2 = J_X11_isRule sx p0) := hw1
  obtain ⟨w3, w4, w5⟩ := hw1
  have k7 : r2 = (J_X11_isRule sx p0) := congrArg (fun z => z) w5
  have zr2 : 0 ≤ r2.toInt ∧ r2.toInt ≤ 1 := w3
  refine lv_if_eq (tgt := 17) hx hb dX11_level_5 (by decide) (fun c8 => ?_) (fun c8 => ?_)
  · have f8 : r2.toInt = 0 := f_eq rfl (by decide) c8
    refine lv_iconst (v := (-1)) hx hb dX11_level_17 (by decide) ?_
    have hlit9 : ((-1) : Int32).toInt = -1 := by decide
    rw [hQ]
    exact x_i cx hr () hP hD hS (show ((-1) : Int32) = J_X11_level sx p0 p1 from by subst k7; first | (refine Eq.symm ?_; refine Eq.trans (if_pos c8) ?_; rfl) | (unfold J_X11_level; try dsimp only; rw [if_pos c8])) dX11_level_18
  · have f8 : ¬ r2.toInt = 0 := f_ne rfl (by decide) c8
    have k8 : (0 ≤ p0.toInt ∧ p0.toInt ≤ 2) := w4 (by omega)
    refine lv_iload_n hx hb dX11_level_8 rfl (lv_at hl 2 rfl) ?_
    refine lv_if_lt (tgt := 17) hx hb dX11_level_9 (by decide) (fun c10 => ?_) (fun c10 => ?_)
    · have f10 : p1.toInt < 0 := f_lt rfl (by decide) c10
      refine lv_iconst (v := (-1)) hx hb dX11_level_17 (by decide) ?_
      have hlit11 : ((-1) : Int32).toInt = -1 := by decide
      rw [hQ]
      exact x_i cx hr () hP hD hS (show ((-1) : Int32) = J_X11_level sx p0 p1 from by subst k7; first | (refine Eq.symm ?_; refine Eq.trans (if_neg c8) ?_; refine Eq.trans (if_pos c10) ?_; rfl) | (unfold J_X11_level; try dsimp only; rw [if_neg c8, if_pos c10])) dX11_level_18
    · have f10 : 0 ≤ p1.toInt := f_nlt rfl (by decide) c10
      refine lv_iload_n hx hb dX11_level_12 rfl (lv_at hl 2 rfl) ?_
      refine lv_iconst (v := 5) hx hb dX11_level_13 (by decide) ?_
      refine lv_icmp_lt (tgt := 19) hx hb dX11_level_14 (by decide) (fun c12 => ?_) (fun c12 => ?_)
      · have f12 : p1.toInt < 5 := f_lt rfl (by decide) c12
        refine lv_aload_n hx hb dX11_level_19 rfl (lv_at hl 0 rfl) ?_
        refine lv_iload_n hx hb dX11_level_20 rfl (lv_at hl 1 rfl) ?_
        refine lv_iload_n hx hb dX11_level_21 rfl (lv_at hl 2 rfl) ?_
        refine g_iF (w1 := fun (_ : Unit) => [cell30_ qx sx, cell28_ k qx sx, cell29_ k qx sx]) (g_runVF (ws := [cell30_ qx sx, cell28_ k qx sx, cell29_ k qx sx]) (rest := []) cx hP hD hS [.int p0, .int p1] (c_X11_levelBy l D k b qx sx H.size p0 p1 (show 0 ≤ p0.toInt ∧ p0.toInt ≤ 2 from by first | decide | omega) (show 0 ≤ p1.toInt ∧ p1.toInt ≤ 4 from by first | decide | omega)) gX11_level_X11_levelBy rfl rfl rfl nd_X11_levelBy ⟨Nat.le_of_ble_eq_true rfl, Nat.le_of_ble_eq_true rfl⟩ (ci := 9) (q0 := 0) rfl rfl rfl hl.1 rfl (Nat.le_of_ble_eq_true rfl) ⟨Nat.zero_le _, Nat.zero_le _⟩ dX11_level_22) cx.2.2.1 hD hS (fun r14 _ H locs hw13 hP hD hS => ?_)
        have w15 : r14 = J_X11_levelBy sx p0 p1 := hw13
        clear hw13
        have k17 : r14 = (J_X11_levelBy sx p0 p1) := congrArg (fun z => z) w15
        rw [hQ]
        exact x_i cx hr () hP hD hS (show r14 = J_X11_level sx p0 p1 from by subst k7 k17; first | (refine Eq.symm ?_; refine Eq.trans (if_neg c8) ?_; refine Eq.trans (if_neg c10) ?_; refine Eq.trans (if_pos c12) ?_; rfl) | (unfold J_X11_level; try dsimp only; rw [if_neg c8, if_neg c10, if_pos c12])) dX11_level_25
      · have f12 : 5 ≤ p1.toInt := f_nlt rfl (by decide) c12
        refine lv_iconst (v := (-1)) hx hb dX11_level_17 (by decide) ?_
        have hlit18 : ((-1) : Int32).toInt = -1 := by decide
        rw [hQ]
        exact x_i cx hr () hP hD hS (show ((-1) : Int32) = J_X11_level sx p0 p1 from by subst k7; first | (refine Eq.symm ?_; refine Eq.trans (if_neg c8) ?_; refine Eq.trans (if_neg c10) ?_; refine Eq.trans (if_neg c12) ?_; rfl) | (unfold J_X11_level; try dsimp only; rw [if_neg c8, if_neg c10, if_neg c12])) dX11_level_18
