theorem fw_X11_write_10 : Cond.fieldLink RX11 10 "StillInAugust" "text" "LStillInAugust$Text;" ∈ wsX11_write := by decide +kernel
theorem fw_X11_write_105 : Cond.fieldLink RX11 105 "StillInAugust$Text" "length" "I" ∈ wsX11_write := by decide +kernel
theorem nd_X10_append : yX10_append.cls = RX10 ∧ yX10_append.cls ≠ "java/lang/invoke/MethodHandle" ∧ yX10_append.cls ≠ "java/lang/invoke/VarHandle" ∧ (parseMethodDescriptor yX10_append.desc).map (fun d => d.parameters.length) = some 2 := by decide +kernel
theorem nd_X10_hasRoom : yX10_hasRoom.cls = RX10 ∧ yX10_hasRoom.cls ≠ "java/lang/invoke/MethodHandle" ∧ yX10_hasRoom.cls ≠ "java/lang/invoke/VarHandle" ∧ (parseMethodDescriptor yX10_hasRoom.desc).map (fun d => d.parameters.length) = some 1 := by decide +kernel
theorem iw_X11_write_X10 : ∀ w ∈ u_ws RX10 TX10 2, w ∈ wsX11_write := fun _ h => List.mem_cons_of_mem _ (List.mem_append_right _ h)
theorem iw_X11_write_X11 : ∀ w ∈ u_ws RX11 TX11 17, w ∈ wsX11_write := fun _ h => List.mem_cons_of_mem _ (List.mem_append_left _ (List.mem_append_right _ h))
def J_X11_write (sx : Nat → Nat → Int32) (st : Nat → Nat → Int32) (p0 : Int32) (p1 : Int64) : Int32 × (Nat → Int32) × Int32 := if p0 < 1 then (((-2) : Int32), (st 1), (st 0 1)) else if p0 ≤ 8 then let y8 := J_X10_hasRoom (lS [(lI [0, (st 0 1)]), (st 1)]) p0; if y8 = 0 then (((-4) : Int32), (st 1), (st 0 1)) else let y17 := J_X10_append (lS [(lI [0, (st 0 1)]), (st 1)]) p0 p1; ((y17.2), (y17.1), (y17.2)) else (((-2) : Int32), (st 1), (st 0 1))
set_option maxHeartbeats 4000000 in
set_option maxRecDepth 100000 in
theorem c_X11_write (l : Launch) (D : va_G) (k : Nat → ClassId) (b : Nat → Nat) (qx : Nat → Nat) (sx : Nat → Nat → Int32) (qt : Nat → Nat) (st : Nat → Nat → Int32) (sz : Nat) (p0 : Int32) (p1 : Int64) (h_len : 0 ≤ (st 0 1).toInt ∧ (st 0 1).toInt ≤ 64) : MetI l D k b yX11_write wsX11_write ({ frames := 1, cells := 0, slots := 0, locals := 24 } : Room) [cell30_ qx sx, cell28_ k qx sx, cell29_ k qx sx, cell37_ qx qt st, cell27_ k qt st] sz [.ref (qx 0), .int p0, .long p1] (fun (r : Int32) (u : (Nat → Int32) × Int32) => (((p0.toInt < 1 ∨ 8 < p0.toInt) ∧ r.toInt = -2 ∧ (u.2).toInt = (st 0 1).toInt) ∨ (1 ≤ p0.toInt ∧ p0.toInt ≤ 8 ∧ 64 < (st 0 1).toInt + p0.toInt ∧ r.toInt = -4 ∧ (u.2).toInt = (st 0 1).toInt) ∨ (1 ≤ p0.toInt ∧ p0.toInt ≤ 8 ∧ (st 0 1).toInt + p0.toInt ≤ 64 ∧ r.toInt = (st 0 1).toInt + p0.toInt ∧ (u.2).toInt = (st 0 1).toInt + p0.toInt)) ∧ ((r, (u.1), (u.2)) = J_X11_write sx st p0 p1)) (fun u => [cell30_ qx sx, cell28_ k qx sx, cell29_ k qx sx, cell104_ qx qt (u.2), cell202_ k qt (u.1)]) := by
  refine g_enter (cc := cX11_write) (maxL := 4) (ret := (some .int)) (by decide) rfl (Nat.le_of_ble_eq_true rfl) ?_
  intro p e s m below meth c A hsz hAe cx hr hP hD hS ls hl
  rw [hAe]
  refine g_q (fun Q hQ => ?_)
  have hx := cx.1.1
  have hb := cx.1.2.1
  have bp0 := i_rng p0
  have hl : lv_has ls 4 [(0, .ref (qx 0)), (1, .int p0), (2, .long p1)] := hl
  obtain ⟨H, eH⟩ : ∃ H : Heap, H = s.heap := ⟨_, rfl⟩
  obtain ⟨locs, el⟩ : ∃ L : List Loc, L = [] := ⟨_, rfl⟩
  have hP : va_P D vwCl [cell30_ qx sx, cell28_ k qx sx, cell29_ k qx sx, cell37_ qx qt st, cell27_ k qt st] H := by rw [eH]; exact hP
  have hD : va_D A [cell30_ qx sx, cell28_ k qx sx, cell29_ k qx sx, cell37_ qx qt st, cell27_ k qt st] := hD
  have hS : va_S A s.heap H locs := by rw [eH, el]; exact hS
  suffices goal : W p l e ({ frames := 1, cells := 0, slots := 0, locals := 24 } : Room) s m ([.ref (qx 0), .int p0, .long p1] : List Value).toArray below meth c H locs 0 0 Q (F0 m 0 ls []) by rw [eH, el] at goal; exact goal
  refine lv_iload_n hx hb dX11_write_0 rfl (lv_at hl 1 rfl) ?_
  refine lv_iconst (v := 1) hx hb dX11_write_1 (by decide) ?_
  refine lv_icmp_lt (tgt := 11) hx hb dX11_write_2 (by decide) (fun c1 => ?_) (fun c1 => ?_)
  · have f1 : p0.toInt < 1 := f_lt rfl (by decide) c1
    refine lv_bipush (v := (-2)) hx hb dX11_write_11 (by decide) ?_
    have hlit2 : ((-2) : Int32).toInt = -2 := by decide
    rw [hQ]
    exact x_i cx hr ((st 1), (st 0 1)) hP hD hS ⟨(show ((p0.toInt < 1 ∨ 8 < p0.toInt) ∧ ((-2) : Int32).toInt = -2 ∧ (st 0 1).toInt = (st 0 1).toInt) ∨ (1 ≤ p0.toInt ∧ p0.toInt ≤ 8 ∧ 64 < (st 0 1).toInt + p0.toInt ∧ ((-2) : Int32).toInt = -4 ∧ (st 0 1).toInt = (st 0 1).toInt) ∨ (1 ≤ p0.toInt ∧ p0.toInt ≤ 8 ∧ (st 0 1).toInt + p0.toInt ≤ 64 ∧ ((-2) : Int32).toInt = (st 0 1).toInt + p0.toInt ∧ (st 0 1).toInt = (st 0 1).toInt + p0.toInt) from by omega), (show (((-2) : Int32), (st 1), (st 0 1)) = J_X11_write sx st p0 p1 from by first | (refine Eq.symm ?_; refine Eq.trans (if_pos c1) ?_; rfl) | (unfold J_X11_write; try dsimp only; rw [if_pos c1]))⟩ dX11_write_13
  · have f1 : 1 ≤ p0.toInt := f_nlt rfl (by decide) c1
    refine lv_iload_n hx hb dX11_write_5 rfl (lv_at hl 1 rfl) ?_
    refine lv_bipush (v := 8) hx hb dX11_write_6 (by decide) ?_
    refine lv_icmp_le (tgt := 14) hx hb dX11_write_8 (by decide) (fun c3 => ?_) (fun c3 => ?_)
    · have f3 : p0.toInt ≤ 8 := f_le rfl (by decide) c3
      refine lv_aload_n hx hb dX11_write_14 rfl (lv_at hl 0 rfl) ?_
      refine g_get cx hP iw_X11_write_X11 0 rfl rfl 0 (by decide) rfl fw_X11_write_10 rfl dX11_write_15 ?_
      refine lv_iload_n hx hb dX11_write_18 rfl (lv_at hl 1 rfl) ?_
      refine g_ir (g_runV (wc := [cell37_ qx qt st, cell27_ k qt st]) (rest := []) cx hP hD hS [3, 4] rfl (by decide) [.int p0] (c_X10_hasRoom l D k b (lq [qx 3, qt 1]) (lS [(lI [0, (st 0 1)]), (st 1)]) H.size p0 (show 0 ≤ (st 0 1).toInt ∧ (st 0 1).toInt ≤ 64 from by first | decide | omega) (show 1 ≤ p0.toInt ∧ p0.toInt ≤ 8 from by first | decide | omega)) gX11_write_X10_hasRoom rfl rfl rfl nd_X10_hasRoom ⟨Nat.le_of_ble_eq_true rfl, Nat.le_of_ble_eq_true rfl⟩ (ci := 8) (q0 := 0) rfl rfl rfl hl.1 rfl (Nat.le_of_ble_eq_true rfl) ⟨Nat.zero_le _, Nat.zero_le _⟩ dX11_write_19) cx.2.2.1 hP hD hS [3, 4] rfl rfl (fun r5 H locs hw4 hP hS => ?_)
      replace hw4 : ((r5.toInt = 1 ∧ (st 0 1).toInt + p0.toInt ≤ 64) ∨ (r5.toInt = 0 ∧ 64 < (st 0 1).toInt + p0.toInt)) ∧ (r5 = J_X10_hasRoom (lS [(lI [0, (st 0 1)]), (st 1)]) p0) := hw4
      obtain ⟨w6, w7⟩ := hw4
      have k9 : r5 = (J_X10_hasRoom (lS [(lI [0, (st 0 1)]), (st 1)]) p0) := congrArg (fun z => z) w7
      refine lv_if_ne (tgt := 28) hx hb dX11_write_22 (by decide) (fun c10 => ?_) (fun c10 => ?_)
      · have f10 : ¬ r5.toInt = 0 := f_ne rfl (by decide) c10
        refine lv_aload_n hx hb dX11_write_28 rfl (lv_at hl 0 rfl) ?_
        refine g_get cx hP iw_X11_write_X11 0 rfl rfl 0 (by decide) rfl fw_X11_write_10 rfl dX11_write_29 ?_
        refine lv_iload_n hx hb dX11_write_32 rfl (lv_at hl 1 rfl) ?_
        refine lv_lload_n hx hb dX11_write_33 rfl (lv_at hl 2 rfl) ?_
        refine g_v (w1 := fun (u : (Nat → Int32) × Int32) => [cell104_ qx qt (u.2), cell202_ k qt (u.1)]) (g_runV (wc := [cell37_ qx qt st, cell27_ k qt st]) (rest := []) cx hP hD hS [3, 4] rfl (by decide) [.int p0, .long p1] (c_X10_append l D k b (lq [qx 3, qt 1]) (lS [(lI [0, (st 0 1)]), (st 1)]) H.size p0 p1 (show 0 ≤ (st 0 1).toInt ∧ (st 0 1).toInt ≤ 64 from by first | decide | omega) (show (st 0 1).toInt + p0.toInt ≤ 64 from by first | decide | omega) (show 1 ≤ p0.toInt ∧ p0.toInt ≤ 8 from by first | decide | omega)) gX11_write_X10_append rfl rfl rfl nd_X10_append ⟨Nat.le_of_ble_eq_true rfl, Nat.le_of_ble_eq_true rfl⟩ (ci := 8) (q0 := 0) rfl rfl rfl hl.1 rfl (Nat.le_of_ble_eq_true rfl) ⟨Nat.zero_le _, Nat.zero_le _⟩ dX11_write_34) cx.2.2.1 hP hD hS [3, 4] rfl (fun _ => rfl) (fun u12 H locs hw11 hP hD hS => ?_)
        obtain ⟨m13, m14⟩ := u12
        have hP : va_P D vwCl [cell30_ qx sx, cell28_ k qx sx, cell29_ k qx sx, cell104_ qx qt m14, (qt 1, .inl (k 2, 64, .inl m13))] H := hP
        have hD : va_D A [cell30_ qx sx, cell28_ k qx sx, cell29_ k qx sx, cell104_ qx qt m14, (qt 1, .inl (k 2, 64, .inl m13))] := hD
        replace hw11 : (m14.toInt = (st 0 1).toInt + p0.toInt) ∧ ((m13, m14) = J_X10_append (lS [(lI [0, (st 0 1)]), (st 1)]) p0 p1) := hw11
        obtain ⟨w15, w16⟩ := hw11
        have k18 : m13 = ((J_X10_append (lS [(lI [0, (st 0 1)]), (st 1)]) p0 p1).1) := congrArg (fun z => (z.1)) w16
        have k19 : m14 = ((J_X10_append (lS [(lI [0, (st 0 1)]), (st 1)]) p0 p1).2) := congrArg (fun z => (z.2)) w16
        refine lv_aload_n hx hb dX11_write_37 rfl (lv_at hl 0 rfl) ?_
        refine g_get cx hP iw_X11_write_X11 0 rfl rfl 0 (by decide) rfl fw_X11_write_10 rfl dX11_write_38 ?_
        refine g_get cx hP iw_X11_write_X10 3 rfl rfl 1 (by decide) rfl fw_X11_write_105 rfl dX11_write_41 ?_
        rw [hQ]
        exact x_i cx hr (m13, m14) hP hD hS ⟨(show ((p0.toInt < 1 ∨ 8 < p0.toInt) ∧ m14.toInt = -2 ∧ m14.toInt = (st 0 1).toInt) ∨ (1 ≤ p0.toInt ∧ p0.toInt ≤ 8 ∧ 64 < (st 0 1).toInt + p0.toInt ∧ m14.toInt = -4 ∧ m14.toInt = (st 0 1).toInt) ∨ (1 ≤ p0.toInt ∧ p0.toInt ≤ 8 ∧ (st 0 1).toInt + p0.toInt ≤ 64 ∧ m14.toInt = (st 0 1).toInt + p0.toInt ∧ m14.toInt = (st 0 1).toInt + p0.toInt) from by omega), (show (m14, m13, m14) = J_X11_write sx st p0 p1 from by subst k9 k18 k19; first | (refine Eq.symm ?_; refine Eq.trans (if_neg c1) ?_; refine Eq.trans (if_pos c3) ?_; refine Eq.trans (if_neg c10) ?_; rfl) | (unfold J_X11_write; try dsimp only; rw [if_neg c1, if_pos c3, if_neg c10]))⟩ dX11_write_44
      · have f10 : r5.toInt = 0 := f_eq rfl (by decide) c10
        refine lv_bipush (v := (-4)) hx hb dX11_write_25 (by decide) ?_
        have hlit20 : ((-4) : Int32).toInt = -4 := by decide
        rw [hQ]
        exact x_i cx hr ((st 1), (st 0 1)) hP hD hS ⟨(show ((p0.toInt < 1 ∨ 8 < p0.toInt) ∧ ((-4) : Int32).toInt = -2 ∧ (st 0 1).toInt = (st 0 1).toInt) ∨ (1 ≤ p0.toInt ∧ p0.toInt ≤ 8 ∧ 64 < (st 0 1).toInt + p0.toInt ∧ ((-4) : Int32).toInt = -4 ∧ (st 0 1).toInt = (st 0 1).toInt) ∨ (1 ≤ p0.toInt ∧ p0.toInt ≤ 8 ∧ (st 0 1).toInt + p0.toInt ≤ 64 ∧ ((-4) : Int32).toInt = (st 0 1).toInt + p0.toInt ∧ (st 0 1).toInt = (st 0 1).toInt + p0.toInt) from by omega), (show (((-4) : Int32), (st 1), (st 0 1)) = J_X11_write sx st p0 p1 from by subst k9; first | (refine Eq.symm ?_; refine Eq.trans (if_neg c1) ?_; refine Eq.trans (if_pos c3) ?_; refine Eq.trans (if_pos c10) ?_; rfl) | (unfold J_X11_write; try dsimp only; rw [if_neg c1, if_pos c3, if_pos c10]))⟩ dX11_write_27
    · have f3 : 8 < p0.toInt := f_nle rfl (by decide) c3
      refine lv_bipush (v := (-2)) hx hb dX11_write_11 (by decide) ?_
      have hlit21 : ((-2) : Int32).toInt = -2 := by decide
      rw [hQ]
      exact x_i cx hr ((st 1), (st 0 1)) hP hD hS ⟨(show ((p0.toInt < 1 ∨ 8 < p0.toInt) ∧ ((-2) : Int32).toInt = -2 ∧ (st 0 1).toInt = (st 0 1).toInt) ∨ (1 ≤ p0.toInt ∧ p0.toInt ≤ 8 ∧ 64 < (st 0 1).toInt + p0.toInt ∧ ((-2) : Int32).toInt = -4 ∧ (st 0 1).toInt = (st 0 1).toInt) ∨ (1 ≤ p0.toInt ∧ p0.toInt ≤ 8 ∧ (st 0 1).toInt + p0.toInt ≤ 64 ∧ ((-2) : Int32).toInt = (st 0 1).toInt + p0.toInt ∧ (st 0 1).toInt = (st 0 1).toInt + p0.toInt) from by omega), (show (((-2) : Int32), (st 1), (st 0 1)) = J_X11_write sx st p0 p1 from by first | (refine Eq.symm ?_; refine Eq.trans (if_neg c1) ?_; refine Eq.trans (if_neg c3) ?_; rfl) | (unfold J_X11_write; try dsimp only; rw [if_neg c1, if_neg c3]))⟩ dX11_write_13
theorem fw_X11_wipe_10 : Cond.fieldLink RX11 10 "StillInAugust" "text" "LStillInAugust$Text;" ∈ wsX11_wipe := by decide +kernel
theorem fw_X11_wipe_105 : Cond.fieldLink RX11 105 "StillInAugust$Text" "length" "I" ∈ wsX11_wipe := by decide +kernel
theorem iw_X11_wipe_X10 : ∀ w ∈ u_ws RX10 TX10 2, w ∈ wsX11_wipe := fun _ h => List.mem_cons_of_mem _ (List.mem_append_right _ h)
theorem iw_X11_wipe_X11 : ∀ w ∈ u_ws RX11 TX11 17, w ∈ wsX11_wipe := fun _ h => List.mem_cons_of_mem _ (List.mem_append_left _ (List.mem_append_right _ h))
def J_X11_wipe (sx : Nat → Nat → Int32) (st : Nat → Nat → Int32) : Int32 × Int32 := ((st 0 1), (0 : Int32))
set_option maxHeartbeats 4000000 in
set_option maxRecDepth 100000 in
theorem c_X11_wipe (l : Launch) (D : va_G) (k : Nat → ClassId) (b : Nat → Nat) (qx : Nat → Nat) (sx : Nat → Nat → Int32) (qt : Nat → Nat) (st : Nat → Nat → Int32) (sz : Nat) : MetI l D k b yX11_wipe wsX11_wipe ({ frames := 0, cells := 0, slots := 0, locals := 0 } : Room) [cell30_ qx sx, cell28_ k qx sx, cell29_ k qx sx, cell37_ qx qt st, cell27_ k qt st] sz [.ref (qx 0)] (fun (r : Int32) (u : Int32) => (r.toInt = (st 0 1).toInt) ∧ (u.toInt = 0) ∧ ((r, u) = J_X11_wipe sx st)) (fun u => [cell30_ qx sx, cell28_ k qx sx, cell29_ k qx sx, cell104_ qx qt u, cell27_ k qt st]) := by
  refine g_enter (cc := cX11_wipe) (maxL := 2) (ret := (some .int)) (by decide) rfl (Nat.le_of_ble_eq_true rfl) ?_
  intro p e s m below meth c A hsz hAe cx hr hP hD hS ls hl
  rw [hAe]
  refine g_q (fun Q hQ => ?_)
  have hx := cx.1.1
  have hb := cx.1.2.1
  have hl : lv_has ls 2 [(0, .ref (qx 0))] := hl
  obtain ⟨H, eH⟩ : ∃ H : Heap, H = s.heap := ⟨_, rfl⟩
  obtain ⟨locs, el⟩ : ∃ L : List Loc, L = [] := ⟨_, rfl⟩
  have hP : va_P D vwCl [cell30_ qx sx, cell28_ k qx sx, cell29_ k qx sx, cell37_ qx qt st, cell27_ k qt st] H := by rw [eH]; exact hP
  have hD : va_D A [cell30_ qx sx, cell28_ k qx sx, cell29_ k qx sx, cell37_ qx qt st, cell27_ k qt st] := hD
  have hS : va_S A s.heap H locs := by rw [eH, el]; exact hS
  suffices goal : W p l e ({ frames := 0, cells := 0, slots := 0, locals := 0 } : Room) s m ([.ref (qx 0)] : List Value).toArray below meth c H locs 0 0 Q (F0 m 0 ls []) by rw [eH, el] at goal; exact goal
  refine lv_aload_n hx hb dX11_wipe_0 rfl (lv_at hl 0 rfl) ?_
  refine g_get cx hP iw_X11_wipe_X11 0 rfl rfl 0 (by decide) rfl fw_X11_wipe_10 rfl dX11_wipe_1 ?_
  refine g_get cx hP iw_X11_wipe_X10 3 rfl rfl 1 (by decide) rfl fw_X11_wipe_105 rfl dX11_wipe_4 ?_
  refine lv_istore_n (lv' := [(1, .int (st 0 1)), (0, .ref (qx 0))]) hx hb dX11_wipe_7 rfl hl (by decide) rfl (fun ls hl => ?_)
  refine lv_aload_n hx hb dX11_wipe_8 rfl (lv_at hl 1 rfl) ?_
  refine g_get cx hP iw_X11_wipe_X11 0 rfl rfl 0 (by decide) rfl fw_X11_wipe_10 rfl dX11_wipe_9 ?_
  refine lv_iconst (v := 0) hx hb dX11_wipe_12 (by decide) ?_
  refine g_pt cx hP hD hS iw_X11_wipe_X10 tyX10 tyX10_ok nmX10 3 rfl rfl 1 (by decide) rfl fw_X11_wipe_105 (ty := .int) rfl rfl rfl (Nat.le_of_ble_eq_true rfl) dX11_wipe_13 (fun H locs hP hD hS => ?_)
  have hP : va_P D vwCl [cell30_ qx sx, cell28_ k qx sx, cell29_ k qx sx, cell104_ qx qt 0, cell27_ k qt st] H := hP
  have hD : va_D A [cell30_ qx sx, cell28_ k qx sx, cell29_ k qx sx, cell104_ qx qt 0, cell27_ k qt st] := hD
  have hlit1 : (0 : Int32).toInt = 0 := by decide
  refine lv_iload_n hx hb dX11_wipe_16 rfl (lv_at hl 0 rfl) ?_
  have hlit2 : (0 : Int32).toInt = 0 := by decide
  rw [hQ]
  exact x_i cx hr 0 hP hD hS ⟨(show (st 0 1).toInt = (st 0 1).toInt from by omega), (show (0 : Int32).toInt = 0 from by omega), (show ((st 0 1), (0 : Int32)) = J_X11_wipe sx st from by rfl)⟩ dX11_wipe_17
theorem fw_X11_fault_21 : Cond.fieldLink RX11 21 "StillInAugust" "houseReader" "LStillInAugust$HouseReader;" ∈ wsX11_fault := by decide +kernel
theorem fw_X11_fault_28 : Cond.fieldLink RX11 28 "StillInAugust" "ruleReader" "LStillInAugust$RuleReader;" ∈ wsX11_fault := by decide +kernel
theorem fw_X11_fault_35 : Cond.fieldLink RX11 35 "StillInAugust" "draft" "LStillInAugust$House;" ∈ wsX11_fault := by decide +kernel
theorem nd_X5_read : yX5_read.cls = RX5 ∧ yX5_read.cls ≠ "java/lang/invoke/MethodHandle" ∧ yX5_read.cls ≠ "java/lang/invoke/VarHandle" ∧ (parseMethodDescriptor yX5_read.desc).map (fun d => d.parameters.length) = some 1 := by decide +kernel
theorem nd_X8_read : yX8_read.cls = RX8 ∧ yX8_read.cls ≠ "java/lang/invoke/MethodHandle" ∧ yX8_read.cls ≠ "java/lang/invoke/VarHandle" ∧ (parseMethodDescriptor yX8_read.desc).map (fun d => d.parameters.length) = some 0 := by decide +kernel
theorem iw_X11_fault_X11 : ∀ w ∈ u_ws RX11 TX11 17, w ∈ wsX11_fault := fun _ h => List.mem_cons_of_mem _ (List.mem_append_left _ (List.mem_append_left _ (List.mem_append_left _ (List.mem_append_left _ (List.mem_append_left _ (List.mem_append_right _ h))))))
def J_X11_fault (sx : Nat → Nat → Int32) (shr : Nat → Nat → Int32) (shc : Nat → Nat → Int32) (st : Nat → Nat → Int32) (sd : Nat → Nat → Int32) (srr : Nat → Nat → Int32) (src : Nat → Nat → Int32) (p0 : Int32) : Int32 × Int32 × Int32 × (Nat → Int32) × Int32 × Int32 × (Nat → Int32) × (Nat → Int32) × (Nat → Int32) × (Nat → Int32) × Int32 × Int32 × Int32 × Int32 × Int32 × Int32 × Int32 × Int32 × Int32 × Int32 × (Nat → Int32) × Int32 := if p0 = 0 then LetF (J_X5_read (lS [(lI []), (shr 1)]) shc (lS [(lI [0, (st 0 1)]), (st 1)]) (lS [(lI [(sd 0 0), (sd 0 1), 0, 0, 0, 0, (sd 0 6), (sd 0 7), (sd 0 8), (sd 0 9), (sd 0 10), (sd 0 11), (sd 0 12)]), (sd 1), (sd 2), (sd 3), (sd 4), (sd 5)])) (fun y30 => ((y30.1), (y30.2.1), (y30.2.2.1), (y30.2.2.2.1), (y30.2.2.2.2.1), (y30.2.2.2.2.2.1), (y30.2.2.2.2.2.2.1), (y30.2.2.2.2.2.2.2.1), (y30.2.2.2.2.2.2.2.2.1), (y30.2.2.2.2.2.2.2.2.2.1), (y30.2.2.2.2.2.2.2.2.2.2.1), (y30.2.2.2.2.2.2.2.2.2.2.2.1), (y30.2.2.2.2.2.2.2.2.2.2.2.2.1), (y30.2.2.2.2.2.2.2.2.2.2.2.2.2.1), (y30.2.2.2.2.2.2.2.2.2.2.2.2.2.2.1), (y30.2.2.2.2.2.2.2.2.2.2.2.2.2.2.2.1), (y30.2.2.2.2.2.2.2.2.2.2.2.2.2.2.2.2), (src 0 1), (src 0 2), (srr 0 3), (srr 1), (srr 0 2))) else LetF (J_X8_read (lS [(lI [0, 0, (srr 0 2), (srr 0 3)]), (srr 1)]) src (lS [(lI [0, (st 0 1)]), (st 1)])) (fun y41 => ((y41.1), (shc 0 1), (shc 0 2), (shr 1), (sd 0 0), (sd 0 1), (sd 1), (sd 2), (sd 3), (sd 4), (sd 0 6), (sd 0 7), (sd 0 8), (sd 0 9), (sd 0 10), (sd 0 11), (sd 0 12), (y41.2.1), (y41.2.2.1), (y41.2.2.2.1), (y41.2.2.2.2.1), (y41.2.2.2.2.2)))
theorem exl_X11_fault_0 {sx : Nat → Nat → Int32} {shr : Nat → Nat → Int32} {shc : Nat → Nat → Int32} {st : Nat → Nat → Int32} {sd : Nat → Nat → Int32} {srr : Nat → Nat → Int32} {src : Nat → Nat → Int32} {p0 : Int32} {r4 : Int32} {m5 : Int32} {m6 : Int32} {m7 : Nat → Int32} {m8 : Int32} {m9 : Int32} {m10 : Nat → Int32} {m11 : Nat → Int32} {m12 : Nat → Int32} {m13 : Nat → Int32} {m14 : Int32} {m15 : Int32} {m16 : Int32} {m17 : Int32} {m18 : Int32} {m19 : Int32} {m20 : Int32} (c1 : p0 = (0 : Int32)) (w29 : (r4, m5, m6, m7, m8, m9, m10, m11, m12, m13, m14, m15, m16, m17, m18, m19, m20) = J_X5_read (lS [(lI []), (shr 1)]) shc (lS [(lI [0, (st 0 1)]), (st 1)]) (lS [(lI [(sd 0 0), (sd 0 1), 0, 0, 0, 0, (sd 0 6), (sd 0 7), (sd 0 8), (sd 0 9), (sd 0 10), (sd 0 11), (sd 0 12)]), (sd 1), (sd 2), (sd 3), (sd 4), (sd 5)])) : (r4, m5, m6, m7, m8, m9, m10, m11, m12, m13, m14, m15, m16, m17, m18, m19, m20, (src 0 1), (src 0 2), (srr 0 3), (srr 1), (srr 0 2)) = J_X11_fault sx shr shc st sd srr src p0 := by refine Eq.symm ?_; unfold J_X11_fault; refine Eq.trans (if_pos c1) ?_; refine lt_e w29 ?_; rfl
theorem exl_X11_fault_1 {sx : Nat → Nat → Int32} {shr : Nat → Nat → Int32} {shc : Nat → Nat → Int32} {st : Nat → Nat → Int32} {sd : Nat → Nat → Int32} {srr : Nat → Nat → Int32} {src : Nat → Nat → Int32} {p0 : Int32} {r33 : Int32} {m34 : Int32} {m35 : Int32} {m36 : Int32} {m37 : Nat → Int32} {m38 : Int32} (c1 : ¬ (p0 = (0 : Int32))) (w40 : (r33, m34, m35, m36, m37, m38) = J_X8_read (lS [(lI [0, 0, (srr 0 2), (srr 0 3)]), (srr 1)]) src (lS [(lI [0, (st 0 1)]), (st 1)])) : (r33, (shc 0 1), (shc 0 2), (shr 1), (sd 0 0), (sd 0 1), (sd 1), (sd 2), (sd 3), (sd 4), (sd 0 6), (sd 0 7), (sd 0 8), (sd 0 9), (sd 0 10), (sd 0 11), (sd 0 12), m34, m35, m36, m37, m38) = J_X11_fault sx shr shc st sd srr src p0 := by refine Eq.symm ?_; unfold J_X11_fault; refine Eq.trans (if_neg c1) ?_; refine lt_e w40 ?_; rfl
set_option maxHeartbeats 4000000 in
set_option maxRecDepth 100000 in
theorem c_X11_fault (l : Launch) (D : va_G) (k : Nat → ClassId) (b : Nat → Nat) (qx : Nat → Nat) (sx : Nat → Nat → Int32) (qhr : Nat → Nat) (shr : Nat → Nat → Int32) (qhc : Nat → Nat) (shc : Nat → Nat → Int32) (qt : Nat → Nat) (st : Nat → Nat → Int32) (qd : Nat → Nat) (sd : Nat → Nat → Int32) (qrr : Nat → Nat) (srr : Nat → Nat → Int32) (qrc : Nat → Nat) (src : Nat → Nat → Int32) (sz : Nat) (p0 : Int32) (h_len : 0 ≤ (st 0 1).toInt ∧ (st 0 1).toInt ≤ 64) (u_a : ∀ j, 0 ≤ (shr 1 j).toInt ∧ (shr 1 j).toInt ≤ 31) (u_3 : 0 ≤ (shr 1 3).toInt ∧ (shr 1 3).toInt ≤ 7) (u_16 : 0 ≤ (shr 1 16).toInt ∧ (shr 1 16).toInt ≤ 7) (d_of : ∀ j, 0 ≤ (sd 2 j).toInt ∧ (sd 2 j).toInt ≤ 4) (d_go : ∀ j, 0 ≤ (sd 3 j).toInt ∧ (sd 3 j).toInt ≤ 5) : MetI l D k b yX11_fault wsX11_fault ({ frames := 8, cells := 0, slots := 0, locals := 173 } : Room) [cell30_ qx sx, cell28_ k qx sx, cell29_ k qx sx, cell39_ qx qhc qhr, cell5_ k qhr shr, cell33_ qhc qx shc, cell37_ qx qt st, cell27_ k qt st, cell45_ qx sd qd, cell0_ k qd sd, cell1_ k qd sd, cell4_ k qd sd, cell3_ k qd sd, cell2_ k qd sd, cell46_ qx qrc qrr srr, cell0_ k qrr srr, cell33_ qrc qx src] sz [.ref (qx 0), .int p0] (fun (r : Int32) (u : Int32 × Int32 × (Nat → Int32) × Int32 × Int32 × (Nat → Int32) × (Nat → Int32) × (Nat → Int32) × (Nat → Int32) × Int32 × Int32 × Int32 × Int32 × Int32 × Int32 × Int32 × Int32 × Int32 × Int32 × (Nat → Int32) × Int32) => (∀ j, 0 ≤ ((u.2.2.1) j).toInt ∧ ((u.2.2.1) j).toInt ≤ 31) ∧ (0 ≤ ((u.2.2.1) 3).toInt ∧ ((u.2.2.1) 3).toInt ≤ 7) ∧ (0 ≤ ((u.2.2.1) 16).toInt ∧ ((u.2.2.1) 16).toInt ≤ 7) ∧ (∀ j, 0 ≤ ((u.2.2.2.2.2.2.1) j).toInt ∧ ((u.2.2.2.2.2.2.1) j).toInt ≤ 4) ∧ (∀ j, 0 ≤ ((u.2.2.2.2.2.2.2.1) j).toInt ∧ ((u.2.2.2.2.2.2.2.1) j).toInt ≤ 5) ∧ ((r, (u.1), (u.2.1), (u.2.2.1), (u.2.2.2.1), (u.2.2.2.2.1), (u.2.2.2.2.2.1), (u.2.2.2.2.2.2.1), (u.2.2.2.2.2.2.2.1), (u.2.2.2.2.2.2.2.2.1), (u.2.2.2.2.2.2.2.2.2.1), (u.2.2.2.2.2.2.2.2.2.2.1), (u.2.2.2.2.2.2.2.2.2.2.2.1), (u.2.2.2.2.2.2.2.2.2.2.2.2.1), (u.2.2.2.2.2.2.2.2.2.2.2.2.2.1), (u.2.2.2.2.2.2.2.2.2.2.2.2.2.2.1), (u.2.2.2.2.2.2.2.2.2.2.2.2.2.2.2.1), (u.2.2.2.2.2.2.2.2.2.2.2.2.2.2.2.2.1), (u.2.2.2.2.2.2.2.2.2.2.2.2.2.2.2.2.2.1), (u.2.2.2.2.2.2.2.2.2.2.2.2.2.2.2.2.2.2.1), (u.2.2.2.2.2.2.2.2.2.2.2.2.2.2.2.2.2.2.2.1), (u.2.2.2.2.2.2.2.2.2.2.2.2.2.2.2.2.2.2.2.2)) = J_X11_fault sx shr shc st sd srr src p0)) (fun u => [cell30_ qx sx, cell28_ k qx sx, cell29_ k qx sx, cell39_ qx qhc qhr, cell107_ k qhr (u.2.2.1), cell72_ qhc qx (u.1) (u.2.1), cell37_ qx qt st, cell27_ k qt st, cell83_ qx qd (u.2.2.2.1) (u.2.2.2.2.1) (u.2.2.2.2.2.2.2.2.2.1) (u.2.2.2.2.2.2.2.2.2.2.1) (u.2.2.2.2.2.2.2.2.2.2.2.1) (u.2.2.2.2.2.2.2.2.2.2.2.2.1) (u.2.2.2.2.2.2.2.2.2.2.2.2.2.1) (u.2.2.2.2.2.2.2.2.2.2.2.2.2.2.1) (u.2.2.2.2.2.2.2.2.2.2.2.2.2.2.2.1), cell85_ k qd (u.2.2.2.2.2.1), cell97_ k qd (u.2.2.2.2.2.2.1), cell102_ k qd (u.2.2.2.2.2.2.2.1), cell103_ k qd (u.2.2.2.2.2.2.2.2.1), cell2_ k qd sd, cell90_ qx qrc qrr (u.2.2.2.2.2.2.2.2.2.2.2.2.2.2.2.2.2.2.2.2) (u.2.2.2.2.2.2.2.2.2.2.2.2.2.2.2.2.2.2.1), cell85_ k qrr (u.2.2.2.2.2.2.2.2.2.2.2.2.2.2.2.2.2.2.2.1), cell72_ qrc qx (u.2.2.2.2.2.2.2.2.2.2.2.2.2.2.2.2.1) (u.2.2.2.2.2.2.2.2.2.2.2.2.2.2.2.2.2.1)]) := by
  refine g_enter (cc := cX11_fault) (maxL := 2) (ret := (some .int)) (by decide) rfl (Nat.le_of_ble_eq_true rfl) ?_
  intro p e s m below meth c A hsz hAe cx hr hP hD hS ls hl
  rw [hAe]
  refine g_q (fun Q hQ => ?_)
  have hx := cx.1.1
  have hb := cx.1.2.1
  have bp0 := i_rng p0
  have hl : lv_has ls 2 [(0, .ref (qx 0)), (1, .int p0)] := hl
  obtain ⟨H, eH⟩ : ∃ H : Heap, H = s.heap := ⟨_, rfl⟩
  obtain ⟨locs, el⟩ : ∃ L : List Loc, L = [] := ⟨_, rfl⟩
  have hP : va_P D vwCl [cell30_ qx sx, cell28_ k qx sx, cell29_ k qx sx, cell39_ qx qhc qhr, cell5_ k qhr shr, cell33_ qhc qx shc, cell37_ qx qt st, cell27_ k qt st, cell45_ qx sd qd, cell0_ k qd sd, cell1_ k qd sd, cell4_ k qd sd, cell3_ k qd sd, cell2_ k qd sd, cell46_ qx qrc qrr srr, cell0_ k qrr srr, cell33_ qrc qx src] H := by rw [eH]; exact hP
  have hD : va_D A [cell30_ qx sx, cell28_ k qx sx, cell29_ k qx sx, cell39_ qx qhc qhr, cell5_ k qhr shr, cell33_ qhc qx shc, cell37_ qx qt st, cell27_ k qt st, cell45_ qx sd qd, cell0_ k qd sd, cell1_ k qd sd, cell4_ k qd sd, cell3_ k qd sd, cell2_ k qd sd, cell46_ qx qrc qrr srr, cell0_ k qrr srr, cell33_ qrc qx src] := hD
  have hS : va_S A s.heap H locs := by rw [eH, el]; exact hS
  suffices goal : W p l e ({ frames := 8, cells := 0, slots := 0, locals := 173 } : Room) s m ([.ref (qx 0), .int p0] : List Value).toArray below meth c H locs 0 0 Q (F0 m 0 ls []) by rw [eH, el] at goal; exact goal
  refine lv_iload_n hx hb dX11_fault_0 rfl (lv_at hl 1 rfl) ?_
  refine lv_if_eq (tgt := 14) hx hb dX11_fault_1 (by decide) (fun c1 => ?_) (fun c1 => ?_)
  · have f1 : p0.toInt = 0 := f_eq rfl (by decide) c1
    refine lv_aload_n hx hb dX11_fault_14 rfl (lv_at hl 0 rfl) ?_
    refine g_get cx hP iw_X11_fault_X11 0 rfl rfl 1 (by decide) rfl fw_X11_fault_21 rfl dX11_fault_15 ?_
    refine lv_aload_n hx hb dX11_fault_18 rfl (lv_at hl 0 rfl) ?_
    refine g_get cx hP iw_X11_fault_X11 0 rfl rfl 3 (by decide) rfl fw_X11_fault_35 rfl dX11_fault_19 ?_
    refine g_i (w1 := fun (u : Int32 × Int32 × (Nat → Int32) × Int32 × Int32 × (Nat → Int32) × (Nat → Int32) × (Nat → Int32) × (Nat → Int32) × Int32 × Int32 × Int32 × Int32 × Int32 × Int32 × Int32) => [cell39_ qx qhc qhr, cell107_ k qhr (u.2.2.1), cell72_ qhc qx (u.1) (u.2.1), cell37_ qx qt st, cell27_ k qt st, cell83_ qx qd (u.2.2.2.1) (u.2.2.2.2.1) (u.2.2.2.2.2.2.2.2.2.1) (u.2.2.2.2.2.2.2.2.2.2.1) (u.2.2.2.2.2.2.2.2.2.2.2.1) (u.2.2.2.2.2.2.2.2.2.2.2.2.1) (u.2.2.2.2.2.2.2.2.2.2.2.2.2.1) (u.2.2.2.2.2.2.2.2.2.2.2.2.2.2.1) (u.2.2.2.2.2.2.2.2.2.2.2.2.2.2.2), cell85_ k qd (u.2.2.2.2.2.1), cell97_ k qd (u.2.2.2.2.2.2.1), cell102_ k qd (u.2.2.2.2.2.2.2.1), cell103_ k qd (u.2.2.2.2.2.2.2.2.1), cell2_ k qd sd]) (g_runV (wc := [cell39_ qx qhc qhr, cell5_ k qhr shr, cell33_ qhc qx shc, cell37_ qx qt st, cell27_ k qt st, cell45_ qx sd qd, cell0_ k qd sd, cell1_ k qd sd, cell4_ k qd sd, cell3_ k qd sd, cell2_ k qd sd]) (rest := []) cx hP hD hS [3, 4, 5, 6, 7, 8, 9, 10, 11, 12, 13] rfl (by decide) [.ref (qx 6)] (c_X5_read l D k b (lq [qx 4, qhr 1]) (lS [(lI []), (shr 1)]) qhc shc (lq [qx 3, qt 1]) (lS [(lI [0, (st 0 1)]), (st 1)]) (lq [qx 6, qd 1, qd 2, qd 3, qd 4, qd 5]) (lS [(lI [(sd 0 0), (sd 0 1), 0, 0, 0, 0, (sd 0 6), (sd 0 7), (sd 0 8), (sd 0 9), (sd 0 10), (sd 0 11), (sd 0 12)]), (sd 1), (sd 2), (sd 3), (sd 4), (sd 5)]) H.size (show 0 ≤ (st 0 1).toInt ∧ (st 0 1).toInt ≤ 64 from by first | decide | omega) u_a (show 0 ≤ ((shr 1) 3).toInt ∧ ((shr 1) 3).toInt ≤ 7 from by first | decide | omega) (show 0 ≤ ((shr 1) 16).toInt ∧ ((shr 1) 16).toInt ≤ 7 from by first | decide | omega) d_of d_go) gX11_fault_X5_read rfl rfl rfl nd_X5_read ⟨Nat.le_of_ble_eq_true rfl, Nat.le_of_ble_eq_true rfl⟩ (ci := 3) (q0 := 0) rfl rfl rfl hl.1 rfl (Nat.le_of_ble_eq_true rfl) ⟨Nat.zero_le _, Nat.zero_le _⟩ dX11_fault_22) cx.2.2.1 hP hD hS [3, 4, 5, 6, 7, 8, 9, 10, 11, 12, 13] rfl (fun _ => rfl) (fun r4 u3 H locs hw2 hP hD hS => ?_)
    obtain ⟨m5, m6, m7, m8, m9, m10, m11, m12, m13, m14, m15, m16, m17, m18, m19, m20⟩ := u3
    have hP : va_P D vwCl [cell30_ qx sx, cell28_ k qx sx, cell29_ k qx sx, cell39_ qx qhc qhr, (qhr 1, .inl (k 0, 26, .inl m7)), cell72_ qhc qx m5 m6, cell37_ qx qt st, cell27_ k qt st, cell83_ qx qd m8 m9 m14 m15 m16 m17 m18 m19 m20, (qd 1, .inl (k 0, 5, .inl m10)), (qd 2, .inl (k 0, 5, .inl m11)), (qd 3, .inl (k 0, 3, .inl m12)), (qd 4, .inl (k 0, 3, .inl m13)), cell2_ k qd sd, cell46_ qx qrc qrr srr, cell0_ k qrr srr, cell33_ qrc qx src] H := hP
    have hD : va_D A [cell30_ qx sx, cell28_ k qx sx, cell29_ k qx sx, cell39_ qx qhc qhr, (qhr 1, .inl (k 0, 26, .inl m7)), cell72_ qhc qx m5 m6, cell37_ qx qt st, cell27_ k qt st, cell83_ qx qd m8 m9 m14 m15 m16 m17 m18 m19 m20, (qd 1, .inl (k 0, 5, .inl m10)), (qd 2, .inl (k 0, 5, .inl m11)), (qd 3, .inl (k 0, 3, .inl m12)), (qd 4, .inl (k 0, 3, .inl m13)), cell2_ k qd sd, cell46_ qx qrc qrr srr, cell0_ k qrr srr, cell33_ qrc qx src] := hD
    replace hw2 : (∀ j, 0 ≤ (m7 j).toInt ∧ (m7 j).toInt ≤ 31) ∧ (0 ≤ (m7 3).toInt ∧ (m7 3).toInt ≤ 7) ∧ (0 ≤ (m7 16).toInt ∧ (m7 16).toInt ≤ 7) ∧ (0 ≤ m8.toInt ∧ m8.toInt ≤ 5) ∧ (0 ≤ m9.toInt ∧ m9.toInt ≤ 4) ∧ (0 ≤ m20.toInt ∧ m20.toInt ≤ 5) ∧ (∀ j, 0 ≤ (m11 j).toInt ∧ (m11 j).toInt ≤ 4) ∧ (∀ j, 0 ≤ (m12 j).toInt ∧ (m12 j).toInt ≤ 5) ∧ ((r4, m5, m6, m7, m8, m9, m10, m11, m12, m13, m14, m15, m16, m17, m18, m19, m20) = J_X5_read (lS [(lI []), (shr 1)]) shc (lS [(lI [0, (st 0 1)]), (st 1)]) (lS [(lI [(sd 0 0), (sd 0 1), 0, 0, 0, 0, (sd 0 6), (sd 0 7), (sd 0 8), (sd 0 9), (sd 0 10), (sd 0 11), (sd 0 12)]), (sd 1), (sd 2), (sd 3), (sd 4), (sd 5)])) := hw2
    obtain ⟨w21, w22, w23, w24, w25, w26, w27, w28, w29⟩ := hw2
    rw [hQ]
    exact x_i cx hr (m5, m6, m7, m8, m9, m10, m11, m12, m13, m14, m15, m16, m17, m18, m19, m20, (src 0 1), (src 0 2), (srr 0 3), (srr 1), (srr 0 2)) hP hD hS ⟨w21, (show 0 ≤ (m7 3).toInt ∧ (m7 3).toInt ≤ 7 from by omega), (show 0 ≤ (m7 16).toInt ∧ (m7 16).toInt ≤ 7 from by omega), w27, w28, (show (r4, m5, m6, m7, m8, m9, m10, m11, m12, m13, m14, m15, m16, m17, m18, m19, m20, (src 0 1), (src 0 2), (srr 0 3), (srr 1), (srr 0 2)) = J_X11_fault sx shr shc st sd srr src p0 from (exl_X11_fault_0 c1 w29))⟩ dX11_fault_25
  · have f1 : ¬ p0.toInt = 0 := f_ne rfl (by decide) c1
    refine lv_aload_n hx hb dX11_fault_4 rfl (lv_at hl 0 rfl) ?_
    refine g_get cx hP iw_X11_fault_X11 0 rfl rfl 2 (by decide) rfl fw_X11_fault_28 rfl dX11_fault_5 ?_
    refine g_i (w1 := fun (u : Int32 × Int32 × Int32 × (Nat → Int32) × Int32) => [cell90_ qx qrc qrr (u.2.2.2.2) (u.2.2.1), cell85_ k qrr (u.2.2.2.1), cell72_ qrc qx (u.1) (u.2.1), cell37_ qx qt st, cell27_ k qt st]) (g_runV (wc := [cell46_ qx qrc qrr srr, cell0_ k qrr srr, cell33_ qrc qx src, cell37_ qx qt st, cell27_ k qt st]) (rest := []) cx hP hD hS [14, 15, 16, 6, 7] rfl (by decide) [] (c_X8_read l D k b (lq [qx 5, qrr 1]) (lS [(lI [0, 0, (srr 0 2), (srr 0 3)]), (srr 1)]) qrc src (lq [qx 3, qt 1]) (lS [(lI [0, (st 0 1)]), (st 1)]) H.size (show 0 ≤ (st 0 1).toInt ∧ (st 0 1).toInt ≤ 64 from by first | decide | omega)) gX11_fault_X8_read rfl rfl rfl nd_X8_read ⟨Nat.le_of_ble_eq_true rfl, Nat.le_of_ble_eq_true rfl⟩ (ci := 6) (q0 := 0) rfl rfl rfl hl.1 rfl (Nat.le_of_ble_eq_true rfl) ⟨Nat.zero_le _, Nat.zero_le _⟩ dX11_fault_8) cx.2.2.1 hP hD hS [14, 15, 16, 6, 7] rfl (fun _ => rfl) (fun r33 u32 H locs hw31 hP hD hS => ?_)
    obtain ⟨m34, m35, m36, m37, m38⟩ := u32
    have hP : va_P D vwCl [cell30_ qx sx, cell28_ k qx sx, cell29_ k qx sx, cell39_ qx qhc qhr, cell5_ k qhr shr, cell33_ qhc qx shc, cell37_ qx qt st, cell27_ k qt st, cell45_ qx sd qd, cell0_ k qd sd, cell1_ k qd sd, cell4_ k qd sd, cell3_ k qd sd, cell2_ k qd sd, cell90_ qx qrc qrr m38 m36, (qrr 1, .inl (k 0, 5, .inl m37)), cell72_ qrc qx m34 m35] H := hP
    have hD : va_D A [cell30_ qx sx, cell28_ k qx sx, cell29_ k qx sx, cell39_ qx qhc qhr, cell5_ k qhr shr, cell33_ qhc qx shc, cell37_ qx qt st, cell27_ k qt st, cell45_ qx sd qd, cell0_ k qd sd, cell1_ k qd sd, cell4_ k qd sd, cell3_ k qd sd, cell2_ k qd sd, cell90_ qx qrc qrr m38 m36, (qrr 1, .inl (k 0, 5, .inl m37)), cell72_ qrc qx m34 m35] := hD
    replace hw31 : (0 ≤ m36.toInt ∧ m36.toInt ≤ 31) ∧ ((r33, m34, m35, m36, m37, m38) = J_X8_read (lS [(lI [0, 0, (srr 0 2), (srr 0 3)]), (srr 1)]) src (lS [(lI [0, (st 0 1)]), (st 1)])) := hw31
    obtain ⟨w39, w40⟩ := hw31
    refine lv_goto (tgt := 25) hx hb dX11_fault_11 (by decide) ?_
    rw [hQ]
    exact x_i cx hr ((shc 0 1), (shc 0 2), (shr 1), (sd 0 0), (sd 0 1), (sd 1), (sd 2), (sd 3), (sd 4), (sd 0 6), (sd 0 7), (sd 0 8), (sd 0 9), (sd 0 10), (sd 0 11), (sd 0 12), m34, m35, m36, m37, m38) hP hD hS ⟨u_a, (show 0 ≤ ((shr 1) 3).toInt ∧ ((shr 1) 3).toInt ≤ 7 from by omega), (show 0 ≤ ((shr 1) 16).toInt ∧ ((shr 1) 16).toInt ≤ 7 from by omega), d_of, d_go, (show (r33, (shc 0 1), (shc 0 2), (shr 1), (sd 0 0), (sd 0 1), (sd 1), (sd 2), (sd 3), (sd 4), (sd 0 6), (sd 0 7), (sd 0 8), (sd 0 9), (sd 0 10), (sd 0 11), (sd 0 12), m34, m35, m36, m37, m38) = J_X11_fault sx shr shc st sd srr src p0 from (exl_X11_fault_1 c1 w40))⟩ dX11_fault_25
theorem fw_X11_make_119 : Cond.fieldLink RX11 119 "StillInAugust" "planned" "Z" ∈ wsX11_make := by decide +kernel
theorem fw_X11_make_126 : Cond.fieldLink RX11 126 "StillInAugust$House" "weeks" "I" ∈ wsX11_make := by decide +kernel
theorem fw_X11_make_21 : Cond.fieldLink RX11 21 "StillInAugust" "houseReader" "LStillInAugust$HouseReader;" ∈ wsX11_make := by decide +kernel
theorem fw_X11_make_35 : Cond.fieldLink RX11 35 "StillInAugust" "draft" "LStillInAugust$House;" ∈ wsX11_make := by decide +kernel
theorem fw_X11_make_39 : Cond.fieldLink RX11 39 "StillInAugust" "house" "LStillInAugust$House;" ∈ wsX11_make := by decide +kernel
theorem fw_X11_make_69 : Cond.fieldLink RX11 69 "StillInAugust" "summer" "LStillInAugust$Summer;" ∈ wsX11_make := by decide +kernel
theorem fw_X11_make_79 : Cond.fieldLink RX11 79 "StillInAugust" "kept" "[Z" ∈ wsX11_make := by decide +kernel
theorem fw_X11_make_90 : Cond.fieldLink RX11 90 "StillInAugust" "bareMeans" "I" ∈ wsX11_make := by decide +kernel
theorem nd_X4_copy : yX4_copy.cls = RX4 ∧ yX4_copy.cls ≠ "java/lang/invoke/MethodHandle" ∧ yX4_copy.cls ≠ "java/lang/invoke/VarHandle" ∧ (parseMethodDescriptor yX4_copy.desc).map (fun d => d.parameters.length) = some 2 := by decide +kernel
theorem iw_X11_make_X11 : ∀ w ∈ u_ws RX11 TX11 17, w ∈ wsX11_make := fun _ h => List.mem_cons_of_mem _ (List.mem_append_left _ (List.mem_append_left _ (List.mem_append_left _ (List.mem_append_left _ (List.mem_append_left _ (List.mem_append_right _ h))))))
theorem iw_X11_make_X4 : ∀ w ∈ u_ws RX4 TX4 14, w ∈ wsX11_make := fun _ h => List.mem_cons_of_mem _ (List.mem_append_left _ (List.mem_append_left _ (List.mem_append_left _ (List.mem_append_left _ (List.mem_append_right _ h)))))
def J_X11_make (sx : Nat → Nat → Int32) (shr : Nat → Nat → Int32) (shc : Nat → Nat → Int32) (st : Nat → Nat → Int32) (sd : Nat → Nat → Int32) (sh : Nat → Nat → Int32) (ssu : Nat → Nat → Int32) : Int32 × (Nat → Int32) × Int32 × Int32 × (Nat → Int32) × (Nat → Int32) × (Nat → Int32) × (Nat → Int32) × Int32 × Int32 × Int32 × Int32 × Int32 × Int32 × Int32 × (Nat → Int32) × Int32 × Int32 × Int32 × Int32 × Int32 × Int32 × (Nat → Int32) := LetF (J_X5_read (lS [(lI []), (shr 1)]) shc (lS [(lI [0, (st 0 1)]), (st 1)]) (lS [(lI [(sd 0 0), (sd 0 1), 0, 0, 0, 0, (sd 0 6), (sd 0 7), (sd 0 8), (sd 0 9), (sd 0 10), (sd 0 11), (sd 0 12)]), (sd 1), (sd 2), (sd 3), (sd 4), (sd 5)])) (fun y29 => if (y29.1) = (-9) then LetF (J_X4_copy (lS [(lI [(sh 0 0), (sh 0 1), 0, 0, 0, 0, (sh 0 6), (sh 0 7), (sh 0 8), (sh 0 9), (sh 0 10), (sh 0 11), (sh 0 12)]), (sh 1), (sh 2), (sh 3), (sh 4), (sh 5)]) (lS [(lI [(y29.2.2.2.2.1), (y29.2.2.2.2.2.1), 0, 0, 0, 0, (y29.2.2.2.2.2.2.2.2.2.2.1), (y29.2.2.2.2.2.2.2.2.2.2.2.1), (y29.2.2.2.2.2.2.2.2.2.2.2.2.1), (y29.2.2.2.2.2.2.2.2.2.2.2.2.2.1), (y29.2.2.2.2.2.2.2.2.2.2.2.2.2.2.1), (y29.2.2.2.2.2.2.2.2.2.2.2.2.2.2.2.1), (y29.2.2.2.2.2.2.2.2.2.2.2.2.2.2.2.2)]), (y29.2.2.2.2.2.2.1), (y29.2.2.2.2.2.2.2.1), (y29.2.2.2.2.2.2.2.2.1), (y29.2.2.2.2.2.2.2.2.2.1), (sd 5)]) 0) (fun y56 => LetF (J_X9_begin (lS [(lI [(ssu 0 0), (ssu 0 1), (ssu 0 2), (ssu 0 3), (ssu 0 4), (ssu 0 5)])])) (fun y70 => ((y56.1), (y29.2.2.2.1), (y56.1), (y56.2.1), (y56.2.2.1), (y56.2.2.2.1), (y56.2.2.2.2.1), (y56.2.2.2.2.2.1), (y56.2.2.2.2.2.2.1), (y56.2.2.2.2.2.2.2.1), (y56.2.2.2.2.2.2.2.2.1), (y56.2.2.2.2.2.2.2.2.2.1), (y56.2.2.2.2.2.2.2.2.2.2.1), (y56.2.2.2.2.2.2.2.2.2.2.2.1), (y56.2.2.2.2.2.2.2.2.2.2.2.2.1), (y56.2.2.2.2.2.2.2.2.2.2.2.2.2), (y70.1), (y70.2.1), (y70.2.2.1), (y70.2.2.2.1), (y70.2.2.2.2.1), (y70.2.2.2.2.2), (PFn (fun _ => vp_nar .boolean 0) 2 (sx 2))))) else (((-3) : Int32), (y29.2.2.2.1), (sh 0 0), (sh 0 1), (sh 1), (sh 2), (sh 3), (sh 4), (sh 0 6), (sh 0 7), (sh 0 8), (sh 0 9), (sh 0 10), (sh 0 11), (sh 0 12), (sh 5), (ssu 0 0), (ssu 0 1), (ssu 0 2), (ssu 0 3), (ssu 0 4), (ssu 0 5), (sx 2)))
theorem exl_X11_make_0 {sx : Nat → Nat → Int32} {shr : Nat → Nat → Int32} {shc : Nat → Nat → Int32} {st : Nat → Nat → Int32} {sd : Nat → Nat → Int32} {sh : Nat → Nat → Int32} {ssu : Nat → Nat → Int32} {m34 : Int32} {m6 : Nat → Int32} {m35 : Int32} {m36 : Nat → Int32} {m37 : Nat → Int32} {m38 : Nat → Int32} {m39 : Nat → Int32} {m40 : Int32} {m41 : Int32} {m42 : Int32} {m43 : Int32} {m44 : Int32} {m45 : Int32} {m46 : Int32} {m47 : Nat → Int32} {m61 : Int32} {m62 : Int32} {m63 : Int32} {m64 : Int32} {m65 : Int32} {m66 : Int32} {g75 : Nat → Int32} {r3 : Int32} {m4 : Int32} {m5 : Int32} {m7 : Int32} {m8 : Int32} {m9 : Nat → Int32} {m10 : Nat → Int32} {m11 : Nat → Int32} {m12 : Nat → Int32} {m13 : Int32} {m14 : Int32} {m15 : Int32} {m16 : Int32} {m17 : Int32} {m18 : Int32} {m19 : Int32} (qK_e : g75 = (PFn (fun _ => vp_nar .boolean 0) 2 (sx 2))) (w28 : (r3, m4, m5, m6, m7, m8, m9, m10, m11, m12, m13, m14, m15, m16, m17, m18, m19) = J_X5_read (lS [(lI []), (shr 1)]) shc (lS [(lI [0, (st 0 1)]), (st 1)]) (lS [(lI [(sd 0 0), (sd 0 1), 0, 0, 0, 0, (sd 0 6), (sd 0 7), (sd 0 8), (sd 0 9), (sd 0 10), (sd 0 11), (sd 0 12)]), (sd 1), (sd 2), (sd 3), (sd 4), (sd 5)])) (c30 : r3 = ((-9) : Int32)) (w55 : (m34, m35, m36, m37, m38, m39, m40, m41, m42, m43, m44, m45, m46, m47) = J_X4_copy (lS [(lI [(sh 0 0), (sh 0 1), 0, 0, 0, 0, (sh 0 6), (sh 0 7), (sh 0 8), (sh 0 9), (sh 0 10), (sh 0 11), (sh 0 12)]), (sh 1), (sh 2), (sh 3), (sh 4), (sh 5)]) (lS [(lI [m7, m8, 0, 0, 0, 0, m13, m14, m15, m16, m17, m18, m19]), m9, m10, m11, m12, (sd 5)]) (0 : Int32)) (w69 : (m61, m62, m63, m64, m65, m66) = J_X9_begin (lS [(lI [(ssu 0 0), (ssu 0 1), (ssu 0 2), (ssu 0 3), (ssu 0 4), (ssu 0 5)])])) : (m34, m6, m34, m35, m36, m37, m38, m39, m40, m41, m42, m43, m44, m45, m46, m47, m61, m62, m63, m64, m65, m66, g75) = J_X11_make sx shr shc st sd sh ssu := by subst qK_e; refine Eq.symm ?_; unfold J_X11_make; refine lt_e w28 ?_; refine Eq.trans (if_pos c30) ?_; refine lt_e w55 ?_; refine lt_e w69 ?_; rfl
theorem exl_X11_make_1 {sx : Nat → Nat → Int32} {shr : Nat → Nat → Int32} {shc : Nat → Nat → Int32} {st : Nat → Nat → Int32} {sd : Nat → Nat → Int32} {sh : Nat → Nat → Int32} {ssu : Nat → Nat → Int32} {m6 : Nat → Int32} {r3 : Int32} {m4 : Int32} {m5 : Int32} {m7 : Int32} {m8 : Int32} {m9 : Nat → Int32} {m10 : Nat → Int32} {m11 : Nat → Int32} {m12 : Nat → Int32} {m13 : Int32} {m14 : Int32} {m15 : Int32} {m16 : Int32} {m17 : Int32} {m18 : Int32} {m19 : Int32} (w28 : (r3, m4, m5, m6, m7, m8, m9, m10, m11, m12, m13, m14, m15, m16, m17, m18, m19) = J_X5_read (lS [(lI []), (shr 1)]) shc (lS [(lI [0, (st 0 1)]), (st 1)]) (lS [(lI [(sd 0 0), (sd 0 1), 0, 0, 0, 0, (sd 0 6), (sd 0 7), (sd 0 8), (sd 0 9), (sd 0 10), (sd 0 11), (sd 0 12)]), (sd 1), (sd 2), (sd 3), (sd 4), (sd 5)])) (c30 : ¬ (r3 = ((-9) : Int32))) : (((-3) : Int32), m6, (sh 0 0), (sh 0 1), (sh 1), (sh 2), (sh 3), (sh 4), (sh 0 6), (sh 0 7), (sh 0 8), (sh 0 9), (sh 0 10), (sh 0 11), (sh 0 12), (sh 5), (ssu 0 0), (ssu 0 1), (ssu 0 2), (ssu 0 3), (ssu 0 4), (ssu 0 5), (sx 2)) = J_X11_make sx shr shc st sd sh ssu := by refine Eq.symm ?_; unfold J_X11_make; refine lt_e w28 ?_; refine Eq.trans (if_neg c30) ?_; rfl
set_option maxHeartbeats 4000000 in
set_option maxRecDepth 100000 in
theorem c_X11_make (l : Launch) (D : va_G) (k : Nat → ClassId) (b : Nat → Nat) (qx : Nat → Nat) (sx : Nat → Nat → Int32) (qhr : Nat → Nat) (shr : Nat → Nat → Int32) (qhc : Nat → Nat) (shc : Nat → Nat → Int32) (qt : Nat → Nat) (st : Nat → Nat → Int32) (qd : Nat → Nat) (sd : Nat → Nat → Int32) (qh : Nat → Nat) (sh : Nat → Nat → Int32) (qsu : Nat → Nat) (ssu : Nat → Nat → Int32) (sz : Nat) (h_len : 0 ≤ (st 0 1).toInt ∧ (st 0 1).toInt ≤ 64) (u_a : ∀ j, 0 ≤ (shr 1 j).toInt ∧ (shr 1 j).toInt ≤ 31) (u_3 : 0 ≤ (shr 1 3).toInt ∧ (shr 1 3).toInt ≤ 7) (u_16 : 0 ≤ (shr 1 16).toInt ∧ (shr 1 16).toInt ≤ 7) (d_of : ∀ j, 0 ≤ (sd 2 j).toInt ∧ (sd 2 j).toInt ≤ 4) (d_go : ∀ j, 0 ≤ (sd 3 j).toInt ∧ (sd 3 j).toInt ≤ 5) (h_wk : 0 ≤ (sh 0 0).toInt ∧ (sh 0 0).toInt ≤ 5) (h_hk : 0 ≤ (sh 0 1).toInt ∧ (sh 0 1).toInt ≤ 4) (h_fl : 0 ≤ (sh 0 12).toInt ∧ (sh 0 12).toInt ≤ 5) (h_of : ∀ j, 0 ≤ (sh 2 j).toInt ∧ (sh 2 j).toInt ≤ 4) (h_go : ∀ j, 0 ≤ (sh 3 j).toInt ∧ (sh 3 j).toInt ≤ 5) (h_su : SUok (sh 5)) (s_h : 0 ≤ (ssu 0 1).toInt ∧ (ssu 0 1).toInt ≤ 400 ∧ tot (ssu 0 1) ≤ 4) (s_w : 0 ≤ (ssu 0 0).toInt ∧ (ssu 0 0).toInt ≤ 5) (s_k : 0 ≤ (ssu 0 4).toInt ∧ (ssu 0 4).toInt ≤ 1) (s_x : (ssu 0 4).toInt = 0 ∨ (ssu 0 0).toInt ≤ 4) : MetI l D k b yX11_make wsX11_make ({ frames := 8, cells := 0, slots := 0, locals := 173 } : Room) [cell30_ qx sx, cell28_ k qx sx, cell29_ k qx sx, cell39_ qx qhc qhr, cell5_ k qhr shr, cell33_ qhc qx shc, cell37_ qx qt st, cell27_ k qt st, cell45_ qx sd qd, cell0_ k qd sd, cell1_ k qd sd, cell4_ k qd sd, cell3_ k qd sd, cell2_ k qd sd, cell31_ qx sh qh, cell0_ k qh sh, cell1_ k qh sh, cell4_ k qh sh, cell3_ k qh sh, cell2_ k qh sh, cell38_ qx ssu] sz [.ref (qx 0)] (fun (r : Int32) (u : Int32 × Int32 × (Nat → Int32) × Int32 × Int32 × (Nat → Int32) × (Nat → Int32) × (Nat → Int32) × (Nat → Int32) × Int32 × Int32 × Int32 × Int32 × Int32 × Int32 × Int32 × Int32 × Int32 × (Nat → Int32) × (Nat → Int32) × (Nat → Int32) × (Nat → Int32) × Int32 × Int32 × Int32 × Int32 × Int32 × Int32 × Int32 × (Nat → Int32) × Int32 × Int32 × Int32 × Int32 × Int32 × Int32 × (Nat → Int32) × Int32 × Int32) => (∀ j, 0 ≤ ((u.2.2.1) j).toInt ∧ ((u.2.2.1) j).toInt ≤ 31) ∧ (0 ≤ ((u.2.2.1) 3).toInt ∧ ((u.2.2.1) 3).toInt ≤ 7) ∧ (0 ≤ ((u.2.2.1) 16).toInt ∧ ((u.2.2.1) 16).toInt ≤ 7) ∧ (∀ j, 0 ≤ ((u.2.2.2.2.2.2.1) j).toInt ∧ ((u.2.2.2.2.2.2.1) j).toInt ≤ 4) ∧ (∀ j, 0 ≤ ((u.2.2.2.2.2.2.2.1) j).toInt ∧ ((u.2.2.2.2.2.2.2.1) j).toInt ≤ 5) ∧ (0 ≤ (u.2.2.2.2.2.2.2.2.2.2.2.2.2.2.2.2.1).toInt ∧ (u.2.2.2.2.2.2.2.2.2.2.2.2.2.2.2.2.1).toInt ≤ 5) ∧ (0 ≤ (u.2.2.2.2.2.2.2.2.2.2.2.2.2.2.2.2.2.1).toInt ∧ (u.2.2.2.2.2.2.2.2.2.2.2.2.2.2.2.2.2.1).toInt ≤ 4) ∧ (0 ≤ (u.2.2.2.2.2.2.2.2.2.2.2.2.2.2.2.2.2.2.2.2.2.2.2.2.2.2.2.2.1).toInt ∧ (u.2.2.2.2.2.2.2.2.2.2.2.2.2.2.2.2.2.2.2.2.2.2.2.2.2.2.2.2.1).toInt ≤ 5) ∧ (∀ j, 0 ≤ ((u.2.2.2.2.2.2.2.2.2.2.2.2.2.2.2.2.2.2.2.1) j).toInt ∧ ((u.2.2.2.2.2.2.2.2.2.2.2.2.2.2.2.2.2.2.2.1) j).toInt ≤ 4) ∧ (∀ j, 0 ≤ ((u.2.2.2.2.2.2.2.2.2.2.2.2.2.2.2.2.2.2.2.2.1) j).toInt ∧ ((u.2.2.2.2.2.2.2.2.2.2.2.2.2.2.2.2.2.2.2.2.1) j).toInt ≤ 5) ∧ (SUok (u.2.2.2.2.2.2.2.2.2.2.2.2.2.2.2.2.2.2.2.2.2.2.2.2.2.2.2.2.2.1)) ∧ (0 ≤ (u.2.2.2.2.2.2.2.2.2.2.2.2.2.2.2.2.2.2.2.2.2.2.2.2.2.2.2.2.2.2.2.1).toInt ∧ (u.2.2.2.2.2.2.2.2.2.2.2.2.2.2.2.2.2.2.2.2.2.2.2.2.2.2.2.2.2.2.2.1).toInt ≤ 400 ∧ tot (u.2.2.2.2.2.2.2.2.2.2.2.2.2.2.2.2.2.2.2.2.2.2.2.2.2.2.2.2.2.2.2.1) ≤ 4) ∧ (0 ≤ (u.2.2.2.2.2.2.2.2.2.2.2.2.2.2.2.2.2.2.2.2.2.2.2.2.2.2.2.2.2.2.1).toInt ∧ (u.2.2.2.2.2.2.2.2.2.2.2.2.2.2.2.2.2.2.2.2.2.2.2.2.2.2.2.2.2.2.1).toInt ≤ 5) ∧ (0 ≤ (u.2.2.2.2.2.2.2.2.2.2.2.2.2.2.2.2.2.2.2.2.2.2.2.2.2.2.2.2.2.2.2.2.2.2.1).toInt ∧ (u.2.2.2.2.2.2.2.2.2.2.2.2.2.2.2.2.2.2.2.2.2.2.2.2.2.2.2.2.2.2.2.2.2.2.1).toInt ≤ 1) ∧ ((u.2.2.2.2.2.2.2.2.2.2.2.2.2.2.2.2.2.2.2.2.2.2.2.2.2.2.2.2.2.2.2.2.2.2.1).toInt = 0 ∨ (u.2.2.2.2.2.2.2.2.2.2.2.2.2.2.2.2.2.2.2.2.2.2.2.2.2.2.2.2.2.2.1).toInt ≤ 4) ∧ (((u.2.2.2.2.2.2.2.2.2.2.2.2.2.2.2.2.2.2.2.2.2.2.2.2.2.2.2.2.2.2.2.2.2.2.2.2.2.1).toInt = 0 ∧ (u.2.2.2.2.2.2.2.2.2.2.2.2.2.2.2.2.2.2.2.2.2.2.2.2.2.2.2.2.2.2.2.2.2.2.2.2.2.2).toInt = -9) ∨ ((u.2.2.2.2.2.2.2.2.2.2.2.2.2.2.2.2.2.2.2.2.2.2.2.2.2.2.2.2.2.2.2.2.2.2.2.2.2.1).toInt = (sx 0 15).toInt ∧ (u.2.2.2.2.2.2.2.2.2.2.2.2.2.2.2.2.2.2.2.2.2.2.2.2.2.2.2.2.2.2.2.2.2.2.2.2.2.2).toInt = (sx 0 16).toInt ∧ (u.2.2.2.2.2.2.2.2.2.2.2.2.2.2.2.2.1).toInt = (sh 0 0).toInt)) ∧ ((r, (u.2.2.1), (u.2.2.2.2.2.2.2.2.2.2.2.2.2.2.2.2.1), (u.2.2.2.2.2.2.2.2.2.2.2.2.2.2.2.2.2.1), (u.2.2.2.2.2.2.2.2.2.2.2.2.2.2.2.2.2.2.1), (u.2.2.2.2.2.2.2.2.2.2.2.2.2.2.2.2.2.2.2.1), (u.2.2.2.2.2.2.2.2.2.2.2.2.2.2.2.2.2.2.2.2.1), (u.2.2.2.2.2.2.2.2.2.2.2.2.2.2.2.2.2.2.2.2.2.1), (u.2.2.2.2.2.2.2.2.2.2.2.2.2.2.2.2.2.2.2.2.2.2.1), (u.2.2.2.2.2.2.2.2.2.2.2.2.2.2.2.2.2.2.2.2.2.2.2.1), (u.2.2.2.2.2.2.2.2.2.2.2.2.2.2.2.2.2.2.2.2.2.2.2.2.1), (u.2.2.2.2.2.2.2.2.2.2.2.2.2.2.2.2.2.2.2.2.2.2.2.2.2.1), (u.2.2.2.2.2.2.2.2.2.2.2.2.2.2.2.2.2.2.2.2.2.2.2.2.2.2.1), (u.2.2.2.2.2.2.2.2.2.2.2.2.2.2.2.2.2.2.2.2.2.2.2.2.2.2.2.1), (u.2.2.2.2.2.2.2.2.2.2.2.2.2.2.2.2.2.2.2.2.2.2.2.2.2.2.2.2.1), (u.2.2.2.2.2.2.2.2.2.2.2.2.2.2.2.2.2.2.2.2.2.2.2.2.2.2.2.2.2.1), (u.2.2.2.2.2.2.2.2.2.2.2.2.2.2.2.2.2.2.2.2.2.2.2.2.2.2.2.2.2.2.1), (u.2.2.2.2.2.2.2.2.2.2.2.2.2.2.2.2.2.2.2.2.2.2.2.2.2.2.2.2.2.2.2.1), (u.2.2.2.2.2.2.2.2.2.2.2.2.2.2.2.2.2.2.2.2.2.2.2.2.2.2.2.2.2.2.2.2.1), (u.2.2.2.2.2.2.2.2.2.2.2.2.2.2.2.2.2.2.2.2.2.2.2.2.2.2.2.2.2.2.2.2.2.1), (u.2.2.2.2.2.2.2.2.2.2.2.2.2.2.2.2.2.2.2.2.2.2.2.2.2.2.2.2.2.2.2.2.2.2.1), (u.2.2.2.2.2.2.2.2.2.2.2.2.2.2.2.2.2.2.2.2.2.2.2.2.2.2.2.2.2.2.2.2.2.2.2.1), (u.2.2.2.2.2.2.2.2.2.2.2.2.2.2.2.2.2.2.2.2.2.2.2.2.2.2.2.2.2.2.2.2.2.2.2.2.1)) = J_X11_make sx shr shc st sd sh ssu)) (fun u => [cell125_ qx (u.2.2.2.2.2.2.2.2.2.2.2.2.2.2.2.2.2.2.2.2.2.2.2.2.2.2.2.2.2.2.2.2.2.2.2.2.2.1) (u.2.2.2.2.2.2.2.2.2.2.2.2.2.2.2.2.2.2.2.2.2.2.2.2.2.2.2.2.2.2.2.2.2.2.2.2.2.2), cell28_ k qx sx, cell208_ k qx (u.2.2.2.2.2.2.2.2.2.2.2.2.2.2.2.2.2.2.2.2.2.2.2.2.2.2.2.2.2.2.2.2.2.2.2.2.1), cell39_ qx qhc qhr, cell107_ k qhr (u.2.2.1), cell72_ qhc qx (u.1) (u.2.1), cell37_ qx qt st, cell27_ k qt st, cell83_ qx qd (u.2.2.2.1) (u.2.2.2.2.1) (u.2.2.2.2.2.2.2.2.2.1) (u.2.2.2.2.2.2.2.2.2.2.1) (u.2.2.2.2.2.2.2.2.2.2.2.1) (u.2.2.2.2.2.2.2.2.2.2.2.2.1) (u.2.2.2.2.2.2.2.2.2.2.2.2.2.1) (u.2.2.2.2.2.2.2.2.2.2.2.2.2.2.1) (u.2.2.2.2.2.2.2.2.2.2.2.2.2.2.2.1), cell85_ k qd (u.2.2.2.2.2.1), cell97_ k qd (u.2.2.2.2.2.2.1), cell102_ k qd (u.2.2.2.2.2.2.2.1), cell103_ k qd (u.2.2.2.2.2.2.2.2.1), cell2_ k qd sd, cell110_ qx qh (u.2.2.2.2.2.2.2.2.2.2.2.2.2.2.2.2.1) (u.2.2.2.2.2.2.2.2.2.2.2.2.2.2.2.2.2.1) (u.2.2.2.2.2.2.2.2.2.2.2.2.2.2.2.2.2.2.2.2.2.2.1) (u.2.2.2.2.2.2.2.2.2.2.2.2.2.2.2.2.2.2.2.2.2.2.2.1) (u.2.2.2.2.2.2.2.2.2.2.2.2.2.2.2.2.2.2.2.2.2.2.2.2.1) (u.2.2.2.2.2.2.2.2.2.2.2.2.2.2.2.2.2.2.2.2.2.2.2.2.2.1) (u.2.2.2.2.2.2.2.2.2.2.2.2.2.2.2.2.2.2.2.2.2.2.2.2.2.2.1) (u.2.2.2.2.2.2.2.2.2.2.2.2.2.2.2.2.2.2.2.2.2.2.2.2.2.2.2.1) (u.2.2.2.2.2.2.2.2.2.2.2.2.2.2.2.2.2.2.2.2.2.2.2.2.2.2.2.2.1), cell85_ k qh (u.2.2.2.2.2.2.2.2.2.2.2.2.2.2.2.2.2.2.1), cell97_ k qh (u.2.2.2.2.2.2.2.2.2.2.2.2.2.2.2.2.2.2.2.1), cell102_ k qh (u.2.2.2.2.2.2.2.2.2.2.2.2.2.2.2.2.2.2.2.2.1), cell103_ k qh (u.2.2.2.2.2.2.2.2.2.2.2.2.2.2.2.2.2.2.2.2.2.1), cell164_ k qh (u.2.2.2.2.2.2.2.2.2.2.2.2.2.2.2.2.2.2.2.2.2.2.2.2.2.2.2.2.2.1), cell91_ qx (u.2.2.2.2.2.2.2.2.2.2.2.2.2.2.2.2.2.2.2.2.2.2.2.2.2.2.2.2.2.2.1) (u.2.2.2.2.2.2.2.2.2.2.2.2.2.2.2.2.2.2.2.2.2.2.2.2.2.2.2.2.2.2.2.1) (u.2.2.2.2.2.2.2.2.2.2.2.2.2.2.2.2.2.2.2.2.2.2.2.2.2.2.2.2.2.2.2.2.1) (u.2.2.2.2.2.2.2.2.2.2.2.2.2.2.2.2.2.2.2.2.2.2.2.2.2.2.2.2.2.2.2.2.2.1) (u.2.2.2.2.2.2.2.2.2.2.2.2.2.2.2.2.2.2.2.2.2.2.2.2.2.2.2.2.2.2.2.2.2.2.1) (u.2.2.2.2.2.2.2.2.2.2.2.2.2.2.2.2.2.2.2.2.2.2.2.2.2.2.2.2.2.2.2.2.2.2.2.1)]) := by
  refine g_enter (cc := cX11_make) (maxL := 2) (ret := (some .int)) (by decide) rfl (Nat.le_of_ble_eq_true rfl) ?_
  intro p e s m below meth c A hsz hAe cx hr hP hD hS ls hl
  rw [hAe]
  refine g_q (fun Q hQ => ?_)
  have hx := cx.1.1
  have hb := cx.1.2.1
  have hl : lv_has ls 2 [(0, .ref (qx 0))] := hl
  obtain ⟨H, eH⟩ : ∃ H : Heap, H = s.heap := ⟨_, rfl⟩
  obtain ⟨locs, el⟩ : ∃ L : List Loc, L = [] := ⟨_, rfl⟩
  have hP : va_P D vwCl [cell30_ qx sx, cell28_ k qx sx, cell29_ k qx sx, cell39_ qx qhc qhr, cell5_ k qhr shr, cell33_ qhc qx shc, cell37_ qx qt st, cell27_ k qt st, cell45_ qx sd qd, cell0_ k qd sd, cell1_ k qd sd, cell4_ k qd sd, cell3_ k qd sd, cell2_ k qd sd, cell31_ qx sh qh, cell0_ k qh sh, cell1_ k qh sh, cell4_ k qh sh, cell3_ k qh sh, cell2_ k qh sh, cell38_ qx ssu] H := by rw [eH]; exact hP
  have hD : va_D A [cell30_ qx sx, cell28_ k qx sx, cell29_ k qx sx, cell39_ qx qhc qhr, cell5_ k qhr shr, cell33_ qhc qx shc, cell37_ qx qt st, cell27_ k qt st, cell45_ qx sd qd, cell0_ k qd sd, cell1_ k qd sd, cell4_ k qd sd, cell3_ k qd sd, cell2_ k qd sd, cell31_ qx sh qh, cell0_ k qh sh, cell1_ k qh sh, cell4_ k qh sh, cell3_ k qh sh, cell2_ k qh sh, cell38_ qx ssu] := hD
  have hS : va_S A s.heap H locs := by rw [eH, el]; exact hS
  suffices goal : W p l e ({ frames := 8, cells := 0, slots := 0, locals := 173 } : Room) s m ([.ref (qx 0)] : List Value).toArray below meth c H locs 0 0 Q (F0 m 0 ls []) by rw [eH, el] at goal; exact goal
  refine lv_aload_n hx hb dX11_make_0 rfl (lv_at hl 0 rfl) ?_
  refine g_get cx hP iw_X11_make_X11 0 rfl rfl 1 (by decide) rfl fw_X11_make_21 rfl dX11_make_1 ?_
  refine lv_aload_n hx hb dX11_make_4 rfl (lv_at hl 0 rfl) ?_
  refine g_get cx hP iw_X11_make_X11 0 rfl rfl 3 (by decide) rfl fw_X11_make_35 rfl dX11_make_5 ?_
  refine g_i (w1 := fun (u : Int32 × Int32 × (Nat → Int32) × Int32 × Int32 × (Nat → Int32) × (Nat → Int32) × (Nat → Int32) × (Nat → Int32) × Int32 × Int32 × Int32 × Int32 × Int32 × Int32 × Int32) => [cell39_ qx qhc qhr, cell107_ k qhr (u.2.2.1), cell72_ qhc qx (u.1) (u.2.1), cell37_ qx qt st, cell27_ k qt st, cell83_ qx qd (u.2.2.2.1) (u.2.2.2.2.1) (u.2.2.2.2.2.2.2.2.2.1) (u.2.2.2.2.2.2.2.2.2.2.1) (u.2.2.2.2.2.2.2.2.2.2.2.1) (u.2.2.2.2.2.2.2.2.2.2.2.2.1) (u.2.2.2.2.2.2.2.2.2.2.2.2.2.1) (u.2.2.2.2.2.2.2.2.2.2.2.2.2.2.1) (u.2.2.2.2.2.2.2.2.2.2.2.2.2.2.2), cell85_ k qd (u.2.2.2.2.2.1), cell97_ k qd (u.2.2.2.2.2.2.1), cell102_ k qd (u.2.2.2.2.2.2.2.1), cell103_ k qd (u.2.2.2.2.2.2.2.2.1), cell2_ k qd sd]) (g_runV (wc := [cell39_ qx qhc qhr, cell5_ k qhr shr, cell33_ qhc qx shc, cell37_ qx qt st, cell27_ k qt st, cell45_ qx sd qd, cell0_ k qd sd, cell1_ k qd sd, cell4_ k qd sd, cell3_ k qd sd, cell2_ k qd sd]) (rest := []) cx hP hD hS [3, 4, 5, 6, 7, 8, 9, 10, 11, 12, 13] rfl (by decide) [.ref (qx 6)] (c_X5_read l D k b (lq [qx 4, qhr 1]) (lS [(lI []), (shr 1)]) qhc shc (lq [qx 3, qt 1]) (lS [(lI [0, (st 0 1)]), (st 1)]) (lq [qx 6, qd 1, qd 2, qd 3, qd 4, qd 5]) (lS [(lI [(sd 0 0), (sd 0 1), 0, 0, 0, 0, (sd 0 6), (sd 0 7), (sd 0 8), (sd 0 9), (sd 0 10), (sd 0 11), (sd 0 12)]), (sd 1), (sd 2), (sd 3), (sd 4), (sd 5)]) H.size (show 0 ≤ (st 0 1).toInt ∧ (st 0 1).toInt ≤ 64 from by first | decide | omega) u_a (show 0 ≤ ((shr 1) 3).toInt ∧ ((shr 1) 3).toInt ≤ 7 from by first | decide | omega) (show 0 ≤ ((shr 1) 16).toInt ∧ ((shr 1) 16).toInt ≤ 7 from by first | decide | omega) d_of d_go) gX11_make_X5_read rfl rfl rfl nd_X5_read ⟨Nat.le_of_ble_eq_true rfl, Nat.le_of_ble_eq_true rfl⟩ (ci := 3) (q0 := 0) rfl rfl rfl hl.1 rfl (Nat.le_of_ble_eq_true rfl) ⟨Nat.zero_le _, Nat.zero_le _⟩ dX11_make_8) cx.2.2.1 hP hD hS [3, 4, 5, 6, 7, 8, 9, 10, 11, 12, 13] rfl (fun _ => rfl) (fun r3 u2 H locs hw1 hP hD hS => ?_)
  obtain ⟨m4, m5, m6, m7, m8, m9, m10, m11, m12, m13, m14, m15, m16, m17, m18, m19⟩ := u2
  have hP : va_P D vwCl [cell30_ qx sx, cell28_ k qx sx, cell29_ k qx sx, cell39_ qx qhc qhr, (qhr 1, .inl (k 0, 26, .inl m6)), cell72_ qhc qx m4 m5, cell37_ qx qt st, cell27_ k qt st, cell83_ qx qd m7 m8 m13 m14 m15 m16 m17 m18 m19, (qd 1, .inl (k 0, 5, .inl m9)), (qd 2, .inl (k 0, 5, .inl m10)), (qd 3, .inl (k 0, 3, .inl m11)), (qd 4, .inl (k 0, 3, .inl m12)), cell2_ k qd sd, cell31_ qx sh qh, cell0_ k qh sh, cell1_ k qh sh, cell4_ k qh sh, cell3_ k qh sh, cell2_ k qh sh, cell38_ qx ssu] H := hP
  have hD : va_D A [cell30_ qx sx, cell28_ k qx sx, cell29_ k qx sx, cell39_ qx qhc qhr, (qhr 1, .inl (k 0, 26, .inl m6)), cell72_ qhc qx m4 m5, cell37_ qx qt st, cell27_ k qt st, cell83_ qx qd m7 m8 m13 m14 m15 m16 m17 m18 m19, (qd 1, .inl (k 0, 5, .inl m9)), (qd 2, .inl (k 0, 5, .inl m10)), (qd 3, .inl (k 0, 3, .inl m11)), (qd 4, .inl (k 0, 3, .inl m12)), cell2_ k qd sd, cell31_ qx sh qh, cell0_ k qh sh, cell1_ k qh sh, cell4_ k qh sh, cell3_ k qh sh, cell2_ k qh sh, cell38_ qx ssu] := hD
  replace hw1 : (∀ j, 0 ≤ (m6 j).toInt ∧ (m6 j).toInt ≤ 31) ∧ (0 ≤ (m6 3).toInt ∧ (m6 3).toInt ≤ 7) ∧ (0 ≤ (m6 16).toInt ∧ (m6 16).toInt ≤ 7) ∧ (0 ≤ m7.toInt ∧ m7.toInt ≤ 5) ∧ (0 ≤ m8.toInt ∧ m8.toInt ≤ 4) ∧ (0 ≤ m19.toInt ∧ m19.toInt ≤ 5) ∧ (∀ j, 0 ≤ (m10 j).toInt ∧ (m10 j).toInt ≤ 4) ∧ (∀ j, 0 ≤ (m11 j).toInt ∧ (m11 j).toInt ≤ 5) ∧ ((r3, m4, m5, m6, m7, m8, m9, m10, m11, m12, m13, m14, m15, m16, m17, m18, m19) = J_X5_read (lS [(lI []), (shr 1)]) shc (lS [(lI [0, (st 0 1)]), (st 1)]) (lS [(lI [(sd 0 0), (sd 0 1), 0, 0, 0, 0, (sd 0 6), (sd 0 7), (sd 0 8), (sd 0 9), (sd 0 10), (sd 0 11), (sd 0 12)]), (sd 1), (sd 2), (sd 3), (sd 4), (sd 5)])) := hw1
  obtain ⟨w20, w21, w22, w23, w24, w25, w26, w27, w28⟩ := hw1
  refine lv_bipush (v := (-9)) hx hb dX11_make_11 (by decide) ?_
  refine lv_icmp_eq (tgt := 19) hx hb dX11_make_13 (by decide) (fun c30 => ?_) (fun c30 => ?_)
  · have f30 : r3.toInt = (-9) := f_eq rfl (by decide) c30
    refine lv_aload_n hx hb dX11_make_19 rfl (lv_at hl 0 rfl) ?_
    refine g_get cx hP iw_X11_make_X11 0 rfl rfl 4 (by decide) rfl fw_X11_make_39 rfl dX11_make_20 ?_
    refine lv_aload_n hx hb dX11_make_23 rfl (lv_at hl 0 rfl) ?_
    refine g_get cx hP iw_X11_make_X11 0 rfl rfl 3 (by decide) rfl fw_X11_make_35 rfl dX11_make_24 ?_
    refine lv_iconst (v := 0) hx hb dX11_make_27 (by decide) ?_
    have hlit31 : (0 : Int32).toInt = 0 := by decide
    refine g_v (w1 := fun (u : Int32 × Int32 × (Nat → Int32) × (Nat → Int32) × (Nat → Int32) × (Nat → Int32) × Int32 × Int32 × Int32 × Int32 × Int32 × Int32 × Int32 × (Nat → Int32)) => [cell110_ qx qh (u.1) (u.2.1) (u.2.2.2.2.2.2.1) (u.2.2.2.2.2.2.2.1) (u.2.2.2.2.2.2.2.2.1) (u.2.2.2.2.2.2.2.2.2.1) (u.2.2.2.2.2.2.2.2.2.2.1) (u.2.2.2.2.2.2.2.2.2.2.2.1) (u.2.2.2.2.2.2.2.2.2.2.2.2.1), cell85_ k qh (u.2.2.1), cell97_ k qh (u.2.2.2.1), cell102_ k qh (u.2.2.2.2.1), cell103_ k qh (u.2.2.2.2.2.1), cell164_ k qh (u.2.2.2.2.2.2.2.2.2.2.2.2.2), cell83_ qx qd m7 m8 m13 m14 m15 m16 m17 m18 m19, (qd 1, .inl (k 0, 5, .inl m9)), (qd 2, .inl (k 0, 5, .inl m10)), (qd 3, .inl (k 0, 3, .inl m11)), (qd 4, .inl (k 0, 3, .inl m12)), cell2_ k qd sd]) (g_runV (wc := [cell31_ qx sh qh, cell0_ k qh sh, cell1_ k qh sh, cell4_ k qh sh, cell3_ k qh sh, cell2_ k qh sh, cell83_ qx qd m7 m8 m13 m14 m15 m16 m17 m18 m19, (qd 1, .inl (k 0, 5, .inl m9)), (qd 2, .inl (k 0, 5, .inl m10)), (qd 3, .inl (k 0, 3, .inl m11)), (qd 4, .inl (k 0, 3, .inl m12)), cell2_ k qd sd]) (rest := []) cx hP hD hS [14, 15, 16, 17, 18, 19, 8, 9, 10, 11, 12, 13] rfl (by decide) [.ref (qx 6), .int 0] (c_X4_copy l D k b (lq [qx 7, qh 1, qh 2, qh 3, qh 4, qh 5]) (lS [(lI [(sh 0 0), (sh 0 1), 0, 0, 0, 0, (sh 0 6), (sh 0 7), (sh 0 8), (sh 0 9), (sh 0 10), (sh 0 11), (sh 0 12)]), (sh 1), (sh 2), (sh 3), (sh 4), (sh 5)]) (lq [qx 6, qd 1, qd 2, qd 3, qd 4, qd 5]) (lS [(lI [m7, m8, 0, 0, 0, 0, m13, m14, m15, m16, m17, m18, m19]), m9, m10, m11, m12, (sd 5)]) H.size 0 (show 0 ≤ m7.toInt ∧ m7.toInt ≤ 5 from by first | decide | omega) (show 0 ≤ m8.toInt ∧ m8.toInt ≤ 4 from by first | decide | omega) (show 0 ≤ m19.toInt ∧ m19.toInt ≤ 5 from by first | decide | omega) w26 w27 h_of h_go) gX11_make_X4_copy rfl rfl rfl nd_X4_copy ⟨Nat.le_of_ble_eq_true rfl, Nat.le_of_ble_eq_true rfl⟩ (ci := 2) (q0 := 0) rfl rfl rfl hl.1 rfl (Nat.le_of_ble_eq_true rfl) ⟨Nat.zero_le _, Nat.zero_le _⟩ dX11_make_28) cx.2.2.1 hP hD hS [14, 15, 16, 17, 18, 19, 8, 9, 10, 11, 12, 13] rfl (fun _ => rfl) (fun u33 H locs hw32 hP hD hS => ?_)
    obtain ⟨m34, m35, m36, m37, m38, m39, m40, m41, m42, m43, m44, m45, m46, m47⟩ := u33
    have hP : va_P D vwCl [cell30_ qx sx, cell28_ k qx sx, cell29_ k qx sx, cell39_ qx qhc qhr, (qhr 1, .inl (k 0, 26, .inl m6)), cell72_ qhc qx m4 m5, cell37_ qx qt st, cell27_ k qt st, cell83_ qx qd m7 m8 m13 m14 m15 m16 m17 m18 m19, (qd 1, .inl (k 0, 5, .inl m9)), (qd 2, .inl (k 0, 5, .inl m10)), (qd 3, .inl (k 0, 3, .inl m11)), (qd 4, .inl (k 0, 3, .inl m12)), cell2_ k qd sd, cell110_ qx qh m34 m35 m40 m41 m42 m43 m44 m45 m46, (qh 1, .inl (k 0, 5, .inl m36)), (qh 2, .inl (k 0, 5, .inl m37)), (qh 3, .inl (k 0, 3, .inl m38)), (qh 4, .inl (k 0, 3, .inl m39)), (qh 5, .inl (k 0, 525, .inl m47)), cell38_ qx ssu] H := hP
    have hD : va_D A [cell30_ qx sx, cell28_ k qx sx, cell29_ k qx sx, cell39_ qx qhc qhr, (qhr 1, .inl (k 0, 26, .inl m6)), cell72_ qhc qx m4 m5, cell37_ qx qt st, cell27_ k qt st, cell83_ qx qd m7 m8 m13 m14 m15 m16 m17 m18 m19, (qd 1, .inl (k 0, 5, .inl m9)), (qd 2, .inl (k 0, 5, .inl m10)), (qd 3, .inl (k 0, 3, .inl m11)), (qd 4, .inl (k 0, 3, .inl m12)), cell2_ k qd sd, cell110_ qx qh m34 m35 m40 m41 m42 m43 m44 m45 m46, (qh 1, .inl (k 0, 5, .inl m36)), (qh 2, .inl (k 0, 5, .inl m37)), (qh 3, .inl (k 0, 3, .inl m38)), (qh 4, .inl (k 0, 3, .inl m39)), (qh 5, .inl (k 0, 525, .inl m47)), cell38_ qx ssu] := hD
    replace hw32 : (0 ≤ m34.toInt ∧ m34.toInt ≤ 5) ∧ (0 ≤ m35.toInt ∧ m35.toInt ≤ 4) ∧ (0 ≤ m46.toInt ∧ m46.toInt ≤ 5) ∧ (∀ j, 0 ≤ (m37 j).toInt ∧ (m37 j).toInt ≤ 4) ∧ (∀ j, 0 ≤ (m38 j).toInt ∧ (m38 j).toInt ≤ 5) ∧ (SUok m47) ∧ (m34.toInt = m7.toInt) ∧ ((m34, m35, m36, m37, m38, m39, m40, m41, m42, m43, m44, m45, m46, m47) = J_X4_copy (lS [(lI [(sh 0 0), (sh 0 1), 0, 0, 0, 0, (sh 0 6), (sh 0 7), (sh 0 8), (sh 0 9), (sh 0 10), (sh 0 11), (sh 0 12)]), (sh 1), (sh 2), (sh 3), (sh 4), (sh 5)]) (lS [(lI [m7, m8, 0, 0, 0, 0, m13, m14, m15, m16, m17, m18, m19]), m9, m10, m11, m12, (sd 5)]) (0 : Int32)) := hw32
    obtain ⟨w48, w49, w50, w51, w52, w53, w54, w55⟩ := hw32
    refine lv_aload_n hx hb dX11_make_31 rfl (lv_at hl 0 rfl) ?_
    refine lv_iconst (v := 0) hx hb dX11_make_32 (by decide) ?_
    refine g_pt cx hP hD hS iw_X11_make_X11 tyX11 tyX11_ok nmX11 0 rfl rfl 15 (by decide) rfl fw_X11_make_119 (ty := .boolean) rfl rfl rfl (Nat.le_of_ble_eq_true rfl) dX11_make_33 (fun H locs hP hD hS => ?_)
    have hP : va_P D vwCl [cell75_ qx sx 0, cell28_ k qx sx, cell29_ k qx sx, cell39_ qx qhc qhr, (qhr 1, .inl (k 0, 26, .inl m6)), cell72_ qhc qx m4 m5, cell37_ qx qt st, cell27_ k qt st, cell83_ qx qd m7 m8 m13 m14 m15 m16 m17 m18 m19, (qd 1, .inl (k 0, 5, .inl m9)), (qd 2, .inl (k 0, 5, .inl m10)), (qd 3, .inl (k 0, 3, .inl m11)), (qd 4, .inl (k 0, 3, .inl m12)), cell2_ k qd sd, cell110_ qx qh m34 m35 m40 m41 m42 m43 m44 m45 m46, (qh 1, .inl (k 0, 5, .inl m36)), (qh 2, .inl (k 0, 5, .inl m37)), (qh 3, .inl (k 0, 3, .inl m38)), (qh 4, .inl (k 0, 3, .inl m39)), (qh 5, .inl (k 0, 525, .inl m47)), cell38_ qx ssu] H := hP
    have hD : va_D A [cell75_ qx sx 0, cell28_ k qx sx, cell29_ k qx sx, cell39_ qx qhc qhr, (qhr 1, .inl (k 0, 26, .inl m6)), cell72_ qhc qx m4 m5, cell37_ qx qt st, cell27_ k qt st, cell83_ qx qd m7 m8 m13 m14 m15 m16 m17 m18 m19, (qd 1, .inl (k 0, 5, .inl m9)), (qd 2, .inl (k 0, 5, .inl m10)), (qd 3, .inl (k 0, 3, .inl m11)), (qd 4, .inl (k 0, 3, .inl m12)), cell2_ k qd sd, cell110_ qx qh m34 m35 m40 m41 m42 m43 m44 m45 m46, (qh 1, .inl (k 0, 5, .inl m36)), (qh 2, .inl (k 0, 5, .inl m37)), (qh 3, .inl (k 0, 3, .inl m38)), (qh 4, .inl (k 0, 3, .inl m39)), (qh 5, .inl (k 0, 525, .inl m47)), cell38_ qx ssu] := hD
    have hlit57 : (0 : Int32).toInt = 0 := by decide
    refine lv_aload_n hx hb dX11_make_36 rfl (lv_at hl 0 rfl) ?_
    refine lv_bipush (v := (-9)) hx hb dX11_make_37 (by decide) ?_
    refine g_pt cx hP hD hS iw_X11_make_X11 tyX11 tyX11_ok nmX11 0 rfl rfl 16 (by decide) rfl fw_X11_make_90 (ty := .int) rfl rfl rfl (Nat.le_of_ble_eq_true rfl) dX11_make_39 (fun H locs hP hD hS => ?_)
    have hP : va_P D vwCl [cell125_ qx 0 (-9), cell28_ k qx sx, cell29_ k qx sx, cell39_ qx qhc qhr, (qhr 1, .inl (k 0, 26, .inl m6)), cell72_ qhc qx m4 m5, cell37_ qx qt st, cell27_ k qt st, cell83_ qx qd m7 m8 m13 m14 m15 m16 m17 m18 m19, (qd 1, .inl (k 0, 5, .inl m9)), (qd 2, .inl (k 0, 5, .inl m10)), (qd 3, .inl (k 0, 3, .inl m11)), (qd 4, .inl (k 0, 3, .inl m12)), cell2_ k qd sd, cell110_ qx qh m34 m35 m40 m41 m42 m43 m44 m45 m46, (qh 1, .inl (k 0, 5, .inl m36)), (qh 2, .inl (k 0, 5, .inl m37)), (qh 3, .inl (k 0, 3, .inl m38)), (qh 4, .inl (k 0, 3, .inl m39)), (qh 5, .inl (k 0, 525, .inl m47)), cell38_ qx ssu] H := hP
    have hD : va_D A [cell125_ qx 0 (-9), cell28_ k qx sx, cell29_ k qx sx, cell39_ qx qhc qhr, (qhr 1, .inl (k 0, 26, .inl m6)), cell72_ qhc qx m4 m5, cell37_ qx qt st, cell27_ k qt st, cell83_ qx qd m7 m8 m13 m14 m15 m16 m17 m18 m19, (qd 1, .inl (k 0, 5, .inl m9)), (qd 2, .inl (k 0, 5, .inl m10)), (qd 3, .inl (k 0, 3, .inl m11)), (qd 4, .inl (k 0, 3, .inl m12)), cell2_ k qd sd, cell110_ qx qh m34 m35 m40 m41 m42 m43 m44 m45 m46, (qh 1, .inl (k 0, 5, .inl m36)), (qh 2, .inl (k 0, 5, .inl m37)), (qh 3, .inl (k 0, 3, .inl m38)), (qh 4, .inl (k 0, 3, .inl m39)), (qh 5, .inl (k 0, 525, .inl m47)), cell38_ qx ssu] := hD
    have hlit58 : ((-9) : Int32).toInt = -9 := by decide
    refine lv_aload_n hx hb dX11_make_42 rfl (lv_at hl 0 rfl) ?_
    refine g_get cx hP iw_X11_make_X11 0 rfl rfl 10 (by decide) rfl fw_X11_make_69 rfl dX11_make_43 ?_
    refine g_v (w1 := fun (u : Int32 × Int32 × Int32 × Int32 × Int32 × Int32) => [cell91_ qx (u.1) (u.2.1) (u.2.2.1) (u.2.2.2.1) (u.2.2.2.2.1) (u.2.2.2.2.2)]) (g_runV (wc := [cell38_ qx ssu]) (rest := []) cx hP hD hS [20] rfl (by decide) [] (c_X9_begin l D k b (lq [qx 12]) (lS [(lI [(ssu 0 0), (ssu 0 1), (ssu 0 2), (ssu 0 3), (ssu 0 4), (ssu 0 5)])]) H.size) gX11_make_X9_begin rfl rfl rfl nd_X9_begin ⟨Nat.le_of_ble_eq_true rfl, Nat.le_of_ble_eq_true rfl⟩ (ci := 7) (q0 := 0) rfl rfl rfl hl.1 rfl (Nat.le_of_ble_eq_true rfl) ⟨Nat.zero_le _, Nat.zero_le _⟩ dX11_make_46) cx.2.2.1 hP hD hS [20] rfl (fun _ => rfl) (fun u60 H locs hw59 hP hD hS => ?_)
    obtain ⟨m61, m62, m63, m64, m65, m66⟩ := u60
    have hP : va_P D vwCl [cell125_ qx 0 (-9), cell28_ k qx sx, cell29_ k qx sx, cell39_ qx qhc qhr, (qhr 1, .inl (k 0, 26, .inl m6)), cell72_ qhc qx m4 m5, cell37_ qx qt st, cell27_ k qt st, cell83_ qx qd m7 m8 m13 m14 m15 m16 m17 m18 m19, (qd 1, .inl (k 0, 5, .inl m9)), (qd 2, .inl (k 0, 5, .inl m10)), (qd 3, .inl (k 0, 3, .inl m11)), (qd 4, .inl (k 0, 3, .inl m12)), cell2_ k qd sd, cell110_ qx qh m34 m35 m40 m41 m42 m43 m44 m45 m46, (qh 1, .inl (k 0, 5, .inl m36)), (qh 2, .inl (k 0, 5, .inl m37)), (qh 3, .inl (k 0, 3, .inl m38)), (qh 4, .inl (k 0, 3, .inl m39)), (qh 5, .inl (k 0, 525, .inl m47)), cell91_ qx m61 m62 m63 m64 m65 m66] H := hP
    have hD : va_D A [cell125_ qx 0 (-9), cell28_ k qx sx, cell29_ k qx sx, cell39_ qx qhc qhr, (qhr 1, .inl (k 0, 26, .inl m6)), cell72_ qhc qx m4 m5, cell37_ qx qt st, cell27_ k qt st, cell83_ qx qd m7 m8 m13 m14 m15 m16 m17 m18 m19, (qd 1, .inl (k 0, 5, .inl m9)), (qd 2, .inl (k 0, 5, .inl m10)), (qd 3, .inl (k 0, 3, .inl m11)), (qd 4, .inl (k 0, 3, .inl m12)), cell2_ k qd sd, cell110_ qx qh m34 m35 m40 m41 m42 m43 m44 m45 m46, (qh 1, .inl (k 0, 5, .inl m36)), (qh 2, .inl (k 0, 5, .inl m37)), (qh 3, .inl (k 0, 3, .inl m38)), (qh 4, .inl (k 0, 3, .inl m39)), (qh 5, .inl (k 0, 525, .inl m47)), cell91_ qx m61 m62 m63 m64 m65 m66] := hD
    replace hw59 : (m61.toInt = 0 ∧ m62.toInt = 0 ∧ m63.toInt = 0 ∧ m64.toInt = 0 ∧ m65.toInt = 0 ∧ m66.toInt = 0) ∧ (tot m62 ≤ 4) ∧ ((m61, m62, m63, m64, m65, m66) = J_X9_begin (lS [(lI [(ssu 0 0), (ssu 0 1), (ssu 0 2), (ssu 0 3), (ssu 0 4), (ssu 0 5)])])) := hw59
    obtain ⟨w67, w68, w69⟩ := hw59
    refine lv_iconst (v := 0) hx hb dX11_make_49 (by decide) ?_
    refine lv_istore_n (lv' := [(1, .int 0), (0, .ref (qx 0))]) hx hb dX11_make_50 rfl hl (by decide) rfl (fun ls hl => ?_)
    have hL51 : ∀ (n76 : Nat) (v74 : Int32) (g75 : Nat → Int32) (H : Heap) (locs : List Loc) (ls : Array Slot), 2 - v74.toInt < (n76 : Int) → (0 ≤ v74.toInt ∧ v74.toInt ≤ 2) → (g75 = PFn (fun _ => vp_nar .boolean 0) (Int.toNat v74.toInt) (sx 2)) → va_P D vwCl [cell125_ qx 0 (-9), cell28_ k qx sx, (qx 2, .inl (k 3, 2, .inl g75)), cell39_ qx qhc qhr, (qhr 1, .inl (k 0, 26, .inl m6)), cell72_ qhc qx m4 m5, cell37_ qx qt st, cell27_ k qt st, cell83_ qx qd m7 m8 m13 m14 m15 m16 m17 m18 m19, (qd 1, .inl (k 0, 5, .inl m9)), (qd 2, .inl (k 0, 5, .inl m10)), (qd 3, .inl (k 0, 3, .inl m11)), (qd 4, .inl (k 0, 3, .inl m12)), cell2_ k qd sd, cell110_ qx qh m34 m35 m40 m41 m42 m43 m44 m45 m46, (qh 1, .inl (k 0, 5, .inl m36)), (qh 2, .inl (k 0, 5, .inl m37)), (qh 3, .inl (k 0, 3, .inl m38)), (qh 4, .inl (k 0, 3, .inl m39)), (qh 5, .inl (k 0, 525, .inl m47)), cell91_ qx m61 m62 m63 m64 m65 m66] H → va_D A [cell125_ qx 0 (-9), cell28_ k qx sx, (qx 2, .inl (k 3, 2, .inl g75)), cell39_ qx qhc qhr, (qhr 1, .inl (k 0, 26, .inl m6)), cell72_ qhc qx m4 m5, cell37_ qx qt st, cell27_ k qt st, cell83_ qx qd m7 m8 m13 m14 m15 m16 m17 m18 m19, (qd 1, .inl (k 0, 5, .inl m9)), (qd 2, .inl (k 0, 5, .inl m10)), (qd 3, .inl (k 0, 3, .inl m11)), (qd 4, .inl (k 0, 3, .inl m12)), cell2_ k qd sd, cell110_ qx qh m34 m35 m40 m41 m42 m43 m44 m45 m46, (qh 1, .inl (k 0, 5, .inl m36)), (qh 2, .inl (k 0, 5, .inl m37)), (qh 3, .inl (k 0, 3, .inl m38)), (qh 4, .inl (k 0, 3, .inl m39)), (qh 5, .inl (k 0, 525, .inl m47)), cell91_ qx m61 m62 m63 m64 m65 m66] → va_S A s.heap H locs → lv_has ls 2 [(1, .int v74), (0, .ref (qx 0))] → W p l e ({ frames := 8, cells := 0, slots := 0, locals := 173 } : Room) s m ([.ref (qx 0)] : List Value).toArray below meth c H locs 0 0 Q (F0 m 51 ls []) := by
      intro n76
      induction n76 with
      | zero => intro v74 g75 H locs ls hmn76 bv74 qK hP hD hS hl; exact absurd hmn76 (by omega)
      | succ n76 ih51 =>
        intro v74 g75 H locs ls hmn76 bv74 qK hP hD hS hl
        refine lv_iload_n hx hb dX11_make_51 rfl (lv_at hl 0 rfl) ?_
        refine lv_iconst (v := 2) hx hb dX11_make_52 (by decide) ?_
        refine lv_icmp_ge (tgt := 69) hx hb dX11_make_53 (by decide) (fun c77 => ?_) (fun c77 => ?_)
        · have f77 : 2 ≤ v74.toInt := f_le (by decide) rfl c77
          have qK_e : g75 = (PFn (fun _ => vp_nar .boolean 0) 2 (sx 2)) := by have q : Int.toNat v74.toInt = 2 := (by omega); rw [q] at qK; exact qK
          refine lv_aload_n hx hb dX11_make_69 rfl (lv_at hl 1 rfl) ?_
          refine g_get cx hP iw_X11_make_X11 0 rfl rfl 4 (by decide) rfl fw_X11_make_39 rfl dX11_make_70 ?_
          refine g_get cx hP iw_X11_make_X4 14 rfl rfl 0 (by decide) rfl fw_X11_make_126 rfl dX11_make_73 ?_
          have hlit78 : (0 : Int32).toInt = 0 := by decide
          have hlit79 : ((-9) : Int32).toInt = -9 := by decide
          rw [hQ]
          exact x_i cx hr (m4, m5, m6, m7, m8, m9, m10, m11, m12, m13, m14, m15, m16, m17, m18, m19, m34, m35, m36, m37, m38, m39, m40, m41, m42, m43, m44, m45, m46, m47, m61, m62, m63, m64, m65, m66, g75, 0, (-9)) hP hD hS ⟨w20, (show 0 ≤ (m6 3).toInt ∧ (m6 3).toInt ≤ 7 from by omega), (show 0 ≤ (m6 16).toInt ∧ (m6 16).toInt ≤ 7 from by omega), w26, w27, (show 0 ≤ m34.toInt ∧ m34.toInt ≤ 5 from by omega), (show 0 ≤ m35.toInt ∧ m35.toInt ≤ 4 from by omega), (show 0 ≤ m46.toInt ∧ m46.toInt ≤ 5 from by omega), w51, w52, (show SUok m47 from by assumption), (show 0 ≤ m62.toInt ∧ m62.toInt ≤ 400 ∧ tot m62 ≤ 4 from by omega), (show 0 ≤ m61.toInt ∧ m61.toInt ≤ 5 from by omega), (show 0 ≤ m65.toInt ∧ m65.toInt ≤ 1 from by omega), (show m65.toInt = 0 ∨ m61.toInt ≤ 4 from by omega), (show ((0 : Int32).toInt = 0 ∧ ((-9) : Int32).toInt = -9) ∨ ((0 : Int32).toInt = (sx 0 15).toInt ∧ ((-9) : Int32).toInt = (sx 0 16).toInt ∧ m34.toInt = (sh 0 0).toInt) from by omega), (show (m34, m6, m34, m35, m36, m37, m38, m39, m40, m41, m42, m43, m44, m45, m46, m47, m61, m62, m63, m64, m65, m66, g75) = J_X11_make sx shr shc st sd sh ssu from (exl_X11_make_0 qK_e w28 c30 w55 w69))⟩ dX11_make_76
        · have f77 : v74.toInt < 2 := f_nle (by decide) rfl c77
          refine lv_aload_n hx hb dX11_make_56 rfl (lv_at hl 1 rfl) ?_
          refine g_get cx hP iw_X11_make_X11 0 rfl rfl 13 (by decide) rfl fw_X11_make_79 rfl dX11_make_57 ?_
          refine lv_iload_n hx hb dX11_make_60 rfl (lv_at hl 0 rfl) ?_
          refine lv_iconst (v := 0) hx hb dX11_make_61 (by decide) ?_
          have hn80 : vp_in v74 2 := f_in (a := v74.toInt) rfl (by omega) (by omega)
          refine va_zast hx hb cx.2.1 hP hD hS 2 3 rfl rfl hn80 dX11_make_62 (fun H locs hP hD hS => ?_)
          obtain ⟨g81, eg81⟩ : ∃ g : Nat → Int32, g = upd g75 (v74).toNatClampNeg (vp_nar .boolean 0) := ⟨_, rfl⟩
          rw [← eg81] at hP hD
          have hP : va_P D vwCl [cell125_ qx 0 (-9), cell28_ k qx sx, (qx 2, .inl (k 3, 2, .inl g81)), cell39_ qx qhc qhr, (qhr 1, .inl (k 0, 26, .inl m6)), cell72_ qhc qx m4 m5, cell37_ qx qt st, cell27_ k qt st, cell83_ qx qd m7 m8 m13 m14 m15 m16 m17 m18 m19, (qd 1, .inl (k 0, 5, .inl m9)), (qd 2, .inl (k 0, 5, .inl m10)), (qd 3, .inl (k 0, 3, .inl m11)), (qd 4, .inl (k 0, 3, .inl m12)), cell2_ k qd sd, cell110_ qx qh m34 m35 m40 m41 m42 m43 m44 m45 m46, (qh 1, .inl (k 0, 5, .inl m36)), (qh 2, .inl (k 0, 5, .inl m37)), (qh 3, .inl (k 0, 3, .inl m38)), (qh 4, .inl (k 0, 3, .inl m39)), (qh 5, .inl (k 0, 525, .inl m47)), cell91_ qx m61 m62 m63 m64 m65 m66] H := hP
          have hD : va_D A [cell125_ qx 0 (-9), cell28_ k qx sx, (qx 2, .inl (k 3, 2, .inl g81)), cell39_ qx qhc qhr, (qhr 1, .inl (k 0, 26, .inl m6)), cell72_ qhc qx m4 m5, cell37_ qx qt st, cell27_ k qt st, cell83_ qx qd m7 m8 m13 m14 m15 m16 m17 m18 m19, (qd 1, .inl (k 0, 5, .inl m9)), (qd 2, .inl (k 0, 5, .inl m10)), (qd 3, .inl (k 0, 3, .inl m11)), (qd 4, .inl (k 0, 3, .inl m12)), cell2_ k qd sd, cell110_ qx qh m34 m35 m40 m41 m42 m43 m44 m45 m46, (qh 1, .inl (k 0, 5, .inl m36)), (qh 2, .inl (k 0, 5, .inl m37)), (qh 3, .inl (k 0, 3, .inl m38)), (qh 4, .inl (k 0, 3, .inl m39)), (qh 5, .inl (k 0, 525, .inl m47)), cell91_ qx m61 m62 m63 m64 m65 m66] := hD
          have flq := PF_st (P := (fun _ => vp_nar .boolean 0)) eg81 (k := Int.toNat v74.toInt) (show v74.toInt = ((Int.toNat v74.toInt : Nat) : Int) from by omega) (rfl) qK
          obtain ⟨v82, e82⟩ : ∃ z : Int32, z = v74 + 1 := ⟨_, rfl⟩
          refine lv_iinc (v := v82) (lv' := [(1, .int v82), (0, .ref (qx 0))]) hx hb dX11_make_63 hl (k := 0) rfl (by rw [e82]; rfl) (by decide) rfl (fun ls hl => ?_)
          have t82 : v82.toInt = v74.toInt + 1 := by rw [e82]; exact i_add rfl (by decide) (by omega) (by omega)
          refine lv_goto (tgt := 51) hx hb dX11_make_66 (by decide) ?_
          exact ih51 v82 g81 _ _ _ (by omega) (by first | decide | omega) (flq.trans (congrArg (fun n => PFn (fun _ => vp_nar .boolean 0) n (sx 2)) (by omega))) hP hD hS (lv_sub hl [0, 1] rfl)
    have hlit83 : (0 : Int32).toInt = 0 := by decide
    exact hL51 (Int.toNat (2 - 0) + 1) 0 (sx 2) _ _ _ (by omega) (by first | decide | omega) (PF_0 (fun _ => vp_nar .boolean 0) (sx 2)) hP hD hS (lv_sub hl [0, 1] rfl)
  · have f30 : ¬ r3.toInt = (-9) := f_ne rfl (by decide) c30
    refine lv_bipush (v := (-3)) hx hb dX11_make_16 (by decide) ?_
    have hlit84 : ((-3) : Int32).toInt = -3 := by decide
    rw [hQ]
    exact x_i cx hr (m4, m5, m6, m7, m8, m9, m10, m11, m12, m13, m14, m15, m16, m17, m18, m19, (sh 0 0), (sh 0 1), (sh 1), (sh 2), (sh 3), (sh 4), (sh 0 6), (sh 0 7), (sh 0 8), (sh 0 9), (sh 0 10), (sh 0 11), (sh 0 12), (sh 5), (ssu 0 0), (ssu 0 1), (ssu 0 2), (ssu 0 3), (ssu 0 4), (ssu 0 5), (sx 2), (sx 0 15), (sx 0 16)) hP hD hS ⟨w20, (show 0 ≤ (m6 3).toInt ∧ (m6 3).toInt ≤ 7 from by omega), (show 0 ≤ (m6 16).toInt ∧ (m6 16).toInt ≤ 7 from by omega), w26, w27, (show 0 ≤ (sh 0 0).toInt ∧ (sh 0 0).toInt ≤ 5 from by omega), (show 0 ≤ (sh 0 1).toInt ∧ (sh 0 1).toInt ≤ 4 from by omega), (show 0 ≤ (sh 0 12).toInt ∧ (sh 0 12).toInt ≤ 5 from by omega), h_of, h_go, (show SUok (sh 5) from by assumption), (show 0 ≤ (ssu 0 1).toInt ∧ (ssu 0 1).toInt ≤ 400 ∧ tot (ssu 0 1) ≤ 4 from by omega), (show 0 ≤ (ssu 0 0).toInt ∧ (ssu 0 0).toInt ≤ 5 from by omega), (show 0 ≤ (ssu 0 4).toInt ∧ (ssu 0 4).toInt ≤ 1 from by omega), (show (ssu 0 4).toInt = 0 ∨ (ssu 0 0).toInt ≤ 4 from by omega), (show ((sx 0 15).toInt = 0 ∧ (sx 0 16).toInt = -9) ∨ ((sx 0 15).toInt = (sx 0 15).toInt ∧ (sx 0 16).toInt = (sx 0 16).toInt ∧ (sh 0 0).toInt = (sh 0 0).toInt) from by omega), (show (((-3) : Int32), m6, (sh 0 0), (sh 0 1), (sh 1), (sh 2), (sh 3), (sh 4), (sh 0 6), (sh 0 7), (sh 0 8), (sh 0 9), (sh 0 10), (sh 0 11), (sh 0 12), (sh 5), (ssu 0 0), (ssu 0 1), (ssu 0 2), (ssu 0 3), (ssu 0 4), (ssu 0 5), (sx 2)) = J_X11_make sx shr shc st sd sh ssu from (exl_X11_make_1 w28 c30))⟩ dX11_make_18
theorem fw_X11_rule_28 : Cond.fieldLink RX11 28 "StillInAugust" "ruleReader" "LStillInAugust$RuleReader;" ∈ wsX11_rule := by decide +kernel
theorem fw_X11_rule_45 : Cond.fieldLink RX11 45 "StillInAugust" "levels" "[I" ∈ wsX11_rule := by decide +kernel
theorem nd_X11_isRule : yX11_isRule.cls = RX11 ∧ yX11_isRule.cls ≠ "java/lang/invoke/MethodHandle" ∧ yX11_isRule.cls ≠ "java/lang/invoke/VarHandle" ∧ (parseMethodDescriptor yX11_isRule.desc).map (fun d => d.parameters.length) = some 1 := by decide +kernel
theorem nd_X8_exceptions : yX8_exceptions.cls = RX8 ∧ yX8_exceptions.cls ≠ "java/lang/invoke/MethodHandle" ∧ yX8_exceptions.cls ≠ "java/lang/invoke/VarHandle" ∧ (parseMethodDescriptor yX8_exceptions.desc).map (fun d => d.parameters.length) = some 0 := by decide +kernel
theorem nd_X8_levelIn : yX8_levelIn.cls = RX8 ∧ yX8_levelIn.cls ≠ "java/lang/invoke/MethodHandle" ∧ yX8_levelIn.cls ≠ "java/lang/invoke/VarHandle" ∧ (parseMethodDescriptor yX8_levelIn.desc).map (fun d => d.parameters.length) = some 1 := by decide +kernel
theorem iw_X11_rule_X11 : ∀ w ∈ u_ws RX11 TX11 17, w ∈ wsX11_rule := fun _ h => List.mem_cons_of_mem _ (List.mem_append_left _ (List.mem_append_left _ (List.mem_append_left _ (List.mem_append_right _ h))))
def J_X11_rule (sx : Nat → Nat → Int32) (srr : Nat → Nat → Int32) (src : Nat → Nat → Int32) (st : Nat → Nat → Int32) (p0 : Int32) : Int32 × Int32 × Int32 × Int32 × (Nat → Int32) × Int32 × (Nat → Int32) := LetF (J_X11_isRule sx p0) (fun y6 => if y6 = 0 then (((-1) : Int32), (src 0 1), (src 0 2), (srr 0 3), (srr 1), (srr 0 2), (sx 1)) else LetF (J_X8_read (lS [(lI [0, 0, (srr 0 2), (srr 0 3)]), (srr 1)]) src (lS [(lI [0, (st 0 1)]), (st 1)])) (fun y18 => if (y18.1) = (-9) then LetF (J_X8_exceptions (lS [(lI [0, 0, (y18.2.2.2.2.2), (y18.2.2.2.1)]), (y18.2.2.2.2.1)]) (up2 src 0 (upd (upd (src 0) 1 (y18.2.1)) 2 (y18.2.2.1))) (lS [(lI [0, (st 0 1)]), (st 1)])) (fun y37 => (y37, (y18.2.1), (y18.2.2.1), (y18.2.2.2.1), (y18.2.2.2.2.1), (y18.2.2.2.2.2), (PFo (Int.toNat (5 * p0.toInt)) (clv (y18.2.2.2.1) (y18.2.2.2.2.1) (y18.2.2.2.2.2)) 5 (sx 1)))) else (((-3) : Int32), (y18.2.1), (y18.2.2.1), (y18.2.2.2.1), (y18.2.2.2.2.1), (y18.2.2.2.2.2), (sx 1))))
theorem exl_X11_rule_0 {sx : Nat → Nat → Int32} {srr : Nat → Nat → Int32} {src : Nat → Nat → Int32} {st : Nat → Nat → Int32} {p0 : Int32} {r35 : Int32} {m11 : Int32} {m12 : Int32} {m13 : Int32} {m14 : Nat → Int32} {m15 : Int32} {g31 : Nat → Int32} {r2 : Int32} {r10 : Int32} (qR_e : g31 = (PFo (Int.toNat (5 * p0.toInt)) (clv m13 m14 m15) 5 (sx 1))) (w5 : r2 = J_X11_isRule sx p0) (c7 : ¬ (r2 = (0 : Int32))) (w17 : (r10, m11, m12, m13, m14, m15) = J_X8_read (lS [(lI [0, 0, (srr 0 2), (srr 0 3)]), (srr 1)]) src (lS [(lI [0, (st 0 1)]), (st 1)])) (c19 : r10 = ((-9) : Int32)) (w36 : r35 = J_X8_exceptions (lS [(lI [0, 0, m15, m13]), m14]) (up2 src 0 (upd (upd (src 0) 1 m11) 2 m12)) (lS [(lI [0, (st 0 1)]), (st 1)])) : (r35, m11, m12, m13, m14, m15, g31) = J_X11_rule sx srr src st p0 := by subst qR_e; refine Eq.symm ?_; unfold J_X11_rule; refine lt_e w5 ?_; refine Eq.trans (if_neg c7) ?_; refine lt_e w17 ?_; refine Eq.trans (if_pos c19) ?_; refine lt_e w36 ?_; rfl
theorem exl_X11_rule_1 {sx : Nat → Nat → Int32} {srr : Nat → Nat → Int32} {src : Nat → Nat → Int32} {st : Nat → Nat → Int32} {p0 : Int32} {m11 : Int32} {m12 : Int32} {m13 : Int32} {m14 : Nat → Int32} {m15 : Int32} {r2 : Int32} {r10 : Int32} (w5 : r2 = J_X11_isRule sx p0) (c7 : ¬ (r2 = (0 : Int32))) (w17 : (r10, m11, m12, m13, m14, m15) = J_X8_read (lS [(lI [0, 0, (srr 0 2), (srr 0 3)]), (srr 1)]) src (lS [(lI [0, (st 0 1)]), (st 1)])) (c19 : ¬ (r10 = ((-9) : Int32))) : (((-3) : Int32), m11, m12, m13, m14, m15, (sx 1)) = J_X11_rule sx srr src st p0 := by refine Eq.symm ?_; unfold J_X11_rule; refine lt_e w5 ?_; refine Eq.trans (if_neg c7) ?_; refine lt_e w17 ?_; refine Eq.trans (if_neg c19) ?_; rfl
theorem exl_X11_rule_2 {sx : Nat → Nat → Int32} {srr : Nat → Nat → Int32} {src : Nat → Nat → Int32} {st : Nat → Nat → Int32} {p0 : Int32} {r2 : Int32} (w5 : r2 = J_X11_isRule sx p0) (c7 : r2 = (0 : Int32)) : (((-1) : Int32), (src 0 1), (src 0 2), (srr 0 3), (srr 1), (srr 0 2), (sx 1)) = J_X11_rule sx srr src st p0 := by refine Eq.symm ?_; unfold J_X11_rule; refine lt_e w5 ?_; refine Eq.trans (if_pos c7) ?_; rfl
set_option maxHeartbeats 20000000 in
set_option maxRecDepth 100000 in
theorem c_X11_rule (l : Launch) (D : va_G) (k : Nat → ClassId) (b : Nat → Nat) (qx : Nat → Nat) (sx : Nat → Nat → Int32) (qrr : Nat → Nat) (srr : Nat → Nat → Int32) (qrc : Nat → Nat) (src : Nat → Nat → Int32) (qt : Nat → Nat) (st : Nat → Nat → Int32) (sz : Nat) (p0 : Int32) (h_len : 0 ≤ (st 0 1).toInt ∧ (st 0 1).toInt ≤ 64) : MetI l D k b yX11_rule wsX11_rule ({ frames := 5, cells := 0, slots := 0, locals := 106 } : Room) [cell30_ qx sx, cell28_ k qx sx, cell29_ k qx sx, cell46_ qx qrc qrr srr, cell0_ k qrr srr, cell33_ qrc qx src, cell37_ qx qt st, cell27_ k qt st] sz [.ref (qx 0), .int p0] (fun (r : Int32) (u : Int32 × Int32 × Int32 × (Nat → Int32) × Int32 × (Nat → Int32)) => (r, (u.1), (u.2.1), (u.2.2.1), (u.2.2.2.1), (u.2.2.2.2.1), (u.2.2.2.2.2)) = J_X11_rule sx srr src st p0) (fun u => [cell30_ qx sx, (qx 1, .inl (k 0, 15, .inl (u.2.2.2.2.2))), cell29_ k qx sx, cell90_ qx qrc qrr (u.2.2.2.2.1) (u.2.2.1), cell85_ k qrr (u.2.2.2.1), cell72_ qrc qx (u.1) (u.2.1), cell37_ qx qt st, cell27_ k qt st]) := by
  refine g_enter (cc := cX11_rule) (maxL := 3) (ret := (some .int)) (by decide) rfl (Nat.le_of_ble_eq_true rfl) ?_
  intro p e s m below meth c A hsz hAe cx hr hP hD hS ls hl
  rw [hAe]
  refine g_q (fun Q hQ => ?_)
  have hx := cx.1.1
  have hb := cx.1.2.1
  have bp0 := i_rng p0
  have hl : lv_has ls 3 [(0, .ref (qx 0)), (1, .int p0)] := hl
  obtain ⟨H, eH⟩ : ∃ H : Heap, H = s.heap := ⟨_, rfl⟩
  obtain ⟨locs, el⟩ : ∃ L : List Loc, L = [] := ⟨_, rfl⟩
  have hP : va_P D vwCl [cell30_ qx sx, cell28_ k qx sx, cell29_ k qx sx, cell46_ qx qrc qrr srr, cell0_ k qrr srr, cell33_ qrc qx src, cell37_ qx qt st, cell27_ k qt st] H := by rw [eH]; exact hP
  have hD : va_D A [cell30_ qx sx, cell28_ k qx sx, cell29_ k qx sx, cell46_ qx qrc qrr srr, cell0_ k qrr srr, cell33_ qrc qx src, cell37_ qx qt st, cell27_ k qt st] := hD
  have hS : va_S A s.heap H locs := by rw [eH, el]; exact hS
  suffices goal : W p l e ({ frames := 5, cells := 0, slots := 0, locals := 106 } : Room) s m ([.ref (qx 0), .int p0] : List Value).toArray below meth c H locs 0 0 Q (F0 m 0 ls []) by rw [eH, el] at goal; exact goal
  refine lv_aload_n hx hb dX11_rule_0 rfl (lv_at hl 0 rfl) ?_
  refine lv_iload_n hx hb dX11_rule_1 rfl (lv_at hl 1 rfl) ?_
  refine g_ir (g_runV (wc := [cell30_ qx sx, cell28_ k qx sx, cell29_ k qx sx]) (rest := []) cx hP hD hS [0, 1, 2] rfl (by decide) [.int p0] (c_X11_isRule l D k b qx sx H.size p0) gX11_rule_X11_isRule rfl rfl rfl nd_X11_isRule ⟨Nat.le_of_ble_eq_true rfl, Nat.le_of_ble_eq_true rfl⟩ (ci := 9) (q0 := 0) rfl rfl rfl hl.1 rfl (Nat.le_of_ble_eq_true rfl) ⟨Nat.zero_le _, Nat.zero_le _⟩ dX11_rule_2) cx.2.2.1 hP hD hS [0, 1, 2] rfl rfl (fun r2 H locs hw1 hP hS => ?_)
  replace hw1 : (0 ≤ r2.toInt ∧ r2.toInt ≤ 1) ∧ (Imp (r2.toInt = 1) (0 ≤ p0.toInt ∧ p0.toInt ≤ 2)) ∧ (r2 = J_X11_isRule sx p0) := hw1
  obtain ⟨w3, w4, w5⟩ := hw1
  have zr2 : 0 ≤ r2.toInt ∧ r2.toInt ≤ 1 := w3
  refine lv_if_ne (tgt := 10) hx hb dX11_rule_5 (by decide) (fun c7 => ?_) (fun c7 => ?_)
  · have f7 : ¬ r2.toInt = 0 := f_ne rfl (by decide) c7
    have k7 : (0 ≤ p0.toInt ∧ p0.toInt ≤ 2) := w4 (by omega)
    refine lv_aload_n hx hb dX11_rule_10 rfl (lv_at hl 0 rfl) ?_
    refine g_get cx hP iw_X11_rule_X11 0 rfl rfl 2 (by decide) rfl fw_X11_rule_28 rfl dX11_rule_11 ?_
    refine g_i (w1 := fun (u : Int32 × Int32 × Int32 × (Nat → Int32) × Int32) => [cell90_ qx qrc qrr (u.2.2.2.2) (u.2.2.1), cell85_ k qrr (u.2.2.2.1), cell72_ qrc qx (u.1) (u.2.1), cell37_ qx qt st, cell27_ k qt st]) (g_runV (wc := [cell46_ qx qrc qrr srr, cell0_ k qrr srr, cell33_ qrc qx src, cell37_ qx qt st, cell27_ k qt st]) (rest := []) cx hP hD hS [3, 4, 5, 6, 7] rfl (by decide) [] (c_X8_read l D k b (lq [qx 5, qrr 1]) (lS [(lI [0, 0, (srr 0 2), (srr 0 3)]), (srr 1)]) qrc src (lq [qx 3, qt 1]) (lS [(lI [0, (st 0 1)]), (st 1)]) H.size (show 0 ≤ (st 0 1).toInt ∧ (st 0 1).toInt ≤ 64 from by first | decide | omega)) gX11_rule_X8_read rfl rfl rfl nd_X8_read ⟨Nat.le_of_ble_eq_true rfl, Nat.le_of_ble_eq_true rfl⟩ (ci := 6) (q0 := 0) rfl rfl rfl hl.1 rfl (Nat.le_of_ble_eq_true rfl) ⟨Nat.zero_le _, Nat.zero_le _⟩ dX11_rule_14) cx.2.2.1 hP hD hS [3, 4, 5, 6, 7] rfl (fun _ => rfl) (fun r10 u9 H locs hw8 hP hD hS => ?_)
    obtain ⟨m11, m12, m13, m14, m15⟩ := u9
    have hP : va_P D vwCl [cell30_ qx sx, cell28_ k qx sx, cell29_ k qx sx, cell90_ qx qrc qrr m15 m13, (qrr 1, .inl (k 0, 5, .inl m14)), cell72_ qrc qx m11 m12, cell37_ qx qt st, cell27_ k qt st] H := hP
    have hD : va_D A [cell30_ qx sx, cell28_ k qx sx, cell29_ k qx sx, cell90_ qx qrc qrr m15 m13, (qrr 1, .inl (k 0, 5, .inl m14)), cell72_ qrc qx m11 m12, cell37_ qx qt st, cell27_ k qt st] := hD
    replace hw8 : (0 ≤ m13.toInt ∧ m13.toInt ≤ 31) ∧ ((r10, m11, m12, m13, m14, m15) = J_X8_read (lS [(lI [0, 0, (srr 0 2), (srr 0 3)]), (srr 1)]) src (lS [(lI [0, (st 0 1)]), (st 1)])) := hw8
    obtain ⟨w16, w17⟩ := hw8
    refine lv_bipush (v := (-9)) hx hb dX11_rule_17 (by decide) ?_
    refine lv_icmp_eq (tgt := 25) hx hb dX11_rule_19 (by decide) (fun c19 => ?_) (fun c19 => ?_)
    · have f19 : r10.toInt = (-9) := f_eq rfl (by decide) c19
      refine lv_iconst (v := 0) hx hb dX11_rule_25 (by decide) ?_
      refine lv_istore_n (lv' := [(2, .int 0), (0, .ref (qx 0)), (1, .int p0)]) hx hb dX11_rule_26 rfl hl (by decide) rfl (fun ls hl => ?_)
      have hL27 : ∀ (n32 : Nat) (v30 : Int32) (g31 : Nat → Int32) (H : Heap) (locs : List Loc) (ls : Array Slot), 5 - v30.toInt < (n32 : Int) → (0 ≤ v30.toInt ∧ v30.toInt ≤ 5) → (g31 = (PFo (Int.toNat (5 * p0.toInt)) (clv m13 m14 m15) (Int.toNat v30.toInt) (sx 1))) → va_P D vwCl [cell30_ qx sx, (qx 1, .inl (k 0, 15, .inl g31)), cell29_ k qx sx, cell90_ qx qrc qrr m15 m13, (qrr 1, .inl (k 0, 5, .inl m14)), cell72_ qrc qx m11 m12, cell37_ qx qt st, cell27_ k qt st] H → va_D A [cell30_ qx sx, (qx 1, .inl (k 0, 15, .inl g31)), cell29_ k qx sx, cell90_ qx qrc qrr m15 m13, (qrr 1, .inl (k 0, 5, .inl m14)), cell72_ qrc qx m11 m12, cell37_ qx qt st, cell27_ k qt st] → va_S A s.heap H locs → lv_has ls 3 [(2, .int v30), (0, .ref (qx 0)), (1, .int p0)] → W p l e ({ frames := 5, cells := 0, slots := 0, locals := 106 } : Room) s m ([.ref (qx 0), .int p0] : List Value).toArray below meth c H locs 0 0 Q (F0 m 27 ls []) := by
        intro n32
        induction n32 with
        | zero => intro v30 g31 H locs ls hmn32 bv30 qR hP hD hS hl; exact absurd hmn32 (by omega)
        | succ n32 ih27 =>
          intro v30 g31 H locs ls hmn32 bv30 qR hP hD hS hl
          refine lv_iload_n hx hb dX11_rule_27 rfl (lv_at hl 0 rfl) ?_
          refine lv_iconst (v := 5) hx hb dX11_rule_28 (by decide) ?_
          refine lv_icmp_ge (tgt := 56) hx hb dX11_rule_29 (by decide) (fun c33 => ?_) (fun c33 => ?_)
          · have f33 : 5 ≤ v30.toInt := f_le (by decide) rfl c33
            have qR_e : g31 = (PFo (Int.toNat (5 * p0.toInt)) (clv m13 m14 m15) 5 (sx 1)) := by have q : Int.toNat v30.toInt = 5 := (by omega); rw [q] at qR; exact qR
            refine lv_aload_n hx hb dX11_rule_56 rfl (lv_at hl 1 rfl) ?_
            refine g_get cx hP iw_X11_rule_X11 0 rfl rfl 2 (by decide) rfl fw_X11_rule_28 rfl dX11_rule_57 ?_
            refine g_ir (g_runV (wc := [cell90_ qx qrc qrr m15 m13, (qrr 1, .inl (k 0, 5, .inl m14)), cell72_ qrc qx m11 m12, cell37_ qx qt st, cell27_ k qt st]) (rest := []) cx hP hD hS [3, 4, 5, 6, 7] rfl (by decide) [] (c_X8_exceptions l D k b (lq [qx 5, qrr 1]) (lS [(lI [0, 0, m15, m13]), m14]) qrc (up2 src 0 (upd (upd (src 0) 1 m11) 2 m12)) (lq [qx 3, qt 1]) (lS [(lI [0, (st 0 1)]), (st 1)]) H.size) gX11_rule_X8_exceptions rfl rfl rfl nd_X8_exceptions ⟨Nat.le_of_ble_eq_true rfl, Nat.le_of_ble_eq_true rfl⟩ (ci := 6) (q0 := 0) rfl rfl rfl hl.1 rfl (Nat.le_of_ble_eq_true rfl) ⟨Nat.zero_le _, Nat.zero_le _⟩ dX11_rule_60) cx.2.2.1 hP hD hS [3, 4, 5, 6, 7] rfl rfl (fun r35 H locs hw34 hP hS => ?_)
            have w36 : r35 = J_X8_exceptions (lS [(lI [0, 0, m15, m13]), m14]) (up2 src 0 (upd (upd (src 0) 1 m11) 2 m12)) (lS [(lI [0, (st 0 1)]), (st 1)]) := hw34
            clear hw34
            rw [hQ]
            exact x_i cx hr (m11, m12, m13, m14, m15, g31) hP hD hS (show (r35, m11, m12, m13, m14, m15, g31) = J_X11_rule sx srr src st p0 from (exl_X11_rule_0 qR_e w5 c7 w17 c19 w36)) dX11_rule_63
          · have f33 : v30.toInt < 5 := f_nle (by decide) rfl c33
            refine lv_aload_n hx hb dX11_rule_32 rfl (lv_at hl 1 rfl) ?_
            refine g_get cx hP iw_X11_rule_X11 0 rfl rfl 6 (by decide) rfl fw_X11_rule_45 rfl dX11_rule_33 ?_
            refine lv_iload_n hx hb dX11_rule_36 rfl (lv_at hl 2 rfl) ?_
            refine lv_iconst (v := 5) hx hb dX11_rule_37 (by decide) ?_
            refine lv_imul hx hb dX11_rule_38 (lv_topi (fun v38 e38 => ?_))
            have t38 : v38.toInt = p0.toInt * 5 := by rw [e38]; exact i_mul rfl (by decide) (by omega) (by omega)
            refine lv_iload_n hx hb dX11_rule_39 rfl (lv_at hl 0 rfl) ?_
            refine lv_iadd hx hb dX11_rule_40 (lv_topi (fun v39 e39 => ?_))
            have t39 : v39.toInt = v38.toInt + v30.toInt := by rw [e39]; exact i_add rfl rfl (by omega) (by omega)
            refine lv_aload_n hx hb dX11_rule_41 rfl (lv_at hl 1 rfl) ?_
            refine g_get cx hP iw_X11_rule_X11 0 rfl rfl 2 (by decide) rfl fw_X11_rule_28 rfl dX11_rule_42 ?_
            refine lv_iload_n hx hb dX11_rule_45 rfl (lv_at hl 0 rfl) ?_
            refine g_ir (g_runV (wc := [cell90_ qx qrc qrr m15 m13, (qrr 1, .inl (k 0, 5, .inl m14)), cell72_ qrc qx m11 m12, cell37_ qx qt st, cell27_ k qt st]) (rest := [.int v39, .ref (qx 1)]) cx hP hD hS [3, 4, 5, 6, 7] rfl (by decide) [.int v30] (c_X8_levelIn l D k b (lq [qx 5, qrr 1]) (lS [(lI [0, 0, m15, m13]), m14]) qrc (up2 src 0 (upd (upd (src 0) 1 m11) 2 m12)) (lq [qx 3, qt 1]) (lS [(lI [0, (st 0 1)]), (st 1)]) H.size v30 (show 0 ≤ v30.toInt ∧ v30.toInt ≤ 4 from by first | decide | omega)) gX11_rule_X8_levelIn rfl rfl rfl nd_X8_levelIn ⟨Nat.le_of_ble_eq_true rfl, Nat.le_of_ble_eq_true rfl⟩ (ci := 6) (q0 := 0) rfl rfl rfl hl.1 rfl (Nat.le_of_ble_eq_true rfl) ⟨Nat.zero_le _, Nat.zero_le _⟩ dX11_rule_46) cx.2.2.1 hP hD hS [3, 4, 5, 6, 7] rfl rfl (fun r41 H locs hw40 hP hS => ?_)
            have w42 : r41 = J_X8_levelIn (lS [(lI [0, 0, m15, m13]), m14]) (up2 src 0 (upd (upd (src 0) 1 m11) 2 m12)) (lS [(lI [0, (st 0 1)]), (st 1)]) v30 := hw40
            clear hw40
            have hlq_ := lin_clv w42 (show 0 ≤ v30.toInt from by omega)
            have hlin_ : r41 = (clv m13 m14 m15) (Int.toNat v30.toInt) := hlq_
            have hn44 : vp_in v39 15 := f_in (a := v39.toInt) rfl (by omega) (by omega)
            refine va_iast hx hb cx.2.1 hP hD hS 1 0 rfl rfl hn44 dX11_rule_49 (fun H locs hP hD hS => ?_)
            obtain ⟨g45, eg45⟩ : ∃ g : Nat → Int32, g = upd g31 (v39).toNatClampNeg r41 := ⟨_, rfl⟩
            rw [← eg45] at hP hD
            have hP : va_P D vwCl [cell30_ qx sx, (qx 1, .inl (k 0, 15, .inl g45)), cell29_ k qx sx, cell90_ qx qrc qrr m15 m13, (qrr 1, .inl (k 0, 5, .inl m14)), cell72_ qrc qx m11 m12, cell37_ qx qt st, cell27_ k qt st] H := hP
            have hD : va_D A [cell30_ qx sx, (qx 1, .inl (k 0, 15, .inl g45)), cell29_ k qx sx, cell90_ qx qrc qrr m15 m13, (qrr 1, .inl (k 0, 5, .inl m14)), cell72_ qrc qx m11 m12, cell37_ qx qt st, cell27_ k qt st] := hD
            have flq := PFo_st (P := (clv m13 m14 m15)) (b := Int.toNat (5 * p0.toInt)) eg45 (k := Int.toNat v30.toInt) (show v39.toInt = ((Int.toNat (5 * p0.toInt) : Nat) : Int) + ((Int.toNat v30.toInt : Nat) : Int) from by omega) (hlin_) qR
            obtain ⟨v46, e46⟩ : ∃ z : Int32, z = v30 + 1 := ⟨_, rfl⟩
            refine lv_iinc (v := v46) (lv' := [(2, .int v46), (0, .ref (qx 0)), (1, .int p0)]) hx hb dX11_rule_50 hl (k := 0) rfl (by rw [e46]; rfl) (by decide) rfl (fun ls hl => ?_)
            have t46 : v46.toInt = v30.toInt + 1 := by rw [e46]; exact i_add rfl (by decide) (by omega) (by omega)
            refine lv_goto (tgt := 27) hx hb dX11_rule_53 (by decide) ?_
            exact ih27 v46 g45 _ _ _ (by omega) (by first | decide | omega) (flq.trans (congrArg (fun n => (PFo (Int.toNat (5 * p0.toInt)) (clv m13 m14 m15) n (sx 1))) (by omega))) hP hD hS (lv_sub hl [0, 1, 2] rfl)
      have hlit47 : (0 : Int32).toInt = 0 := by decide
      exact hL27 (Int.toNat (5 - 0) + 1) 0 (sx 1) _ _ _ (by omega) (by first | decide | omega) (PFo_0 _ _ _) hP hD hS (lv_sub hl [0, 1, 2] rfl)
    · have f19 : ¬ r10.toInt = (-9) := f_ne rfl (by decide) c19
      refine lv_bipush (v := (-3)) hx hb dX11_rule_22 (by decide) ?_
      have hlit48 : ((-3) : Int32).toInt = -3 := by decide
      rw [hQ]
      exact x_i cx hr (m11, m12, m13, m14, m15, (sx 1)) hP hD hS (show (((-3) : Int32), m11, m12, m13, m14, m15, (sx 1)) = J_X11_rule sx srr src st p0 from (exl_X11_rule_1 w5 c7 w17 c19)) dX11_rule_24
  · have f7 : r2.toInt = 0 := f_eq rfl (by decide) c7
    refine lv_iconst (v := (-1)) hx hb dX11_rule_8 (by decide) ?_
    have hlit49 : ((-1) : Int32).toInt = -1 := by decide
    rw [hQ]
    exact x_i cx hr ((src 0 1), (src 0 2), (srr 0 3), (srr 1), (srr 0 2), (sx 1)) hP hD hS (show (((-1) : Int32), (src 0 1), (src 0 2), (srr 0 3), (srr 1), (srr 0 2), (sx 1)) = J_X11_rule sx srr src st p0 from (exl_X11_rule_2 w5 c7)) dX11_rule_9
def J_X11_level (sx : Nat → Nat → Int32) (p0 : Int32) (p1 : Int32) : Int32 := let y6 := J_X11_isRule sx p0; if y6 = 0 then ((-1) : Int32) else if p1 < 0 then ((-1) : Int32) else if p1 < 5 then let y16 := J_X11_levelBy sx p0 p1; y16 else ((-1) : Int32)
set_option maxHeartbeats 4000000 in
set_option maxRecDepth 100000 in
theorem c_X11_level (l : Launch) (D : va_G) (k : Nat → ClassId) (b : Nat → Nat) (qx : Nat → Nat) (sx : Nat → Nat → Int32) (sz : Nat) (p0 : Int32) (p1 : Int32) : MetI l D k b yX11_level wsX11_level ({ frames := 1, cells := 0, slots := 0, locals := 22 } : Room) [cell30_ qx sx, cell28_ k qx sx, cell29_ k qx sx] sz [.ref (qx 0), .int p0, .int p1] (fun (r : Int32) (u : Unit) => r = J_X11_level sx p0 p1) (fun u => [cell30_ qx sx, cell28_ k qx sx, cell29_ k qx sx]) := by
  refine g_enter (cc := cX11_level) (maxL := 3) (ret := (some .int)) (by decide) rfl (Nat.le_of_ble_eq_true rfl) ?_
  intro p e s m below meth c A hsz hAe cx hr hP hD hS ls hl
  rw [hAe]
  refine g_q (fun Q hQ => ?_)
  have hx := cx.1.1
  have hb := cx.1.2.1
  have bp0 := i_rng p0
  have bp1 := i_rng p1
  have hl : lv_has ls 3 [(0, .ref (qx 0)), (1, .int p0), (2, .int p1)] := hl
  obtain ⟨H, eH⟩ : ∃ H : Heap, H = s.heap := ⟨_, rfl⟩
  obtain ⟨locs, el⟩ : ∃ L : List Loc, L = [] := ⟨_, rfl⟩
  have hP : va_P D vwCl [cell30_ qx sx, cell28_ k qx sx, cell29_ k qx sx] H := by rw [eH]; exact hP
  have hD : va_D A [cell30_ qx sx, cell28_ k qx sx, cell29_ k qx sx] := hD
  have hS : va_S A s.heap H locs := by rw [eH, el]; exact hS
  suffices goal : W p l e ({ frames := 1, cells := 0, slots := 0, locals := 22 } : Room) s m ([.ref (qx 0), .int p0, .int p1] : List Value).toArray below meth c H locs 0 0 Q (F0 m 0 ls []) by rw [eH, el] at goal; exact goal
  refine lv_aload_n hx hb dX11_level_0 rfl (lv_at hl 0 rfl) ?_
  refine lv_iload_n hx hb dX11_level_1 rfl (lv_at hl 1 rfl) ?_
  refine g_iF (w1 := fun (_ : Unit) => [cell30_ qx sx, cell28_ k qx sx, cell29_ k qx sx]) (g_runVF (ws := [cell30_ qx sx, cell28_ k qx sx, cell29_ k qx sx]) (rest := []) cx hP hD hS [.int p0] (c_X11_isRule l D k b qx sx H.size p0) gX11_level_X11_isRule rfl rfl rfl nd_X11_isRule ⟨Nat.le_of_ble_eq_true rfl, Nat.le_of_ble_eq_true rfl⟩ (ci := 9) (q0 := 0) rfl rfl rfl hl.1 rfl (Nat.le_of_ble_eq_true rfl) ⟨Nat.zero_le _, Nat.zero_le _⟩ dX11_level_2) cx.2.2.1 hD hS (fun r2 _ H locs hw1 hP hD hS => ?_)
  replace hw1 : (0 ≤ r2.toInt ∧ r2.toInt ≤ 1) ∧ (Imp (r2.toInt = 1) (0 ≤ p0.toInt ∧ p0.toInt ≤ 2)) ∧ (r2 = J_X11_isRule sx p0) := hw1
  obtain ⟨w3, w4, w5⟩ := hw1
  have k7 : r2 = (J_X11_isRule sx p0) := congrArg (fun z => z) w5
  have zr2 : 0 ≤ r2.toInt ∧ r2.toInt ≤ 1 := w3
  refine lv_if_eq (tgt := 17) hx hb dX11_level_5 (by decide) (fun c8 => ?_) (fun c8 => ?_)
  · have f8 : r2.toInt = 0 := f_eq rfl (by decide) c8
    refine lv_iconst (v := (-1)) hx hb dX11_level_17 (by decide) ?_
    have hlit9 : ((-1) : Int32).toInt = -1 := by decide
    rw [hQ]
    exact x_i cx hr () hP hD hS (show ((-1) : Int32) = J_X11_level sx p0 p1 from by subst k7; first | (refine Eq.symm ?_; refine Eq.trans (if_pos c8) ?_; rfl) | (unfold J_X11_level; try dsimp only; rw [if_pos c8])) dX11_level_18
  · have f8 : ¬ r2.toInt = 0 := f_ne rfl (by decide) c8
    have k8 : (0 ≤ p0.toInt ∧ p0.toInt ≤ 2) := w4 (by omega)
    refine lv_iload_n hx hb dX11_level_8 rfl (lv_at hl 2 rfl) ?_
    refine lv_if_lt (tgt := 17) hx hb dX11_level_9 (by decide) (fun c10 => ?_) (fun c10 => ?_)
    · have f10 : p1.toInt < 0 := f_lt rfl (by decide) c10
      refine lv_iconst (v := (-1)) hx hb dX11_level_17 (by decide) ?_
      have hlit11 : ((-1) : Int32).toInt = -1 := by decide
      rw [hQ]
      exact x_i cx hr () hP hD hS (show ((-1) : Int32) = J_X11_level sx p0 p1 from by subst k7; first | (refine Eq.symm ?_; refine Eq.trans (if_neg c8) ?_; refine Eq.trans (if_pos c10) ?_; rfl) | (unfold J_X11_level; try dsimp only; rw [if_neg c8, if_pos c10])) dX11_level_18
    · have f10 : 0 ≤ p1.toInt := f_nlt rfl (by decide) c10
      refine lv_iload_n hx hb dX11_level_12 rfl (lv_at hl 2 rfl) ?_
      refine lv_iconst (v := 5) hx hb dX11_level_13 (by decide) ?_
      refine lv_icmp_lt (tgt := 19) hx hb dX11_level_14 (by decide) (fun c12 => ?_) (fun c12 => ?_)
      · have f12 : p1.toInt < 5 := f_lt rfl (by decide) c12
        refine lv_aload_n hx hb dX11_level_19 rfl (lv_at hl 0 rfl) ?_
        refine lv_iload_n hx hb dX11_level_20 rfl (lv_at hl 1 rfl) ?_
        refine lv_iload_n hx hb dX11_level_21 rfl (lv_at hl 2 rfl) ?_
        refine g_iF (w1 := fun (_ : Unit) => [cell30_ qx sx, cell28_ k qx sx, cell29_ k qx sx]) (g_runVF (ws := [cell30_ qx sx, cell28_ k qx sx, cell29_ k qx sx]) (rest := []) cx hP hD hS [.int p0, .int p1] (c_X11_levelBy l D k b qx sx H.size p0 p1 (show 0 ≤ p0.toInt ∧ p0.toInt ≤ 2 from by first | decide | omega) (show 0 ≤ p1.toInt ∧ p1.toInt ≤ 4 from by first | decide | omega)) gX11_level_X11_levelBy rfl rfl rfl nd_X11_levelBy ⟨Nat.le_of_ble_eq_true rfl, Nat.le_of_ble_eq_true rfl⟩ (ci := 9) (q0 := 0) rfl rfl rfl hl.1 rfl (Nat.le_of_ble_eq_true rfl) ⟨Nat.zero_le _, Nat.zero_le _⟩ dX11_level_22) cx.2.2.1 hD hS (fun r14 _ H locs hw13 hP hD hS => ?_)
        have w15 : r14 = J_X11_levelBy sx p0 p1 := hw13
        clear hw13
        have k17 : r14 = (J_X11_levelBy sx p0 p1) := congrArg (fun z => z) w15
        rw [hQ]
        exact x_i cx hr () hP hD hS (show r14 = J_X11_level sx p0 p1 from by subst k7 k17; first | (refine Eq.symm ?_; refine Eq.trans (if_neg c8) ?_; refine Eq.trans (if_neg c10) ?_; refine Eq.trans (if_pos c12) ?_; rfl) | (unfold J_X11_level; try dsimp only; rw [if_neg c8, if_neg c10, if_pos c12])) dX11_level_25
      · have f12 : 5 ≤ p1.toInt := f_nlt rfl (by decide) c12
        refine lv_iconst (v := (-1)) hx hb dX11_level_17 (by decide) ?_
        have hlit18 : ((-1) : Int32).toInt = -1 := by decide
        rw [hQ]
        exact x_i cx hr () hP hD hS (show ((-1) : Int32) = J_X11_level sx p0 p1 from by subst k7; first | (refine Eq.symm ?_; refine Eq.trans (if_neg c8) ?_; refine Eq.trans (if_neg c10) ?_; refine Eq.trans (if_neg c12) ?_; rfl) | (unfold J_X11_level; try dsimp only; rw [if_neg c8, if_neg c10, if_neg c12])) dX11_level_18
theorem fw_X11_week_146 : Cond.fieldLink RX11 146 "StillInAugust$House" "wants" "[I" ∈ wsX11_week := by decide +kernel
theorem fw_X11_week_149 : Cond.fieldLink RX11 149 "StillInAugust$House" "offers" "[I" ∈ wsX11_week := by decide +kernel
theorem fw_X11_week_39 : Cond.fieldLink RX11 39 "StillInAugust" "house" "LStillInAugust$House;" ∈ wsX11_week := by decide +kernel
theorem iw_X11_week_X11 : ∀ w ∈ u_ws RX11 TX11 17, w ∈ wsX11_week := fun _ h => List.mem_cons_of_mem _ (List.mem_append_left _ (List.mem_append_right _ h))
theorem iw_X11_week_X4 : ∀ w ∈ u_ws RX4 TX4 14, w ∈ wsX11_week := fun _ h => List.mem_cons_of_mem _ (List.mem_append_right _ h)
def J_X11_week (sx : Nat → Nat → Int32) (sh : Nat → Nat → Int32) (p0 : Int32) (p1 : Int32) : Int32 := let y6 := J_X11_isWeek sx (lS [(lI [(sh 0 0), (sh 0 1), 0, 0, 0, 0, (sh 0 6), (sh 0 7), (sh 0 8), (sh 0 9), (sh 0 10), (sh 0 11), (sh 0 12)]), (sh 1), (sh 2), (sh 3), (sh 4), (sh 5)]) p0; if y6 = 0 then ((-1) : Int32) else if p1 = 0 then ((sh 1) (p0).toNatClampNeg) else if p1 = 1 then ((sh 2) (p0).toNatClampNeg) else ((-2) : Int32)
set_option maxHeartbeats 4000000 in
set_option maxRecDepth 100000 in
theorem c_X11_week (l : Launch) (D : va_G) (k : Nat → ClassId) (b : Nat → Nat) (qx : Nat → Nat) (sx : Nat → Nat → Int32) (qh : Nat → Nat) (sh : Nat → Nat → Int32) (sz : Nat) (p0 : Int32) (p1 : Int32) (h_wk : 0 ≤ (sh 0 0).toInt ∧ (sh 0 0).toInt ≤ 5) (h_hk : 0 ≤ (sh 0 1).toInt ∧ (sh 0 1).toInt ≤ 4) (h_fl : 0 ≤ (sh 0 12).toInt ∧ (sh 0 12).toInt ≤ 5) (h_of : ∀ j, 0 ≤ (sh 2 j).toInt ∧ (sh 2 j).toInt ≤ 4) (h_go : ∀ j, 0 ≤ (sh 3 j).toInt ∧ (sh 3 j).toInt ≤ 5) : MetI l D k b yX11_week wsX11_week ({ frames := 1, cells := 0, slots := 0, locals := 21 } : Room) [cell30_ qx sx, cell28_ k qx sx, cell29_ k qx sx, cell31_ qx sh qh, cell0_ k qh sh, cell1_ k qh sh, cell4_ k qh sh, cell3_ k qh sh, cell2_ k qh sh] sz [.ref (qx 0), .int p0, .int p1] (fun (r : Int32) (u : Unit) => r = J_X11_week sx sh p0 p1) (fun u => [cell30_ qx sx, cell28_ k qx sx, cell29_ k qx sx, cell31_ qx sh qh, cell0_ k qh sh, cell1_ k qh sh, cell4_ k qh sh, cell3_ k qh sh, cell2_ k qh sh]) := by
  refine g_enter (cc := cX11_week) (maxL := 3) (ret := (some .int)) (by decide) rfl (Nat.le_of_ble_eq_true rfl) ?_
  intro p e s m below meth c A hsz hAe cx hr hP hD hS ls hl
  rw [hAe]
  refine g_q (fun Q hQ => ?_)
  have hx := cx.1.1
  have hb := cx.1.2.1
  have bp0 := i_rng p0
  have bp1 := i_rng p1
  have hl : lv_has ls 3 [(0, .ref (qx 0)), (1, .int p0), (2, .int p1)] := hl
  obtain ⟨H, eH⟩ : ∃ H : Heap, H = s.heap := ⟨_, rfl⟩
  obtain ⟨locs, el⟩ : ∃ L : List Loc, L = [] := ⟨_, rfl⟩
  have hP : va_P D vwCl [cell30_ qx sx, cell28_ k qx sx, cell29_ k qx sx, cell31_ qx sh qh, cell0_ k qh sh, cell1_ k qh sh, cell4_ k qh sh, cell3_ k qh sh, cell2_ k qh sh] H := by rw [eH]; exact hP
  have hD : va_D A [cell30_ qx sx, cell28_ k qx sx, cell29_ k qx sx, cell31_ qx sh qh, cell0_ k qh sh, cell1_ k qh sh, cell4_ k qh sh, cell3_ k qh sh, cell2_ k qh sh] := hD
  have hS : va_S A s.heap H locs := by rw [eH, el]; exact hS
  suffices goal : W p l e ({ frames := 1, cells := 0, slots := 0, locals := 21 } : Room) s m ([.ref (qx 0), .int p0, .int p1] : List Value).toArray below meth c H locs 0 0 Q (F0 m 0 ls []) by rw [eH, el] at goal; exact goal
  refine lv_aload_n hx hb dX11_week_0 rfl (lv_at hl 0 rfl) ?_
  refine lv_iload_n hx hb dX11_week_1 rfl (lv_at hl 1 rfl) ?_
  refine g_iF (w1 := fun (_ : Unit) => [cell30_ qx sx, cell28_ k qx sx, cell29_ k qx sx, cell31_ qx sh qh, cell0_ k qh sh, cell1_ k qh sh, cell4_ k qh sh, cell3_ k qh sh, cell2_ k qh sh]) (g_runVF (ws := [cell30_ qx sx, cell28_ k qx sx, cell29_ k qx sx, cell31_ qx sh qh, cell0_ k qh sh, cell1_ k qh sh, cell4_ k qh sh, cell3_ k qh sh, cell2_ k qh sh]) (rest := []) cx hP hD hS [.int p0] (c_X11_isWeek l D k b qx sx (lq [0, qh 1, qh 2, qh 3, qh 4, qh 5]) (lS [(lI [(sh 0 0), (sh 0 1), 0, 0, 0, 0, (sh 0 6), (sh 0 7), (sh 0 8), (sh 0 9), (sh 0 10), (sh 0 11), (sh 0 12)]), (sh 1), (sh 2), (sh 3), (sh 4), (sh 5)]) H.size p0 (show 0 ≤ (sh 0 0).toInt ∧ (sh 0 0).toInt ≤ 5 from by first | decide | omega)) gX11_week_X11_isWeek rfl rfl rfl nd_X11_isWeek ⟨Nat.le_of_ble_eq_true rfl, Nat.le_of_ble_eq_true rfl⟩ (ci := 9) (q0 := 0) rfl rfl rfl hl.1 rfl (Nat.le_of_ble_eq_true rfl) ⟨Nat.zero_le _, Nat.zero_le _⟩ dX11_week_2) cx.2.2.1 hD hS (fun r2 _ H locs hw1 hP hD hS => ?_)
  replace hw1 : (0 ≤ r2.toInt ∧ r2.toInt ≤ 1) ∧ (Imp (r2.toInt = 1) (0 ≤ p0.toInt ∧ p0.toInt ≤ 4 ∧ p0.toInt < (sh 0 0).toInt)) ∧ (r2 = J_X11_isWeek sx (lS [(lI [(sh 0 0), (sh 0 1), 0, 0, 0, 0, (sh 0 6), (sh 0 7), (sh 0 8), (sh 0 9), (sh 0 10), (sh 0 11), (sh 0 12)]), (sh 1), (sh 2), (sh 3), (sh 4), (sh 5)]) p0) := hw1
  obtain ⟨w3, w4, w5⟩ := hw1
  have k7 : r2 = (J_X11_isWeek sx (lS [(lI [(sh 0 0), (sh 0 1), 0, 0, 0, 0, (sh 0 6), (sh 0 7), (sh 0 8), (sh 0 9), (sh 0 10), (sh 0 11), (sh 0 12)]), (sh 1), (sh 2), (sh 3), (sh 4), (sh 5)]) p0) := congrArg (fun z => z) w5
  have zr2 : 0 ≤ r2.toInt ∧ r2.toInt ≤ 1 := w3
  refine lv_if_ne (tgt := 10) hx hb dX11_week_5 (by decide) (fun c8 => ?_) (fun c8 => ?_)
  · have f8 : ¬ r2.toInt = 0 := f_ne rfl (by decide) c8
    have k8 : (0 ≤ p0.toInt ∧ p0.toInt ≤ 4 ∧ p0.toInt < (sh 0 0).toInt) := w4 (by omega)
    refine lv_iload_n hx hb dX11_week_10 rfl (lv_at hl 2 rfl) ?_
    by_cases c9 : p1 = 0
    · refine lv_lookup (tgt := 36) (off := 25) hx hb dX11_week_11 (by decide) (by rw [c9]; decide) (by decide) ?_
      have f9 : p1.toInt = 0 := f_eq rfl (by decide) c9
      refine lv_aload_n hx hb dX11_week_36 rfl (lv_at hl 0 rfl) ?_
      refine g_get cx hP iw_X11_week_X11 0 rfl rfl 4 (by decide) rfl fw_X11_week_39 rfl dX11_week_37 ?_
      refine g_get cx hP iw_X11_week_X4 3 rfl rfl 2 (by decide) rfl fw_X11_week_146 rfl dX11_week_40 ?_
      refine lv_iload_n hx hb dX11_week_43 rfl (lv_at hl 1 rfl) ?_
      have hn10 : vp_in p0 5 := f_in (a := p0.toInt) rfl (by omega) (by omega)
      refine va_iald hx hb cx.2.1 hP 4 0 rfl rfl hn10 dX11_week_44 (lv_topi (fun v11 e11 => ?_))
      rw [hQ]
      exact x_i cx hr () hP hD hS (show v11 = J_X11_week sx sh p0 p1 from by subst k7 e11; first | (refine Eq.symm ?_; refine Eq.trans (if_neg c8) ?_; refine Eq.trans (if_pos c9) ?_; rfl) | (unfold J_X11_week; try dsimp only; rw [if_neg c8, if_pos c9])) dX11_week_45
    by_cases c12 : p1 = 1
    · refine lv_lookup (tgt := 46) (off := 35) hx hb dX11_week_11 (by decide) (by rw [c12]; decide) (by decide) ?_
      have f12 : p1.toInt = 1 := f_eq rfl (by decide) c12
      refine lv_aload_n hx hb dX11_week_46 rfl (lv_at hl 0 rfl) ?_
      refine g_get cx hP iw_X11_week_X11 0 rfl rfl 4 (by decide) rfl fw_X11_week_39 rfl dX11_week_47 ?_
      refine g_get cx hP iw_X11_week_X4 3 rfl rfl 3 (by decide) rfl fw_X11_week_149 rfl dX11_week_50 ?_
      refine lv_iload_n hx hb dX11_week_53 rfl (lv_at hl 1 rfl) ?_
      have hn13 : vp_in p0 5 := f_in (a := p0.toInt) rfl (by omega) (by omega)
      refine va_iald hx hb cx.2.1 hP 5 0 rfl rfl hn13 dX11_week_54 (lv_topi (fun v14 e14 => ?_))
      have t14 : 0 ≤ v14.toInt ∧ v14.toInt ≤ 4 := by rw [e14]; exact h_of _
      rw [hQ]
      exact x_i cx hr () hP hD hS (show v14 = J_X11_week sx sh p0 p1 from by subst k7 e14; first | (refine Eq.symm ?_; refine Eq.trans (if_neg c8) ?_; refine Eq.trans (if_neg c9) ?_; refine Eq.trans (if_pos c12) ?_; rfl) | (unfold J_X11_week; try dsimp only; rw [if_neg c8, if_neg c9, if_pos c12])) dX11_week_55
    refine lv_lookup (tgt := 56) (off := 45) hx hb dX11_week_11 (by decide) (by show Op.lookupswitch.offset [(0, 25), (1, 35)] 45 p1.toInt = 45; rw [lv_osw c9 (by decide)]; rw [lv_osw c12 (by decide)]; rfl) (by decide) ?_
    refine lv_bipush (v := (-2)) hx hb dX11_week_56 (by decide) ?_
    have hlit15 : ((-2) : Int32).toInt = -2 := by decide
    rw [hQ]
    exact x_i cx hr () hP hD hS (show ((-2) : Int32) = J_X11_week sx sh p0 p1 from by subst k7; first | (refine Eq.symm ?_; refine Eq.trans (if_neg c8) ?_; refine Eq.trans (if_neg c9) ?_; refine Eq.trans (if_neg c12) ?_; rfl) | (unfold J_X11_week; try dsimp only; rw [if_neg c8, if_neg c9, if_neg c12])) dX11_week_58
  · have f8 : r2.toInt = 0 := f_eq rfl (by decide) c8
    refine lv_iconst (v := (-1)) hx hb dX11_week_8 (by decide) ?_
    have hlit16 : ((-1) : Int32).toInt = -1 := by decide
    rw [hQ]
    exact x_i cx hr () hP hD hS (show ((-1) : Int32) = J_X11_week sx sh p0 p1 from by subst k7; first | (refine Eq.symm ?_; refine Eq.trans (if_pos c8) ?_; rfl) | (unfold J_X11_week; try dsimp only; rw [if_pos c8])) dX11_week_9
theorem fw_X11_aged_155 : Cond.fieldLink RX11 155 "StillInAugust$House" "does" "[I" ∈ wsX11_aged := by decide +kernel
theorem fw_X11_aged_39 : Cond.fieldLink RX11 39 "StillInAugust" "house" "LStillInAugust$House;" ∈ wsX11_aged := by decide +kernel
theorem iw_X11_aged_X11 : ∀ w ∈ u_ws RX11 TX11 17, w ∈ wsX11_aged := fun _ h => List.mem_cons_of_mem _ (List.mem_append_left _ (List.mem_append_right _ h))
theorem iw_X11_aged_X4 : ∀ w ∈ u_ws RX4 TX4 14, w ∈ wsX11_aged := fun _ h => List.mem_cons_of_mem _ (List.mem_append_right _ h)
def J_X11_aged (sx : Nat → Nat → Int32) (sh : Nat → Nat → Int32) (p0 : Int32) (p1 : Int32) : Int32 := if p0 < 0 then ((-2) : Int32) else if p0 < 3 then if p1 = 0 then let y9 := J_X4_fifths (lS [(lI [(sh 0 0), (sh 0 1), 0, 0, 0, 0, (sh 0 6), (sh 0 7), (sh 0 8), (sh 0 9), (sh 0 10), (sh 0 11), (sh 0 12)]), (sh 1), (sh 2), (sh 3), (sh 4), (sh 5)]) p0; y9 else if p1 = 1 then ((sh 4) (p0).toNatClampNeg) else ((-2) : Int32) else ((-2) : Int32)
set_option maxHeartbeats 4000000 in
set_option maxRecDepth 100000 in
theorem c_X11_aged (l : Launch) (D : va_G) (k : Nat → ClassId) (b : Nat → Nat) (qx : Nat → Nat) (sx : Nat → Nat → Int32) (qh : Nat → Nat) (sh : Nat → Nat → Int32) (sz : Nat) (p0 : Int32) (p1 : Int32) (h_wk : 0 ≤ (sh 0 0).toInt ∧ (sh 0 0).toInt ≤ 5) (h_hk : 0 ≤ (sh 0 1).toInt ∧ (sh 0 1).toInt ≤ 4) (h_fl : 0 ≤ (sh 0 12).toInt ∧ (sh 0 12).toInt ≤ 5) (h_of : ∀ j, 0 ≤ (sh 2 j).toInt ∧ (sh 2 j).toInt ≤ 4) (h_go : ∀ j, 0 ≤ (sh 3 j).toInt ∧ (sh 3 j).toInt ≤ 5) : MetI l D k b yX11_aged wsX11_aged ({ frames := 2, cells := 0, slots := 0, locals := 42 } : Room) [cell30_ qx sx, cell28_ k qx sx, cell29_ k qx sx, cell31_ qx sh qh, cell0_ k qh sh, cell1_ k qh sh, cell4_ k qh sh, cell3_ k qh sh, cell2_ k qh sh] sz [.ref (qx 0), .int p0, .int p1] (fun (r : Int32) (u : Unit) => r = J_X11_aged sx sh p0 p1) (fun u => [cell30_ qx sx, cell28_ k qx sx, cell29_ k qx sx, cell31_ qx sh qh, cell0_ k qh sh, cell1_ k qh sh, cell4_ k qh sh, cell3_ k qh sh, cell2_ k qh sh]) := by
  refine g_enter (cc := cX11_aged) (maxL := 3) (ret := (some .int)) (by decide) rfl (Nat.le_of_ble_eq_true rfl) ?_
  intro p e s m below meth c A hsz hAe cx hr hP hD hS ls hl
  rw [hAe]
  refine g_q (fun Q hQ => ?_)
  have hx := cx.1.1
  have hb := cx.1.2.1
  have bp0 := i_rng p0
  have bp1 := i_rng p1
  have hl : lv_has ls 3 [(0, .ref (qx 0)), (1, .int p0), (2, .int p1)] := hl
  obtain ⟨H, eH⟩ : ∃ H : Heap, H = s.heap := ⟨_, rfl⟩
  obtain ⟨locs, el⟩ : ∃ L : List Loc, L = [] := ⟨_, rfl⟩
  have hP : va_P D vwCl [cell30_ qx sx, cell28_ k qx sx, cell29_ k qx sx, cell31_ qx sh qh, cell0_ k qh sh, cell1_ k qh sh, cell4_ k qh sh, cell3_ k qh sh, cell2_ k qh sh] H := by rw [eH]; exact hP
  have hD : va_D A [cell30_ qx sx, cell28_ k qx sx, cell29_ k qx sx, cell31_ qx sh qh, cell0_ k qh sh, cell1_ k qh sh, cell4_ k qh sh, cell3_ k qh sh, cell2_ k qh sh] := hD
  have hS : va_S A s.heap H locs := by rw [eH, el]; exact hS
  suffices goal : W p l e ({ frames := 2, cells := 0, slots := 0, locals := 42 } : Room) s m ([.ref (qx 0), .int p0, .int p1] : List Value).toArray below meth c H locs 0 0 Q (F0 m 0 ls []) by rw [eH, el] at goal; exact goal
  refine lv_iload_n hx hb dX11_aged_0 rfl (lv_at hl 1 rfl) ?_
  refine lv_if_lt (tgt := 9) hx hb dX11_aged_1 (by decide) (fun c1 => ?_) (fun c1 => ?_)
  · have f1 : p0.toInt < 0 := f_lt rfl (by decide) c1
    refine lv_bipush (v := (-2)) hx hb dX11_aged_9 (by decide) ?_
    have hlit2 : ((-2) : Int32).toInt = -2 := by decide
    rw [hQ]
    exact x_i cx hr () hP hD hS (show ((-2) : Int32) = J_X11_aged sx sh p0 p1 from by first | (refine Eq.symm ?_; refine Eq.trans (if_pos c1) ?_; rfl) | (unfold J_X11_aged; try dsimp only; rw [if_pos c1])) dX11_aged_11
  · have f1 : 0 ≤ p0.toInt := f_nlt rfl (by decide) c1
    refine lv_iload_n hx hb dX11_aged_4 rfl (lv_at hl 1 rfl) ?_
    refine lv_iconst (v := 3) hx hb dX11_aged_5 (by decide) ?_
    refine lv_icmp_lt (tgt := 12) hx hb dX11_aged_6 (by decide) (fun c3 => ?_) (fun c3 => ?_)
    · have f3 : p0.toInt < 3 := f_lt rfl (by decide) c3
      refine lv_iload_n hx hb dX11_aged_12 rfl (lv_at hl 2 rfl) ?_
      by_cases c4 : p1 = 0
      · refine lv_lookup (tgt := 40) (off := 27) hx hb dX11_aged_13 (by decide) (by rw [c4]; decide) (by decide) ?_
        have f4 : p1.toInt = 0 := f_eq rfl (by decide) c4
        refine lv_aload_n hx hb dX11_aged_40 rfl (lv_at hl 0 rfl) ?_
        refine g_get cx hP iw_X11_aged_X11 0 rfl rfl 4 (by decide) rfl fw_X11_aged_39 rfl dX11_aged_41 ?_
        refine lv_iload_n hx hb dX11_aged_44 rfl (lv_at hl 1 rfl) ?_
        refine g_ir (g_runV (wc := [cell31_ qx sh qh, cell0_ k qh sh, cell1_ k qh sh, cell4_ k qh sh, cell3_ k qh sh, cell2_ k qh sh]) (rest := []) cx hP hD hS [3, 4, 5, 6, 7, 8] rfl (by decide) [.int p0] (c_X4_fifths l D k b (lq [qx 7, qh 1, qh 2, qh 3, qh 4, qh 5]) (lS [(lI [(sh 0 0), (sh 0 1), 0, 0, 0, 0, (sh 0 6), (sh 0 7), (sh 0 8), (sh 0 9), (sh 0 10), (sh 0 11), (sh 0 12)]), (sh 1), (sh 2), (sh 3), (sh 4), (sh 5)]) H.size p0 (show 0 ≤ (sh 0 12).toInt ∧ (sh 0 12).toInt ≤ 5 from by first | decide | omega) h_go (show 0 ≤ p0.toInt ∧ p0.toInt ≤ 2 from by first | decide | omega)) gX11_aged_X4_fifths rfl rfl rfl nd_X4_fifths ⟨Nat.le_of_ble_eq_true rfl, Nat.le_of_ble_eq_true rfl⟩ (ci := 2) (q0 := 0) rfl rfl rfl hl.1 rfl (Nat.le_of_ble_eq_true rfl) ⟨Nat.zero_le _, Nat.zero_le _⟩ dX11_aged_45) cx.2.2.1 hP hD hS [3, 4, 5, 6, 7, 8] rfl rfl (fun r6 H locs hw5 hP hS => ?_)
        replace hw5 : (0 ≤ r6.toInt ∧ r6.toInt ≤ 5) ∧ (r6 = J_X4_fifths (lS [(lI [(sh 0 0), (sh 0 1), 0, 0, 0, 0, (sh 0 6), (sh 0 7), (sh 0 8), (sh 0 9), (sh 0 10), (sh 0 11), (sh 0 12)]), (sh 1), (sh 2), (sh 3), (sh 4), (sh 5)]) p0) := hw5
        obtain ⟨w7, w8⟩ := hw5
        have k10 : r6 = (J_X4_fifths (lS [(lI [(sh 0 0), (sh 0 1), 0, 0, 0, 0, (sh 0 6), (sh 0 7), (sh 0 8), (sh 0 9), (sh 0 10), (sh 0 11), (sh 0 12)]), (sh 1), (sh 2), (sh 3), (sh 4), (sh 5)]) p0) := congrArg (fun z => z) w8
        rw [hQ]
        exact x_i cx hr () hP hD hS (show r6 = J_X11_aged sx sh p0 p1 from by subst k10; first | (refine Eq.symm ?_; refine Eq.trans (if_neg c1) ?_; refine Eq.trans (if_pos c3) ?_; refine Eq.trans (if_pos c4) ?_; rfl) | (unfold J_X11_aged; try dsimp only; rw [if_neg c1, if_pos c3, if_pos c4])) dX11_aged_48
      by_cases c11 : p1 = 1
      · refine lv_lookup (tgt := 49) (off := 36) hx hb dX11_aged_13 (by decide) (by rw [c11]; decide) (by decide) ?_
        have f11 : p1.toInt = 1 := f_eq rfl (by decide) c11
        refine lv_aload_n hx hb dX11_aged_49 rfl (lv_at hl 0 rfl) ?_
        refine g_get cx hP iw_X11_aged_X11 0 rfl rfl 4 (by decide) rfl fw_X11_aged_39 rfl dX11_aged_50 ?_
        refine g_get cx hP iw_X11_aged_X4 3 rfl rfl 5 (by decide) rfl fw_X11_aged_155 rfl dX11_aged_53 ?_
        refine lv_iload_n hx hb dX11_aged_56 rfl (lv_at hl 1 rfl) ?_
        have hn12 : vp_in p0 3 := f_in (a := p0.toInt) rfl (by omega) (by omega)
        refine va_iald hx hb cx.2.1 hP 7 0 rfl rfl hn12 dX11_aged_57 (lv_topi (fun v13 e13 => ?_))
        rw [hQ]
        exact x_i cx hr () hP hD hS (show v13 = J_X11_aged sx sh p0 p1 from by subst e13; first | (refine Eq.symm ?_; refine Eq.trans (if_neg c1) ?_; refine Eq.trans (if_pos c3) ?_; refine Eq.trans (if_neg c4) ?_; refine Eq.trans (if_pos c11) ?_; rfl) | (unfold J_X11_aged; try dsimp only; rw [if_neg c1, if_pos c3, if_neg c4, if_pos c11])) dX11_aged_58
      refine lv_lookup (tgt := 59) (off := 46) hx hb dX11_aged_13 (by decide) (by show Op.lookupswitch.offset [(0, 27), (1, 36)] 46 p1.toInt = 46; rw [lv_osw c4 (by decide)]; rw [lv_osw c11 (by decide)]; rfl) (by decide) ?_
      refine lv_bipush (v := (-2)) hx hb dX11_aged_59 (by decide) ?_
      have hlit14 : ((-2) : Int32).toInt = -2 := by decide
      rw [hQ]
      exact x_i cx hr () hP hD hS (show ((-2) : Int32) = J_X11_aged sx sh p0 p1 from by first | (refine Eq.symm ?_; refine Eq.trans (if_neg c1) ?_; refine Eq.trans (if_pos c3) ?_; refine Eq.trans (if_neg c4) ?_; refine Eq.trans (if_neg c11) ?_; rfl) | (unfold J_X11_aged; try dsimp only; rw [if_neg c1, if_pos c3, if_neg c4, if_neg c11])) dX11_aged_61
    · have f3 : 3 ≤ p0.toInt := f_nlt rfl (by decide) c3
      refine lv_bipush (v := (-2)) hx hb dX11_aged_9 (by decide) ?_
      have hlit15 : ((-2) : Int32).toInt = -2 := by decide
      rw [hQ]
      exact x_i cx hr () hP hD hS (show ((-2) : Int32) = J_X11_aged sx sh p0 p1 from by first | (refine Eq.symm ?_; refine Eq.trans (if_neg c1) ?_; refine Eq.trans (if_neg c3) ?_; rfl) | (unfold J_X11_aged; try dsimp only; rw [if_neg c1, if_neg c3])) dX11_aged_11
theorem fw_X11_about_126 : Cond.fieldLink RX11 126 "StillInAugust$House" "weeks" "I" ∈ wsX11_about := by decide +kernel
theorem fw_X11_about_158 : Cond.fieldLink RX11 158 "StillInAugust$House" "hooks" "I" ∈ wsX11_about := by decide +kernel
theorem fw_X11_about_161 : Cond.fieldLink RX11 161 "StillInAugust$House" "pay" "I" ∈ wsX11_about := by decide +kernel
theorem fw_X11_about_164 : Cond.fieldLink RX11 164 "StillInAugust$House" "shortPrice" "I" ∈ wsX11_about := by decide +kernel
theorem fw_X11_about_167 : Cond.fieldLink RX11 167 "StillInAugust$House" "letGoPrice" "I" ∈ wsX11_about := by decide +kernel
theorem fw_X11_about_170 : Cond.fieldLink RX11 170 "StillInAugust$House" "teachPrice" "I" ∈ wsX11_about := by decide +kernel
theorem fw_X11_about_173 : Cond.fieldLink RX11 173 "StillInAugust$House" "agencyPrice" "I" ∈ wsX11_about := by decide +kernel
theorem fw_X11_about_176 : Cond.fieldLink RX11 176 "StillInAugust$House" "bonus" "I" ∈ wsX11_about := by decide +kernel
theorem fw_X11_about_39 : Cond.fieldLink RX11 39 "StillInAugust" "house" "LStillInAugust$House;" ∈ wsX11_about := by decide +kernel
theorem iw_X11_about_X11 : ∀ w ∈ u_ws RX11 TX11 17, w ∈ wsX11_about := fun _ h => List.mem_cons_of_mem _ (List.mem_append_left _ (List.mem_append_right _ h))
theorem iw_X11_about_X4 : ∀ w ∈ u_ws RX4 TX4 14, w ∈ wsX11_about := fun _ h => List.mem_cons_of_mem _ (List.mem_append_right _ h)
def J_X11_about (sx : Nat → Nat → Int32) (sh : Nat → Nat → Int32) (p0 : Int32) : Int32 := if p0 = 0 then (sh 0 0) else if p0 = 1 then (sh 0 1) else if p0 = 2 then (sh 0 6) else if p0 = 3 then (sh 0 7) else if p0 = 4 then (sh 0 8) else if p0 = 5 then (sh 0 9) else if p0 = 6 then (sh 0 10) else if p0 = 7 then (sh 0 11) else ((-2) : Int32)
set_option maxHeartbeats 4000000 in
set_option maxRecDepth 100000 in
theorem c_X11_about (l : Launch) (D : va_G) (k : Nat → ClassId) (b : Nat → Nat) (qx : Nat → Nat) (sx : Nat → Nat → Int32) (qh : Nat → Nat) (sh : Nat → Nat → Int32) (sz : Nat) (p0 : Int32) : MetI l D k b yX11_about wsX11_about ({ frames := 0, cells := 0, slots := 0, locals := 0 } : Room) [cell30_ qx sx, cell28_ k qx sx, cell29_ k qx sx, cell31_ qx sh qh, cell0_ k qh sh, cell1_ k qh sh, cell4_ k qh sh, cell3_ k qh sh, cell2_ k qh sh] sz [.ref (qx 0), .int p0] (fun (r : Int32) (u : Unit) => r = J_X11_about sx sh p0) (fun u => [cell30_ qx sx, cell28_ k qx sx, cell29_ k qx sx, cell31_ qx sh qh, cell0_ k qh sh, cell1_ k qh sh, cell4_ k qh sh, cell3_ k qh sh, cell2_ k qh sh]) := by
  refine g_enter (cc := cX11_about) (maxL := 2) (ret := (some .int)) (by decide) rfl (Nat.le_of_ble_eq_true rfl) ?_
  intro p e s m below meth c A hsz hAe cx hr hP hD hS ls hl
  rw [hAe]
  refine g_q (fun Q hQ => ?_)
  have hx := cx.1.1
  have hb := cx.1.2.1
  have bp0 := i_rng p0
  have hl : lv_has ls 2 [(0, .ref (qx 0)), (1, .int p0)] := hl
  obtain ⟨H, eH⟩ : ∃ H : Heap, H = s.heap := ⟨_, rfl⟩
  obtain ⟨locs, el⟩ : ∃ L : List Loc, L = [] := ⟨_, rfl⟩
  have hP : va_P D vwCl [cell30_ qx sx, cell28_ k qx sx, cell29_ k qx sx, cell31_ qx sh qh, cell0_ k qh sh, cell1_ k qh sh, cell4_ k qh sh, cell3_ k qh sh, cell2_ k qh sh] H := by rw [eH]; exact hP
  have hD : va_D A [cell30_ qx sx, cell28_ k qx sx, cell29_ k qx sx, cell31_ qx sh qh, cell0_ k qh sh, cell1_ k qh sh, cell4_ k qh sh, cell3_ k qh sh, cell2_ k qh sh] := hD
  have hS : va_S A s.heap H locs := by rw [eH, el]; exact hS
  suffices goal : W p l e ({ frames := 0, cells := 0, slots := 0, locals := 0 } : Room) s m ([.ref (qx 0), .int p0] : List Value).toArray below meth c H locs 0 0 Q (F0 m 0 ls []) by rw [eH, el] at goal; exact goal
  refine lv_iload_n hx hb dX11_about_0 rfl (lv_at hl 1 rfl) ?_
  by_cases c1 : p0 = 0
  · refine lv_tableIn (tgt := 48) (off := 47) hx hb dX11_about_1 (by rw [c1]; decide) (by rw [c1]; decide) (by rw [c1]; decide) (by decide) ?_
    have f1 : p0.toInt = 0 := f_eq rfl (by decide) c1
    refine lv_aload_n hx hb dX11_about_48 rfl (lv_at hl 0 rfl) ?_
    refine g_get cx hP iw_X11_about_X11 0 rfl rfl 4 (by decide) rfl fw_X11_about_39 rfl dX11_about_49 ?_
    refine g_get cx hP iw_X11_about_X4 3 rfl rfl 0 (by decide) rfl fw_X11_about_126 rfl dX11_about_52 ?_
    rw [hQ]
    exact x_i cx hr () hP hD hS (show (sh 0 0) = J_X11_about sx sh p0 from by first | (refine Eq.symm ?_; refine Eq.trans (if_pos c1) ?_; rfl) | (unfold J_X11_about; try dsimp only; rw [if_pos c1])) dX11_about_55
  by_cases c2 : p0 = 1
  · refine lv_tableIn (tgt := 56) (off := 55) hx hb dX11_about_1 (by rw [c2]; decide) (by rw [c2]; decide) (by rw [c2]; decide) (by decide) ?_
    have f2 : p0.toInt = 1 := f_eq rfl (by decide) c2
    refine lv_aload_n hx hb dX11_about_56 rfl (lv_at hl 0 rfl) ?_
    refine g_get cx hP iw_X11_about_X11 0 rfl rfl 4 (by decide) rfl fw_X11_about_39 rfl dX11_about_57 ?_
    refine g_get cx hP iw_X11_about_X4 3 rfl rfl 1 (by decide) rfl fw_X11_about_158 rfl dX11_about_60 ?_
    rw [hQ]
    exact x_i cx hr () hP hD hS (show (sh 0 1) = J_X11_about sx sh p0 from by first | (refine Eq.symm ?_; refine Eq.trans (if_neg c1) ?_; refine Eq.trans (if_pos c2) ?_; rfl) | (unfold J_X11_about; try dsimp only; rw [if_neg c1, if_pos c2])) dX11_about_63
  by_cases c3 : p0 = 2
  · refine lv_tableIn (tgt := 64) (off := 63) hx hb dX11_about_1 (by rw [c3]; decide) (by rw [c3]; decide) (by rw [c3]; decide) (by decide) ?_
    have f3 : p0.toInt = 2 := f_eq rfl (by decide) c3
    refine lv_aload_n hx hb dX11_about_64 rfl (lv_at hl 0 rfl) ?_
    refine g_get cx hP iw_X11_about_X11 0 rfl rfl 4 (by decide) rfl fw_X11_about_39 rfl dX11_about_65 ?_
    refine g_get cx hP iw_X11_about_X4 3 rfl rfl 6 (by decide) rfl fw_X11_about_161 rfl dX11_about_68 ?_
    rw [hQ]
    exact x_i cx hr () hP hD hS (show (sh 0 6) = J_X11_about sx sh p0 from by first | (refine Eq.symm ?_; refine Eq.trans (if_neg c1) ?_; refine Eq.trans (if_neg c2) ?_; refine Eq.trans (if_pos c3) ?_; rfl) | (unfold J_X11_about; try dsimp only; rw [if_neg c1, if_neg c2, if_pos c3])) dX11_about_71
  by_cases c4 : p0 = 3
  · refine lv_tableIn (tgt := 72) (off := 71) hx hb dX11_about_1 (by rw [c4]; decide) (by rw [c4]; decide) (by rw [c4]; decide) (by decide) ?_
    have f4 : p0.toInt = 3 := f_eq rfl (by decide) c4
    refine lv_aload_n hx hb dX11_about_72 rfl (lv_at hl 0 rfl) ?_
    refine g_get cx hP iw_X11_about_X11 0 rfl rfl 4 (by decide) rfl fw_X11_about_39 rfl dX11_about_73 ?_
    refine g_get cx hP iw_X11_about_X4 3 rfl rfl 7 (by decide) rfl fw_X11_about_164 rfl dX11_about_76 ?_
    rw [hQ]
    exact x_i cx hr () hP hD hS (show (sh 0 7) = J_X11_about sx sh p0 from by first | (refine Eq.symm ?_; refine Eq.trans (if_neg c1) ?_; refine Eq.trans (if_neg c2) ?_; refine Eq.trans (if_neg c3) ?_; refine Eq.trans (if_pos c4) ?_; rfl) | (unfold J_X11_about; try dsimp only; rw [if_neg c1, if_neg c2, if_neg c3, if_pos c4])) dX11_about_79
  by_cases c5 : p0 = 4
  · refine lv_tableIn (tgt := 80) (off := 79) hx hb dX11_about_1 (by rw [c5]; decide) (by rw [c5]; decide) (by rw [c5]; decide) (by decide) ?_
    have f5 : p0.toInt = 4 := f_eq rfl (by decide) c5
    refine lv_aload_n hx hb dX11_about_80 rfl (lv_at hl 0 rfl) ?_
    refine g_get cx hP iw_X11_about_X11 0 rfl rfl 4 (by decide) rfl fw_X11_about_39 rfl dX11_about_81 ?_
    refine g_get cx hP iw_X11_about_X4 3 rfl rfl 8 (by decide) rfl fw_X11_about_167 rfl dX11_about_84 ?_
    rw [hQ]
    exact x_i cx hr () hP hD hS (show (sh 0 8) = J_X11_about sx sh p0 from by first | (refine Eq.symm ?_; refine Eq.trans (if_neg c1) ?_; refine Eq.trans (if_neg c2) ?_; refine Eq.trans (if_neg c3) ?_; refine Eq.trans (if_neg c4) ?_; refine Eq.trans (if_pos c5) ?_; rfl) | (unfold J_X11_about; try dsimp only; rw [if_neg c1, if_neg c2, if_neg c3, if_neg c4, if_pos c5])) dX11_about_87
  by_cases c6 : p0 = 5
  · refine lv_tableIn (tgt := 88) (off := 87) hx hb dX11_about_1 (by rw [c6]; decide) (by rw [c6]; decide) (by rw [c6]; decide) (by decide) ?_
    have f6 : p0.toInt = 5 := f_eq rfl (by decide) c6
    refine lv_aload_n hx hb dX11_about_88 rfl (lv_at hl 0 rfl) ?_
    refine g_get cx hP iw_X11_about_X11 0 rfl rfl 4 (by decide) rfl fw_X11_about_39 rfl dX11_about_89 ?_
    refine g_get cx hP iw_X11_about_X4 3 rfl rfl 9 (by decide) rfl fw_X11_about_170 rfl dX11_about_92 ?_
    rw [hQ]
    exact x_i cx hr () hP hD hS (show (sh 0 9) = J_X11_about sx sh p0 from by first | (refine Eq.symm ?_; refine Eq.trans (if_neg c1) ?_; refine Eq.trans (if_neg c2) ?_; refine Eq.trans (if_neg c3) ?_; refine Eq.trans (if_neg c4) ?_; refine Eq.trans (if_neg c5) ?_; refine Eq.trans (if_pos c6) ?_; rfl) | (unfold J_X11_about; try dsimp only; rw [if_neg c1, if_neg c2, if_neg c3, if_neg c4, if_neg c5, if_pos c6])) dX11_about_95
  by_cases c7 : p0 = 6
  · refine lv_tableIn (tgt := 96) (off := 95) hx hb dX11_about_1 (by rw [c7]; decide) (by rw [c7]; decide) (by rw [c7]; decide) (by decide) ?_
    have f7 : p0.toInt = 6 := f_eq rfl (by decide) c7
    refine lv_aload_n hx hb dX11_about_96 rfl (lv_at hl 0 rfl) ?_
    refine g_get cx hP iw_X11_about_X11 0 rfl rfl 4 (by decide) rfl fw_X11_about_39 rfl dX11_about_97 ?_
    refine g_get cx hP iw_X11_about_X4 3 rfl rfl 10 (by decide) rfl fw_X11_about_173 rfl dX11_about_100 ?_
    rw [hQ]
    exact x_i cx hr () hP hD hS (show (sh 0 10) = J_X11_about sx sh p0 from by first | (refine Eq.symm ?_; refine Eq.trans (if_neg c1) ?_; refine Eq.trans (if_neg c2) ?_; refine Eq.trans (if_neg c3) ?_; refine Eq.trans (if_neg c4) ?_; refine Eq.trans (if_neg c5) ?_; refine Eq.trans (if_neg c6) ?_; refine Eq.trans (if_pos c7) ?_; rfl) | (unfold J_X11_about; try dsimp only; rw [if_neg c1, if_neg c2, if_neg c3, if_neg c4, if_neg c5, if_neg c6, if_pos c7])) dX11_about_103
  by_cases c8 : p0 = 7
  · refine lv_tableIn (tgt := 104) (off := 103) hx hb dX11_about_1 (by rw [c8]; decide) (by rw [c8]; decide) (by rw [c8]; decide) (by decide) ?_
    have f8 : p0.toInt = 7 := f_eq rfl (by decide) c8
    refine lv_aload_n hx hb dX11_about_104 rfl (lv_at hl 0 rfl) ?_
    refine g_get cx hP iw_X11_about_X11 0 rfl rfl 4 (by decide) rfl fw_X11_about_39 rfl dX11_about_105 ?_
    refine g_get cx hP iw_X11_about_X4 3 rfl rfl 11 (by decide) rfl fw_X11_about_176 rfl dX11_about_108 ?_
    rw [hQ]
    exact x_i cx hr () hP hD hS (show (sh 0 11) = J_X11_about sx sh p0 from by first | (refine Eq.symm ?_; refine Eq.trans (if_neg c1) ?_; refine Eq.trans (if_neg c2) ?_; refine Eq.trans (if_neg c3) ?_; refine Eq.trans (if_neg c4) ?_; refine Eq.trans (if_neg c5) ?_; refine Eq.trans (if_neg c6) ?_; refine Eq.trans (if_neg c7) ?_; refine Eq.trans (if_pos c8) ?_; rfl) | (unfold J_X11_about; try dsimp only; rw [if_neg c1, if_neg c2, if_neg c3, if_neg c4, if_neg c5, if_neg c6, if_neg c7, if_pos c8])) dX11_about_111
  have gc1 : ¬ p0.toInt = 0 := f_ne rfl (by decide) c1
  have gc2 : ¬ p0.toInt = 1 := f_ne rfl (by decide) c2
  have gc3 : ¬ p0.toInt = 2 := f_ne rfl (by decide) c3
  have gc4 : ¬ p0.toInt = 3 := f_ne rfl (by decide) c4
  have gc5 : ¬ p0.toInt = 4 := f_ne rfl (by decide) c5
  have gc6 : ¬ p0.toInt = 5 := f_ne rfl (by decide) c6
  have gc7 : ¬ p0.toInt = 6 := f_ne rfl (by decide) c7
  have gc8 : ¬ p0.toInt = 7 := f_ne rfl (by decide) c8
  refine lv_tableOut (tgt := 112) hx hb dX11_about_1 (by omega) (by decide) ?_
  refine lv_bipush (v := (-2)) hx hb dX11_about_112 (by decide) ?_
  have hlit10 : ((-2) : Int32).toInt = -2 := by decide
  rw [hQ]
  exact x_i cx hr () hP hD hS (show ((-2) : Int32) = J_X11_about sx sh p0 from by first | (refine Eq.symm ?_; refine Eq.trans (if_neg c1) ?_; refine Eq.trans (if_neg c2) ?_; refine Eq.trans (if_neg c3) ?_; refine Eq.trans (if_neg c4) ?_; refine Eq.trans (if_neg c5) ?_; refine Eq.trans (if_neg c6) ?_; refine Eq.trans (if_neg c7) ?_; refine Eq.trans (if_neg c8) ?_; rfl) | (unfold J_X11_about; try dsimp only; rw [if_neg c1, if_neg c2, if_neg c3, if_neg c4, if_neg c5, if_neg c6, if_neg c7, if_neg c8])) dX11_about_114
theorem nd_X11_refuseAct : yX11_refuseAct.cls = RX11 ∧ yX11_refuseAct.cls ≠ "java/lang/invoke/MethodHandle" ∧ yX11_refuseAct.cls ≠ "java/lang/invoke/VarHandle" ∧ (parseMethodDescriptor yX11_refuseAct.desc).map (fun d => d.parameters.length) = some 4 := by decide +kernel
def J_X11_may (sx : Nat → Nat → Int32) (sh : Nat → Nat → Int32) (p0 : Int32) (p1 : Int32) (p2 : Int32) : Int32 := let y6 := J_X11_refuseAct sx (lS [(lI [(sh 0 0), (sh 0 1), 0, 0, 0, 0, (sh 0 6), (sh 0 7), (sh 0 8), (sh 0 9), (sh 0 10), (sh 0 11), (sh 0 12)]), (sh 1), (sh 2), (sh 3), (sh 4), (sh 5)]) p0 p1 0 p2; if y6 = (-1) then y6 else if y6 = (-2) then y6 else if y6 = (-3) then (0 : Int32) else (1 : Int32)
set_option maxHeartbeats 4000000 in
set_option maxRecDepth 100000 in
theorem c_X11_may (l : Launch) (D : va_G) (k : Nat → ClassId) (b : Nat → Nat) (qx : Nat → Nat) (sx : Nat → Nat → Int32) (qh : Nat → Nat) (sh : Nat → Nat → Int32) (sz : Nat) (p0 : Int32) (p1 : Int32) (p2 : Int32) (h_wk : 0 ≤ (sh 0 0).toInt ∧ (sh 0 0).toInt ≤ 5) (h_hk : 0 ≤ (sh 0 1).toInt ∧ (sh 0 1).toInt ≤ 4) (h_fl : 0 ≤ (sh 0 12).toInt ∧ (sh 0 12).toInt ≤ 5) (h_of : ∀ j, 0 ≤ (sh 2 j).toInt ∧ (sh 2 j).toInt ≤ 4) (h_go : ∀ j, 0 ≤ (sh 3 j).toInt ∧ (sh 3 j).toInt ≤ 5) : MetI l D k b yX11_may wsX11_may ({ frames := 5, cells := 0, slots := 0, locals := 110 } : Room) [cell30_ qx sx, cell28_ k qx sx, cell29_ k qx sx, cell31_ qx sh qh, cell0_ k qh sh, cell1_ k qh sh, cell4_ k qh sh, cell3_ k qh sh, cell2_ k qh sh] sz [.ref (qx 0), .int p0, .int p1, .int p2] (fun (r : Int32) (u : Unit) => r = J_X11_may sx sh p0 p1 p2) (fun u => [cell30_ qx sx, cell28_ k qx sx, cell29_ k qx sx, cell31_ qx sh qh, cell0_ k qh sh, cell1_ k qh sh, cell4_ k qh sh, cell3_ k qh sh, cell2_ k qh sh]) := by
  refine g_enter (cc := cX11_may) (maxL := 5) (ret := (some .int)) (by decide) rfl (Nat.le_of_ble_eq_true rfl) ?_
  intro p e s m below meth c A hsz hAe cx hr hP hD hS ls hl
  rw [hAe]
  refine g_q (fun Q hQ => ?_)
  have hx := cx.1.1
  have hb := cx.1.2.1
  have bp0 := i_rng p0
  have bp1 := i_rng p1
  have bp2 := i_rng p2
  have hl : lv_has ls 5 [(0, .ref (qx 0)), (1, .int p0), (2, .int p1), (3, .int p2)] := hl
  obtain ⟨H, eH⟩ : ∃ H : Heap, H = s.heap := ⟨_, rfl⟩
  obtain ⟨locs, el⟩ : ∃ L : List Loc, L = [] := ⟨_, rfl⟩
  have hP : va_P D vwCl [cell30_ qx sx, cell28_ k qx sx, cell29_ k qx sx, cell31_ qx sh qh, cell0_ k qh sh, cell1_ k qh sh, cell4_ k qh sh, cell3_ k qh sh, cell2_ k qh sh] H := by rw [eH]; exact hP
  have hD : va_D A [cell30_ qx sx, cell28_ k qx sx, cell29_ k qx sx, cell31_ qx sh qh, cell0_ k qh sh, cell1_ k qh sh, cell4_ k qh sh, cell3_ k qh sh, cell2_ k qh sh] := hD
  have hS : va_S A s.heap H locs := by rw [eH, el]; exact hS
  suffices goal : W p l e ({ frames := 5, cells := 0, slots := 0, locals := 110 } : Room) s m ([.ref (qx 0), .int p0, .int p1, .int p2] : List Value).toArray below meth c H locs 0 0 Q (F0 m 0 ls []) by rw [eH, el] at goal; exact goal
  refine lv_aload_n hx hb dX11_may_0 rfl (lv_at hl 0 rfl) ?_
  refine lv_iload_n hx hb dX11_may_1 rfl (lv_at hl 1 rfl) ?_
  refine lv_iload_n hx hb dX11_may_2 rfl (lv_at hl 2 rfl) ?_
  refine lv_iconst (v := 0) hx hb dX11_may_3 (by decide) ?_
  refine lv_iload_n hx hb dX11_may_4 rfl (lv_at hl 3 rfl) ?_
  have hlit1 : (0 : Int32).toInt = 0 := by decide
  refine g_iF (w1 := fun (_ : Unit) => [cell30_ qx sx, cell28_ k qx sx, cell29_ k qx sx, cell31_ qx sh qh, cell0_ k qh sh, cell1_ k qh sh, cell4_ k qh sh, cell3_ k qh sh, cell2_ k qh sh]) (g_runVF (ws := [cell30_ qx sx, cell28_ k qx sx, cell29_ k qx sx, cell31_ qx sh qh, cell0_ k qh sh, cell1_ k qh sh, cell4_ k qh sh, cell3_ k qh sh, cell2_ k qh sh]) (rest := []) cx hP hD hS [.int p0, .int p1, .int 0, .int p2] (c_X11_refuseAct l D k b qx sx (lq [0, qh 1, qh 2, qh 3, qh 4, qh 5]) (lS [(lI [(sh 0 0), (sh 0 1), 0, 0, 0, 0, (sh 0 6), (sh 0 7), (sh 0 8), (sh 0 9), (sh 0 10), (sh 0 11), (sh 0 12)]), (sh 1), (sh 2), (sh 3), (sh 4), (sh 5)]) H.size p0 p1 0 p2 (show 0 ≤ (sh 0 0).toInt ∧ (sh 0 0).toInt ≤ 5 from by first | decide | omega) (show 0 ≤ (sh 0 1).toInt ∧ (sh 0 1).toInt ≤ 4 from by first | decide | omega) (show 0 ≤ (sh 0 12).toInt ∧ (sh 0 12).toInt ≤ 5 from by first | decide | omega) h_of h_go) gX11_may_X11_refuseAct rfl rfl rfl nd_X11_refuseAct ⟨Nat.le_of_ble_eq_true rfl, Nat.le_of_ble_eq_true rfl⟩ (ci := 9) (q0 := 0) rfl rfl rfl hl.1 rfl (Nat.le_of_ble_eq_true rfl) ⟨Nat.zero_le _, Nat.zero_le _⟩ dX11_may_5) cx.2.2.1 hD hS (fun r3 _ H locs hw2 hP hD hS => ?_)
  replace hw2 : (¬ r3.toInt = 0 ∨ (0 ≤ p0.toInt ∧ p0.toInt ≤ 4 ∧ p0.toInt < (sh 0 0).toInt ∧ (0 ≤ p1.toInt ∧ p1.toInt ≤ 400 ∧ tot p1 ≤ 4) ∧ tot p1 ≤ (sh 0 1).toInt ∧ 0 ≤ (0 : Int32).toInt ∧ (0 : Int32).toInt ≤ 2 ∧ 0 ≤ p2.toInt ∧ 0 ≤ (J_X0_done p1 p2).toInt ∧ (J_X0_done p1 p2).toInt ≤ 400 ∧ tot (J_X0_done p1 p2) ≤ 4)) ∧ (r3 = J_X11_refuseAct sx (lS [(lI [(sh 0 0), (sh 0 1), 0, 0, 0, 0, (sh 0 6), (sh 0 7), (sh 0 8), (sh 0 9), (sh 0 10), (sh 0 11), (sh 0 12)]), (sh 1), (sh 2), (sh 3), (sh 4), (sh 5)]) p0 p1 (0 : Int32) p2) := hw2
  obtain ⟨w4, w5⟩ := hw2
  have k7 : r3 = (J_X11_refuseAct sx (lS [(lI [(sh 0 0), (sh 0 1), 0, 0, 0, 0, (sh 0 6), (sh 0 7), (sh 0 8), (sh 0 9), (sh 0 10), (sh 0 11), (sh 0 12)]), (sh 1), (sh 2), (sh 3), (sh 4), (sh 5)]) p0 p1 (0 : Int32) p2) := congrArg (fun z => z) w5
  refine lv_istore (lv' := [(4, .int r3), (0, .ref (qx 0)), (1, .int p0), (2, .int p1), (3, .int p2)]) hx hb dX11_may_8 hl (by decide) rfl (fun ls hl => ?_)
  refine lv_iload hx hb dX11_may_10 (lv_at hl 0 rfl) ?_
  refine lv_iconst (v := (-1)) hx hb dX11_may_12 (by decide) ?_
  refine lv_icmp_eq (tgt := 23) hx hb dX11_may_13 (by decide) (fun c8 => ?_) (fun c8 => ?_)
  · have f8 : r3.toInt = (-1) := f_eq rfl (by decide) c8
    refine lv_iload hx hb dX11_may_23 (lv_at hl 0 rfl) ?_
    rw [hQ]
    exact x_i cx hr () hP hD hS (show r3 = J_X11_may sx sh p0 p1 p2 from by subst k7; first | (refine Eq.symm ?_; refine Eq.trans (if_pos c8) ?_; rfl) | (unfold J_X11_may; try dsimp only; rw [if_pos c8])) dX11_may_25
  · have f8 : ¬ r3.toInt = (-1) := f_ne rfl (by decide) c8
    refine lv_iload hx hb dX11_may_16 (lv_at hl 0 rfl) ?_
    refine lv_bipush (v := (-2)) hx hb dX11_may_18 (by decide) ?_
    refine lv_icmp_ne (tgt := 26) hx hb dX11_may_20 (by decide) (fun c9 => ?_) (fun c9 => ?_)
    · have f9 : ¬ r3.toInt = (-2) := f_ne rfl (by decide) c9
      refine lv_iload hx hb dX11_may_26 (lv_at hl 0 rfl) ?_
      refine lv_bipush (v := (-3)) hx hb dX11_may_28 (by decide) ?_
      refine lv_icmp_ne (tgt := 37) hx hb dX11_may_30 (by decide) (fun c10 => ?_) (fun c10 => ?_)
      · have f10 : ¬ r3.toInt = (-3) := f_ne rfl (by decide) c10
        refine lv_iconst (v := 1) hx hb dX11_may_37 (by decide) ?_
        have hlit11 : (1 : Int32).toInt = 1 := by decide
        rw [hQ]
        exact x_i cx hr () hP hD hS (show (1 : Int32) = J_X11_may sx sh p0 p1 p2 from by subst k7; first | (refine Eq.symm ?_; refine Eq.trans (if_neg c8) ?_; refine Eq.trans (if_neg c9) ?_; refine Eq.trans (if_neg c10) ?_; rfl) | (unfold J_X11_may; try dsimp only; rw [if_neg c8, if_neg c9, if_neg c10])) dX11_may_38
      · have f10 : r3.toInt = (-3) := f_eq rfl (by decide) c10
        refine lv_iconst (v := 0) hx hb dX11_may_33 (by decide) ?_
        refine lv_goto (tgt := 38) hx hb dX11_may_34 (by decide) ?_
        have hlit12 : (0 : Int32).toInt = 0 := by decide
        rw [hQ]
        exact x_i cx hr () hP hD hS (show (0 : Int32) = J_X11_may sx sh p0 p1 p2 from by subst k7; first | (refine Eq.symm ?_; refine Eq.trans (if_neg c8) ?_; refine Eq.trans (if_neg c9) ?_; refine Eq.trans (if_pos c10) ?_; rfl) | (unfold J_X11_may; try dsimp only; rw [if_neg c8, if_neg c9, if_pos c10])) dX11_may_38
    · have f9 : r3.toInt = (-2) := f_eq rfl (by decide) c9
      refine lv_iload hx hb dX11_may_23 (lv_at hl 0 rfl) ?_
      rw [hQ]
      exact x_i cx hr () hP hD hS (show r3 = J_X11_may sx sh p0 p1 p2 from by subst k7; first | (refine Eq.symm ?_; refine Eq.trans (if_neg c8) ?_; refine Eq.trans (if_pos c9) ?_; rfl) | (unfold J_X11_may; try dsimp only; rw [if_neg c8, if_pos c9])) dX11_may_25
def J_X11_then (sx : Nat → Nat → Int32) (sh : Nat → Nat → Int32) (p0 : Int32) (p1 : Int32) (p2 : Int32) : Int32 := let y6 := J_X11_refuseAct sx (lS [(lI [(sh 0 0), (sh 0 1), 0, 0, 0, 0, (sh 0 6), (sh 0 7), (sh 0 8), (sh 0 9), (sh 0 10), (sh 0 11), (sh 0 12)]), (sh 1), (sh 2), (sh 3), (sh 4), (sh 5)]) p0 p1 0 p2; if y6 = 0 then (J_X0_done p1 p2) else y6
set_option maxHeartbeats 4000000 in
set_option maxRecDepth 100000 in
theorem c_X11_then (l : Launch) (D : va_G) (k : Nat → ClassId) (b : Nat → Nat) (qx : Nat → Nat) (sx : Nat → Nat → Int32) (qh : Nat → Nat) (sh : Nat → Nat → Int32) (sz : Nat) (p0 : Int32) (p1 : Int32) (p2 : Int32) (h_wk : 0 ≤ (sh 0 0).toInt ∧ (sh 0 0).toInt ≤ 5) (h_hk : 0 ≤ (sh 0 1).toInt ∧ (sh 0 1).toInt ≤ 4) (h_fl : 0 ≤ (sh 0 12).toInt ∧ (sh 0 12).toInt ≤ 5) (h_of : ∀ j, 0 ≤ (sh 2 j).toInt ∧ (sh 2 j).toInt ≤ 4) (h_go : ∀ j, 0 ≤ (sh 3 j).toInt ∧ (sh 3 j).toInt ≤ 5) : MetI l D k b yX11_then wsX11_then ({ frames := 5, cells := 0, slots := 0, locals := 110 } : Room) [cell30_ qx sx, cell28_ k qx sx, cell29_ k qx sx, cell31_ qx sh qh, cell0_ k qh sh, cell1_ k qh sh, cell4_ k qh sh, cell3_ k qh sh, cell2_ k qh sh] sz [.ref (qx 0), .int p0, .int p1, .int p2] (fun (r : Int32) (u : Unit) => r = J_X11_then sx sh p0 p1 p2) (fun u => [cell30_ qx sx, cell28_ k qx sx, cell29_ k qx sx, cell31_ qx sh qh, cell0_ k qh sh, cell1_ k qh sh, cell4_ k qh sh, cell3_ k qh sh, cell2_ k qh sh]) := by
  refine g_enter (cc := cX11_then) (maxL := 5) (ret := (some .int)) (by decide) rfl (Nat.le_of_ble_eq_true rfl) ?_
  intro p e s m below meth c A hsz hAe cx hr hP hD hS ls hl
  rw [hAe]
  refine g_q (fun Q hQ => ?_)
  have hx := cx.1.1
  have hb := cx.1.2.1
  have bp0 := i_rng p0
  have bp1 := i_rng p1
  have bp2 := i_rng p2
  have hl : lv_has ls 5 [(0, .ref (qx 0)), (1, .int p0), (2, .int p1), (3, .int p2)] := hl
  obtain ⟨H, eH⟩ : ∃ H : Heap, H = s.heap := ⟨_, rfl⟩
  obtain ⟨locs, el⟩ : ∃ L : List Loc, L = [] := ⟨_, rfl⟩
  have hP : va_P D vwCl [cell30_ qx sx, cell28_ k qx sx, cell29_ k qx sx, cell31_ qx sh qh, cell0_ k qh sh, cell1_ k qh sh, cell4_ k qh sh, cell3_ k qh sh, cell2_ k qh sh] H := by rw [eH]; exact hP
  have hD : va_D A [cell30_ qx sx, cell28_ k qx sx, cell29_ k qx sx, cell31_ qx sh qh, cell0_ k qh sh, cell1_ k qh sh, cell4_ k qh sh, cell3_ k qh sh, cell2_ k qh sh] := hD
  have hS : va_S A s.heap H locs := by rw [eH, el]; exact hS
  suffices goal : W p l e ({ frames := 5, cells := 0, slots := 0, locals := 110 } : Room) s m ([.ref (qx 0), .int p0, .int p1, .int p2] : List Value).toArray below meth c H locs 0 0 Q (F0 m 0 ls []) by rw [eH, el] at goal; exact goal
  refine lv_aload_n hx hb dX11_then_0 rfl (lv_at hl 0 rfl) ?_
  refine lv_iload_n hx hb dX11_then_1 rfl (lv_at hl 1 rfl) ?_
  refine lv_iload_n hx hb dX11_then_2 rfl (lv_at hl 2 rfl) ?_
  refine lv_iconst (v := 0) hx hb dX11_then_3 (by decide) ?_
  refine lv_iload_n hx hb dX11_then_4 rfl (lv_at hl 3 rfl) ?_
  have hlit1 : (0 : Int32).toInt = 0 := by decide
  refine g_iF (w1 := fun (_ : Unit) => [cell30_ qx sx, cell28_ k qx sx, cell29_ k qx sx, cell31_ qx sh qh, cell0_ k qh sh, cell1_ k qh sh, cell4_ k qh sh, cell3_ k qh sh, cell2_ k qh sh]) (g_runVF (ws := [cell30_ qx sx, cell28_ k qx sx, cell29_ k qx sx, cell31_ qx sh qh, cell0_ k qh sh, cell1_ k qh sh, cell4_ k qh sh, cell3_ k qh sh, cell2_ k qh sh]) (rest := []) cx hP hD hS [.int p0, .int p1, .int 0, .int p2] (c_X11_refuseAct l D k b qx sx (lq [0, qh 1, qh 2, qh 3, qh 4, qh 5]) (lS [(lI [(sh 0 0), (sh 0 1), 0, 0, 0, 0, (sh 0 6), (sh 0 7), (sh 0 8), (sh 0 9), (sh 0 10), (sh 0 11), (sh 0 12)]), (sh 1), (sh 2), (sh 3), (sh 4), (sh 5)]) H.size p0 p1 0 p2 (show 0 ≤ (sh 0 0).toInt ∧ (sh 0 0).toInt ≤ 5 from by first | decide | omega) (show 0 ≤ (sh 0 1).toInt ∧ (sh 0 1).toInt ≤ 4 from by first | decide | omega) (show 0 ≤ (sh 0 12).toInt ∧ (sh 0 12).toInt ≤ 5 from by first | decide | omega) h_of h_go) gX11_then_X11_refuseAct rfl rfl rfl nd_X11_refuseAct ⟨Nat.le_of_ble_eq_true rfl, Nat.le_of_ble_eq_true rfl⟩ (ci := 9) (q0 := 0) rfl rfl rfl hl.1 rfl (Nat.le_of_ble_eq_true rfl) ⟨Nat.zero_le _, Nat.zero_le _⟩ dX11_then_5) cx.2.2.1 hD hS (fun r3 _ H locs hw2 hP hD hS => ?_)
  replace hw2 : (¬ r3.toInt = 0 ∨ (0 ≤ p0.toInt ∧ p0.toInt ≤ 4 ∧ p0.toInt < (sh 0 0).toInt ∧ (0 ≤ p1.toInt ∧ p1.toInt ≤ 400 ∧ tot p1 ≤ 4) ∧ tot p1 ≤ (sh 0 1).toInt ∧ 0 ≤ (0 : Int32).toInt ∧ (0 : Int32).toInt ≤ 2 ∧ 0 ≤ p2.toInt ∧ 0 ≤ (J_X0_done p1 p2).toInt ∧ (J_X0_done p1 p2).toInt ≤ 400 ∧ tot (J_X0_done p1 p2) ≤ 4)) ∧ (r3 = J_X11_refuseAct sx (lS [(lI [(sh 0 0), (sh 0 1), 0, 0, 0, 0, (sh 0 6), (sh 0 7), (sh 0 8), (sh 0 9), (sh 0 10), (sh 0 11), (sh 0 12)]), (sh 1), (sh 2), (sh 3), (sh 4), (sh 5)]) p0 p1 (0 : Int32) p2) := hw2
  obtain ⟨w4, w5⟩ := hw2
  have k7 : r3 = (J_X11_refuseAct sx (lS [(lI [(sh 0 0), (sh 0 1), 0, 0, 0, 0, (sh 0 6), (sh 0 7), (sh 0 8), (sh 0 9), (sh 0 10), (sh 0 11), (sh 0 12)]), (sh 1), (sh 2), (sh 3), (sh 4), (sh 5)]) p0 p1 (0 : Int32) p2) := congrArg (fun z => z) w5
  refine lv_istore (lv' := [(4, .int r3), (0, .ref (qx 0)), (1, .int p0), (2, .int p1), (3, .int p2)]) hx hb dX11_then_8 hl (by decide) rfl (fun ls hl => ?_)
  refine lv_iload hx hb dX11_then_10 (lv_at hl 0 rfl) ?_
  refine lv_if_eq (tgt := 20) hx hb dX11_then_12 (by decide) (fun c8 => ?_) (fun c8 => ?_)
  · have f8 : r3.toInt = 0 := f_eq rfl (by decide) c8
    refine lv_iload_n hx hb dX11_then_20 rfl (lv_at hl 3 rfl) ?_
    refine lv_iload_n hx hb dX11_then_21 rfl (lv_at hl 4 rfl) ?_
    refine g_ir (g_runS (wc := []) (rest := []) cx hP hD hS [] rfl (by decide) [.int p1, .int p2] (c_X0_done l D k b H.size p1 p2) gX11_then_X0_done rfl rfl rfl nd_X0_done ⟨Nat.le_of_ble_eq_true rfl, Nat.le_of_ble_eq_true rfl⟩ rfl hl.1 rfl (Nat.le_of_ble_eq_true rfl) ⟨Nat.zero_le _, Nat.zero_le _⟩ dX11_then_22) cx.2.2.1 hP hD hS [] rfl rfl (fun r10 H locs hw9 hP hS => ?_)
    have w11 : r10 = J_X0_done p1 p2 := hw9
    clear hw9
    rw [hQ]
    exact x_i cx hr () hP hD hS (show r10 = J_X11_then sx sh p0 p1 p2 from by subst k7 w11; first | (refine Eq.symm ?_; refine Eq.trans (if_pos c8) ?_; rfl) | (unfold J_X11_then; try dsimp only; rw [if_pos c8])) dX11_then_25
  · have f8 : ¬ r3.toInt = 0 := f_ne rfl (by decide) c8
    refine lv_iload hx hb dX11_then_15 (lv_at hl 0 rfl) ?_
    refine lv_goto (tgt := 25) hx hb dX11_then_17 (by decide) ?_
    rw [hQ]
    exact x_i cx hr () hP hD hS (show r3 = J_X11_then sx sh p0 p1 p2 from by subst k7; first | (refine Eq.symm ?_; refine Eq.trans (if_neg c8) ?_; rfl) | (unfold J_X11_then; try dsimp only; rw [if_neg c8])) dX11_then_25
theorem fw_X11_costs_39 : Cond.fieldLink RX11 39 "StillInAugust" "house" "LStillInAugust$House;" ∈ wsX11_costs := by decide +kernel
theorem iw_X11_costs_X11 : ∀ w ∈ u_ws RX11 TX11 17, w ∈ wsX11_costs := fun _ h => List.mem_cons_of_mem _ (List.mem_append_left _ (List.mem_append_right _ h))
def J_X11_costs (sx : Nat → Nat → Int32) (sh : Nat → Nat → Int32) (p0 : Int32) (p1 : Int32) (p2 : Int32) (p3 : Int32) : Int32 := let y5 := J_X11_refuseAct sx (lS [(lI [(sh 0 0), (sh 0 1), 0, 0, 0, 0, (sh 0 6), (sh 0 7), (sh 0 8), (sh 0 9), (sh 0 10), (sh 0 11), (sh 0 12)]), (sh 1), (sh 2), (sh 3), (sh 4), (sh 5)]) p0 p1 p2 p3; if y5 = 0 then let y14 := J_X4_weekCost (lS [(lI [(sh 0 0), (sh 0 1), 0, 0, 0, 0, (sh 0 6), (sh 0 7), (sh 0 8), (sh 0 9), (sh 0 10), (sh 0 11), (sh 0 12)]), (sh 1), (sh 2), (sh 3), (sh 4), (sh 5)]) p0 (J_X0_done p1 p3) p2 p3; y14 else y5
set_option maxHeartbeats 4000000 in
set_option maxRecDepth 100000 in
theorem c_X11_costs (l : Launch) (D : va_G) (k : Nat → ClassId) (b : Nat → Nat) (qx : Nat → Nat) (sx : Nat → Nat → Int32) (qh : Nat → Nat) (sh : Nat → Nat → Int32) (sz : Nat) (p0 : Int32) (p1 : Int32) (p2 : Int32) (p3 : Int32) (h_wk : 0 ≤ (sh 0 0).toInt ∧ (sh 0 0).toInt ≤ 5) (h_hk : 0 ≤ (sh 0 1).toInt ∧ (sh 0 1).toInt ≤ 4) (h_fl : 0 ≤ (sh 0 12).toInt ∧ (sh 0 12).toInt ≤ 5) (h_of : ∀ j, 0 ≤ (sh 2 j).toInt ∧ (sh 2 j).toInt ≤ 4) (h_go : ∀ j, 0 ≤ (sh 3 j).toInt ∧ (sh 3 j).toInt ≤ 5) : MetI l D k b yX11_costs wsX11_costs ({ frames := 5, cells := 0, slots := 0, locals := 110 } : Room) [cell30_ qx sx, cell28_ k qx sx, cell29_ k qx sx, cell31_ qx sh qh, cell0_ k qh sh, cell1_ k qh sh, cell4_ k qh sh, cell3_ k qh sh, cell2_ k qh sh] sz [.ref (qx 0), .int p0, .int p1, .int p2, .int p3] (fun (r : Int32) (u : Unit) => r = J_X11_costs sx sh p0 p1 p2 p3) (fun u => [cell30_ qx sx, cell28_ k qx sx, cell29_ k qx sx, cell31_ qx sh qh, cell0_ k qh sh, cell1_ k qh sh, cell4_ k qh sh, cell3_ k qh sh, cell2_ k qh sh]) := by
  refine g_enter (cc := cX11_costs) (maxL := 6) (ret := (some .int)) (by decide) rfl (Nat.le_of_ble_eq_true rfl) ?_
  intro p e s m below meth c A hsz hAe cx hr hP hD hS ls hl
  rw [hAe]
  refine g_q (fun Q hQ => ?_)
  have hx := cx.1.1
  have hb := cx.1.2.1
  have bp0 := i_rng p0
  have bp1 := i_rng p1
  have bp2 := i_rng p2
  have bp3 := i_rng p3
  have hl : lv_has ls 6 [(0, .ref (qx 0)), (1, .int p0), (2, .int p1), (3, .int p2), (4, .int p3)] := hl
  obtain ⟨H, eH⟩ : ∃ H : Heap, H = s.heap := ⟨_, rfl⟩
  obtain ⟨locs, el⟩ : ∃ L : List Loc, L = [] := ⟨_, rfl⟩
  have hP : va_P D vwCl [cell30_ qx sx, cell28_ k qx sx, cell29_ k qx sx, cell31_ qx sh qh, cell0_ k qh sh, cell1_ k qh sh, cell4_ k qh sh, cell3_ k qh sh, cell2_ k qh sh] H := by rw [eH]; exact hP
  have hD : va_D A [cell30_ qx sx, cell28_ k qx sx, cell29_ k qx sx, cell31_ qx sh qh, cell0_ k qh sh, cell1_ k qh sh, cell4_ k qh sh, cell3_ k qh sh, cell2_ k qh sh] := hD
  have hS : va_S A s.heap H locs := by rw [eH, el]; exact hS
  suffices goal : W p l e ({ frames := 5, cells := 0, slots := 0, locals := 110 } : Room) s m ([.ref (qx 0), .int p0, .int p1, .int p2, .int p3] : List Value).toArray below meth c H locs 0 0 Q (F0 m 0 ls []) by rw [eH, el] at goal; exact goal
  refine lv_aload_n hx hb dX11_costs_0 rfl (lv_at hl 0 rfl) ?_
  refine lv_iload_n hx hb dX11_costs_1 rfl (lv_at hl 1 rfl) ?_
  refine lv_iload_n hx hb dX11_costs_2 rfl (lv_at hl 2 rfl) ?_
  refine lv_iload_n hx hb dX11_costs_3 rfl (lv_at hl 3 rfl) ?_
  refine lv_iload hx hb dX11_costs_4 (lv_at hl 4 rfl) ?_
  refine g_iF (w1 := fun (_ : Unit) => [cell30_ qx sx, cell28_ k qx sx, cell29_ k qx sx, cell31_ qx sh qh, cell0_ k qh sh, cell1_ k qh sh, cell4_ k qh sh, cell3_ k qh sh, cell2_ k qh sh]) (g_runVF (ws := [cell30_ qx sx, cell28_ k qx sx, cell29_ k qx sx, cell31_ qx sh qh, cell0_ k qh sh, cell1_ k qh sh, cell4_ k qh sh, cell3_ k qh sh, cell2_ k qh sh]) (rest := []) cx hP hD hS [.int p0, .int p1, .int p2, .int p3] (c_X11_refuseAct l D k b qx sx (lq [0, qh 1, qh 2, qh 3, qh 4, qh 5]) (lS [(lI [(sh 0 0), (sh 0 1), 0, 0, 0, 0, (sh 0 6), (sh 0 7), (sh 0 8), (sh 0 9), (sh 0 10), (sh 0 11), (sh 0 12)]), (sh 1), (sh 2), (sh 3), (sh 4), (sh 5)]) H.size p0 p1 p2 p3 (show 0 ≤ (sh 0 0).toInt ∧ (sh 0 0).toInt ≤ 5 from by first | decide | omega) (show 0 ≤ (sh 0 1).toInt ∧ (sh 0 1).toInt ≤ 4 from by first | decide | omega) (show 0 ≤ (sh 0 12).toInt ∧ (sh 0 12).toInt ≤ 5 from by first | decide | omega) h_of h_go) gX11_costs_X11_refuseAct rfl rfl rfl nd_X11_refuseAct ⟨Nat.le_of_ble_eq_true rfl, Nat.le_of_ble_eq_true rfl⟩ (ci := 9) (q0 := 0) rfl rfl rfl hl.1 rfl (Nat.le_of_ble_eq_true rfl) ⟨Nat.zero_le _, Nat.zero_le _⟩ dX11_costs_6) cx.2.2.1 hD hS (fun r2 _ H locs hw1 hP hD hS => ?_)
  replace hw1 : (¬ r2.toInt = 0 ∨ (0 ≤ p0.toInt ∧ p0.toInt ≤ 4 ∧ p0.toInt < (sh 0 0).toInt ∧ (0 ≤ p1.toInt ∧ p1.toInt ≤ 400 ∧ tot p1 ≤ 4) ∧ tot p1 ≤ (sh 0 1).toInt ∧ 0 ≤ p2.toInt ∧ p2.toInt ≤ 2 ∧ 0 ≤ p3.toInt ∧ 0 ≤ (J_X0_done p1 p3).toInt ∧ (J_X0_done p1 p3).toInt ≤ 400 ∧ tot (J_X0_done p1 p3) ≤ 4)) ∧ (r2 = J_X11_refuseAct sx (lS [(lI [(sh 0 0), (sh 0 1), 0, 0, 0, 0, (sh 0 6), (sh 0 7), (sh 0 8), (sh 0 9), (sh 0 10), (sh 0 11), (sh 0 12)]), (sh 1), (sh 2), (sh 3), (sh 4), (sh 5)]) p0 p1 p2 p3) := hw1
  obtain ⟨w3, w4⟩ := hw1
  have k6 : r2 = (J_X11_refuseAct sx (lS [(lI [(sh 0 0), (sh 0 1), 0, 0, 0, 0, (sh 0 6), (sh 0 7), (sh 0 8), (sh 0 9), (sh 0 10), (sh 0 11), (sh 0 12)]), (sh 1), (sh 2), (sh 3), (sh 4), (sh 5)]) p0 p1 p2 p3) := congrArg (fun z => z) w4
  refine lv_istore (lv' := [(5, .int r2), (0, .ref (qx 0)), (1, .int p0), (2, .int p1), (3, .int p2), (4, .int p3)]) hx hb dX11_costs_9 hl (by decide) rfl (fun ls hl => ?_)
  refine lv_iload hx hb dX11_costs_11 (lv_at hl 0 rfl) ?_
  refine lv_if_eq (tgt := 21) hx hb dX11_costs_13 (by decide) (fun c7 => ?_) (fun c7 => ?_)
  · have f7 : r2.toInt = 0 := f_eq rfl (by decide) c7
    refine lv_aload_n hx hb dX11_costs_21 rfl (lv_at hl 1 rfl) ?_
    refine g_get cx hP iw_X11_costs_X11 0 rfl rfl 4 (by decide) rfl fw_X11_costs_39 rfl dX11_costs_22 ?_
    refine lv_iload_n hx hb dX11_costs_25 rfl (lv_at hl 2 rfl) ?_
    refine lv_iload_n hx hb dX11_costs_26 rfl (lv_at hl 3 rfl) ?_
    refine lv_iload hx hb dX11_costs_27 (lv_at hl 5 rfl) ?_
    refine g_ir (g_runS (wc := []) (rest := [.int p0, .ref (qx 7)]) cx hP hD hS [] rfl (by decide) [.int p1, .int p3] (c_X0_done l D k b H.size p1 p3) gX11_costs_X0_done rfl rfl rfl nd_X0_done ⟨Nat.le_of_ble_eq_true rfl, Nat.le_of_ble_eq_true rfl⟩ rfl hl.1 rfl (Nat.le_of_ble_eq_true rfl) ⟨Nat.zero_le _, Nat.zero_le _⟩ dX11_costs_29) cx.2.2.1 hP hD hS [] rfl rfl (fun r9 H locs hw8 hP hS => ?_)
    have w10 : r9 = J_X0_done p1 p3 := hw8
    clear hw8
    refine lv_iload_n hx hb dX11_costs_32 rfl (lv_at hl 4 rfl) ?_
    refine lv_iload hx hb dX11_costs_33 (lv_at hl 5 rfl) ?_
    refine g_ir (g_runV (wc := [cell31_ qx sh qh, cell0_ k qh sh, cell1_ k qh sh, cell4_ k qh sh, cell3_ k qh sh, cell2_ k qh sh]) (rest := []) cx hP hD hS [3, 4, 5, 6, 7, 8] rfl (by decide) [.int p0, .int r9, .int p2, .int p3] (c_X4_weekCost l D k b (lq [qx 7, qh 1, qh 2, qh 3, qh 4, qh 5]) (lS [(lI [(sh 0 0), (sh 0 1), 0, 0, 0, 0, (sh 0 6), (sh 0 7), (sh 0 8), (sh 0 9), (sh 0 10), (sh 0 11), (sh 0 12)]), (sh 1), (sh 2), (sh 3), (sh 4), (sh 5)]) H.size p0 r9 p2 p3 (show 0 ≤ p0.toInt ∧ p0.toInt ≤ 4 from by first | decide | omega)) gX11_costs_X4_weekCost rfl rfl rfl nd_X4_weekCost ⟨Nat.le_of_ble_eq_true rfl, Nat.le_of_ble_eq_true rfl⟩ (ci := 2) (q0 := 0) rfl rfl rfl hl.1 rfl (Nat.le_of_ble_eq_true rfl) ⟨Nat.zero_le _, Nat.zero_le _⟩ dX11_costs_35) cx.2.2.1 hP hD hS [3, 4, 5, 6, 7, 8] rfl rfl (fun r12 H locs hw11 hP hS => ?_)
    have w13 : r12 = J_X4_weekCost (lS [(lI [(sh 0 0), (sh 0 1), 0, 0, 0, 0, (sh 0 6), (sh 0 7), (sh 0 8), (sh 0 9), (sh 0 10), (sh 0 11), (sh 0 12)]), (sh 1), (sh 2), (sh 3), (sh 4), (sh 5)]) p0 r9 p2 p3 := hw11
    clear hw11
    have k15 : r12 = (J_X4_weekCost (lS [(lI [(sh 0 0), (sh 0 1), 0, 0, 0, 0, (sh 0 6), (sh 0 7), (sh 0 8), (sh 0 9), (sh 0 10), (sh 0 11), (sh 0 12)]), (sh 1), (sh 2), (sh 3), (sh 4), (sh 5)]) p0 r9 p2 p3) := congrArg (fun z => z) w13
    rw [hQ]
    exact x_i cx hr () hP hD hS (show r12 = J_X11_costs sx sh p0 p1 p2 p3 from by subst k6 w10 k15; first | (refine Eq.symm ?_; refine Eq.trans (if_pos c7) ?_; rfl) | (unfold J_X11_costs; try dsimp only; rw [if_pos c7])) dX11_costs_38
  · have f7 : ¬ r2.toInt = 0 := f_ne rfl (by decide) c7
    refine lv_iload hx hb dX11_costs_16 (lv_at hl 0 rfl) ?_
    refine lv_goto (tgt := 38) hx hb dX11_costs_18 (by decide) ?_
    rw [hQ]
    exact x_i cx hr () hP hD hS (show r2 = J_X11_costs sx sh p0 p1 p2 p3 from by subst k6; first | (refine Eq.symm ?_; refine Eq.trans (if_neg c7) ?_; rfl) | (unfold J_X11_costs; try dsimp only; rw [if_neg c7])) dX11_costs_38
theorem mw_X11_work_maxL197 : Cond.methodLink RX11 197 Lib.Math.max.name ∈ wsX11_work := by decide +kernel
theorem mw_X11_work_maxS : Cond.static Lib.Math.max.name ∈ wsX11_work := by decide +kernel
theorem mw_X11_work_maxI : Cond.initialized "java/lang/Math" ∈ wsX11_work := by decide +kernel
theorem mw_X11_work_maxC : Cond.code Lib.Math.max.name Lib.Math.max.code 2 (some .int) ∈ wsX11_work := by decide +kernel
theorem fw_X11_work_39 : Cond.fieldLink RX11 39 "StillInAugust" "house" "LStillInAugust$House;" ∈ wsX11_work := by decide +kernel
theorem iw_X11_work_X11 : ∀ w ∈ u_ws RX11 TX11 17, w ∈ wsX11_work := fun _ h => List.mem_cons_of_mem _ (List.mem_append_left _ (List.mem_append_right _ h))
def J_X11_work (sx : Nat → Nat → Int32) (sh : Nat → Nat → Int32) (p0 : Int32) (p1 : Int32) (p2 : Int32) (p3 : Int32) (p4 : Int32) : Int32 := let y5 := J_X11_refuseAct sx (lS [(lI [(sh 0 0), (sh 0 1), 0, 0, 0, 0, (sh 0 6), (sh 0 7), (sh 0 8), (sh 0 9), (sh 0 10), (sh 0 11), (sh 0 12)]), (sh 1), (sh 2), (sh 3), (sh 4), (sh 5)]) p0 p1 p2 p3; if y5 = 0 then let y17 := J_X4_lack (lS [(lI [(sh 0 0), (sh 0 1), 0, 0, 0, 0, (sh 0 6), (sh 0 7), (sh 0 8), (sh 0 9), (sh 0 10), (sh 0 11), (sh 0 12)]), (sh 1), (sh 2), (sh 3), (sh 4), (sh 5)]) p0 (J_X0_done p1 p3) p2 (J_X0_taught p3); if p4 = 0 then (if 0 < y17 then y17 else 0) else (if 0 < (-y17) then (-y17) else 0) else y5
set_option maxHeartbeats 4000000 in
set_option maxRecDepth 100000 in
theorem c_X11_work (l : Launch) (D : va_G) (k : Nat → ClassId) (b : Nat → Nat) (qx : Nat → Nat) (sx : Nat → Nat → Int32) (qh : Nat → Nat) (sh : Nat → Nat → Int32) (sz : Nat) (p0 : Int32) (p1 : Int32) (p2 : Int32) (p3 : Int32) (p4 : Int32) (h_wk : 0 ≤ (sh 0 0).toInt ∧ (sh 0 0).toInt ≤ 5) (h_hk : 0 ≤ (sh 0 1).toInt ∧ (sh 0 1).toInt ≤ 4) (h_fl : 0 ≤ (sh 0 12).toInt ∧ (sh 0 12).toInt ≤ 5) (h_of : ∀ j, 0 ≤ (sh 2 j).toInt ∧ (sh 2 j).toInt ≤ 4) (h_go : ∀ j, 0 ≤ (sh 3 j).toInt ∧ (sh 3 j).toInt ≤ 5) : MetI l D k b yX11_work wsX11_work ({ frames := 5, cells := 0, slots := 0, locals := 110 } : Room) [cell30_ qx sx, cell28_ k qx sx, cell29_ k qx sx, cell31_ qx sh qh, cell0_ k qh sh, cell1_ k qh sh, cell4_ k qh sh, cell3_ k qh sh, cell2_ k qh sh] sz [.ref (qx 0), .int p0, .int p1, .int p2, .int p3, .int p4] (fun (r : Int32) (u : Unit) => r = J_X11_work sx sh p0 p1 p2 p3 p4) (fun u => [cell30_ qx sx, cell28_ k qx sx, cell29_ k qx sx, cell31_ qx sh qh, cell0_ k qh sh, cell1_ k qh sh, cell4_ k qh sh, cell3_ k qh sh, cell2_ k qh sh]) := by
  refine g_enter (cc := cX11_work) (maxL := 8) (ret := (some .int)) (by decide) rfl (Nat.le_of_ble_eq_true rfl) ?_
  intro p e s m below meth c A hsz hAe cx hr hP hD hS ls hl
  rw [hAe]
  refine g_q (fun Q hQ => ?_)
  have hx := cx.1.1
  have hb := cx.1.2.1
  have bp0 := i_rng p0
  have bp1 := i_rng p1
  have bp2 := i_rng p2
  have bp3 := i_rng p3
  have bp4 := i_rng p4
  have hl : lv_has ls 8 [(0, .ref (qx 0)), (1, .int p0), (2, .int p1), (3, .int p2), (4, .int p3), (5, .int p4)] := hl
  obtain ⟨H, eH⟩ : ∃ H : Heap, H = s.heap := ⟨_, rfl⟩
  obtain ⟨locs, el⟩ : ∃ L : List Loc, L = [] := ⟨_, rfl⟩
  have hP : va_P D vwCl [cell30_ qx sx, cell28_ k qx sx, cell29_ k qx sx, cell31_ qx sh qh, cell0_ k qh sh, cell1_ k qh sh, cell4_ k qh sh, cell3_ k qh sh, cell2_ k qh sh] H := by rw [eH]; exact hP
  have hD : va_D A [cell30_ qx sx, cell28_ k qx sx, cell29_ k qx sx, cell31_ qx sh qh, cell0_ k qh sh, cell1_ k qh sh, cell4_ k qh sh, cell3_ k qh sh, cell2_ k qh sh] := hD
  have hS : va_S A s.heap H locs := by rw [eH, el]; exact hS
  suffices goal : W p l e ({ frames := 5, cells := 0, slots := 0, locals := 110 } : Room) s m ([.ref (qx 0), .int p0, .int p1, .int p2, .int p3, .int p4] : List Value).toArray below meth c H locs 0 0 Q (F0 m 0 ls []) by rw [eH, el] at goal; exact goal
  refine lv_aload_n hx hb dX11_work_0 rfl (lv_at hl 0 rfl) ?_
  refine lv_iload_n hx hb dX11_work_1 rfl (lv_at hl 1 rfl) ?_
  refine lv_iload_n hx hb dX11_work_2 rfl (lv_at hl 2 rfl) ?_
  refine lv_iload_n hx hb dX11_work_3 rfl (lv_at hl 3 rfl) ?_
  refine lv_iload hx hb dX11_work_4 (lv_at hl 4 rfl) ?_
  refine g_iF (w1 := fun (_ : Unit) => [cell30_ qx sx, cell28_ k qx sx, cell29_ k qx sx, cell31_ qx sh qh, cell0_ k qh sh, cell1_ k qh sh, cell4_ k qh sh, cell3_ k qh sh, cell2_ k qh sh]) (g_runVF (ws := [cell30_ qx sx, cell28_ k qx sx, cell29_ k qx sx, cell31_ qx sh qh, cell0_ k qh sh, cell1_ k qh sh, cell4_ k qh sh, cell3_ k qh sh, cell2_ k qh sh]) (rest := []) cx hP hD hS [.int p0, .int p1, .int p2, .int p3] (c_X11_refuseAct l D k b qx sx (lq [0, qh 1, qh 2, qh 3, qh 4, qh 5]) (lS [(lI [(sh 0 0), (sh 0 1), 0, 0, 0, 0, (sh 0 6), (sh 0 7), (sh 0 8), (sh 0 9), (sh 0 10), (sh 0 11), (sh 0 12)]), (sh 1), (sh 2), (sh 3), (sh 4), (sh 5)]) H.size p0 p1 p2 p3 (show 0 ≤ (sh 0 0).toInt ∧ (sh 0 0).toInt ≤ 5 from by first | decide | omega) (show 0 ≤ (sh 0 1).toInt ∧ (sh 0 1).toInt ≤ 4 from by first | decide | omega) (show 0 ≤ (sh 0 12).toInt ∧ (sh 0 12).toInt ≤ 5 from by first | decide | omega) h_of h_go) gX11_work_X11_refuseAct rfl rfl rfl nd_X11_refuseAct ⟨Nat.le_of_ble_eq_true rfl, Nat.le_of_ble_eq_true rfl⟩ (ci := 9) (q0 := 0) rfl rfl rfl hl.1 rfl (Nat.le_of_ble_eq_true rfl) ⟨Nat.zero_le _, Nat.zero_le _⟩ dX11_work_6) cx.2.2.1 hD hS (fun r2 _ H locs hw1 hP hD hS => ?_)
  replace hw1 : (¬ r2.toInt = 0 ∨ (0 ≤ p0.toInt ∧ p0.toInt ≤ 4 ∧ p0.toInt < (sh 0 0).toInt ∧ (0 ≤ p1.toInt ∧ p1.toInt ≤ 400 ∧ tot p1 ≤ 4) ∧ tot p1 ≤ (sh 0 1).toInt ∧ 0 ≤ p2.toInt ∧ p2.toInt ≤ 2 ∧ 0 ≤ p3.toInt ∧ 0 ≤ (J_X0_done p1 p3).toInt ∧ (J_X0_done p1 p3).toInt ≤ 400 ∧ tot (J_X0_done p1 p3) ≤ 4)) ∧ (r2 = J_X11_refuseAct sx (lS [(lI [(sh 0 0), (sh 0 1), 0, 0, 0, 0, (sh 0 6), (sh 0 7), (sh 0 8), (sh 0 9), (sh 0 10), (sh 0 11), (sh 0 12)]), (sh 1), (sh 2), (sh 3), (sh 4), (sh 5)]) p0 p1 p2 p3) := hw1
  obtain ⟨w3, w4⟩ := hw1
  have k6 : r2 = (J_X11_refuseAct sx (lS [(lI [(sh 0 0), (sh 0 1), 0, 0, 0, 0, (sh 0 6), (sh 0 7), (sh 0 8), (sh 0 9), (sh 0 10), (sh 0 11), (sh 0 12)]), (sh 1), (sh 2), (sh 3), (sh 4), (sh 5)]) p0 p1 p2 p3) := congrArg (fun z => z) w4
  refine lv_istore (lv' := [(6, .int r2), (0, .ref (qx 0)), (1, .int p0), (2, .int p1), (3, .int p2), (4, .int p3), (5, .int p4)]) hx hb dX11_work_9 hl (by decide) rfl (fun ls hl => ?_)
  refine lv_iload hx hb dX11_work_11 (lv_at hl 0 rfl) ?_
  refine lv_if_eq (tgt := 19) hx hb dX11_work_13 (by decide) (fun c7 => ?_) (fun c7 => ?_)
  · have f7 : r2.toInt = 0 := f_eq rfl (by decide) c7
    refine lv_aload_n hx hb dX11_work_19 rfl (lv_at hl 1 rfl) ?_
    refine g_get cx hP iw_X11_work_X11 0 rfl rfl 4 (by decide) rfl fw_X11_work_39 rfl dX11_work_20 ?_
    refine lv_iload_n hx hb dX11_work_23 rfl (lv_at hl 2 rfl) ?_
    refine lv_iload_n hx hb dX11_work_24 rfl (lv_at hl 3 rfl) ?_
    refine lv_iload hx hb dX11_work_25 (lv_at hl 5 rfl) ?_
    refine g_ir (g_runS (wc := []) (rest := [.int p0, .ref (qx 7)]) cx hP hD hS [] rfl (by decide) [.int p1, .int p3] (c_X0_done l D k b H.size p1 p3) gX11_work_X0_done rfl rfl rfl nd_X0_done ⟨Nat.le_of_ble_eq_true rfl, Nat.le_of_ble_eq_true rfl⟩ rfl hl.1 rfl (Nat.le_of_ble_eq_true rfl) ⟨Nat.zero_le _, Nat.zero_le _⟩ dX11_work_27) cx.2.2.1 hP hD hS [] rfl rfl (fun r9 H locs hw8 hP hS => ?_)
    have w10 : r9 = J_X0_done p1 p3 := hw8
    clear hw8
    refine lv_iload_n hx hb dX11_work_30 rfl (lv_at hl 4 rfl) ?_
    refine lv_iload hx hb dX11_work_31 (lv_at hl 5 rfl) ?_
    refine g_ir (g_runS (wc := []) (rest := [.int p2, .int r9, .int p0, .ref (qx 7)]) cx hP hD hS [] rfl (by decide) [.int p3] (c_X0_taught l D k b H.size p3) gX11_work_X0_taught rfl rfl rfl nd_X0_taught ⟨Nat.le_of_ble_eq_true rfl, Nat.le_of_ble_eq_true rfl⟩ rfl hl.1 rfl (Nat.le_of_ble_eq_true rfl) ⟨Nat.zero_le _, Nat.zero_le _⟩ dX11_work_33) cx.2.2.1 hP hD hS [] rfl rfl (fun r12 H locs hw11 hP hS => ?_)
    have w13 : r12 = J_X0_taught p3 := hw11
    clear hw11
    refine g_ir (g_runV (wc := [cell31_ qx sh qh, cell0_ k qh sh, cell1_ k qh sh, cell4_ k qh sh, cell3_ k qh sh, cell2_ k qh sh]) (rest := []) cx hP hD hS [3, 4, 5, 6, 7, 8] rfl (by decide) [.int p0, .int r9, .int p2, .int r12] (c_X4_lack l D k b (lq [qx 7, qh 1, qh 2, qh 3, qh 4, qh 5]) (lS [(lI [(sh 0 0), (sh 0 1), 0, 0, 0, 0, (sh 0 6), (sh 0 7), (sh 0 8), (sh 0 9), (sh 0 10), (sh 0 11), (sh 0 12)]), (sh 1), (sh 2), (sh 3), (sh 4), (sh 5)]) H.size p0 r9 p2 r12 (show 0 ≤ p0.toInt ∧ p0.toInt ≤ 4 from by first | decide | omega)) gX11_work_X4_lack rfl rfl rfl nd_X4_lack ⟨Nat.le_of_ble_eq_true rfl, Nat.le_of_ble_eq_true rfl⟩ (ci := 2) (q0 := 0) rfl rfl rfl hl.1 rfl (Nat.le_of_ble_eq_true rfl) ⟨Nat.zero_le _, Nat.zero_le _⟩ dX11_work_36) cx.2.2.1 hP hD hS [3, 4, 5, 6, 7, 8] rfl rfl (fun r15 H locs hw14 hP hS => ?_)
    have w16 : r15 = J_X4_lack (lS [(lI [(sh 0 0), (sh 0 1), 0, 0, 0, 0, (sh 0 6), (sh 0 7), (sh 0 8), (sh 0 9), (sh 0 10), (sh 0 11), (sh 0 12)]), (sh 1), (sh 2), (sh 3), (sh 4), (sh 5)]) p0 r9 p2 r12 := hw14
    clear hw14
    have k18 : r15 = (J_X4_lack (lS [(lI [(sh 0 0), (sh 0 1), 0, 0, 0, 0, (sh 0 6), (sh 0 7), (sh 0 8), (sh 0 9), (sh 0 10), (sh 0 11), (sh 0 12)]), (sh 1), (sh 2), (sh 3), (sh 4), (sh 5)]) p0 r9 p2 r12) := congrArg (fun z => z) w16
    have rzr15 := i_rng r15
    refine lv_istore (lv' := [(7, .int r15), (6, .int r2), (0, .ref (qx 0)), (1, .int p0), (2, .int p1), (3, .int p2), (4, .int p3), (5, .int p4)]) hx hb dX11_work_39 hl (by decide) rfl (fun ls hl => ?_)
    refine lv_iconst (v := 0) hx hb dX11_work_41 (by decide) ?_
    refine lv_iload hx hb dX11_work_42 (lv_at hl 7 rfl) ?_
    refine lv_if_eq (tgt := 53) hx hb dX11_work_44 (by decide) (fun c19 => ?_) (fun c19 => ?_)
    · have f19 : p4.toInt = 0 := f_eq rfl (by decide) c19
      refine lv_iload hx hb dX11_work_53 (lv_at hl 0 rfl) ?_
      refine va_mmax hx hb (cx.1.2.2.1.trans hl.1.symm) cx.1.2.2.2.1 (cx.1.2.2.2.2 _ mw_X11_work_maxL197) (cx.1.2.2.2.2 _ mw_X11_work_maxS) (cx.1.2.2.2.2 _ mw_X11_work_maxI) (cx.1.2.2.2.2 _ mw_X11_work_maxC) (Nat.le_of_ble_eq_true rfl) (Nat.le_of_ble_eq_true rfl) (Nat.zero_le _) (Nat.zero_le _) dX11_work_55 (lv_topi (fun v20 e20 => ?_))
      have t20 := i_max (by decide) rfl (a := 0) (b := r15.toInt) e20
      rw [hQ]
      exact x_i cx hr () hP hD hS (show v20 = J_X11_work sx sh p0 p1 p2 p3 p4 from by subst k6 w10 w13 k18 e20; first | (refine Eq.symm ?_; refine Eq.trans (if_pos c7) ?_; refine Eq.trans (if_pos c19) ?_; rfl) | (unfold J_X11_work; try dsimp only; rw [if_pos c7, if_pos c19])) dX11_work_58
    · have f19 : ¬ p4.toInt = 0 := f_ne rfl (by decide) c19
      refine lv_iload hx hb dX11_work_47 (lv_at hl 0 rfl) ?_
      refine lv_ineg hx hb dX11_work_49 (lv_topi (fun v21 e21 => ?_))
      refine lv_goto (tgt := 55) hx hb dX11_work_50 (by decide) ?_
      refine va_mmax hx hb (cx.1.2.2.1.trans hl.1.symm) cx.1.2.2.2.1 (cx.1.2.2.2.2 _ mw_X11_work_maxL197) (cx.1.2.2.2.2 _ mw_X11_work_maxS) (cx.1.2.2.2.2 _ mw_X11_work_maxI) (cx.1.2.2.2.2 _ mw_X11_work_maxC) (Nat.le_of_ble_eq_true rfl) (Nat.le_of_ble_eq_true rfl) (Nat.zero_le _) (Nat.zero_le _) dX11_work_55 (lv_topi (fun v22 e22 => ?_))
      have t22 := i_max (by decide) rfl (a := 0) (b := v21.toInt) e22
      rw [hQ]
      exact x_i cx hr () hP hD hS (show v22 = J_X11_work sx sh p0 p1 p2 p3 p4 from by subst k6 w10 w13 k18 e21 e22; first | (refine Eq.symm ?_; refine Eq.trans (if_pos c7) ?_; refine Eq.trans (if_neg c19) ?_; rfl) | (unfold J_X11_work; try dsimp only; rw [if_pos c7, if_neg c19])) dX11_work_58
  · have f7 : ¬ r2.toInt = 0 := f_ne rfl (by decide) c7
    refine lv_iload hx hb dX11_work_16 (lv_at hl 0 rfl) ?_
    rw [hQ]
    exact x_i cx hr () hP hD hS (show r2 = J_X11_work sx sh p0 p1 p2 p3 p4 from by subst k6; first | (refine Eq.symm ?_; refine Eq.trans (if_neg c7) ?_; rfl) | (unfold J_X11_work; try dsimp only; rw [if_neg c7])) dX11_work_18
theorem fw_X11_sunday_39 : Cond.fieldLink RX11 39 "StillInAugust" "house" "LStillInAugust$House;" ∈ wsX11_sunday := by decide +kernel
theorem kJ_X11_sunday_205 : Cond.constantLong RX11 205 (-2) ∈ wsX11_sunday := by decide +kernel
theorem kJ_X11_sunday_210 : Cond.constantLong RX11 210 (625) ∈ wsX11_sunday := by decide +kernel
theorem nd_X11_told : yX11_told.cls ≠ "java/lang/invoke/MethodHandle" ∧ yX11_told.cls ≠ "java/lang/invoke/VarHandle" ∧ (parseMethodDescriptor yX11_told.desc).map (fun d => d.parameters.length) = some 3 := by decide +kernel
theorem nd_X4_becomes : yX4_becomes.cls = RX4 ∧ yX4_becomes.cls ≠ "java/lang/invoke/MethodHandle" ∧ yX4_becomes.cls ≠ "java/lang/invoke/VarHandle" ∧ (parseMethodDescriptor yX4_becomes.desc).map (fun d => d.parameters.length) = some 2 := by decide +kernel
theorem iw_X11_sunday_X11 : ∀ w ∈ u_ws RX11 TX11 17, w ∈ wsX11_sunday := fun _ h => List.mem_cons_of_mem _ (List.mem_append_left _ (List.mem_append_right _ h))
set_option maxHeartbeats 4000000 in
set_option maxRecDepth 100000 in
theorem c_X11_sunday (l : Launch) (D : va_G) (k : Nat → ClassId) (b : Nat → Nat) (qx : Nat → Nat) (sx : Nat → Nat → Int32) (qh : Nat → Nat) (sh : Nat → Nat → Int32) (sz : Nat) (p0 : Int32) (p1 : Int32) (p2 : Int32) (h_wk : 0 ≤ (sh 0 0).toInt ∧ (sh 0 0).toInt ≤ 5) (h_hk : 0 ≤ (sh 0 1).toInt ∧ (sh 0 1).toInt ≤ 4) (h_fl : 0 ≤ (sh 0 12).toInt ∧ (sh 0 12).toInt ≤ 5) (h_of : ∀ j, 0 ≤ (sh 2 j).toInt ∧ (sh 2 j).toInt ≤ 4) (h_go : ∀ j, 0 ≤ (sh 3 j).toInt ∧ (sh 3 j).toInt ≤ 5) (h_su : SUok (sh 5)) : MetL l D k b yX11_sunday wsX11_sunday ({ frames := 3, cells := 0, slots := 0, locals := 63 } : Room) [cell30_ qx sx, cell28_ k qx sx, cell29_ k qx sx, cell31_ qx sh qh, cell0_ k qh sh, cell1_ k qh sh, cell4_ k qh sh, cell3_ k qh sh, cell2_ k qh sh] sz [.ref (qx 0), .int p0, .int p1, .int p2] (fun (r : Int64) (u : Unit) => True) (fun u => [cell30_ qx sx, cell28_ k qx sx, cell29_ k qx sx, cell31_ qx sh qh, cell0_ k qh sh, cell1_ k qh sh, cell4_ k qh sh, cell3_ k qh sh, cell2_ k qh sh]) := by
  refine g_enter (cc := cX11_sunday) (maxL := 4) (ret := (some .long)) (by decide) rfl (Nat.le_of_ble_eq_true rfl) ?_
  intro p e s m below meth c A hsz hAe cx hr hP hD hS ls hl
  rw [hAe]
  refine g_q (fun Q hQ => ?_)
  have hx := cx.1.1
  have hb := cx.1.2.1
  have bp0 := i_rng p0
  have bp1 := i_rng p1
  have bp2 := i_rng p2
  have hl : lv_has ls 4 [(0, .ref (qx 0)), (1, .int p0), (2, .int p1), (3, .int p2)] := hl
  obtain ⟨H, eH⟩ : ∃ H : Heap, H = s.heap := ⟨_, rfl⟩
  obtain ⟨locs, el⟩ : ∃ L : List Loc, L = [] := ⟨_, rfl⟩
  have hP : va_P D vwCl [cell30_ qx sx, cell28_ k qx sx, cell29_ k qx sx, cell31_ qx sh qh, cell0_ k qh sh, cell1_ k qh sh, cell4_ k qh sh, cell3_ k qh sh, cell2_ k qh sh] H := by rw [eH]; exact hP
  have hD : va_D A [cell30_ qx sx, cell28_ k qx sx, cell29_ k qx sx, cell31_ qx sh qh, cell0_ k qh sh, cell1_ k qh sh, cell4_ k qh sh, cell3_ k qh sh, cell2_ k qh sh] := hD
  have hS : va_S A s.heap H locs := by rw [eH, el]; exact hS
  suffices goal : W p l e ({ frames := 3, cells := 0, slots := 0, locals := 63 } : Room) s m ([.ref (qx 0), .int p0, .int p1, .int p2] : List Value).toArray below meth c H locs 0 0 Q (F0 m 0 ls []) by rw [eH, el] at goal; exact goal
  refine lv_aload_n hx hb dX11_sunday_0 rfl (lv_at hl 0 rfl) ?_
  refine lv_iload_n hx hb dX11_sunday_1 rfl (lv_at hl 1 rfl) ?_
  refine g_iF (w1 := fun (_ : Unit) => [cell30_ qx sx, cell28_ k qx sx, cell29_ k qx sx, cell31_ qx sh qh, cell0_ k qh sh, cell1_ k qh sh, cell4_ k qh sh, cell3_ k qh sh, cell2_ k qh sh]) (g_runVF (ws := [cell30_ qx sx, cell28_ k qx sx, cell29_ k qx sx, cell31_ qx sh qh, cell0_ k qh sh, cell1_ k qh sh, cell4_ k qh sh, cell3_ k qh sh, cell2_ k qh sh]) (rest := []) cx hP hD hS [.int p0] (c_X11_isHands l D k b qx sx (lq [0, qh 1, qh 2, qh 3, qh 4, qh 5]) (lS [(lI [(sh 0 0), (sh 0 1), 0, 0, 0, 0, (sh 0 6), (sh 0 7), (sh 0 8), (sh 0 9), (sh 0 10), (sh 0 11), (sh 0 12)]), (sh 1), (sh 2), (sh 3), (sh 4), (sh 5)]) H.size p0 (show 0 ≤ (sh 0 1).toInt ∧ (sh 0 1).toInt ≤ 4 from by first | decide | omega)) gX11_sunday_X11_isHands rfl rfl rfl nd_X11_isHands ⟨Nat.le_of_ble_eq_true rfl, Nat.le_of_ble_eq_true rfl⟩ (ci := 9) (q0 := 0) rfl rfl rfl hl.1 rfl (Nat.le_of_ble_eq_true rfl) ⟨Nat.zero_le _, Nat.zero_le _⟩ dX11_sunday_2) cx.2.2.1 hD hS (fun r2 _ H locs hw1 hP hD hS => ?_)
  replace hw1 : (0 ≤ r2.toInt ∧ r2.toInt ≤ 1) ∧ (Imp (r2.toInt = 1) ((0 ≤ p0.toInt ∧ p0.toInt ≤ 400 ∧ tot p0 ≤ 4) ∧ tot p0 ≤ (sh 0 1).toInt)) ∧ (r2 = J_X11_isHands sx (lS [(lI [(sh 0 0), (sh 0 1), 0, 0, 0, 0, (sh 0 6), (sh 0 7), (sh 0 8), (sh 0 9), (sh 0 10), (sh 0 11), (sh 0 12)]), (sh 1), (sh 2), (sh 3), (sh 4), (sh 5)]) p0) := hw1
  obtain ⟨w3, w4, w5⟩ := hw1
  have k7 : r2 = (J_X11_isHands sx (lS [(lI [(sh 0 0), (sh 0 1), 0, 0, 0, 0, (sh 0 6), (sh 0 7), (sh 0 8), (sh 0 9), (sh 0 10), (sh 0 11), (sh 0 12)]), (sh 1), (sh 2), (sh 3), (sh 4), (sh 5)]) p0) := congrArg (fun z => z) w5
  have zr2 : 0 ≤ r2.toInt ∧ r2.toInt ≤ 1 := w3
  refine lv_if_ne (tgt := 12) hx hb dX11_sunday_5 (by decide) (fun c8 => ?_) (fun c8 => ?_)
  · have f8 : ¬ r2.toInt = 0 := f_ne rfl (by decide) c8
    have k8 : ((0 ≤ p0.toInt ∧ p0.toInt ≤ 400 ∧ tot p0 ≤ 4) ∧ tot p0 ≤ (sh 0 1).toInt) := w4 (by omega)
    refine lv_aload_n hx hb dX11_sunday_12 rfl (lv_at hl 0 rfl) ?_
    refine g_get cx hP iw_X11_sunday_X11 0 rfl rfl 4 (by decide) rfl fw_X11_sunday_39 rfl dX11_sunday_13 ?_
    refine lv_iload_n hx hb dX11_sunday_16 rfl (lv_at hl 1 rfl) ?_
    refine lv_iload_n hx hb dX11_sunday_17 rfl (lv_at hl 2 rfl) ?_
    refine g_ir (g_runV (wc := [cell31_ qx sh qh, cell0_ k qh sh, cell1_ k qh sh, cell4_ k qh sh, cell3_ k qh sh, cell2_ k qh sh]) (rest := []) cx hP hD hS [3, 4, 5, 6, 7, 8] rfl (by decide) [.int p0, .int p1] (c_X4_becomes l D k b (lq [qx 7, qh 1, qh 2, qh 3, qh 4, qh 5]) (lS [(lI [(sh 0 0), (sh 0 1), 0, 0, 0, 0, (sh 0 6), (sh 0 7), (sh 0 8), (sh 0 9), (sh 0 10), (sh 0 11), (sh 0 12)]), (sh 1), (sh 2), (sh 3), (sh 4), (sh 5)]) H.size p0 p1 (show SUok (sh 5) from by assumption) (show 0 ≤ p0.toInt ∧ p0.toInt ≤ 400 ∧ tot p0 ≤ 4 from by first | decide | omega)) gX11_sunday_X4_becomes rfl rfl rfl nd_X4_becomes ⟨Nat.le_of_ble_eq_true rfl, Nat.le_of_ble_eq_true rfl⟩ (ci := 2) (q0 := 0) rfl rfl rfl hl.1 rfl (Nat.le_of_ble_eq_true rfl) ⟨Nat.zero_le _, Nat.zero_le _⟩ dX11_sunday_18) cx.2.2.1 hP hD hS [3, 4, 5, 6, 7, 8] rfl rfl (fun r10 H locs hw9 hP hS => ?_)
    have w11 : r10 = J_X4_becomes (lS [(lI [(sh 0 0), (sh 0 1), 0, 0, 0, 0, (sh 0 6), (sh 0 7), (sh 0 8), (sh 0 9), (sh 0 10), (sh 0 11), (sh 0 12)]), (sh 1), (sh 2), (sh 3), (sh 4), (sh 5)]) p0 p1 := hw9
    clear hw9
    have k13 : r10 = (J_X4_becomes (lS [(lI [(sh 0 0), (sh 0 1), 0, 0, 0, 0, (sh 0 6), (sh 0 7), (sh 0 8), (sh 0 9), (sh 0 10), (sh 0 11), (sh 0 12)]), (sh 1), (sh 2), (sh 3), (sh 4), (sh 5)]) p0 p1) := congrArg (fun z => z) w11
    obtain ⟨v14, e14⟩ : ∃ z : Int64, z = (r10 : Int32).toInt64 := ⟨_, rfl⟩
    refine lv_i2l (v := v14) hx hb dX11_sunday_21 e14.symm ?_
    refine lv_ldc2 (v := 625) hx hb cx.1.2.2.2.1 (cx.1.2.2.2.2 _ kJ_X11_sunday_210) dX11_sunday_22 ?_
    refine lv_iload_n hx hb dX11_sunday_25 rfl (lv_at hl 3 rfl) ?_
    refine g_lr (g_runS (wc := []) (rest := []) cx hP hD hS [] rfl (by decide) [.long v14, .long 625, .int p2] (c_X11_told l D k b H.size v14 625 p2) gX11_sunday_X11_told rfl rfl rfl nd_X11_told ⟨Nat.le_of_ble_eq_true rfl, Nat.le_of_ble_eq_true rfl⟩ rfl hl.1 rfl (Nat.le_of_ble_eq_true rfl) ⟨Nat.zero_le _, Nat.zero_le _⟩ dX11_sunday_26) cx.2.2.1 hP hD hS [] rfl rfl (fun r16 H locs hw15 hP hS => ?_)
    have w17 : r16 = J_X11_told v14 (625 : Int64) p2 := hw15
    clear hw15
    have k19 : r16 = (J_X11_told v14 (625 : Int64) p2) := congrArg (fun z => z) w17
    rw [hQ]
    exact x_l cx hr () hP hD hS trivial dX11_sunday_29
  · have f8 : r2.toInt = 0 := f_eq rfl (by decide) c8
    refine lv_ldc2 (v := (-2)) hx hb cx.1.2.2.2.1 (cx.1.2.2.2.2 _ kJ_X11_sunday_205) dX11_sunday_8 ?_
    rw [hQ]
    exact x_l cx hr () hP hD hS trivial dX11_sunday_11
theorem fw_X11_takes_39 : Cond.fieldLink RX11 39 "StillInAugust" "house" "LStillInAugust$House;" ∈ wsX11_takes := by decide +kernel
theorem iw_X11_takes_X11 : ∀ w ∈ u_ws RX11 TX11 17, w ∈ wsX11_takes := fun _ h => List.mem_cons_of_mem _ (List.mem_append_left _ (List.mem_append_right _ h))
def J_X11_takes (sx : Nat → Nat → Int32) (sh : Nat → Nat → Int32) (p0 : Int32) (p1 : Int32) (p2 : Int32) : Int32 := let y6 := J_X11_isRule sx p0; if y6 = 0 then ((-1) : Int32) else let y15 := J_X11_isWeek sx (lS [(lI [(sh 0 0), (sh 0 1), 0, 0, 0, 0, (sh 0 6), (sh 0 7), (sh 0 8), (sh 0 9), (sh 0 10), (sh 0 11), (sh 0 12)]), (sh 1), (sh 2), (sh 3), (sh 4), (sh 5)]) p1; if y15 = 0 then ((-1) : Int32) else let y23 := J_X11_isHands sx (lS [(lI [(sh 0 0), (sh 0 1), 0, 0, 0, 0, (sh 0 6), (sh 0 7), (sh 0 8), (sh 0 9), (sh 0 10), (sh 0 11), (sh 0 12)]), (sh 1), (sh 2), (sh 3), (sh 4), (sh 5)]) p2; if y23 = 0 then ((-2) : Int32) else let y29 := J_X11_levelBy sx p0 p1; let y35 := J_X4_takenByLevel (lS [(lI [(sh 0 0), (sh 0 1), 0, 0, 0, 0, (sh 0 6), (sh 0 7), (sh 0 8), (sh 0 9), (sh 0 10), (sh 0 11), (sh 0 12)]), (sh 1), (sh 2), (sh 3), (sh 4), (sh 5)]) p1 p2 y29; y35
set_option maxHeartbeats 4000000 in
set_option maxRecDepth 100000 in
theorem c_X11_takes (l : Launch) (D : va_G) (k : Nat → ClassId) (b : Nat → Nat) (qx : Nat → Nat) (sx : Nat → Nat → Int32) (qh : Nat → Nat) (sh : Nat → Nat → Int32) (sz : Nat) (p0 : Int32) (p1 : Int32) (p2 : Int32) (h_wk : 0 ≤ (sh 0 0).toInt ∧ (sh 0 0).toInt ≤ 5) (h_hk : 0 ≤ (sh 0 1).toInt ∧ (sh 0 1).toInt ≤ 4) (h_fl : 0 ≤ (sh 0 12).toInt ∧ (sh 0 12).toInt ≤ 5) (h_of : ∀ j, 0 ≤ (sh 2 j).toInt ∧ (sh 2 j).toInt ≤ 4) (h_go : ∀ j, 0 ≤ (sh 3 j).toInt ∧ (sh 3 j).toInt ≤ 5) : MetI l D k b yX11_takes wsX11_takes ({ frames := 3, cells := 0, slots := 0, locals := 66 } : Room) [cell30_ qx sx, cell28_ k qx sx, cell29_ k qx sx, cell31_ qx sh qh, cell0_ k qh sh, cell1_ k qh sh, cell4_ k qh sh, cell3_ k qh sh, cell2_ k qh sh] sz [.ref (qx 0), .int p0, .int p1, .int p2] (fun (r : Int32) (u : Unit) => r = J_X11_takes sx sh p0 p1 p2) (fun u => [cell30_ qx sx, cell28_ k qx sx, cell29_ k qx sx, cell31_ qx sh qh, cell0_ k qh sh, cell1_ k qh sh, cell4_ k qh sh, cell3_ k qh sh, cell2_ k qh sh]) := by
  refine g_enter (cc := cX11_takes) (maxL := 4) (ret := (some .int)) (by decide) rfl (Nat.le_of_ble_eq_true rfl) ?_
  intro p e s m below meth c A hsz hAe cx hr hP hD hS ls hl
  rw [hAe]
  refine g_q (fun Q hQ => ?_)
  have hx := cx.1.1
  have hb := cx.1.2.1
  have bp0 := i_rng p0
  have bp1 := i_rng p1
  have bp2 := i_rng p2
  have hl : lv_has ls 4 [(0, .ref (qx 0)), (1, .int p0), (2, .int p1), (3, .int p2)] := hl
  obtain ⟨H, eH⟩ : ∃ H : Heap, H = s.heap := ⟨_, rfl⟩
  obtain ⟨locs, el⟩ : ∃ L : List Loc, L = [] := ⟨_, rfl⟩
  have hP : va_P D vwCl [cell30_ qx sx, cell28_ k qx sx, cell29_ k qx sx, cell31_ qx sh qh, cell0_ k qh sh, cell1_ k qh sh, cell4_ k qh sh, cell3_ k qh sh, cell2_ k qh sh] H := by rw [eH]; exact hP
  have hD : va_D A [cell30_ qx sx, cell28_ k qx sx, cell29_ k qx sx, cell31_ qx sh qh, cell0_ k qh sh, cell1_ k qh sh, cell4_ k qh sh, cell3_ k qh sh, cell2_ k qh sh] := hD
  have hS : va_S A s.heap H locs := by rw [eH, el]; exact hS
  suffices goal : W p l e ({ frames := 3, cells := 0, slots := 0, locals := 66 } : Room) s m ([.ref (qx 0), .int p0, .int p1, .int p2] : List Value).toArray below meth c H locs 0 0 Q (F0 m 0 ls []) by rw [eH, el] at goal; exact goal
  refine lv_aload_n hx hb dX11_takes_0 rfl (lv_at hl 0 rfl) ?_
  refine lv_iload_n hx hb dX11_takes_1 rfl (lv_at hl 1 rfl) ?_
  refine g_ir (g_runV (wc := [cell30_ qx sx, cell28_ k qx sx, cell29_ k qx sx]) (rest := []) cx hP hD hS [0, 1, 2] rfl (by decide) [.int p0] (c_X11_isRule l D k b qx sx H.size p0) gX11_takes_X11_isRule rfl rfl rfl nd_X11_isRule ⟨Nat.le_of_ble_eq_true rfl, Nat.le_of_ble_eq_true rfl⟩ (ci := 9) (q0 := 0) rfl rfl rfl hl.1 rfl (Nat.le_of_ble_eq_true rfl) ⟨Nat.zero_le _, Nat.zero_le _⟩ dX11_takes_2) cx.2.2.1 hP hD hS [0, 1, 2] rfl rfl (fun r2 H locs hw1 hP hS => ?_)
  replace hw1 : (0 ≤ r2.toInt ∧ r2.toInt ≤ 1) ∧ (Imp (r2.toInt = 1) (0 ≤ p0.toInt ∧ p0.toInt ≤ 2)) ∧ (r2 = J_X11_isRule sx p0) := hw1
  obtain ⟨w3, w4, w5⟩ := hw1
  have k7 : r2 = (J_X11_isRule sx p0) := congrArg (fun z => z) w5
  have zr2 : 0 ≤ r2.toInt ∧ r2.toInt ≤ 1 := w3
  refine lv_if_eq (tgt := 16) hx hb dX11_takes_5 (by decide) (fun c8 => ?_) (fun c8 => ?_)
  · have f8 : r2.toInt = 0 := f_eq rfl (by decide) c8
    refine lv_iconst (v := (-1)) hx hb dX11_takes_16 (by decide) ?_
    have hlit9 : ((-1) : Int32).toInt = -1 := by decide
    rw [hQ]
    exact x_i cx hr () hP hD hS (show ((-1) : Int32) = J_X11_takes sx sh p0 p1 p2 from by subst k7; first | (refine Eq.symm ?_; refine Eq.trans (if_pos c8) ?_; rfl) | (unfold J_X11_takes; try dsimp only; rw [if_pos c8])) dX11_takes_17
  · have f8 : ¬ r2.toInt = 0 := f_ne rfl (by decide) c8
    have k8 : (0 ≤ p0.toInt ∧ p0.toInt ≤ 2) := w4 (by omega)
    refine lv_aload_n hx hb dX11_takes_8 rfl (lv_at hl 0 rfl) ?_
    refine lv_iload_n hx hb dX11_takes_9 rfl (lv_at hl 2 rfl) ?_
    refine g_iF (w1 := fun (_ : Unit) => [cell30_ qx sx, cell28_ k qx sx, cell29_ k qx sx, cell31_ qx sh qh, cell0_ k qh sh, cell1_ k qh sh, cell4_ k qh sh, cell3_ k qh sh, cell2_ k qh sh]) (g_runVF (ws := [cell30_ qx sx, cell28_ k qx sx, cell29_ k qx sx, cell31_ qx sh qh, cell0_ k qh sh, cell1_ k qh sh, cell4_ k qh sh, cell3_ k qh sh, cell2_ k qh sh]) (rest := []) cx hP hD hS [.int p1] (c_X11_isWeek l D k b qx sx (lq [0, qh 1, qh 2, qh 3, qh 4, qh 5]) (lS [(lI [(sh 0 0), (sh 0 1), 0, 0, 0, 0, (sh 0 6), (sh 0 7), (sh 0 8), (sh 0 9), (sh 0 10), (sh 0 11), (sh 0 12)]), (sh 1), (sh 2), (sh 3), (sh 4), (sh 5)]) H.size p1 (show 0 ≤ (sh 0 0).toInt ∧ (sh 0 0).toInt ≤ 5 from by first | decide | omega)) gX11_takes_X11_isWeek rfl rfl rfl nd_X11_isWeek ⟨Nat.le_of_ble_eq_true rfl, Nat.le_of_ble_eq_true rfl⟩ (ci := 9) (q0 := 0) rfl rfl rfl hl.1 rfl (Nat.le_of_ble_eq_true rfl) ⟨Nat.zero_le _, Nat.zero_le _⟩ dX11_takes_10) cx.2.2.1 hD hS (fun r11 _ H locs hw10 hP hD hS => ?_)
    replace hw10 : (0 ≤ r11.toInt ∧ r11.toInt ≤ 1) ∧ (Imp (r11.toInt = 1) (0 ≤ p1.toInt ∧ p1.toInt ≤ 4 ∧ p1.toInt < (sh 0 0).toInt)) ∧ (r11 = J_X11_isWeek sx (lS [(lI [(sh 0 0), (sh 0 1), 0, 0, 0, 0, (sh 0 6), (sh 0 7), (sh 0 8), (sh 0 9), (sh 0 10), (sh 0 11), (sh 0 12)]), (sh 1), (sh 2), (sh 3), (sh 4), (sh 5)]) p1) := hw10
    obtain ⟨w12, w13, w14⟩ := hw10
    have k16 : r11 = (J_X11_isWeek sx (lS [(lI [(sh 0 0), (sh 0 1), 0, 0, 0, 0, (sh 0 6), (sh 0 7), (sh 0 8), (sh 0 9), (sh 0 10), (sh 0 11), (sh 0 12)]), (sh 1), (sh 2), (sh 3), (sh 4), (sh 5)]) p1) := congrArg (fun z => z) w14
    have zr11 : 0 ≤ r11.toInt ∧ r11.toInt ≤ 1 := w12
    refine lv_if_ne (tgt := 18) hx hb dX11_takes_13 (by decide) (fun c17 => ?_) (fun c17 => ?_)
    · have f17 : ¬ r11.toInt = 0 := f_ne rfl (by decide) c17
      have k17 : (0 ≤ p1.toInt ∧ p1.toInt ≤ 4 ∧ p1.toInt < (sh 0 0).toInt) := w13 (by omega)
      refine lv_aload_n hx hb dX11_takes_18 rfl (lv_at hl 0 rfl) ?_
      refine lv_iload_n hx hb dX11_takes_19 rfl (lv_at hl 3 rfl) ?_
      refine g_iF (w1 := fun (_ : Unit) => [cell30_ qx sx, cell28_ k qx sx, cell29_ k qx sx, cell31_ qx sh qh, cell0_ k qh sh, cell1_ k qh sh, cell4_ k qh sh, cell3_ k qh sh, cell2_ k qh sh]) (g_runVF (ws := [cell30_ qx sx, cell28_ k qx sx, cell29_ k qx sx, cell31_ qx sh qh, cell0_ k qh sh, cell1_ k qh sh, cell4_ k qh sh, cell3_ k qh sh, cell2_ k qh sh]) (rest := []) cx hP hD hS [.int p2] (c_X11_isHands l D k b qx sx (lq [0, qh 1, qh 2, qh 3, qh 4, qh 5]) (lS [(lI [(sh 0 0), (sh 0 1), 0, 0, 0, 0, (sh 0 6), (sh 0 7), (sh 0 8), (sh 0 9), (sh 0 10), (sh 0 11), (sh 0 12)]), (sh 1), (sh 2), (sh 3), (sh 4), (sh 5)]) H.size p2 (show 0 ≤ (sh 0 1).toInt ∧ (sh 0 1).toInt ≤ 4 from by first | decide | omega)) gX11_takes_X11_isHands rfl rfl rfl nd_X11_isHands ⟨Nat.le_of_ble_eq_true rfl, Nat.le_of_ble_eq_true rfl⟩ (ci := 9) (q0 := 0) rfl rfl rfl hl.1 rfl (Nat.le_of_ble_eq_true rfl) ⟨Nat.zero_le _, Nat.zero_le _⟩ dX11_takes_20) cx.2.2.1 hD hS (fun r19 _ H locs hw18 hP hD hS => ?_)
      replace hw18 : (0 ≤ r19.toInt ∧ r19.toInt ≤ 1) ∧ (Imp (r19.toInt = 1) ((0 ≤ p2.toInt ∧ p2.toInt ≤ 400 ∧ tot p2 ≤ 4) ∧ tot p2 ≤ (sh 0 1).toInt)) ∧ (r19 = J_X11_isHands sx (lS [(lI [(sh 0 0), (sh 0 1), 0, 0, 0, 0, (sh 0 6), (sh 0 7), (sh 0 8), (sh 0 9), (sh 0 10), (sh 0 11), (sh 0 12)]), (sh 1), (sh 2), (sh 3), (sh 4), (sh 5)]) p2) := hw18
      obtain ⟨w20, w21, w22⟩ := hw18
      have k24 : r19 = (J_X11_isHands sx (lS [(lI [(sh 0 0), (sh 0 1), 0, 0, 0, 0, (sh 0 6), (sh 0 7), (sh 0 8), (sh 0 9), (sh 0 10), (sh 0 11), (sh 0 12)]), (sh 1), (sh 2), (sh 3), (sh 4), (sh 5)]) p2) := congrArg (fun z => z) w22
      have zr19 : 0 ≤ r19.toInt ∧ r19.toInt ≤ 1 := w20
      refine lv_if_ne (tgt := 29) hx hb dX11_takes_23 (by decide) (fun c25 => ?_) (fun c25 => ?_)
      · have f25 : ¬ r19.toInt = 0 := f_ne rfl (by decide) c25
        have k25 : ((0 ≤ p2.toInt ∧ p2.toInt ≤ 400 ∧ tot p2 ≤ 4) ∧ tot p2 ≤ (sh 0 1).toInt) := w21 (by omega)
        refine lv_aload_n hx hb dX11_takes_29 rfl (lv_at hl 0 rfl) ?_
        refine g_get cx hP iw_X11_takes_X11 0 rfl rfl 4 (by decide) rfl fw_X11_takes_39 rfl dX11_takes_30 ?_
        refine lv_iload_n hx hb dX11_takes_33 rfl (lv_at hl 2 rfl) ?_
        refine lv_iload_n hx hb dX11_takes_34 rfl (lv_at hl 3 rfl) ?_
        refine lv_aload_n hx hb dX11_takes_35 rfl (lv_at hl 0 rfl) ?_
        refine lv_iload_n hx hb dX11_takes_36 rfl (lv_at hl 1 rfl) ?_
        refine lv_iload_n hx hb dX11_takes_37 rfl (lv_at hl 2 rfl) ?_
        refine g_ir (g_runV (wc := [cell30_ qx sx, cell28_ k qx sx, cell29_ k qx sx]) (rest := [.int p2, .int p1, .ref (qx 7)]) cx hP hD hS [0, 1, 2] rfl (by decide) [.int p0, .int p1] (c_X11_levelBy l D k b qx sx H.size p0 p1 (show 0 ≤ p0.toInt ∧ p0.toInt ≤ 2 from by first | decide | omega) (show 0 ≤ p1.toInt ∧ p1.toInt ≤ 4 from by first | decide | omega)) gX11_takes_X11_levelBy rfl rfl rfl nd_X11_levelBy ⟨Nat.le_of_ble_eq_true rfl, Nat.le_of_ble_eq_true rfl⟩ (ci := 9) (q0 := 0) rfl rfl rfl hl.1 rfl (Nat.le_of_ble_eq_true rfl) ⟨Nat.zero_le _, Nat.zero_le _⟩ dX11_takes_38) cx.2.2.1 hP hD hS [0, 1, 2] rfl rfl (fun r27 H locs hw26 hP hS => ?_)
        have w28 : r27 = J_X11_levelBy sx p0 p1 := hw26
        clear hw26
        have k30 : r27 = (J_X11_levelBy sx p0 p1) := congrArg (fun z => z) w28
        refine g_ir (g_runV (wc := [cell31_ qx sh qh, cell0_ k qh sh, cell1_ k qh sh, cell4_ k qh sh, cell3_ k qh sh, cell2_ k qh sh]) (rest := []) cx hP hD hS [3, 4, 5, 6, 7, 8] rfl (by decide) [.int p1, .int p2, .int r27] (c_X4_takenByLevel l D k b (lq [qx 7, qh 1, qh 2, qh 3, qh 4, qh 5]) (lS [(lI [(sh 0 0), (sh 0 1), 0, 0, 0, 0, (sh 0 6), (sh 0 7), (sh 0 8), (sh 0 9), (sh 0 10), (sh 0 11), (sh 0 12)]), (sh 1), (sh 2), (sh 3), (sh 4), (sh 5)]) H.size p1 p2 r27 (show 0 ≤ (sh 0 1).toInt ∧ (sh 0 1).toInt ≤ 4 from by first | decide | omega) h_of (show 0 ≤ p2.toInt ∧ p2.toInt ≤ 400 ∧ tot p2 ≤ 4 from by first | decide | omega) (show tot p2 ≤ (sh 0 1).toInt from by first | decide | omega) (show 0 ≤ p1.toInt ∧ p1.toInt ≤ 4 from by first | decide | omega)) gX11_takes_X4_takenByLevel rfl rfl rfl nd_X4_takenByLevel ⟨Nat.le_of_ble_eq_true rfl, Nat.le_of_ble_eq_true rfl⟩ (ci := 2) (q0 := 0) rfl rfl rfl hl.1 rfl (Nat.le_of_ble_eq_true rfl) ⟨Nat.zero_le _, Nat.zero_le _⟩ dX11_takes_41) cx.2.2.1 hP hD hS [3, 4, 5, 6, 7, 8] rfl rfl (fun r32 H locs hw31 hP hS => ?_)
        replace hw31 : (0 ≤ r32.toInt ∧ r32.toInt ≤ 4 ∧ r32.toInt ≤ (sh 0 1).toInt - (tot p2)) ∧ (r32 = J_X4_takenByLevel (lS [(lI [(sh 0 0), (sh 0 1), 0, 0, 0, 0, (sh 0 6), (sh 0 7), (sh 0 8), (sh 0 9), (sh 0 10), (sh 0 11), (sh 0 12)]), (sh 1), (sh 2), (sh 3), (sh 4), (sh 5)]) p1 p2 r27) := hw31
        obtain ⟨w33, w34⟩ := hw31
        have k36 : r32 = (J_X4_takenByLevel (lS [(lI [(sh 0 0), (sh 0 1), 0, 0, 0, 0, (sh 0 6), (sh 0 7), (sh 0 8), (sh 0 9), (sh 0 10), (sh 0 11), (sh 0 12)]), (sh 1), (sh 2), (sh 3), (sh 4), (sh 5)]) p1 p2 r27) := congrArg (fun z => z) w34
        rw [hQ]
        exact x_i cx hr () hP hD hS (show r32 = J_X11_takes sx sh p0 p1 p2 from by subst k7 k16 k24 k30 k36; first | (refine Eq.symm ?_; refine Eq.trans (if_neg c8) ?_; refine Eq.trans (if_neg c17) ?_; refine Eq.trans (if_neg c25) ?_; rfl) | (unfold J_X11_takes; try dsimp only; rw [if_neg c8, if_neg c17, if_neg c25])) dX11_takes_44
      · have f25 : r19.toInt = 0 := f_eq rfl (by decide) c25
        refine lv_bipush (v := (-2)) hx hb dX11_takes_26 (by decide) ?_
        have hlit37 : ((-2) : Int32).toInt = -2 := by decide
        rw [hQ]
        exact x_i cx hr () hP hD hS (show ((-2) : Int32) = J_X11_takes sx sh p0 p1 p2 from by subst k7 k16 k24; first | (refine Eq.symm ?_; refine Eq.trans (if_neg c8) ?_; refine Eq.trans (if_neg c17) ?_; refine Eq.trans (if_pos c25) ?_; rfl) | (unfold J_X11_takes; try dsimp only; rw [if_neg c8, if_neg c17, if_pos c25])) dX11_takes_28
    · have f17 : r11.toInt = 0 := f_eq rfl (by decide) c17
      refine lv_iconst (v := (-1)) hx hb dX11_takes_16 (by decide) ?_
      have hlit38 : ((-1) : Int32).toInt = -1 := by decide
      rw [hQ]
      exact x_i cx hr () hP hD hS (show ((-1) : Int32) = J_X11_takes sx sh p0 p1 p2 from by subst k7 k16; first | (refine Eq.symm ?_; refine Eq.trans (if_neg c8) ?_; refine Eq.trans (if_pos c17) ?_; rfl) | (unfold J_X11_takes; try dsimp only; rw [if_neg c8, if_pos c17])) dX11_takes_17
