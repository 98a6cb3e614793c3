theorem fw_X11_write_10 : Cond.fieldLink RX11 10 "StillInAugust" "text" "LStillInAugust$Text;" ∈ wsX11_write := by decide +kernel
theorem fw_X11_write_105 : Cond.fieldLink RX11 105 "StillInAugust$Text" "length" "I" ∈ wsX11_write := by decide +kernel
theorem nd_X10_append : yX10_append.cls = RX10 ∧ yX10_append.cls ≠ "java/lang/invoke/MethodHandle" ∧ yX10_append.cls ≠ "java/lang/invoke/VarHandle" ∧ (parseMethodDescriptor yX10_append.desc).map (fun d => d.parameters.length) = some 2 := by decide +kernel
theorem nd_X10_hasRoom : yX10_hasRoom.cls = RX10 ∧ yX10_hasRoom.cls ≠ "java/lang/invoke/MethodHandle" ∧ yX10_hasRoom.cls ≠ "java/lang/invoke/VarHandle" ∧ (parseMethodDescriptor yX10_hasRoom.desc).map (fun d => d.parameters.length) = some 1 := by decide +kernel
theorem iw_X11_write_X10 : ∀ w ∈ u_ws RX10 TX10 2, w ∈ wsX11_write := fun _ h => List.mem_cons_of_mem _ (List.mem_append_right _ h)
theorem iw_X11_write_X11 : ∀ w ∈ u_ws RX11 TX11 17, w ∈ wsX11_write := fun _ h => List.mem_cons_of_mem _ (List.mem_append_left _ (List.mem_append_right _ h))
def J_X11_write (sx : Nat → Nat → Int32) (st : Nat → Nat → Int32) (p0 : Int32) (p1 : Int64) : Int32 × (Nat → Int32) × Int32 := if p0 < 1 then (((-2) : Int32), (st 1), (st 0 1)) else if p0 ≤ 8 then let y8 := J_X10_hasRoom (lS [(lI [0, (st 0 1)]), (st 1)]) p0; if y8 = 0 then (((-4) : Int32), (st 1), (st 0 1)) else let y17 := J_X10_append (lS [(lI [0, (st 0 1)]), (st 1)]) p0 p1; ((y17.2), (y17.1), (y17.2)) else (((-2) : Int32), (st 1), (st 0 1))
set_option maxHeartbeats 4000000 in
set_option maxRecDepth 100000 in
theorem c_X11_write (l : Launch) (D : va_G) (k : Nat → ClassId) (b : Nat → Nat) (qx : Nat → Nat) (sx : Nat → Nat → Int32) (qt : Nat → Nat) (st : Nat → Nat → Int32) (sz : Nat) (p0 : Int32) (p1 : Int64) (h_len : 0 ≤ (st 0 1).toInt ∧ (st 0 1).toInt ≤ 64) : MetI l D k b yX11_write wsX11_write ({ frames := 1, cells := 0, slots := 0, locals := 24 } : Room) [cell30_ qx sx, cell28_ k qx sx, cell29_ k qx sx, cell37_ qx qt st, cell27_ k qt st] sz [.ref (qx 0), .int p0, .long p1] (fun (r : Int32) (u : (Nat → Int32) × Int32) => (((p0.toInt < 1 ∨ 8 < p0.toInt) ∧ r.toInt = -2 ∧ (u.2).toInt = (st 0 1).toInt) ∨ (1 ≤ p0.toInt ∧ p0.toInt ≤ 8 ∧ 64 < (st 0 1).toInt + p0.toInt ∧ r.toInt = -4 ∧ (u.2).toInt = (st 0 1).toInt) ∨ (1 ≤ p0.toInt ∧ p0.toInt ≤ 8 ∧ (st 0 1).toInt + p0.toInt ≤ 64 ∧ r.toInt = (st 0 1).toInt + p0.toInt ∧ (u.2).toInt = (st 0 1).toInt + p0.toInt)) ∧ ((r, (u.1), (u.2)) = J_X11_write sx st p0 p1)) (fun u => [cell30_ qx sx, cell28_ k qx sx, cell29_ k qx sx, cell104_ qx qt (u.2), cell202_ k qt (u.1)]) := by
  refine g_enter (cc := cX11_write) (maxL := 4) (ret := (some .int)) (by decide) rfl (Nat.le_of_ble_eq_true rfl) ?_
  intro p e s m below meth c A hsz hAe cx hr hP hD hS ls hl
  rw [hAe]
  refine g_q (fun Q hQ => ?_)
  have hx := cx.1.1
  have hb := cx.1.2.1
  have bp0 := i_rng p0
  have hl : lv_has ls 4 [(0, .ref (qx 0)), (1, .int p0), (2, .long p1)] := hl
  obtain ⟨H, eH⟩ : ∃ H : Heap, H = s.heap := ⟨_, rfl⟩
  obtain ⟨locs, el⟩ : ∃ L : List Loc, L = [] := ⟨_, rfl⟩
  have hP : va_P D vwCl [cell30_ qx sx, cell28_ k qx sx, cell29_ k qx sx, cell37_ qx qt st, cell27_ k qt st] H := by rw [eH]; exact hP
  have hD : va_D A [cell30_ qx sx, cell28_ k qx sx, cell29_ k qx sx, cell37_ qx qt st, cell27_ k qt st] := hD
  have hS : va_S A s.heap H locs := by rw [eH, el]; exact hS
  suffices goal : W p l e ({ frames := 1, cells := 0, slots := 0, locals := 24 } : Room) s m ([.ref (qx 0), .int p0, .long p1] : List Value).toArray below meth c H locs 0 0 Q (F0 m 0 ls []) by rw [eH, el] at goal; exact goal
  refine lv_iload_n hx hb dX11_write_0 rfl (lv_at hl 1 rfl) ?_
  refine lv_iconst (v := 1) hx hb dX11_write_1 (by decide) ?_
  refine lv_icmp_lt (tgt := 11) hx hb dX11_write_2 (by decide) (fun c1 => ?_) (fun c1 => ?_)
  · have f1 : p0.toInt < 1 := f_lt rfl (by decide) c1
    refine lv_bipush (v := (-2)) hx hb dX11_write_11 (by decide) ?_
    have hlit2 : ((-2) : Int32).toInt = -2 := by decide
    rw [hQ]
    exact x_i cx hr ((st 1), (st 0 1)) hP hD hS ⟨(show ((p0.toInt < 1 ∨ 8 < p0.toInt) ∧ ((-2) : Int32).toInt = -2 ∧ (st 0 1).toInt = (st 0 1).toInt) ∨ (1 ≤ p0.toInt ∧ p0.toInt ≤ 8 ∧ 64 < (st 0 1).toInt + p0.toInt ∧ ((-2) : Int32).toInt = -4 ∧ (st 0 1).toInt = (st 0 1).toInt) ∨ (1 ≤ p0.toInt ∧ p0.toInt ≤ 8 ∧ (st 0 1).toInt + p0.toInt ≤ 64 ∧ ((-2) : Int32).toInt = (st 0 1).toInt + p0.toInt ∧ (st 0 1).toInt = (st 0 1).toInt + p0.toInt) from by omega), (show (((-2) : Int32), (st 1), (st 0 1)) = J_X11_write sx st p0 p1 from by first | (refine Eq.symm ?_; refine Eq.trans (if_pos c1) ?_; rfl) | (unfold J_X11_write; try dsimp only; rw [if_pos c1]))⟩ dX11_write_13
  · have f1 : 1 ≤ p0.toInt := f_nlt rfl (by decide) c1
    refine lv_iload_n hx hb dX11_write_5 rfl (lv_at hl 1 rfl) ?_
    refine lv_bipush (v := 8) hx hb dX11_write_6 (by decide) ?_
    refine lv_icmp_le (tgt := 14) hx hb dX11_write_8 (by decide) (fun c3 => ?_) (fun c3 => ?_)
    · have f3 : p0.toInt ≤ 8 := f_le rfl (by decide) c3
      refine lv_aload_n hx hb dX11_write_14 rfl (lv_at hl 0 rfl) ?_
      refine g_get cx hP iw_X11_write_X11 0 rfl rfl 0 (by decide) rfl fw_X11_write_10 rfl dX11_write_15 ?_
      refine lv_iload_n hx hb dX11_write_18 rfl (lv_at hl 1 rfl) ?_
      refine g_ir (g_runV (wc := [cell37_ qx qt st, cell27_ k qt st]) (rest := []) cx hP hD hS [3, 4] rfl (by decide) [.int p0] (c_X10_hasRoom l D k b (lq [qx 3, qt 1]) (lS [(lI [0, (st 0 1)]), (st 1)]) H.size p0 (show 0 ≤ (st 0 1).toInt ∧ (st 0 1).toInt ≤ 64 from by first | decide | omega) (show 1 ≤ p0.toInt ∧ p0.toInt ≤ 8 from by first | decide | omega)) gX11_write_X10_hasRoom rfl rfl rfl nd_X10_hasRoom ⟨Nat.le_of_ble_eq_true rfl, Nat.le_of_ble_eq_true rfl⟩ (ci := 8) (q0 := 0) rfl rfl rfl hl.1 rfl (Nat.le_of_ble_eq_true rfl) ⟨Nat.zero_le _, Nat.zero_le _⟩ dX11_write_19) cx.2.2.1 hP hD hS [3, 4] rfl rfl (fun r5 H locs hw4 hP hS => ?_)
      replace hw4 : ((r5.toInt = 1 ∧ (st 0 1).toInt + p0.toInt ≤ 64) ∨ (r5.toInt = 0 ∧ 64 < (st 0 1).toInt + p0.toInt)) ∧ (r5 = J_X10_hasRoom (lS [(lI [0, (st 0 1)]), (st 1)]) p0) := hw4
      obtain ⟨w6, w7⟩ := hw4
      have k9 : r5 = (J_X10_hasRoom (lS [(lI [0, (st 0 1)]), (st 1)]) p0) := congrArg (fun z => z) w7
      refine lv_if_ne (tgt := 28) hx hb dX11_write_22 (by decide) (fun c10 => ?_) (fun c10 => ?_)
      · have f10 : ¬ r5.toInt = 0 := f_ne rfl (by decide) c10
        refine lv_aload_n hx hb dX11_write_28 rfl (lv_at hl 0 rfl) ?_
        refine g_get cx hP iw_X11_write_X11 0 rfl rfl 0 (by decide) rfl fw_X11_write_10 rfl dX11_write_29 ?_
        refine lv_iload_n hx hb dX11_write_32 rfl (lv_at hl 1 rfl) ?_
        refine lv_lload_n hx hb dX11_write_33 rfl (lv_at hl 2 rfl) ?_
        refine g_v (w1 := fun (u : (Nat → Int32) × Int32) => [cell104_ qx qt (u.2), cell202_ k qt (u.1)]) (g_runV (wc := [cell37_ qx qt st, cell27_ k qt st]) (rest := []) cx hP hD hS [3, 4] rfl (by decide) [.int p0, .long p1] (c_X10_append l D k b (lq [qx 3, qt 1]) (lS [(lI [0, (st 0 1)]), (st 1)]) H.size p0 p1 (show 0 ≤ (st 0 1).toInt ∧ (st 0 1).toInt ≤ 64 from by first | decide | omega) (show (st 0 1).toInt + p0.toInt ≤ 64 from by first | decide | omega) (show 1 ≤ p0.toInt ∧ p0.toInt ≤ 8 from by first | decide | omega)) gX11_write_X10_append rfl rfl rfl nd_X10_append ⟨Nat.le_of_ble_eq_true rfl, Nat.le_of_ble_eq_true rfl⟩ (ci := 8) (q0 := 0) rfl rfl rfl hl.1 rfl (Nat.le_of_ble_eq_true rfl) ⟨Nat.zero_le _, Nat.zero_le _⟩ dX11_write_34) cx.2.2.1 hP hD hS [3, 4] rfl (fun _ => rfl) (fun u12 H locs hw11 hP hD hS => ?_)
        obtain ⟨m13, m14⟩ := u12
        have hP : va_P D vwCl [cell30_ qx sx, cell28_ k qx sx, cell29_ k qx sx, cell104_ qx qt m14, (qt 1, .inl (k 2, 64, .inl m13))] H := hP
        have hD : va_D A [cell30_ qx sx, cell28_ k qx sx, cell29_ k qx sx, cell104_ qx qt m14, (qt 1, .inl (k 2, 64, .inl m13))] := hD
        replace hw11 : (m14.toInt = (st 0 1).toInt + p0.toInt) ∧ ((m13, m14) = J_X10_append (lS [(lI [0, (st 0 1)]), (st 1)]) p0 p1) := hw11
        obtain ⟨w15, w16⟩ := hw11
        have k18 : m13 = ((J_X10_append (lS [(lI [0, (st 0 1)]), (st 1)]) p0 p1).1) := congrArg (fun z => (z.1)) w16
        have k19 : m14 = ((J_X10_append (lS [(lI [0, (st 0 1)]), (st 1)]) p0 p1).2) := congrArg (fun z => (z.2)) w16
        refine lv_aload_n hx hb dX11_write_37 rfl (lv_at hl 0 rfl) ?_
        refine g_get cx hP iw_X11_write_X11 0 rfl rfl 0 (by decide) rfl fw_X11_write_10 rfl dX11_write_38 ?_
        refine g_get cx hP iw_X11_write_X10 3 rfl rfl 1 (by decide) rfl fw_X11_write_105 rfl dX11_write_41 ?_
        rw [hQ]
        exact x_i cx hr (m13, m14) hP hD hS ⟨(show ((p0.toInt < 1 ∨ 8 < p0.toInt) ∧ m14.toInt = -2 ∧ m14.toInt = (st 0 1).toInt) ∨ (1 ≤ p0.toInt ∧ p0.toInt ≤ 8 ∧ 64 < (st 0 1).toInt + p0.toInt ∧ m14.toInt = -4 ∧ m14.toInt = (st 0 1).toInt) ∨ (1 ≤ p0.toInt ∧ p0.toInt ≤ 8 ∧ (st 0 1).toInt + p0.toInt ≤ 64 ∧ m14.toInt = (st 0 1).toInt + p0.toInt ∧ m14.toInt = (st 0 1).toInt + p0.toInt) from by omega), (show (m14, m13, m14) = J_X11_write sx st p0 p1 from by subst k9 k18 k19; first | (refine Eq.symm ?_; refine Eq.trans (if_neg c1) ?_; refine Eq.trans (if_pos c3) ?_; refine Eq.trans (if_neg c10) ?_; rfl) | (unfold J_X11_write; try dsimp only; rw [if_neg c1, if_pos c3, if_neg c10]))⟩ dX11_write_44
      · have f10 : r5.toInt = 0 := f_eq rfl (by decide) c10
        refine lv_bipush (v := (-4)) hx hb dX11_write_25 (by decide) ?_
        have hlit20 : ((-4) : Int32).toInt = -4 := by decide
        rw [hQ]
        exact x_i cx hr ((st 1), (st 0 1)) hP hD hS ⟨(show ((p0.toInt < 1 ∨ 8 < p0.toInt) ∧ ((-4) : Int32).toInt = -2 ∧ (st 0 1).toInt = (st 0 1).toInt) ∨ (1 ≤ p0.toInt ∧ p0.toInt ≤ 8 ∧ 64 < (st 0 1).toInt + p0.toInt ∧ ((-4) : Int32).toInt = -4 ∧ (st 0 1).toInt = (st 0 1).toInt) ∨ (1 ≤ p0.toInt ∧ p0.toInt ≤ 8 ∧ (st 0 1).toInt + p0.toInt ≤ 64 ∧ ((-4) : Int32).toInt = (st 0 1).toInt + p0.toInt ∧ (st 0 1).toInt = (st 0 1).toInt + p0.toInt) from by omega), (show (((-4) : Int32), (st 1), (st 0 1)) = J_X11_write sx st p0 p1 from by subst k9; first | (refine Eq.symm ?_; refine Eq.trans (if_neg c1) ?_; refine Eq.trans (if_pos c3) ?_; refine Eq.trans (if_pos c10) ?_; rfl) | (unfold J_X11_write; try dsimp only; rw [if_neg c1, if_pos c3, if_pos c10]))⟩ dX11_write_27
    · have f3 : 8 < p0.toInt := f_nle rfl (by decide) c3
      refine lv_bipush (v := (-2)) hx hb dX11_write_11 (by decide) ?_
      have hlit21 : ((-2) : Int32).toInt = -2 := by decide
      rw [hQ]
      exact x_i cx hr ((st 1), (st 0 1)) hP hD hS ⟨(show ((p0.toInt < 1 ∨ 8 < p0.toInt) ∧ ((-2) : Int32).toInt = -2 ∧ (st 0 1).toInt = (st 0 1).toInt) ∨ (1 ≤ p0.toInt ∧ p0.toInt ≤ 8 ∧ 64 < (st 0 1).toInt + p0.toInt ∧ ((-2) : Int32).toInt = -4 ∧ (st 0 1).toInt = (st 0 1).toInt) ∨ (1 ≤ p0.toInt ∧ p0.toInt ≤ 8 ∧ (st 0 1).toInt + p0.toInt ≤ 64 ∧ ((-2) : Int32).toInt = (st 0 1).toInt + p0.toInt ∧ (st 0 1).toInt = (st 0 1).toInt + p0.toInt) from by omega), (show (((-2) : Int32), (st 1), (st 0 1)) = J_X11_write sx st p0 p1 from by first | (refine Eq.symm ?_; refine Eq.trans (if_neg c1) ?_; refine Eq.trans (if_neg c3) ?_; rfl) | (unfold J_X11_write; try dsimp only; rw [if_neg c1, if_neg c3]))⟩ dX11_write_13
