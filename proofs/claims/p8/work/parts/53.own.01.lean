theorem fw_X11_wipe_10 : Cond.fieldLink RX11 10 "StillInAugust" "text" "LStillInAugust$Text;" ∈ wsX11_wipe := by decide +kernel
theorem fw_X11_wipe_105 : Cond.fieldLink RX11 105 "StillInAugust$Text" "length" "I" ∈ wsX11_wipe := by decide +kernel
theorem iw_X11_wipe_X10 : ∀ w ∈ u_ws RX10 TX10 2, w ∈ wsX11_wipe := fun _ h => List.mem_cons_of_mem _ (List.mem_append_right _ h)
theorem iw_X11_wipe_X11 : ∀ w ∈ u_ws RX11 TX11 17, w ∈ wsX11_wipe := fun _ h => List.mem_cons_of_mem _ (List.mem_append_left _ (List.mem_append_right _ h))
def J_X11_wipe (sx : Nat → Nat → Int32) (st : Nat → Nat → Int32) : Int32 × Int32 := ((st 0 1), (0 : Int32))
set_option maxHeartbeats 4000000 in
set_option maxRecDepth 100000 in
theorem c_X11_wipe (l : Launch) (D : va_G) (k : Nat → ClassId) (b : Nat → Nat) (qx : Nat → Nat) (sx : Nat → Nat → Int32) (qt : Nat → Nat) (st : Nat → Nat → Int32) (sz : Nat) : MetI l D k b yX11_wipe wsX11_wipe ({ frames := 0, cells := 0, slots := 0, locals := 0 } : Room) [cell30_ qx sx, cell28_ k qx sx, cell29_ k qx sx, cell37_ qx qt st, cell27_ k qt st] sz [.ref (qx 0)] (fun (r : Int32) (u : Int32) => (r.toInt = (st 0 1).toInt) ∧ (u.toInt = 0) ∧ ((r, u) = J_X11_wipe sx st)) (fun u => [cell30_ qx sx, cell28_ k qx sx, cell29_ k qx sx, cell104_ qx qt u, cell27_ k qt st]) := by
  refine g_enter (cc := cX11_wipe) (maxL := 2) (ret := (some .int)) (by decide) rfl (Nat.le_of_ble_eq_true rfl) ?_
  intro p e s m below meth c A hsz hAe cx hr hP hD hS ls hl
  rw [hAe]
  refine g_q (fun Q hQ => ?_)
  have hx := cx.1.1
  have hb := cx.1.2.1
  have hl : lv_has ls 2 [(0, .ref (qx 0))] := hl
  obtain ⟨H, eH⟩ : ∃ H : Heap, H = s.heap := ⟨_, rfl⟩
  obtain ⟨locs, el⟩ : ∃ L : List Loc, L = [] := ⟨_, rfl⟩
  have hP : va_P D vwCl [cell30_ qx sx, cell28_ k qx sx, cell29_ k qx sx, cell37_ qx qt st, cell27_ k qt st] H := by rw [eH]; exact hP
  have hD : va_D A [cell30_ qx sx, cell28_ k qx sx, cell29_ k qx sx, cell37_ qx qt st, cell27_ k qt st] := hD
  have hS : va_S A s.heap H locs := by rw [eH, el]; exact hS
  suffices goal : W p l e ({ frames := 0, cells := 0, slots := 0, locals := 0 } : Room) s m ([.ref (qx 0)] : List Value).toArray below meth c H locs 0 0 Q (F0 m 0 ls []) by rw [eH, el] at goal; exact goal
  refine lv_aload_n hx hb dX11_wipe_0 rfl (lv_at hl 0 rfl) ?_
  refine g_get cx hP iw_X11_wipe_X11 0 rfl rfl 0 (by decide) rfl fw_X11_wipe_10 rfl dX11_wipe_1 ?_
  refine g_get cx hP iw_X11_wipe_X10 3 rfl rfl 1 (by decide) rfl fw_X11_wipe_105 rfl dX11_wipe_4 ?_
  refine lv_istore_n (lv' := [(1, .int (st 0 1)), (0, .ref (qx 0))]) hx hb dX11_wipe_7 rfl hl (by decide) rfl (fun ls hl => ?_)
  refine lv_aload_n hx hb dX11_wipe_8 rfl (lv_at hl 1 rfl) ?_
  refine g_get cx hP iw_X11_wipe_X11 0 rfl rfl 0 (by decide) rfl fw_X11_wipe_10 rfl dX11_wipe_9 ?_
  refine lv_iconst (v := 0) hx hb dX11_wipe_12 (by decide) ?_
  refine g_pt cx hP hD hS iw_X11_wipe_X10 tyX10 tyX10_ok nmX10 3 rfl rfl 1 (by decide) rfl fw_X11_wipe_105 (ty := .int) rfl rfl rfl (Nat.le_of_ble_eq_true rfl) dX11_wipe_13 (fun H locs hP hD hS => ?_)
  have hP : va_P D vwCl [cell30_ qx sx, cell28_ k qx sx, cell29_ k qx sx, cell104_ qx qt 0, cell27_ k qt st] H := hP
  have hD : va_D A [cell30_ qx sx, cell28_ k qx sx, cell29_ k qx sx, cell104_ qx qt 0, cell27_ k qt st] := hD
  have hlit1 : (0 : Int32).toInt = 0 := by decide
  refine lv_iload_n hx hb dX11_wipe_16 rfl (lv_at hl 0 rfl) ?_
  have hlit2 : (0 : Int32).toInt = 0 := by decide
  rw [hQ]
  exact x_i cx hr 0 hP hD hS ⟨(show (st 0 1).toInt = (st 0 1).toInt from by omega), (show (0 : Int32).toInt = 0 from by omega), (show ((st 0 1), (0 : Int32)) = J_X11_wipe sx st from by rfl)⟩ dX11_wipe_17
