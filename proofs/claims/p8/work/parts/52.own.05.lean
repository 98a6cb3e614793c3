theorem fw_X11_levelBy_45 : Cond.fieldLink RX11 45 "StillInAugust" "levels" "[I" ∈ wsX11_levelBy := by decide +kernel
theorem iw_X11_levelBy_X11 : ∀ w ∈ u_ws RX11 TX11 17, w ∈ wsX11_levelBy := fun _ h => List.mem_cons_of_mem _ (List.mem_append_right _ h)
def J_X11_levelBy (sx : Nat → Nat → Int32) (p0 : Int32) (p1 : Int32) : Int32 := ((sx 1) (((p0 * (5 : Int32)) + p1)).toNatClampNeg)
set_option maxHeartbeats 4000000 in
set_option maxRecDepth 100000 in
theorem c_X11_levelBy (l : Launch) (D : va_G) (k : Nat → ClassId) (b : Nat → Nat) (qx : Nat → Nat) (sx : Nat → Nat → Int32) (sz : Nat) (p0 : Int32) (p1 : Int32) (hp0 : 0 ≤ p0.toInt ∧ p0.toInt ≤ 2) (hp1 : 0 ≤ p1.toInt ∧ p1.toInt ≤ 4) : MetI l D k b yX11_levelBy wsX11_levelBy ({ frames := 0, cells := 0, slots := 0, locals := 0 } : Room) [cell30_ qx sx, cell28_ k qx sx, cell29_ k qx sx] sz [.ref (qx 0), .int p0, .int p1] (fun (r : Int32) (u : Unit) => r = J_X11_levelBy sx p0 p1) (fun u => [cell30_ qx sx, cell28_ k qx sx, cell29_ k qx sx]) := by
  refine g_enter (cc := cX11_levelBy) (maxL := 3) (ret := (some .int)) (by decide) rfl (Nat.le_of_ble_eq_true rfl) ?_
  intro p e s m below meth c A hsz hAe cx hr hP hD hS ls hl
  rw [hAe]
  refine g_q (fun Q hQ => ?_)
  have hx := cx.1.1
  have hb := cx.1.2.1
  have bp0 := i_rng p0
  have bp1 := i_rng p1
  have hl : lv_has ls 3 [(0, .ref (qx 0)), (1, .int p0), (2, .int p1)] := hl
  obtain ⟨H, eH⟩ : ∃ H : Heap, H = s.heap := ⟨_, rfl⟩
  obtain ⟨locs, el⟩ : ∃ L : List Loc, L = [] := ⟨_, rfl⟩
  have hP : va_P D vwCl [cell30_ qx sx, cell28_ k qx sx, cell29_ k qx sx] H := by rw [eH]; exact hP
  have hD : va_D A [cell30_ qx sx, cell28_ k qx sx, cell29_ k qx sx] := hD
  have hS : va_S A s.heap H locs := by rw [eH, el]; exact hS
  suffices goal : W p l e ({ frames := 0, cells := 0, slots := 0, locals := 0 } : Room) s m ([.ref (qx 0), .int p0, .int p1] : List Value).toArray below meth c H locs 0 0 Q (F0 m 0 ls []) by rw [eH, el] at goal; exact goal
  refine lv_aload_n hx hb dX11_levelBy_0 rfl (lv_at hl 0 rfl) ?_
  refine g_get cx hP iw_X11_levelBy_X11 0 rfl rfl 6 (by decide) rfl fw_X11_levelBy_45 rfl dX11_levelBy_1 ?_
  refine lv_iload_n hx hb dX11_levelBy_4 rfl (lv_at hl 1 rfl) ?_
  refine lv_iconst (v := 5) hx hb dX11_levelBy_5 (by decide) ?_
  refine lv_imul hx hb dX11_levelBy_6 (lv_topi (fun v1 e1 => ?_))
  have t1 : v1.toInt = p0.toInt * 5 := by rw [e1]; exact i_mul rfl (by decide) (by omega) (by omega)
  refine lv_iload_n hx hb dX11_levelBy_7 rfl (lv_at hl 2 rfl) ?_
  refine lv_iadd hx hb dX11_levelBy_8 (lv_topi (fun v2 e2 => ?_))
  have t2 : v2.toInt = v1.toInt + p1.toInt := by rw [e2]; exact i_add rfl rfl (by omega) (by omega)
  have hn3 : vp_in v2 15 := f_in (a := v2.toInt) rfl (by omega) (by omega)
  refine va_iald hx hb cx.2.1 hP 1 0 rfl rfl hn3 dX11_levelBy_9 (lv_topi (fun v4 e4 => ?_))
  rw [hQ]
  exact x_i cx hr () hP hD hS (show v4 = J_X11_levelBy sx p0 p1 from by subst e1 e2 e4; rfl) dX11_levelBy_10
