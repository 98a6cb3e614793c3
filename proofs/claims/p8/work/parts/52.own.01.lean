def J_X11_isSlot (sx : Nat → Nat → Int32) (p0 : Int32) : Int32 := if p0 < 0 then (0 : Int32) else if 2 ≤ p0 then (0 : Int32) else (1 : Int32)
set_option maxHeartbeats 4000000 in
set_option maxRecDepth 100000 in
theorem c_X11_isSlot (l : Launch) (D : va_G) (k : Nat → ClassId) (b : Nat → Nat) (qx : Nat → Nat) (sx : Nat → Nat → Int32) (sz : Nat) (p0 : Int32) : MetI l D k b yX11_isSlot wsX11_isSlot ({ frames := 0, cells := 0, slots := 0, locals := 0 } : Room) [cell30_ qx sx, cell28_ k qx sx, cell29_ k qx sx] sz [.ref (qx 0), .int p0] (fun (r : Int32) (u : Unit) => (0 ≤ r.toInt ∧ r.toInt ≤ 1) ∧ (Imp (r.toInt = 1) (0 ≤ p0.toInt ∧ p0.toInt ≤ 1)) ∧ (r = J_X11_isSlot sx p0)) (fun u => [cell30_ qx sx, cell28_ k qx sx, cell29_ k qx sx]) := by
  refine g_enter (cc := cX11_isSlot) (maxL := 2) (ret := (some .boolean)) (by decide) rfl (Nat.le_of_ble_eq_true rfl) ?_
  intro p e s m below meth c A hsz hAe cx hr hP hD hS ls hl
  rw [hAe]
  refine g_q (fun Q hQ => ?_)
  have hx := cx.1.1
  have hb := cx.1.2.1
  have bp0 := i_rng p0
  have hl : lv_has ls 2 [(0, .ref (qx 0)), (1, .int p0)] := hl
  obtain ⟨H, eH⟩ : ∃ H : Heap, H = s.heap := ⟨_, rfl⟩
  obtain ⟨locs, el⟩ : ∃ L : List Loc, L = [] := ⟨_, rfl⟩
  have hP : va_P D vwCl [cell30_ qx sx, cell28_ k qx sx, cell29_ k qx sx] H := by rw [eH]; exact hP
  have hD : va_D A [cell30_ qx sx, cell28_ k qx sx, cell29_ k qx sx] := hD
  have hS : va_S A s.heap H locs := by rw [eH, el]; exact hS
  suffices goal : W p l e ({ frames := 0, cells := 0, slots := 0, locals := 0 } : Room) s m ([.ref (qx 0), .int p0] : List Value).toArray below meth c H locs 0 0 Q (F0 m 0 ls []) by rw [eH, el] at goal; exact goal
  refine lv_iload_n hx hb dX11_isSlot_0 rfl (lv_at hl 1 rfl) ?_
  refine lv_if_lt (tgt := 13) hx hb dX11_isSlot_1 (by decide) (fun c1 => ?_) (fun c1 => ?_)
  · have f1 : p0.toInt < 0 := f_lt rfl (by decide) c1
    refine lv_iconst (v := 0) hx hb dX11_isSlot_13 (by decide) ?_
    have hlit2 : (0 : Int32).toInt = 0 := by decide
    rw [hQ]
    exact x_z cx hr (by decide) () hP hD hS ⟨(show 0 ≤ (0 : Int32).toInt ∧ (0 : Int32).toInt ≤ 1 from by omega), (show Imp ((0 : Int32).toInt = 1) (0 ≤ p0.toInt ∧ p0.toInt ≤ 1) from fun h => by first | exact absurd h (by decide) | omega), (show (0 : Int32) = J_X11_isSlot sx p0 from by first | (refine Eq.symm ?_; refine Eq.trans (if_pos c1) ?_; rfl) | (unfold J_X11_isSlot; try dsimp only; rw [if_pos c1]))⟩ dX11_isSlot_14
  · have f1 : 0 ≤ p0.toInt := f_nlt rfl (by decide) c1
    refine lv_iload_n hx hb dX11_isSlot_4 rfl (lv_at hl 1 rfl) ?_
    refine lv_iconst (v := 2) hx hb dX11_isSlot_5 (by decide) ?_
    refine lv_icmp_ge (tgt := 13) hx hb dX11_isSlot_6 (by decide) (fun c3 => ?_) (fun c3 => ?_)
    · have f3 : 2 ≤ p0.toInt := f_le (by decide) rfl c3
      refine lv_iconst (v := 0) hx hb dX11_isSlot_13 (by decide) ?_
      have hlit4 : (0 : Int32).toInt = 0 := by decide
      rw [hQ]
      exact x_z cx hr (by decide) () hP hD hS ⟨(show 0 ≤ (0 : Int32).toInt ∧ (0 : Int32).toInt ≤ 1 from by omega), (show Imp ((0 : Int32).toInt = 1) (0 ≤ p0.toInt ∧ p0.toInt ≤ 1) from fun h => by first | exact absurd h (by decide) | omega), (show (0 : Int32) = J_X11_isSlot sx p0 from by first | (refine Eq.symm ?_; refine Eq.trans (if_neg c1) ?_; refine Eq.trans (if_pos c3) ?_; rfl) | (unfold J_X11_isSlot; try dsimp only; rw [if_neg c1, if_pos c3]))⟩ dX11_isSlot_14
    · have f3 : p0.toInt < 2 := f_nle (by decide) rfl c3
      refine lv_iconst (v := 1) hx hb dX11_isSlot_9 (by decide) ?_
      refine lv_goto (tgt := 14) hx hb dX11_isSlot_10 (by decide) ?_
      have hlit5 : (1 : Int32).toInt = 1 := by decide
      rw [hQ]
      exact x_z cx hr (by decide) () hP hD hS ⟨(show 0 ≤ (1 : Int32).toInt ∧ (1 : Int32).toInt ≤ 1 from by omega), (show Imp ((1 : Int32).toInt = 1) (0 ≤ p0.toInt ∧ p0.toInt ≤ 1) from fun h => by first | exact absurd h (by decide) | omega), (show (1 : Int32) = J_X11_isSlot sx p0 from by first | (refine Eq.symm ?_; refine Eq.trans (if_neg c1) ?_; refine Eq.trans (if_neg c3) ?_; rfl) | (unfold J_X11_isSlot; try dsimp only; rw [if_neg c1, if_neg c3]))⟩ dX11_isSlot_14
