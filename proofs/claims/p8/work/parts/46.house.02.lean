theorem fw_X4_put_15 : Cond.fieldLink RX4 15 "StillInAugust$House" "offers" "[I" ∈ wsX4_put := by decide +kernel
theorem fw_X4_put_18 : Cond.fieldLink RX4 18 "StillInAugust$House" "goes" "[I" ∈ wsX4_put := by decide +kernel
theorem fw_X4_put_21 : Cond.fieldLink RX4 21 "StillInAugust$House" "does" "[I" ∈ wsX4_put := by decide +kernel
theorem fw_X4_put_36 : Cond.fieldLink RX4 36 "StillInAugust$House" "hooks" "I" ∈ wsX4_put := by decide +kernel
theorem fw_X4_put_45 : Cond.fieldLink RX4 45 "StillInAugust$House" "pay" "I" ∈ wsX4_put := by decide +kernel
theorem fw_X4_put_48 : Cond.fieldLink RX4 48 "StillInAugust$House" "shortPrice" "I" ∈ wsX4_put := by decide +kernel
theorem fw_X4_put_9 : Cond.fieldLink RX4 9 "StillInAugust$House" "wants" "[I" ∈ wsX4_put := by decide +kernel
theorem nd_X4_putMeans : yX4_putMeans.cls = RX4 ∧ yX4_putMeans.cls ≠ "java/lang/invoke/MethodHandle" ∧ yX4_putMeans.cls ≠ "java/lang/invoke/VarHandle" ∧ (parseMethodDescriptor yX4_putMeans.desc).map (fun d => d.parameters.length) = some 3 := by decide +kernel
theorem iw_X4_put_X4 : ∀ w ∈ u_ws RX4 TX4 14, w ∈ wsX4_put := fun _ h => List.mem_cons_of_mem _ (List.mem_append_right _ h)
def J_X4_put (sh : Nat → Nat → Int32) (p0 : Int32) (p1 : Int32) (p2 : Int32) (p3 : Int32) : Int32 × (Nat → Int32) × (Nat → Int32) × (Nat → Int32) × (Nat → Int32) × Int32 × Int32 × Int32 × Int32 × Int32 × Int32 × Int32 := if p0 = 68 then ((sh 0 1), (sh 1), (sh 2), (sh 3), (upd (sh 4) (p1).toNatClampNeg p2), (sh 0 6), (sh 0 7), (sh 0 8), (sh 0 9), (sh 0 10), (sh 0 11), (sh 0 12)) else if p0 = 69 then let y14 := J_X4_putMeans sh p0 p2 p3; ((sh 0 1), (sh 1), (sh 2), (sh 3), (sh 4), (sh 0 6), (sh 0 7), (y14.1), (y14.2.1), (y14.2.2.1), (y14.2.2.2.1), (y14.2.2.2.2)) else if p0 = 70 then let y30 := J_X4_putMeans sh p0 p2 p3; ((sh 0 1), (sh 1), (sh 2), (sh 3), (sh 4), (sh 0 6), (sh 0 7), (y30.1), (y30.2.1), (y30.2.2.1), (y30.2.2.2.1), (y30.2.2.2.2)) else if p0 = 71 then let y46 := J_X4_putMeans sh p0 p2 p3; ((sh 0 1), (sh 1), (sh 2), (sh 3), (sh 4), (sh 0 6), (sh 0 7), (y46.1), (y46.2.1), (y46.2.2.1), (y46.2.2.2.1), (y46.2.2.2.2)) else if p0 = 72 then (p2, (sh 1), (sh 2), (sh 3), (sh 4), (sh 0 6), (sh 0 7), (sh 0 8), (sh 0 9), (sh 0 10), (sh 0 11), (sh 0 12)) else if p0 = 73 then let y63 := J_X4_putMeans sh p0 p2 p3; ((sh 0 1), (sh 1), (sh 2), (sh 3), (sh 4), (sh 0 6), (sh 0 7), (y63.1), (y63.2.1), (y63.2.2.1), (y63.2.2.2.1), (y63.2.2.2.2)) else if p0 = 74 then let y79 := J_X4_putMeans sh p0 p2 p3; ((sh 0 1), (sh 1), (sh 2), (sh 3), (sh 4), (sh 0 6), (sh 0 7), (y79.1), (y79.2.1), (y79.2.2.1), (y79.2.2.2.1), (y79.2.2.2.2)) else if p0 = 75 then let y95 := J_X4_putMeans sh p0 p2 p3; ((sh 0 1), (sh 1), (sh 2), (sh 3), (sh 4), (sh 0 6), (sh 0 7), (y95.1), (y95.2.1), (y95.2.2.1), (y95.2.2.2.1), (y95.2.2.2.2)) else if p0 = 76 then let y111 := J_X4_putMeans sh p0 p2 p3; ((sh 0 1), (sh 1), (sh 2), (sh 3), (sh 4), (sh 0 6), (sh 0 7), (y111.1), (y111.2.1), (y111.2.2.1), (y111.2.2.2.1), (y111.2.2.2.2)) else if p0 = 77 then let y127 := J_X4_putMeans sh p0 p2 p3; ((sh 0 1), (sh 1), (sh 2), (sh 3), (sh 4), (sh 0 6), (sh 0 7), (y127.1), (y127.2.1), (y127.2.2.1), (y127.2.2.2.1), (y127.2.2.2.2)) else if p0 = 78 then let y143 := J_X4_putMeans sh p0 p2 p3; ((sh 0 1), (sh 1), (sh 2), (sh 3), (sh 4), (sh 0 6), (sh 0 7), (y143.1), (y143.2.1), (y143.2.2.1), (y143.2.2.2.1), (y143.2.2.2.2)) else if p0 = 79 then ((sh 0 1), (sh 1), (upd (sh 2) (p1).toNatClampNeg p2), (sh 3), (sh 4), (sh 0 6), (sh 0 7), (sh 0 8), (sh 0 9), (sh 0 10), (sh 0 11), (sh 0 12)) else if p0 = 80 then ((sh 0 1), (sh 1), (sh 2), (sh 3), (sh 4), p2, (sh 0 7), (sh 0 8), (sh 0 9), (sh 0 10), (sh 0 11), (sh 0 12)) else if p0 = 81 then ((sh 0 1), (sh 1), (sh 2), (upd (sh 3) (p1).toNatClampNeg p2), (sh 4), (sh 0 6), (sh 0 7), (sh 0 8), (sh 0 9), (sh 0 10), (sh 0 11), (sh 0 12)) else if p0 = 82 then let y166 := J_X4_putMeans sh p0 p2 p3; ((sh 0 1), (sh 1), (sh 2), (sh 3), (sh 4), (sh 0 6), (sh 0 7), (y166.1), (y166.2.1), (y166.2.2.1), (y166.2.2.2.1), (y166.2.2.2.2)) else if p0 = 83 then ((sh 0 1), (sh 1), (sh 2), (sh 3), (sh 4), (sh 0 6), p2, (sh 0 8), (sh 0 9), (sh 0 10), (sh 0 11), (sh 0 12)) else if p0 = 84 then let y183 := J_X4_putMeans sh p0 p2 p3; ((sh 0 1), (sh 1), (sh 2), (sh 3), (sh 4), (sh 0 6), (sh 0 7), (y183.1), (y183.2.1), (y183.2.2.1), (y183.2.2.2.1), (y183.2.2.2.2)) else if p0 = 85 then let y199 := J_X4_putMeans sh p0 p2 p3; ((sh 0 1), (sh 1), (sh 2), (sh 3), (sh 4), (sh 0 6), (sh 0 7), (y199.1), (y199.2.1), (y199.2.2.1), (y199.2.2.2.1), (y199.2.2.2.2)) else if p0 = 86 then let y215 := J_X4_putMeans sh p0 p2 p3; ((sh 0 1), (sh 1), (sh 2), (sh 3), (sh 4), (sh 0 6), (sh 0 7), (y215.1), (y215.2.1), (y215.2.2.1), (y215.2.2.2.1), (y215.2.2.2.2)) else if p0 = 87 then ((sh 0 1), (upd (sh 1) (p1).toNatClampNeg (((10 : Int32) * p2) + p3)), (sh 2), (sh 3), (sh 4), (sh 0 6), (sh 0 7), (sh 0 8), (sh 0 9), (sh 0 10), (sh 0 11), (sh 0 12)) else let y236 := J_X4_putMeans sh p0 p2 p3; ((sh 0 1), (sh 1), (sh 2), (sh 3), (sh 4), (sh 0 6), (sh 0 7), (y236.1), (y236.2.1), (y236.2.2.1), (y236.2.2.2.1), (y236.2.2.2.2))
set_option maxHeartbeats 4000000 in
set_option maxRecDepth 100000 in
theorem c_X4_put (l : Launch) (D : va_G) (k : Nat → ClassId) (b : Nat → Nat) (qh : Nat → Nat) (sh : Nat → Nat → Int32) (sz : Nat) (p0 : Int32) (p1 : Int32) (p2 : Int32) (p3 : Int32) (h_wk : 0 ≤ (sh 0 0).toInt ∧ (sh 0 0).toInt ≤ 5) (h_hk : 0 ≤ (sh 0 1).toInt ∧ (sh 0 1).toInt ≤ 4) (h_fl : 0 ≤ (sh 0 12).toInt ∧ (sh 0 12).toInt ≤ 5) (h_of : ∀ j, 0 ≤ (sh 2 j).toInt ∧ (sh 2 j).toInt ≤ 4) (h_go : ∀ j, 0 ≤ (sh 3 j).toInt ∧ (sh 3 j).toInt ≤ 5) (ha : ¬ (p0.toInt = 81 ∨ p0.toInt = 68) ∨ p1.toInt ≤ 2) (hb : ¬ p0.toInt = 72 ∨ p2.toInt ≤ 4) (hc : ¬ p0.toInt = 79 ∨ p2.toInt ≤ 4) (hd : ¬ p0.toInt = 81 ∨ p2.toInt ≤ 5) (he : ¬ p0.toInt = 66 ∨ p3.toInt ≤ 5) (hp1 : 0 ≤ p1.toInt ∧ p1.toInt ≤ 4) (hp2 : 0 ≤ p2.toInt ∧ p2.toInt ≤ 9) (hp3 : 0 ≤ p3.toInt ∧ p3.toInt ≤ 9) : MetV l D k b yX4_put wsX4_put ({ frames := 1, cells := 0, slots := 0, locals := 23 } : Room) [cell32_ qh sh, cell0_ k qh sh, cell1_ k qh sh, cell4_ k qh sh, cell3_ k qh sh, cell2_ k qh sh] sz [.ref (qh 0), .int p0, .int p1, .int p2, .int p3] (fun (u : Int32 × (Nat → Int32) × (Nat → Int32) × (Nat → Int32) × (Nat → Int32) × Int32 × Int32 × Int32 × Int32 × Int32 × Int32 × Int32) => (0 ≤ (u.1).toInt ∧ (u.1).toInt ≤ 4) ∧ (0 ≤ (u.2.2.2.2.2.2.2.2.2.2.2).toInt ∧ (u.2.2.2.2.2.2.2.2.2.2.2).toInt ≤ 5) ∧ (∀ j, 0 ≤ ((u.2.2.1) j).toInt ∧ ((u.2.2.1) j).toInt ≤ 4) ∧ (∀ j, 0 ≤ ((u.2.2.2.1) j).toInt ∧ ((u.2.2.2.1) j).toInt ≤ 5) ∧ (((u.1), (u.2.1), (u.2.2.1), (u.2.2.2.1), (u.2.2.2.2.1), (u.2.2.2.2.2.1), (u.2.2.2.2.2.2.1), (u.2.2.2.2.2.2.2.1), (u.2.2.2.2.2.2.2.2.1), (u.2.2.2.2.2.2.2.2.2.1), (u.2.2.2.2.2.2.2.2.2.2.1), (u.2.2.2.2.2.2.2.2.2.2.2)) = J_X4_put sh p0 p1 p2 p3)) (fun u => [cell136_ qh sh (u.1) (u.2.2.2.2.2.1) (u.2.2.2.2.2.2.1) (u.2.2.2.2.2.2.2.1) (u.2.2.2.2.2.2.2.2.1) (u.2.2.2.2.2.2.2.2.2.1) (u.2.2.2.2.2.2.2.2.2.2.1) (u.2.2.2.2.2.2.2.2.2.2.2), cell86_ k qh (u.2.1), cell97_ k qh (u.2.2.1), cell102_ k qh (u.2.2.2.1), cell103_ k qh (u.2.2.2.2.1), cell2_ k qh sh]) := by
  refine g_enter (cc := cX4_put) (maxL := 5) (ret := none) (by decide) rfl (Nat.le_of_ble_eq_true rfl) ?_
  intro p e s m below meth c A hsz hAe cx hr hP hD hS ls hl
  rw [hAe]
  refine g_q (fun Q hQ => ?_)
  have hx := cx.1.1
  have hb := cx.1.2.1
  have bp0 := i_rng p0
  have bp1 := i_rng p1
  have bp2 := i_rng p2
  have bp3 := i_rng p3
  have hl : lv_has ls 5 [(0, .ref (qh 0)), (1, .int p0), (2, .int p1), (3, .int p2), (4, .int p3)] := hl
  obtain ⟨H, eH⟩ : ∃ H : Heap, H = s.heap := ⟨_, rfl⟩
  obtain ⟨locs, el⟩ : ∃ L : List Loc, L = [] := ⟨_, rfl⟩
  have hP : va_P D vwCl [cell32_ qh sh, cell0_ k qh sh, cell1_ k qh sh, cell4_ k qh sh, cell3_ k qh sh, cell2_ k qh sh] H := by rw [eH]; exact hP
  have hD : va_D A [cell32_ qh sh, cell0_ k qh sh, cell1_ k qh sh, cell4_ k qh sh, cell3_ k qh sh, cell2_ k qh sh] := hD
  have hS : va_S A s.heap H locs := by rw [eH, el]; exact hS
  suffices goal : W p l e ({ frames := 1, cells := 0, slots := 0, locals := 23 } : Room) s m ([.ref (qh 0), .int p0, .int p1, .int p2, .int p3] : List Value).toArray below meth c H locs 0 0 Q (F0 m 0 ls []) by rw [eH, el] at goal; exact goal
  refine lv_iload_n hx hb dX4_put_0 rfl (lv_at hl 1 rfl) ?_
  by_cases c1 : p0 = 68
  · refine lv_tableIn (tgt := 140) (off := 139) hx hb dX4_put_1 (by rw [c1]; decide) (by rw [c1]; decide) (by rw [c1]; decide) (by decide) ?_
    have f1 : p0.toInt = 68 := f_eq rfl (by decide) c1
    refine lv_aload_n hx hb dX4_put_140 rfl (lv_at hl 0 rfl) ?_
    refine g_get cx hP iw_X4_put_X4 0 rfl rfl 5 (by decide) rfl fw_X4_put_21 rfl dX4_put_141 ?_
    refine lv_iload_n hx hb dX4_put_144 rfl (lv_at hl 2 rfl) ?_
    refine lv_iload_n hx hb dX4_put_145 rfl (lv_at hl 3 rfl) ?_
    have hn2 : vp_in p1 3 := f_in (a := p1.toInt) rfl (by omega) (by omega)
    refine va_iast hx hb cx.2.1 hP hD hS 4 0 rfl rfl hn2 dX4_put_146 (fun H locs hP hD hS => ?_)
    obtain ⟨g3, eg3⟩ : ∃ g : Nat → Int32, g = upd (sh 4) (p1).toNatClampNeg p2 := ⟨_, rfl⟩
    rw [← eg3] at hP hD
    have hP : va_P D vwCl [cell32_ qh sh, cell0_ k qh sh, cell1_ k qh sh, cell4_ k qh sh, (qh 4, .inl (k 0, 3, .inl g3)), cell2_ k qh sh] H := hP
    have hD : va_D A [cell32_ qh sh, cell0_ k qh sh, cell1_ k qh sh, cell4_ k qh sh, (qh 4, .inl (k 0, 3, .inl g3)), cell2_ k qh sh] := hD
    refine lv_goto (tgt := 174) hx hb dX4_put_147 (by decide) ?_
    rw [hQ]
    exact x_v cx hr ((sh 0 1), (sh 1), (sh 2), (sh 3), g3, (sh 0 6), (sh 0 7), (sh 0 8), (sh 0 9), (sh 0 10), (sh 0 11), (sh 0 12)) hP hD hS ⟨(show 0 ≤ (sh 0 1).toInt ∧ (sh 0 1).toInt ≤ 4 from by omega), (show 0 ≤ (sh 0 12).toInt ∧ (sh 0 12).toInt ≤ 5 from by omega), h_of, h_go, (show ((sh 0 1), (sh 1), (sh 2), (sh 3), g3, (sh 0 6), (sh 0 7), (sh 0 8), (sh 0 9), (sh 0 10), (sh 0 11), (sh 0 12)) = J_X4_put sh p0 p1 p2 p3 from by subst eg3; first | (refine Eq.symm ?_; refine Eq.trans (if_pos c1) ?_; rfl) | (unfold J_X4_put; try dsimp only; rw [if_pos c1]))⟩ dX4_put_174
  by_cases c4 : p0 = 69
  · refine lv_tableIn (tgt := 166) (off := 165) hx hb dX4_put_1 (by rw [c4]; decide) (by rw [c4]; decide) (by rw [c4]; decide) (by decide) ?_
    have f4 : p0.toInt = 69 := f_eq rfl (by decide) c4
    refine lv_aload_n hx hb dX4_put_166 rfl (lv_at hl 0 rfl) ?_
    refine lv_iload_n hx hb dX4_put_167 rfl (lv_at hl 1 rfl) ?_
    refine lv_iload_n hx hb dX4_put_168 rfl (lv_at hl 3 rfl) ?_
    refine lv_iload hx hb dX4_put_169 (lv_at hl 4 rfl) ?_
    refine g_vF (w1 := fun (u : Int32 × Int32 × Int32 × Int32 × Int32) => [cell82_ qh sh (u.1) (u.2.1) (u.2.2.1) (u.2.2.2.1) (u.2.2.2.2), cell0_ k qh sh, cell1_ k qh sh, cell4_ k qh sh, cell3_ k qh sh, cell2_ k qh sh]) (g_runVF (ws := [cell32_ qh sh, cell0_ k qh sh, cell1_ k qh sh, cell4_ k qh sh, cell3_ k qh sh, cell2_ k qh sh]) (rest := []) cx hP hD hS [.int p0, .int p2, .int p3] (c_X4_putMeans l D k b qh sh H.size p0 p2 p3 (show 0 ≤ (sh 0 12).toInt ∧ (sh 0 12).toInt ≤ 5 from by first | decide | omega) (show ¬ p0.toInt = 66 ∨ (0 ≤ p3.toInt ∧ p3.toInt ≤ 5) from by first | decide | omega)) gX4_put_X4_putMeans rfl rfl rfl nd_X4_putMeans ⟨Nat.le_of_ble_eq_true rfl, Nat.le_of_ble_eq_true rfl⟩ (ci := 2) (q0 := 0) rfl rfl rfl hl.1 rfl (Nat.le_of_ble_eq_true rfl) ⟨Nat.zero_le _, Nat.zero_le _⟩ dX4_put_171) cx.2.2.1 hD hS (fun u6 H locs hw5 hP hD hS => ?_)
    obtain ⟨m7, m8, m9, m10, m11⟩ := u6
    have hP : va_P D vwCl [cell82_ qh sh m7 m8 m9 m10 m11, cell0_ k qh sh, cell1_ k qh sh, cell4_ k qh sh, cell3_ k qh sh, cell2_ k qh sh] H := hP
    have hD : va_D A [cell82_ qh sh m7 m8 m9 m10 m11, cell0_ k qh sh, cell1_ k qh sh, cell4_ k qh sh, cell3_ k qh sh, cell2_ k qh sh] := hD
    replace hw5 : (0 ≤ m11.toInt ∧ m11.toInt ≤ 5) ∧ ((m7, m8, m9, m10, m11) = J_X4_putMeans sh p0 p2 p3) := hw5
    obtain ⟨w12, w13⟩ := hw5
    have k15 : m7 = ((J_X4_putMeans sh p0 p2 p3).1) := congrArg (fun z => (z.1)) w13
    have k16 : m8 = ((J_X4_putMeans sh p0 p2 p3).2.1) := congrArg (fun z => (z.2.1)) w13
    have k17 : m9 = ((J_X4_putMeans sh p0 p2 p3).2.2.1) := congrArg (fun z => (z.2.2.1)) w13
    have k18 : m10 = ((J_X4_putMeans sh p0 p2 p3).2.2.2.1) := congrArg (fun z => (z.2.2.2.1)) w13
    have k19 : m11 = ((J_X4_putMeans sh p0 p2 p3).2.2.2.2) := congrArg (fun z => (z.2.2.2.2)) w13
    rw [hQ]
    exact x_v cx hr ((sh 0 1), (sh 1), (sh 2), (sh 3), (sh 4), (sh 0 6), (sh 0 7), m7, m8, m9, m10, m11) hP hD hS ⟨(show 0 ≤ (sh 0 1).toInt ∧ (sh 0 1).toInt ≤ 4 from by omega), (show 0 ≤ m11.toInt ∧ m11.toInt ≤ 5 from by omega), h_of, h_go, (show ((sh 0 1), (sh 1), (sh 2), (sh 3), (sh 4), (sh 0 6), (sh 0 7), m7, m8, m9, m10, m11) = J_X4_put sh p0 p1 p2 p3 from by subst k15 k16 k17 k18 k19; first | (refine Eq.symm ?_; refine Eq.trans (if_neg c1) ?_; refine Eq.trans (if_pos c4) ?_; rfl) | (unfold J_X4_put; try dsimp only; rw [if_neg c1, if_pos c4]))⟩ dX4_put_174
  by_cases c20 : p0 = 70
  · refine lv_tableIn (tgt := 166) (off := 165) hx hb dX4_put_1 (by rw [c20]; decide) (by rw [c20]; decide) (by rw [c20]; decide) (by decide) ?_
    have f20 : p0.toInt = 70 := f_eq rfl (by decide) c20
    refine lv_aload_n hx hb dX4_put_166 rfl (lv_at hl 0 rfl) ?_
    refine lv_iload_n hx hb dX4_put_167 rfl (lv_at hl 1 rfl) ?_
    refine lv_iload_n hx hb dX4_put_168 rfl (lv_at hl 3 rfl) ?_
    refine lv_iload hx hb dX4_put_169 (lv_at hl 4 rfl) ?_
    refine g_vF (w1 := fun (u : Int32 × Int32 × Int32 × Int32 × Int32) => [cell82_ qh sh (u.1) (u.2.1) (u.2.2.1) (u.2.2.2.1) (u.2.2.2.2), cell0_ k qh sh, cell1_ k qh sh, cell4_ k qh sh, cell3_ k qh sh, cell2_ k qh sh]) (g_runVF (ws := [cell32_ qh sh, cell0_ k qh sh, cell1_ k qh sh, cell4_ k qh sh, cell3_ k qh sh, cell2_ k qh sh]) (rest := []) cx hP hD hS [.int p0, .int p2, .int p3] (c_X4_putMeans l D k b qh sh H.size p0 p2 p3 (show 0 ≤ (sh 0 12).toInt ∧ (sh 0 12).toInt ≤ 5 from by first | decide | omega) (show ¬ p0.toInt = 66 ∨ (0 ≤ p3.toInt ∧ p3.toInt ≤ 5) from by first | decide | omega)) gX4_put_X4_putMeans rfl rfl rfl nd_X4_putMeans ⟨Nat.le_of_ble_eq_true rfl, Nat.le_of_ble_eq_true rfl⟩ (ci := 2) (q0 := 0) rfl rfl rfl hl.1 rfl (Nat.le_of_ble_eq_true rfl) ⟨Nat.zero_le _, Nat.zero_le _⟩ dX4_put_171) cx.2.2.1 hD hS (fun u22 H locs hw21 hP hD hS => ?_)
    obtain ⟨m23, m24, m25, m26, m27⟩ := u22
    have hP : va_P D vwCl [cell82_ qh sh m23 m24 m25 m26 m27, cell0_ k qh sh, cell1_ k qh sh, cell4_ k qh sh, cell3_ k qh sh, cell2_ k qh sh] H := hP
    have hD : va_D A [cell82_ qh sh m23 m24 m25 m26 m27, cell0_ k qh sh, cell1_ k qh sh, cell4_ k qh sh, cell3_ k qh sh, cell2_ k qh sh] := hD
    replace hw21 : (0 ≤ m27.toInt ∧ m27.toInt ≤ 5) ∧ ((m23, m24, m25, m26, m27) = J_X4_putMeans sh p0 p2 p3) := hw21
    obtain ⟨w28, w29⟩ := hw21
    have k31 : m23 = ((J_X4_putMeans sh p0 p2 p3).1) := congrArg (fun z => (z.1)) w29
    have k32 : m24 = ((J_X4_putMeans sh p0 p2 p3).2.1) := congrArg (fun z => (z.2.1)) w29
    have k33 : m25 = ((J_X4_putMeans sh p0 p2 p3).2.2.1) := congrArg (fun z => (z.2.2.1)) w29
    have k34 : m26 = ((J_X4_putMeans sh p0 p2 p3).2.2.2.1) := congrArg (fun z => (z.2.2.2.1)) w29
    have k35 : m27 = ((J_X4_putMeans sh p0 p2 p3).2.2.2.2) := congrArg (fun z => (z.2.2.2.2)) w29
    rw [hQ]
    exact x_v cx hr ((sh 0 1), (sh 1), (sh 2), (sh 3), (sh 4), (sh 0 6), (sh 0 7), m23, m24, m25, m26, m27) hP hD hS ⟨(show 0 ≤ (sh 0 1).toInt ∧ (sh 0 1).toInt ≤ 4 from by omega), (show 0 ≤ m27.toInt ∧ m27.toInt ≤ 5 from by omega), h_of, h_go, (show ((sh 0 1), (sh 1), (sh 2), (sh 3), (sh 4), (sh 0 6), (sh 0 7), m23, m24, m25, m26, m27) = J_X4_put sh p0 p1 p2 p3 from by subst k31 k32 k33 k34 k35; first | (refine Eq.symm ?_; refine Eq.trans (if_neg c1) ?_; refine Eq.trans (if_neg c4) ?_; refine Eq.trans (if_pos c20) ?_; rfl) | (unfold J_X4_put; try dsimp only; rw [if_neg c1, if_neg c4, if_pos c20]))⟩ dX4_put_174
  by_cases c36 : p0 = 71
  · refine lv_tableIn (tgt := 166) (off := 165) hx hb dX4_put_1 (by rw [c36]; decide) (by rw [c36]; decide) (by rw [c36]; decide) (by decide) ?_
    have f36 : p0.toInt = 71 := f_eq rfl (by decide) c36
    refine lv_aload_n hx hb dX4_put_166 rfl (lv_at hl 0 rfl) ?_
    refine lv_iload_n hx hb dX4_put_167 rfl (lv_at hl 1 rfl) ?_
    refine lv_iload_n hx hb dX4_put_168 rfl (lv_at hl 3 rfl) ?_
    refine lv_iload hx hb dX4_put_169 (lv_at hl 4 rfl) ?_
    refine g_vF (w1 := fun (u : Int32 × Int32 × Int32 × Int32 × Int32) => [cell82_ qh sh (u.1) (u.2.1) (u.2.2.1) (u.2.2.2.1) (u.2.2.2.2), cell0_ k qh sh, cell1_ k qh sh, cell4_ k qh sh, cell3_ k qh sh, cell2_ k qh sh]) (g_runVF (ws := [cell32_ qh sh, cell0_ k qh sh, cell1_ k qh sh, cell4_ k qh sh, cell3_ k qh sh, cell2_ k qh sh]) (rest := []) cx hP hD hS [.int p0, .int p2, .int p3] (c_X4_putMeans l D k b qh sh H.size p0 p2 p3 (show 0 ≤ (sh 0 12).toInt ∧ (sh 0 12).toInt ≤ 5 from by first | decide | omega) (show ¬ p0.toInt = 66 ∨ (0 ≤ p3.toInt ∧ p3.toInt ≤ 5) from by first | decide | omega)) gX4_put_X4_putMeans rfl rfl rfl nd_X4_putMeans ⟨Nat.le_of_ble_eq_true rfl, Nat.le_of_ble_eq_true rfl⟩ (ci := 2) (q0 := 0) rfl rfl rfl hl.1 rfl (Nat.le_of_ble_eq_true rfl) ⟨Nat.zero_le _, Nat.zero_le _⟩ dX4_put_171) cx.2.2.1 hD hS (fun u38 H locs hw37 hP hD hS => ?_)
    obtain ⟨m39, m40, m41, m42, m43⟩ := u38
    have hP : va_P D vwCl [cell82_ qh sh m39 m40 m41 m42 m43, cell0_ k qh sh, cell1_ k qh sh, cell4_ k qh sh, cell3_ k qh sh, cell2_ k qh sh] H := hP
    have hD : va_D A [cell82_ qh sh m39 m40 m41 m42 m43, cell0_ k qh sh, cell1_ k qh sh, cell4_ k qh sh, cell3_ k qh sh, cell2_ k qh sh] := hD
    replace hw37 : (0 ≤ m43.toInt ∧ m43.toInt ≤ 5) ∧ ((m39, m40, m41, m42, m43) = J_X4_putMeans sh p0 p2 p3) := hw37
    obtain ⟨w44, w45⟩ := hw37
    have k47 : m39 = ((J_X4_putMeans sh p0 p2 p3).1) := congrArg (fun z => (z.1)) w45
    have k48 : m40 = ((J_X4_putMeans sh p0 p2 p3).2.1) := congrArg (fun z => (z.2.1)) w45
    have k49 : m41 = ((J_X4_putMeans sh p0 p2 p3).2.2.1) := congrArg (fun z => (z.2.2.1)) w45
    have k50 : m42 = ((J_X4_putMeans sh p0 p2 p3).2.2.2.1) := congrArg (fun z => (z.2.2.2.1)) w45
    have k51 : m43 = ((J_X4_putMeans sh p0 p2 p3).2.2.2.2) := congrArg (fun z => (z.2.2.2.2)) w45
    rw [hQ]
    exact x_v cx hr ((sh 0 1), (sh 1), (sh 2), (sh 3), (sh 4), (sh 0 6), (sh 0 7), m39, m40, m41, m42, m43) hP hD hS ⟨(show 0 ≤ (sh 0 1).toInt ∧ (sh 0 1).toInt ≤ 4 from by omega), (show 0 ≤ m43.toInt ∧ m43.toInt ≤ 5 from by omega), h_of, h_go, (show ((sh 0 1), (sh 1), (sh 2), (sh 3), (sh 4), (sh 0 6), (sh 0 7), m39, m40, m41, m42, m43) = J_X4_put sh p0 p1 p2 p3 from by subst k47 k48 k49 k50 k51; first | (refine Eq.symm ?_; refine Eq.trans (if_neg c1) ?_; refine Eq.trans (if_neg c4) ?_; refine Eq.trans (if_neg c20) ?_; refine Eq.trans (if_pos c36) ?_; rfl) | (unfold J_X4_put; try dsimp only; rw [if_neg c1, if_neg c4, if_neg c20, if_pos c36]))⟩ dX4_put_174
  by_cases c52 : p0 = 72
  · refine lv_tableIn (tgt := 96) (off := 95) hx hb dX4_put_1 (by rw [c52]; decide) (by rw [c52]; decide) (by rw [c52]; decide) (by decide) ?_
    have f52 : p0.toInt = 72 := f_eq rfl (by decide) c52
    refine lv_aload_n hx hb dX4_put_96 rfl (lv_at hl 0 rfl) ?_
    refine lv_iload_n hx hb dX4_put_97 rfl (lv_at hl 3 rfl) ?_
    refine g_pt cx hP hD hS iw_X4_put_X4 tyX4 tyX4_ok nmX4 0 rfl rfl 1 (by decide) rfl fw_X4_put_36 (ty := .int) rfl rfl rfl (Nat.le_of_ble_eq_true rfl) dX4_put_98 (fun H locs hP hD hS => ?_)
    have hP : va_P D vwCl [(qh 0, .inr (2, [.int (sh 0 0), .int p2, .ref (qh 1), .ref (qh 2), .ref (qh 3), .ref (qh 4), .int (sh 0 6), .int (sh 0 7), .int (sh 0 8), .int (sh 0 9), .int (sh 0 10), .int (sh 0 11), .int (sh 0 12), .ref (qh 5)])), cell0_ k qh sh, cell1_ k qh sh, cell4_ k qh sh, cell3_ k qh sh, cell2_ k qh sh] H := hP
    have hD : va_D A [(qh 0, .inr (2, [.int (sh 0 0), .int p2, .ref (qh 1), .ref (qh 2), .ref (qh 3), .ref (qh 4), .int (sh 0 6), .int (sh 0 7), .int (sh 0 8), .int (sh 0 9), .int (sh 0 10), .int (sh 0 11), .int (sh 0 12), .ref (qh 5)])), cell0_ k qh sh, cell1_ k qh sh, cell4_ k qh sh, cell3_ k qh sh, cell2_ k qh sh] := hD
    refine lv_goto (tgt := 174) hx hb dX4_put_101 (by decide) ?_
    rw [hQ]
    exact x_v cx hr (p2, (sh 1), (sh 2), (sh 3), (sh 4), (sh 0 6), (sh 0 7), (sh 0 8), (sh 0 9), (sh 0 10), (sh 0 11), (sh 0 12)) hP hD hS ⟨(show 0 ≤ p2.toInt ∧ p2.toInt ≤ 4 from by omega), (show 0 ≤ (sh 0 12).toInt ∧ (sh 0 12).toInt ≤ 5 from by omega), h_of, h_go, (show (p2, (sh 1), (sh 2), (sh 3), (sh 4), (sh 0 6), (sh 0 7), (sh 0 8), (sh 0 9), (sh 0 10), (sh 0 11), (sh 0 12)) = J_X4_put sh p0 p1 p2 p3 from by first | (refine Eq.symm ?_; refine Eq.trans (if_neg c1) ?_; refine Eq.trans (if_neg c4) ?_; refine Eq.trans (if_neg c20) ?_; refine Eq.trans (if_neg c36) ?_; refine Eq.trans (if_pos c52) ?_; rfl) | (unfold J_X4_put; try dsimp only; rw [if_neg c1, if_neg c4, if_neg c20, if_neg c36, if_pos c52]))⟩ dX4_put_174
  by_cases c53 : p0 = 73
  · refine lv_tableIn (tgt := 166) (off := 165) hx hb dX4_put_1 (by rw [c53]; decide) (by rw [c53]; decide) (by rw [c53]; decide) (by decide) ?_
    have f53 : p0.toInt = 73 := f_eq rfl (by decide) c53
    refine lv_aload_n hx hb dX4_put_166 rfl (lv_at hl 0 rfl) ?_
    refine lv_iload_n hx hb dX4_put_167 rfl (lv_at hl 1 rfl) ?_
    refine lv_iload_n hx hb dX4_put_168 rfl (lv_at hl 3 rfl) ?_
    refine lv_iload hx hb dX4_put_169 (lv_at hl 4 rfl) ?_
    refine g_vF (w1 := fun (u : Int32 × Int32 × Int32 × Int32 × Int32) => [cell82_ qh sh (u.1) (u.2.1) (u.2.2.1) (u.2.2.2.1) (u.2.2.2.2), cell0_ k qh sh, cell1_ k qh sh, cell4_ k qh sh, cell3_ k qh sh, cell2_ k qh sh]) (g_runVF (ws := [cell32_ qh sh, cell0_ k qh sh, cell1_ k qh sh, cell4_ k qh sh, cell3_ k qh sh, cell2_ k qh sh]) (rest := []) cx hP hD hS [.int p0, .int p2, .int p3] (c_X4_putMeans l D k b qh sh H.size p0 p2 p3 (show 0 ≤ (sh 0 12).toInt ∧ (sh 0 12).toInt ≤ 5 from by first | decide | omega) (show ¬ p0.toInt = 66 ∨ (0 ≤ p3.toInt ∧ p3.toInt ≤ 5) from by first | decide | omega)) gX4_put_X4_putMeans rfl rfl rfl nd_X4_putMeans ⟨Nat.le_of_ble_eq_true rfl, Nat.le_of_ble_eq_true rfl⟩ (ci := 2) (q0 := 0) rfl rfl rfl hl.1 rfl (Nat.le_of_ble_eq_true rfl) ⟨Nat.zero_le _, Nat.zero_le _⟩ dX4_put_171) cx.2.2.1 hD hS (fun u55 H locs hw54 hP hD hS => ?_)
    obtain ⟨m56, m57, m58, m59, m60⟩ := u55
    have hP : va_P D vwCl [cell82_ qh sh m56 m57 m58 m59 m60, cell0_ k qh sh, cell1_ k qh sh, cell4_ k qh sh, cell3_ k qh sh, cell2_ k qh sh] H := hP
    have hD : va_D A [cell82_ qh sh m56 m57 m58 m59 m60, cell0_ k qh sh, cell1_ k qh sh, cell4_ k qh sh, cell3_ k qh sh, cell2_ k qh sh] := hD
    replace hw54 : (0 ≤ m60.toInt ∧ m60.toInt ≤ 5) ∧ ((m56, m57, m58, m59, m60) = J_X4_putMeans sh p0 p2 p3) := hw54
    obtain ⟨w61, w62⟩ := hw54
    have k64 : m56 = ((J_X4_putMeans sh p0 p2 p3).1) := congrArg (fun z => (z.1)) w62
    have k65 : m57 = ((J_X4_putMeans sh p0 p2 p3).2.1) := congrArg (fun z => (z.2.1)) w62
    have k66 : m58 = ((J_X4_putMeans sh p0 p2 p3).2.2.1) := congrArg (fun z => (z.2.2.1)) w62
    have k67 : m59 = ((J_X4_putMeans sh p0 p2 p3).2.2.2.1) := congrArg (fun z => (z.2.2.2.1)) w62
    have k68 : m60 = ((J_X4_putMeans sh p0 p2 p3).2.2.2.2) := congrArg (fun z => (z.2.2.2.2)) w62
    rw [hQ]
    exact x_v cx hr ((sh 0 1), (sh 1), (sh 2), (sh 3), (sh 4), (sh 0 6), (sh 0 7), m56, m57, m58, m59, m60) hP hD hS ⟨(show 0 ≤ (sh 0 1).toInt ∧ (sh 0 1).toInt ≤ 4 from by omega), (show 0 ≤ m60.toInt ∧ m60.toInt ≤ 5 from by omega), h_of, h_go, (show ((sh 0 1), (sh 1), (sh 2), (sh 3), (sh 4), (sh 0 6), (sh 0 7), m56, m57, m58, m59, m60) = J_X4_put sh p0 p1 p2 p3 from by subst k64 k65 k66 k67 k68; first | (refine Eq.symm ?_; refine Eq.trans (if_neg c1) ?_; refine Eq.trans (if_neg c4) ?_; refine Eq.trans (if_neg c20) ?_; refine Eq.trans (if_neg c36) ?_; refine Eq.trans (if_neg c52) ?_; refine Eq.trans (if_pos c53) ?_; rfl) | (unfold J_X4_put; try dsimp only; rw [if_neg c1, if_neg c4, if_neg c20, if_neg c36, if_neg c52, if_pos c53]))⟩ dX4_put_174
  by_cases c69 : p0 = 74
  · refine lv_tableIn (tgt := 166) (off := 165) hx hb dX4_put_1 (by rw [c69]; decide) (by rw [c69]; decide) (by rw [c69]; decide) (by decide) ?_
    have f69 : p0.toInt = 74 := f_eq rfl (by decide) c69
    refine lv_aload_n hx hb dX4_put_166 rfl (lv_at hl 0 rfl) ?_
    refine lv_iload_n hx hb dX4_put_167 rfl (lv_at hl 1 rfl) ?_
    refine lv_iload_n hx hb dX4_put_168 rfl (lv_at hl 3 rfl) ?_
    refine lv_iload hx hb dX4_put_169 (lv_at hl 4 rfl) ?_
    refine g_vF (w1 := fun (u : Int32 × Int32 × Int32 × Int32 × Int32) => [cell82_ qh sh (u.1) (u.2.1) (u.2.2.1) (u.2.2.2.1) (u.2.2.2.2), cell0_ k qh sh, cell1_ k qh sh, cell4_ k qh sh, cell3_ k qh sh, cell2_ k qh sh]) (g_runVF (ws := [cell32_ qh sh, cell0_ k qh sh, cell1_ k qh sh, cell4_ k qh sh, cell3_ k qh sh, cell2_ k qh sh]) (rest := []) cx hP hD hS [.int p0, .int p2, .int p3] (c_X4_putMeans l D k b qh sh H.size p0 p2 p3 (show 0 ≤ (sh 0 12).toInt ∧ (sh 0 12).toInt ≤ 5 from by first | decide | omega) (show ¬ p0.toInt = 66 ∨ (0 ≤ p3.toInt ∧ p3.toInt ≤ 5) from by first | decide | omega)) gX4_put_X4_putMeans rfl rfl rfl nd_X4_putMeans ⟨Nat.le_of_ble_eq_true rfl, Nat.le_of_ble_eq_true rfl⟩ (ci := 2) (q0 := 0) rfl rfl rfl hl.1 rfl (Nat.le_of_ble_eq_true rfl) ⟨Nat.zero_le _, Nat.zero_le _⟩ dX4_put_171) cx.2.2.1 hD hS (fun u71 H locs hw70 hP hD hS => ?_)
    obtain ⟨m72, m73, m74, m75, m76⟩ := u71
    have hP : va_P D vwCl [cell82_ qh sh m72 m73 m74 m75 m76, cell0_ k qh sh, cell1_ k qh sh, cell4_ k qh sh, cell3_ k qh sh, cell2_ k qh sh] H := hP
    have hD : va_D A [cell82_ qh sh m72 m73 m74 m75 m76, cell0_ k qh sh, cell1_ k qh sh, cell4_ k qh sh, cell3_ k qh sh, cell2_ k qh sh] := hD
    replace hw70 : (0 ≤ m76.toInt ∧ m76.toInt ≤ 5) ∧ ((m72, m73, m74, m75, m76) = J_X4_putMeans sh p0 p2 p3) := hw70
    obtain ⟨w77, w78⟩ := hw70
    have k80 : m72 = ((J_X4_putMeans sh p0 p2 p3).1) := congrArg (fun z => (z.1)) w78
    have k81 : m73 = ((J_X4_putMeans sh p0 p2 p3).2.1) := congrArg (fun z => (z.2.1)) w78
    have k82 : m74 = ((J_X4_putMeans sh p0 p2 p3).2.2.1) := congrArg (fun z => (z.2.2.1)) w78
    have k83 : m75 = ((J_X4_putMeans sh p0 p2 p3).2.2.2.1) := congrArg (fun z => (z.2.2.2.1)) w78
    have k84 : m76 = ((J_X4_putMeans sh p0 p2 p3).2.2.2.2) := congrArg (fun z => (z.2.2.2.2)) w78
    rw [hQ]
    exact x_v cx hr ((sh 0 1), (sh 1), (sh 2), (sh 3), (sh 4), (sh 0 6), (sh 0 7), m72, m73, m74, m75, m76) hP hD hS ⟨(show 0 ≤ (sh 0 1).toInt ∧ (sh 0 1).toInt ≤ 4 from by omega), (show 0 ≤ m76.toInt ∧ m76.toInt ≤ 5 from by omega), h_of, h_go, (show ((sh 0 1), (sh 1), (sh 2), (sh 3), (sh 4), (sh 0 6), (sh 0 7), m72, m73, m74, m75, m76) = J_X4_put sh p0 p1 p2 p3 from by subst k80 k81 k82 k83 k84; first | (refine Eq.symm ?_; refine Eq.trans (if_neg c1) ?_; refine Eq.trans (if_neg c4) ?_; refine Eq.trans (if_neg c20) ?_; refine Eq.trans (if_neg c36) ?_; refine Eq.trans (if_neg c52) ?_; refine Eq.trans (if_neg c53) ?_; refine Eq.trans (if_pos c69) ?_; rfl) | (unfold J_X4_put; try dsimp only; rw [if_neg c1, if_neg c4, if_neg c20, if_neg c36, if_neg c52, if_neg c53, if_pos c69]))⟩ dX4_put_174
  by_cases c85 : p0 = 75
  · refine lv_tableIn (tgt := 166) (off := 165) hx hb dX4_put_1 (by rw [c85]; decide) (by rw [c85]; decide) (by rw [c85]; decide) (by decide) ?_
    have f85 : p0.toInt = 75 := f_eq rfl (by decide) c85
    refine lv_aload_n hx hb dX4_put_166 rfl (lv_at hl 0 rfl) ?_
    refine lv_iload_n hx hb dX4_put_167 rfl (lv_at hl 1 rfl) ?_
    refine lv_iload_n hx hb dX4_put_168 rfl (lv_at hl 3 rfl) ?_
    refine lv_iload hx hb dX4_put_169 (lv_at hl 4 rfl) ?_
    refine g_vF (w1 := fun (u : Int32 × Int32 × Int32 × Int32 × Int32) => [cell82_ qh sh (u.1) (u.2.1) (u.2.2.1) (u.2.2.2.1) (u.2.2.2.2), cell0_ k qh sh, cell1_ k qh sh, cell4_ k qh sh, cell3_ k qh sh, cell2_ k qh sh]) (g_runVF (ws := [cell32_ qh sh, cell0_ k qh sh, cell1_ k qh sh, cell4_ k qh sh, cell3_ k qh sh, cell2_ k qh sh]) (rest := []) cx hP hD hS [.int p0, .int p2, .int p3] (c_X4_putMeans l D k b qh sh H.size p0 p2 p3 (show 0 ≤ (sh 0 12).toInt ∧ (sh 0 12).toInt ≤ 5 from by first | decide | omega) (show ¬ p0.toInt = 66 ∨ (0 ≤ p3.toInt ∧ p3.toInt ≤ 5) from by first | decide | omega)) gX4_put_X4_putMeans rfl rfl rfl nd_X4_putMeans ⟨Nat.le_of_ble_eq_true rfl, Nat.le_of_ble_eq_true rfl⟩ (ci := 2) (q0 := 0) rfl rfl rfl hl.1 rfl (Nat.le_of_ble_eq_true rfl) ⟨Nat.zero_le _, Nat.zero_le _⟩ dX4_put_171) cx.2.2.1 hD hS (fun u87 H locs hw86 hP hD hS => ?_)
    obtain ⟨m88, m89, m90, m91, m92⟩ := u87
    have hP : va_P D vwCl [cell82_ qh sh m88 m89 m90 m91 m92, cell0_ k qh sh, cell1_ k qh sh, cell4_ k qh sh, cell3_ k qh sh, cell2_ k qh sh] H := hP
    have hD : va_D A [cell82_ qh sh m88 m89 m90 m91 m92, cell0_ k qh sh, cell1_ k qh sh, cell4_ k qh sh, cell3_ k qh sh, cell2_ k qh sh] := hD
    replace hw86 : (0 ≤ m92.toInt ∧ m92.toInt ≤ 5) ∧ ((m88, m89, m90, m91, m92) = J_X4_putMeans sh p0 p2 p3) := hw86
    obtain ⟨w93, w94⟩ := hw86
    have k96 : m88 = ((J_X4_putMeans sh p0 p2 p3).1) := congrArg (fun z => (z.1)) w94
    have k97 : m89 = ((J_X4_putMeans sh p0 p2 p3).2.1) := congrArg (fun z => (z.2.1)) w94
    have k98 : m90 = ((J_X4_putMeans sh p0 p2 p3).2.2.1) := congrArg (fun z => (z.2.2.1)) w94
    have k99 : m91 = ((J_X4_putMeans sh p0 p2 p3).2.2.2.1) := congrArg (fun z => (z.2.2.2.1)) w94
    have k100 : m92 = ((J_X4_putMeans sh p0 p2 p3).2.2.2.2) := congrArg (fun z => (z.2.2.2.2)) w94
    rw [hQ]
    exact x_v cx hr ((sh 0 1), (sh 1), (sh 2), (sh 3), (sh 4), (sh 0 6), (sh 0 7), m88, m89, m90, m91, m92) hP hD hS ⟨(show 0 ≤ (sh 0 1).toInt ∧ (sh 0 1).toInt ≤ 4 from by omega), (show 0 ≤ m92.toInt ∧ m92.toInt ≤ 5 from by omega), h_of, h_go, (show ((sh 0 1), (sh 1), (sh 2), (sh 3), (sh 4), (sh 0 6), (sh 0 7), m88, m89, m90, m91, m92) = J_X4_put sh p0 p1 p2 p3 from by subst k96 k97 k98 k99 k100; first | (refine Eq.symm ?_; refine Eq.trans (if_neg c1) ?_; refine Eq.trans (if_neg c4) ?_; refine Eq.trans (if_neg c20) ?_; refine Eq.trans (if_neg c36) ?_; refine Eq.trans (if_neg c52) ?_; refine Eq.trans (if_neg c53) ?_; refine Eq.trans (if_neg c69) ?_; refine Eq.trans (if_pos c85) ?_; rfl) | (unfold J_X4_put; try dsimp only; rw [if_neg c1, if_neg c4, if_neg c20, if_neg c36, if_neg c52, if_neg c53, if_neg c69, if_pos c85]))⟩ dX4_put_174
  by_cases c101 : p0 = 76
  · refine lv_tableIn (tgt := 166) (off := 165) hx hb dX4_put_1 (by rw [c101]; decide) (by rw [c101]; decide) (by rw [c101]; decide) (by decide) ?_
    have f101 : p0.toInt = 76 := f_eq rfl (by decide) c101
    refine lv_aload_n hx hb dX4_put_166 rfl (lv_at hl 0 rfl) ?_
    refine lv_iload_n hx hb dX4_put_167 rfl (lv_at hl 1 rfl) ?_
    refine lv_iload_n hx hb dX4_put_168 rfl (lv_at hl 3 rfl) ?_
    refine lv_iload hx hb dX4_put_169 (lv_at hl 4 rfl) ?_
    refine g_vF (w1 := fun (u : Int32 × Int32 × Int32 × Int32 × Int32) => [cell82_ qh sh (u.1) (u.2.1) (u.2.2.1) (u.2.2.2.1) (u.2.2.2.2), cell0_ k qh sh, cell1_ k qh sh, cell4_ k qh sh, cell3_ k qh sh, cell2_ k qh sh]) (g_runVF (ws := [cell32_ qh sh, cell0_ k qh sh, cell1_ k qh sh, cell4_ k qh sh, cell3_ k qh sh, cell2_ k qh sh]) (rest := []) cx hP hD hS [.int p0, .int p2, .int p3] (c_X4_putMeans l D k b qh sh H.size p0 p2 p3 (show 0 ≤ (sh 0 12).toInt ∧ (sh 0 12).toInt ≤ 5 from by first | decide | omega) (show ¬ p0.toInt = 66 ∨ (0 ≤ p3.toInt ∧ p3.toInt ≤ 5) from by first | decide | omega)) gX4_put_X4_putMeans rfl rfl rfl nd_X4_putMeans ⟨Nat.le_of_ble_eq_true rfl, Nat.le_of_ble_eq_true rfl⟩ (ci := 2) (q0 := 0) rfl rfl rfl hl.1 rfl (Nat.le_of_ble_eq_true rfl) ⟨Nat.zero_le _, Nat.zero_le _⟩ dX4_put_171) cx.2.2.1 hD hS (fun u103 H locs hw102 hP hD hS => ?_)
    obtain ⟨m104, m105, m106, m107, m108⟩ := u103
    have hP : va_P D vwCl [cell82_ qh sh m104 m105 m106 m107 m108, cell0_ k qh sh, cell1_ k qh sh, cell4_ k qh sh, cell3_ k qh sh, cell2_ k qh sh] H := hP
    have hD : va_D A [cell82_ qh sh m104 m105 m106 m107 m108, cell0_ k qh sh, cell1_ k qh sh, cell4_ k qh sh, cell3_ k qh sh, cell2_ k qh sh] := hD
    replace hw102 : (0 ≤ m108.toInt ∧ m108.toInt ≤ 5) ∧ ((m104, m105, m106, m107, m108) = J_X4_putMeans sh p0 p2 p3) := hw102
    obtain ⟨w109, w110⟩ := hw102
    have k112 : m104 = ((J_X4_putMeans sh p0 p2 p3).1) := congrArg (fun z => (z.1)) w110
    have k113 : m105 = ((J_X4_putMeans sh p0 p2 p3).2.1) := congrArg (fun z => (z.2.1)) w110
    have k114 : m106 = ((J_X4_putMeans sh p0 p2 p3).2.2.1) := congrArg (fun z => (z.2.2.1)) w110
    have k115 : m107 = ((J_X4_putMeans sh p0 p2 p3).2.2.2.1) := congrArg (fun z => (z.2.2.2.1)) w110
    have k116 : m108 = ((J_X4_putMeans sh p0 p2 p3).2.2.2.2) := congrArg (fun z => (z.2.2.2.2)) w110
    rw [hQ]
    exact x_v cx hr ((sh 0 1), (sh 1), (sh 2), (sh 3), (sh 4), (sh 0 6), (sh 0 7), m104, m105, m106, m107, m108) hP hD hS ⟨(show 0 ≤ (sh 0 1).toInt ∧ (sh 0 1).toInt ≤ 4 from by omega), (show 0 ≤ m108.toInt ∧ m108.toInt ≤ 5 from by omega), h_of, h_go, (show ((sh 0 1), (sh 1), (sh 2), (sh 3), (sh 4), (sh 0 6), (sh 0 7), m104, m105, m106, m107, m108) = J_X4_put sh p0 p1 p2 p3 from by subst k112 k113 k114 k115 k116; first | (refine Eq.symm ?_; refine Eq.trans (if_neg c1) ?_; refine Eq.trans (if_neg c4) ?_; refine Eq.trans (if_neg c20) ?_; refine Eq.trans (if_neg c36) ?_; refine Eq.trans (if_neg c52) ?_; refine Eq.trans (if_neg c53) ?_; refine Eq.trans (if_neg c69) ?_; refine Eq.trans (if_neg c85) ?_; refine Eq.trans (if_pos c101) ?_; rfl) | (unfold J_X4_put; try dsimp only; rw [if_neg c1, if_neg c4, if_neg c20, if_neg c36, if_neg c52, if_neg c53, if_neg c69, if_neg c85, if_pos c101]))⟩ dX4_put_174
  by_cases c117 : p0 = 77
  · refine lv_tableIn (tgt := 166) (off := 165) hx hb dX4_put_1 (by rw [c117]; decide) (by rw [c117]; decide) (by rw [c117]; decide) (by decide) ?_
    have f117 : p0.toInt = 77 := f_eq rfl (by decide) c117
    refine lv_aload_n hx hb dX4_put_166 rfl (lv_at hl 0 rfl) ?_
    refine lv_iload_n hx hb dX4_put_167 rfl (lv_at hl 1 rfl) ?_
    refine lv_iload_n hx hb dX4_put_168 rfl (lv_at hl 3 rfl) ?_
    refine lv_iload hx hb dX4_put_169 (lv_at hl 4 rfl) ?_
    refine g_vF (w1 := fun (u : Int32 × Int32 × Int32 × Int32 × Int32) => [cell82_ qh sh (u.1) (u.2.1) (u.2.2.1) (u.2.2.2.1) (u.2.2.2.2), cell0_ k qh sh, cell1_ k qh sh, cell4_ k qh sh, cell3_ k qh sh, cell2_ k qh sh]) (g_runVF (ws := [cell32_ qh sh, cell0_ k qh sh, cell1_ k qh sh, cell4_ k qh sh, cell3_ k qh sh, cell2_ k qh sh]) (rest := []) cx hP hD hS [.int p0, .int p2, .int p3] (c_X4_putMeans l D k b qh sh H.size p0 p2 p3 (show 0 ≤ (sh 0 12).toInt ∧ (sh 0 12).toInt ≤ 5 from by first | decide | omega) (show ¬ p0.toInt = 66 ∨ (0 ≤ p3.toInt ∧ p3.toInt ≤ 5) from by first | decide | omega)) gX4_put_X4_putMeans rfl rfl rfl nd_X4_putMeans ⟨Nat.le_of_ble_eq_true rfl, Nat.le_of_ble_eq_true rfl⟩ (ci := 2) (q0 := 0) rfl rfl rfl hl.1 rfl (Nat.le_of_ble_eq_true rfl) ⟨Nat.zero_le _, Nat.zero_le _⟩ dX4_put_171) cx.2.2.1 hD hS (fun u119 H locs hw118 hP hD hS => ?_)
    obtain ⟨m120, m121, m122, m123, m124⟩ := u119
    have hP : va_P D vwCl [cell82_ qh sh m120 m121 m122 m123 m124, cell0_ k qh sh, cell1_ k qh sh, cell4_ k qh sh, cell3_ k qh sh, cell2_ k qh sh] H := hP
    have hD : va_D A [cell82_ qh sh m120 m121 m122 m123 m124, cell0_ k qh sh, cell1_ k qh sh, cell4_ k qh sh, cell3_ k qh sh, cell2_ k qh sh] := hD
    replace hw118 : (0 ≤ m124.toInt ∧ m124.toInt ≤ 5) ∧ ((m120, m121, m122, m123, m124) = J_X4_putMeans sh p0 p2 p3) := hw118
    obtain ⟨w125, w126⟩ := hw118
    have k128 : m120 = ((J_X4_putMeans sh p0 p2 p3).1) := congrArg (fun z => (z.1)) w126
    have k129 : m121 = ((J_X4_putMeans sh p0 p2 p3).2.1) := congrArg (fun z => (z.2.1)) w126
    have k130 : m122 = ((J_X4_putMeans sh p0 p2 p3).2.2.1) := congrArg (fun z => (z.2.2.1)) w126
    have k131 : m123 = ((J_X4_putMeans sh p0 p2 p3).2.2.2.1) := congrArg (fun z => (z.2.2.2.1)) w126
    have k132 : m124 = ((J_X4_putMeans sh p0 p2 p3).2.2.2.2) := congrArg (fun z => (z.2.2.2.2)) w126
    rw [hQ]
    exact x_v cx hr ((sh 0 1), (sh 1), (sh 2), (sh 3), (sh 4), (sh 0 6), (sh 0 7), m120, m121, m122, m123, m124) hP hD hS ⟨(show 0 ≤ (sh 0 1).toInt ∧ (sh 0 1).toInt ≤ 4 from by omega), (show 0 ≤ m124.toInt ∧ m124.toInt ≤ 5 from by omega), h_of, h_go, (show ((sh 0 1), (sh 1), (sh 2), (sh 3), (sh 4), (sh 0 6), (sh 0 7), m120, m121, m122, m123, m124) = J_X4_put sh p0 p1 p2 p3 from by subst k128 k129 k130 k131 k132; first | (refine Eq.symm ?_; refine Eq.trans (if_neg c1) ?_; refine Eq.trans (if_neg c4) ?_; refine Eq.trans (if_neg c20) ?_; refine Eq.trans (if_neg c36) ?_; refine Eq.trans (if_neg c52) ?_; refine Eq.trans (if_neg c53) ?_; refine Eq.trans (if_neg c69) ?_; refine Eq.trans (if_neg c85) ?_; refine Eq.trans (if_neg c101) ?_; refine Eq.trans (if_pos c117) ?_; rfl) | (unfold J_X4_put; try dsimp only; rw [if_neg c1, if_neg c4, if_neg c20, if_neg c36, if_neg c52, if_neg c53, if_neg c69, if_neg c85, if_neg c101, if_pos c117]))⟩ dX4_put_174
  by_cases c133 : p0 = 78
  · refine lv_tableIn (tgt := 166) (off := 165) hx hb dX4_put_1 (by rw [c133]; decide) (by rw [c133]; decide) (by rw [c133]; decide) (by decide) ?_
    have f133 : p0.toInt = 78 := f_eq rfl (by decide) c133
    refine lv_aload_n hx hb dX4_put_166 rfl (lv_at hl 0 rfl) ?_
    refine lv_iload_n hx hb dX4_put_167 rfl (lv_at hl 1 rfl) ?_
    refine lv_iload_n hx hb dX4_put_168 rfl (lv_at hl 3 rfl) ?_
    refine lv_iload hx hb dX4_put_169 (lv_at hl 4 rfl) ?_
    refine g_vF (w1 := fun (u : Int32 × Int32 × Int32 × Int32 × Int32) => [cell82_ qh sh (u.1) (u.2.1) (u.2.2.1) (u.2.2.2.1) (u.2.2.2.2), cell0_ k qh sh, cell1_ k qh sh, cell4_ k qh sh, cell3_ k qh sh, cell2_ k qh sh]) (g_runVF (ws := [cell32_ qh sh, cell0_ k qh sh, cell1_ k qh sh, cell4_ k qh sh, cell3_ k qh sh, cell2_ k qh sh]) (rest := []) cx hP hD hS [.int p0, .int p2, .int p3] (c_X4_putMeans l D k b qh sh H.size p0 p2 p3 (show 0 ≤ (sh 0 12).toInt ∧ (sh 0 12).toInt ≤ 5 from by first | decide | omega) (show ¬ p0.toInt = 66 ∨ (0 ≤ p3.toInt ∧ p3.toInt ≤ 5) from by first | decide | omega)) gX4_put_X4_putMeans rfl rfl rfl nd_X4_putMeans ⟨Nat.le_of_ble_eq_true rfl, Nat.le_of_ble_eq_true rfl⟩ (ci := 2) (q0 := 0) rfl rfl rfl hl.1 rfl (Nat.le_of_ble_eq_true rfl) ⟨Nat.zero_le _, Nat.zero_le _⟩ dX4_put_171) cx.2.2.1 hD hS (fun u135 H locs hw134 hP hD hS => ?_)
    obtain ⟨m136, m137, m138, m139, m140⟩ := u135
    have hP : va_P D vwCl [cell82_ qh sh m136 m137 m138 m139 m140, cell0_ k qh sh, cell1_ k qh sh, cell4_ k qh sh, cell3_ k qh sh, cell2_ k qh sh] H := hP
    have hD : va_D A [cell82_ qh sh m136 m137 m138 m139 m140, cell0_ k qh sh, cell1_ k qh sh, cell4_ k qh sh, cell3_ k qh sh, cell2_ k qh sh] := hD
    replace hw134 : (0 ≤ m140.toInt ∧ m140.toInt ≤ 5) ∧ ((m136, m137, m138, m139, m140) = J_X4_putMeans sh p0 p2 p3) := hw134
    obtain ⟨w141, w142⟩ := hw134
    have k144 : m136 = ((J_X4_putMeans sh p0 p2 p3).1) := congrArg (fun z => (z.1)) w142
    have k145 : m137 = ((J_X4_putMeans sh p0 p2 p3).2.1) := congrArg (fun z => (z.2.1)) w142
    have k146 : m138 = ((J_X4_putMeans sh p0 p2 p3).2.2.1) := congrArg (fun z => (z.2.2.1)) w142
    have k147 : m139 = ((J_X4_putMeans sh p0 p2 p3).2.2.2.1) := congrArg (fun z => (z.2.2.2.1)) w142
    have k148 : m140 = ((J_X4_putMeans sh p0 p2 p3).2.2.2.2) := congrArg (fun z => (z.2.2.2.2)) w142
    rw [hQ]
    exact x_v cx hr ((sh 0 1), (sh 1), (sh 2), (sh 3), (sh 4), (sh 0 6), (sh 0 7), m136, m137, m138, m139, m140) hP hD hS ⟨(show 0 ≤ (sh 0 1).toInt ∧ (sh 0 1).toInt ≤ 4 from by omega), (show 0 ≤ m140.toInt ∧ m140.toInt ≤ 5 from by omega), h_of, h_go, (show ((sh 0 1), (sh 1), (sh 2), (sh 3), (sh 4), (sh 0 6), (sh 0 7), m136, m137, m138, m139, m140) = J_X4_put sh p0 p1 p2 p3 from by subst k144 k145 k146 k147 k148; first | (refine Eq.symm ?_; refine Eq.trans (if_neg c1) ?_; refine Eq.trans (if_neg c4) ?_; refine Eq.trans (if_neg c20) ?_; refine Eq.trans (if_neg c36) ?_; refine Eq.trans (if_neg c52) ?_; refine Eq.trans (if_neg c53) ?_; refine Eq.trans (if_neg c69) ?_; refine Eq.trans (if_neg c85) ?_; refine Eq.trans (if_neg c101) ?_; refine Eq.trans (if_neg c117) ?_; refine Eq.trans (if_pos c133) ?_; rfl) | (unfold J_X4_put; try dsimp only; rw [if_neg c1, if_neg c4, if_neg c20, if_neg c36, if_neg c52, if_neg c53, if_neg c69, if_neg c85, if_neg c101, if_neg c117, if_pos c133]))⟩ dX4_put_174
  by_cases c149 : p0 = 79
  · refine lv_tableIn (tgt := 120) (off := 119) hx hb dX4_put_1 (by rw [c149]; decide) (by rw [c149]; decide) (by rw [c149]; decide) (by decide) ?_
    have f149 : p0.toInt = 79 := f_eq rfl (by decide) c149
    refine lv_aload_n hx hb dX4_put_120 rfl (lv_at hl 0 rfl) ?_
    refine g_get cx hP iw_X4_put_X4 0 rfl rfl 3 (by decide) rfl fw_X4_put_15 rfl dX4_put_121 ?_
    refine lv_iload_n hx hb dX4_put_124 rfl (lv_at hl 2 rfl) ?_
    refine lv_iload_n hx hb dX4_put_125 rfl (lv_at hl 3 rfl) ?_
    have hn150 : vp_in p1 5 := f_in (a := p1.toInt) rfl (by omega) (by omega)
    refine va_iast hx hb cx.2.1 hP hD hS 2 0 rfl rfl hn150 dX4_put_126 (fun H locs hP hD hS => ?_)
    obtain ⟨g151, eg151⟩ : ∃ g : Nat → Int32, g = upd (sh 2) (p1).toNatClampNeg p2 := ⟨_, rfl⟩
    rw [← eg151] at hP hD
    have hP : va_P D vwCl [cell32_ qh sh, cell0_ k qh sh, (qh 2, .inl (k 0, 5, .inl g151)), cell4_ k qh sh, cell3_ k qh sh, cell2_ k qh sh] H := hP
    have hD : va_D A [cell32_ qh sh, cell0_ k qh sh, (qh 2, .inl (k 0, 5, .inl g151)), cell4_ k qh sh, cell3_ k qh sh, cell2_ k qh sh] := hD
    have ag151 : ∀ j, 0 ≤ (g151 j).toInt ∧ (g151 j).toInt ≤ 4 := by rw [eg151]; exact upd_all h_of ⟨by omega, by omega⟩
    refine lv_goto (tgt := 174) hx hb dX4_put_127 (by decide) ?_
    rw [hQ]
    exact x_v cx hr ((sh 0 1), (sh 1), g151, (sh 3), (sh 4), (sh 0 6), (sh 0 7), (sh 0 8), (sh 0 9), (sh 0 10), (sh 0 11), (sh 0 12)) hP hD hS ⟨(show 0 ≤ (sh 0 1).toInt ∧ (sh 0 1).toInt ≤ 4 from by omega), (show 0 ≤ (sh 0 12).toInt ∧ (sh 0 12).toInt ≤ 5 from by omega), ag151, h_go, (show ((sh 0 1), (sh 1), g151, (sh 3), (sh 4), (sh 0 6), (sh 0 7), (sh 0 8), (sh 0 9), (sh 0 10), (sh 0 11), (sh 0 12)) = J_X4_put sh p0 p1 p2 p3 from by subst eg151; first | (refine Eq.symm ?_; refine Eq.trans (if_neg c1) ?_; refine Eq.trans (if_neg c4) ?_; refine Eq.trans (if_neg c20) ?_; refine Eq.trans (if_neg c36) ?_; refine Eq.trans (if_neg c52) ?_; refine Eq.trans (if_neg c53) ?_; refine Eq.trans (if_neg c69) ?_; refine Eq.trans (if_neg c85) ?_; refine Eq.trans (if_neg c101) ?_; refine Eq.trans (if_neg c117) ?_; refine Eq.trans (if_neg c133) ?_; refine Eq.trans (if_pos c149) ?_; rfl) | (unfold J_X4_put; try dsimp only; rw [if_neg c1, if_neg c4, if_neg c20, if_neg c36, if_neg c52, if_neg c53, if_neg c69, if_neg c85, if_neg c101, if_neg c117, if_neg c133, if_pos c149]))⟩ dX4_put_174
  by_cases c152 : p0 = 80
  · refine lv_tableIn (tgt := 150) (off := 149) hx hb dX4_put_1 (by rw [c152]; decide) (by rw [c152]; decide) (by rw [c152]; decide) (by decide) ?_
    have f152 : p0.toInt = 80 := f_eq rfl (by decide) c152
    refine lv_aload_n hx hb dX4_put_150 rfl (lv_at hl 0 rfl) ?_
    refine lv_iload_n hx hb dX4_put_151 rfl (lv_at hl 3 rfl) ?_
    refine g_pt cx hP hD hS iw_X4_put_X4 tyX4 tyX4_ok nmX4 0 rfl rfl 6 (by decide) rfl fw_X4_put_45 (ty := .int) rfl rfl rfl (Nat.le_of_ble_eq_true rfl) dX4_put_152 (fun H locs hP hD hS => ?_)
    have hP : va_P D vwCl [(qh 0, .inr (2, [.int (sh 0 0), .int (sh 0 1), .ref (qh 1), .ref (qh 2), .ref (qh 3), .ref (qh 4), .int p2, .int (sh 0 7), .int (sh 0 8), .int (sh 0 9), .int (sh 0 10), .int (sh 0 11), .int (sh 0 12), .ref (qh 5)])), cell0_ k qh sh, cell1_ k qh sh, cell4_ k qh sh, cell3_ k qh sh, cell2_ k qh sh] H := hP
    have hD : va_D A [(qh 0, .inr (2, [.int (sh 0 0), .int (sh 0 1), .ref (qh 1), .ref (qh 2), .ref (qh 3), .ref (qh 4), .int p2, .int (sh 0 7), .int (sh 0 8), .int (sh 0 9), .int (sh 0 10), .int (sh 0 11), .int (sh 0 12), .ref (qh 5)])), cell0_ k qh sh, cell1_ k qh sh, cell4_ k qh sh, cell3_ k qh sh, cell2_ k qh sh] := hD
    refine lv_goto (tgt := 174) hx hb dX4_put_155 (by decide) ?_
    rw [hQ]
    exact x_v cx hr ((sh 0 1), (sh 1), (sh 2), (sh 3), (sh 4), p2, (sh 0 7), (sh 0 8), (sh 0 9), (sh 0 10), (sh 0 11), (sh 0 12)) hP hD hS ⟨(show 0 ≤ (sh 0 1).toInt ∧ (sh 0 1).toInt ≤ 4 from by omega), (show 0 ≤ (sh 0 12).toInt ∧ (sh 0 12).toInt ≤ 5 from by omega), h_of, h_go, (show ((sh 0 1), (sh 1), (sh 2), (sh 3), (sh 4), p2, (sh 0 7), (sh 0 8), (sh 0 9), (sh 0 10), (sh 0 11), (sh 0 12)) = J_X4_put sh p0 p1 p2 p3 from by first | (refine Eq.symm ?_; refine Eq.trans (if_neg c1) ?_; refine Eq.trans (if_neg c4) ?_; refine Eq.trans (if_neg c20) ?_; refine Eq.trans (if_neg c36) ?_; refine Eq.trans (if_neg c52) ?_; refine Eq.trans (if_neg c53) ?_; refine Eq.trans (if_neg c69) ?_; refine Eq.trans (if_neg c85) ?_; refine Eq.trans (if_neg c101) ?_; refine Eq.trans (if_neg c117) ?_; refine Eq.trans (if_neg c133) ?_; refine Eq.trans (if_neg c149) ?_; refine Eq.trans (if_pos c152) ?_; rfl) | (unfold J_X4_put; try dsimp only; rw [if_neg c1, if_neg c4, if_neg c20, if_neg c36, if_neg c52, if_neg c53, if_neg c69, if_neg c85, if_neg c101, if_neg c117, if_neg c133, if_neg c149, if_pos c152]))⟩ dX4_put_174
  by_cases c153 : p0 = 81
  · refine lv_tableIn (tgt := 130) (off := 129) hx hb dX4_put_1 (by rw [c153]; decide) (by rw [c153]; decide) (by rw [c153]; decide) (by decide) ?_
    have f153 : p0.toInt = 81 := f_eq rfl (by decide) c153
    refine lv_aload_n hx hb dX4_put_130 rfl (lv_at hl 0 rfl) ?_
    refine g_get cx hP iw_X4_put_X4 0 rfl rfl 4 (by decide) rfl fw_X4_put_18 rfl dX4_put_131 ?_
    refine lv_iload_n hx hb dX4_put_134 rfl (lv_at hl 2 rfl) ?_
    refine lv_iload_n hx hb dX4_put_135 rfl (lv_at hl 3 rfl) ?_
    have hn154 : vp_in p1 3 := f_in (a := p1.toInt) rfl (by omega) (by omega)
    refine va_iast hx hb cx.2.1 hP hD hS 3 0 rfl rfl hn154 dX4_put_136 (fun H locs hP hD hS => ?_)
    obtain ⟨g155, eg155⟩ : ∃ g : Nat → Int32, g = upd (sh 3) (p1).toNatClampNeg p2 := ⟨_, rfl⟩
    rw [← eg155] at hP hD
    have hP : va_P D vwCl [cell32_ qh sh, cell0_ k qh sh, cell1_ k qh sh, (qh 3, .inl (k 0, 3, .inl g155)), cell3_ k qh sh, cell2_ k qh sh] H := hP
    have hD : va_D A [cell32_ qh sh, cell0_ k qh sh, cell1_ k qh sh, (qh 3, .inl (k 0, 3, .inl g155)), cell3_ k qh sh, cell2_ k qh sh] := hD
    have ag155 : ∀ j, 0 ≤ (g155 j).toInt ∧ (g155 j).toInt ≤ 5 := by rw [eg155]; exact upd_all h_go ⟨by omega, by omega⟩
    refine lv_goto (tgt := 174) hx hb dX4_put_137 (by decide) ?_
    rw [hQ]
    exact x_v cx hr ((sh 0 1), (sh 1), (sh 2), g155, (sh 4), (sh 0 6), (sh 0 7), (sh 0 8), (sh 0 9), (sh 0 10), (sh 0 11), (sh 0 12)) hP hD hS ⟨(show 0 ≤ (sh 0 1).toInt ∧ (sh 0 1).toInt ≤ 4 from by omega), (show 0 ≤ (sh 0 12).toInt ∧ (sh 0 12).toInt ≤ 5 from by omega), h_of, ag155, (show ((sh 0 1), (sh 1), (sh 2), g155, (sh 4), (sh 0 6), (sh 0 7), (sh 0 8), (sh 0 9), (sh 0 10), (sh 0 11), (sh 0 12)) = J_X4_put sh p0 p1 p2 p3 from by subst eg155; first | (refine Eq.symm ?_; refine Eq.trans (if_neg c1) ?_; refine Eq.trans (if_neg c4) ?_; refine Eq.trans (if_neg c20) ?_; refine Eq.trans (if_neg c36) ?_; refine Eq.trans (if_neg c52) ?_; refine Eq.trans (if_neg c53) ?_; refine Eq.trans (if_neg c69) ?_; refine Eq.trans (if_neg c85) ?_; refine Eq.trans (if_neg c101) ?_; refine Eq.trans (if_neg c117) ?_; refine Eq.trans (if_neg c133) ?_; refine Eq.trans (if_neg c149) ?_; refine Eq.trans (if_neg c152) ?_; refine Eq.trans (if_pos c153) ?_; rfl) | (unfold J_X4_put; try dsimp only; rw [if_neg c1, if_neg c4, if_neg c20, if_neg c36, if_neg c52, if_neg c53, if_neg c69, if_neg c85, if_neg c101, if_neg c117, if_neg c133, if_neg c149, if_neg c152, if_pos c153]))⟩ dX4_put_174
  by_cases c156 : p0 = 82
  · refine lv_tableIn (tgt := 166) (off := 165) hx hb dX4_put_1 (by rw [c156]; decide) (by rw [c156]; decide) (by rw [c156]; decide) (by decide) ?_
    have f156 : p0.toInt = 82 := f_eq rfl (by decide) c156
    refine lv_aload_n hx hb dX4_put_166 rfl (lv_at hl 0 rfl) ?_
    refine lv_iload_n hx hb dX4_put_167 rfl (lv_at hl 1 rfl) ?_
    refine lv_iload_n hx hb dX4_put_168 rfl (lv_at hl 3 rfl) ?_
    refine lv_iload hx hb dX4_put_169 (lv_at hl 4 rfl) ?_
    refine g_vF (w1 := fun (u : Int32 × Int32 × Int32 × Int32 × Int32) => [cell82_ qh sh (u.1) (u.2.1) (u.2.2.1) (u.2.2.2.1) (u.2.2.2.2), cell0_ k qh sh, cell1_ k qh sh, cell4_ k qh sh, cell3_ k qh sh, cell2_ k qh sh]) (g_runVF (ws := [cell32_ qh sh, cell0_ k qh sh, cell1_ k qh sh, cell4_ k qh sh, cell3_ k qh sh, cell2_ k qh sh]) (rest := []) cx hP hD hS [.int p0, .int p2, .int p3] (c_X4_putMeans l D k b qh sh H.size p0 p2 p3 (show 0 ≤ (sh 0 12).toInt ∧ (sh 0 12).toInt ≤ 5 from by first | decide | omega) (show ¬ p0.toInt = 66 ∨ (0 ≤ p3.toInt ∧ p3.toInt ≤ 5) from by first | decide | omega)) gX4_put_X4_putMeans rfl rfl rfl nd_X4_putMeans ⟨Nat.le_of_ble_eq_true rfl, Nat.le_of_ble_eq_true rfl⟩ (ci := 2) (q0 := 0) rfl rfl rfl hl.1 rfl (Nat.le_of_ble_eq_true rfl) ⟨Nat.zero_le _, Nat.zero_le _⟩ dX4_put_171) cx.2.2.1 hD hS (fun u158 H locs hw157 hP hD hS => ?_)
    obtain ⟨m159, m160, m161, m162, m163⟩ := u158
    have hP : va_P D vwCl [cell82_ qh sh m159 m160 m161 m162 m163, cell0_ k qh sh, cell1_ k qh sh, cell4_ k qh sh, cell3_ k qh sh, cell2_ k qh sh] H := hP
    have hD : va_D A [cell82_ qh sh m159 m160 m161 m162 m163, cell0_ k qh sh, cell1_ k qh sh, cell4_ k qh sh, cell3_ k qh sh, cell2_ k qh sh] := hD
    replace hw157 : (0 ≤ m163.toInt ∧ m163.toInt ≤ 5) ∧ ((m159, m160, m161, m162, m163) = J_X4_putMeans sh p0 p2 p3) := hw157
    obtain ⟨w164, w165⟩ := hw157
    have k167 : m159 = ((J_X4_putMeans sh p0 p2 p3).1) := congrArg (fun z => (z.1)) w165
    have k168 : m160 = ((J_X4_putMeans sh p0 p2 p3).2.1) := congrArg (fun z => (z.2.1)) w165
    have k169 : m161 = ((J_X4_putMeans sh p0 p2 p3).2.2.1) := congrArg (fun z => (z.2.2.1)) w165
    have k170 : m162 = ((J_X4_putMeans sh p0 p2 p3).2.2.2.1) := congrArg (fun z => (z.2.2.2.1)) w165
    have k171 : m163 = ((J_X4_putMeans sh p0 p2 p3).2.2.2.2) := congrArg (fun z => (z.2.2.2.2)) w165
    rw [hQ]
    exact x_v cx hr ((sh 0 1), (sh 1), (sh 2), (sh 3), (sh 4), (sh 0 6), (sh 0 7), m159, m160, m161, m162, m163) hP hD hS ⟨(show 0 ≤ (sh 0 1).toInt ∧ (sh 0 1).toInt ≤ 4 from by omega), (show 0 ≤ m163.toInt ∧ m163.toInt ≤ 5 from by omega), h_of, h_go, (show ((sh 0 1), (sh 1), (sh 2), (sh 3), (sh 4), (sh 0 6), (sh 0 7), m159, m160, m161, m162, m163) = J_X4_put sh p0 p1 p2 p3 from by subst k167 k168 k169 k170 k171; first | (refine Eq.symm ?_; refine Eq.trans (if_neg c1) ?_; refine Eq.trans (if_neg c4) ?_; refine Eq.trans (if_neg c20) ?_; refine Eq.trans (if_neg c36) ?_; refine Eq.trans (if_neg c52) ?_; refine Eq.trans (if_neg c53) ?_; refine Eq.trans (if_neg c69) ?_; refine Eq.trans (if_neg c85) ?_; refine Eq.trans (if_neg c101) ?_; refine Eq.trans (if_neg c117) ?_; refine Eq.trans (if_neg c133) ?_; refine Eq.trans (if_neg c149) ?_; refine Eq.trans (if_neg c152) ?_; refine Eq.trans (if_neg c153) ?_; refine Eq.trans (if_pos c156) ?_; rfl) | (unfold J_X4_put; try dsimp only; rw [if_neg c1, if_neg c4, if_neg c20, if_neg c36, if_neg c52, if_neg c53, if_neg c69, if_neg c85, if_neg c101, if_neg c117, if_neg c133, if_neg c149, if_neg c152, if_neg c153, if_pos c156]))⟩ dX4_put_174
  by_cases c172 : p0 = 83
  · refine lv_tableIn (tgt := 158) (off := 157) hx hb dX4_put_1 (by rw [c172]; decide) (by rw [c172]; decide) (by rw [c172]; decide) (by decide) ?_
    have f172 : p0.toInt = 83 := f_eq rfl (by decide) c172
    refine lv_aload_n hx hb dX4_put_158 rfl (lv_at hl 0 rfl) ?_
    refine lv_iload_n hx hb dX4_put_159 rfl (lv_at hl 3 rfl) ?_
    refine g_pt cx hP hD hS iw_X4_put_X4 tyX4 tyX4_ok nmX4 0 rfl rfl 7 (by decide) rfl fw_X4_put_48 (ty := .int) rfl rfl rfl (Nat.le_of_ble_eq_true rfl) dX4_put_160 (fun H locs hP hD hS => ?_)
    have hP : va_P D vwCl [(qh 0, .inr (2, [.int (sh 0 0), .int (sh 0 1), .ref (qh 1), .ref (qh 2), .ref (qh 3), .ref (qh 4), .int (sh 0 6), .int p2, .int (sh 0 8), .int (sh 0 9), .int (sh 0 10), .int (sh 0 11), .int (sh 0 12), .ref (qh 5)])), cell0_ k qh sh, cell1_ k qh sh, cell4_ k qh sh, cell3_ k qh sh, cell2_ k qh sh] H := hP
    have hD : va_D A [(qh 0, .inr (2, [.int (sh 0 0), .int (sh 0 1), .ref (qh 1), .ref (qh 2), .ref (qh 3), .ref (qh 4), .int (sh 0 6), .int p2, .int (sh 0 8), .int (sh 0 9), .int (sh 0 10), .int (sh 0 11), .int (sh 0 12), .ref (qh 5)])), cell0_ k qh sh, cell1_ k qh sh, cell4_ k qh sh, cell3_ k qh sh, cell2_ k qh sh] := hD
    refine lv_goto (tgt := 174) hx hb dX4_put_163 (by decide) ?_
    rw [hQ]
    exact x_v cx hr ((sh 0 1), (sh 1), (sh 2), (sh 3), (sh 4), (sh 0 6), p2, (sh 0 8), (sh 0 9), (sh 0 10), (sh 0 11), (sh 0 12)) hP hD hS ⟨(show 0 ≤ (sh 0 1).toInt ∧ (sh 0 1).toInt ≤ 4 from by omega), (show 0 ≤ (sh 0 12).toInt ∧ (sh 0 12).toInt ≤ 5 from by omega), h_of, h_go, (show ((sh 0 1), (sh 1), (sh 2), (sh 3), (sh 4), (sh 0 6), p2, (sh 0 8), (sh 0 9), (sh 0 10), (sh 0 11), (sh 0 12)) = J_X4_put sh p0 p1 p2 p3 from by first | (refine Eq.symm ?_; refine Eq.trans (if_neg c1) ?_; refine Eq.trans (if_neg c4) ?_; refine Eq.trans (if_neg c20) ?_; refine Eq.trans (if_neg c36) ?_; refine Eq.trans (if_neg c52) ?_; refine Eq.trans (if_neg c53) ?_; refine Eq.trans (if_neg c69) ?_; refine Eq.trans (if_neg c85) ?_; refine Eq.trans (if_neg c101) ?_; refine Eq.trans (if_neg c117) ?_; refine Eq.trans (if_neg c133) ?_; refine Eq.trans (if_neg c149) ?_; refine Eq.trans (if_neg c152) ?_; refine Eq.trans (if_neg c153) ?_; refine Eq.trans (if_neg c156) ?_; refine Eq.trans (if_pos c172) ?_; rfl) | (unfold J_X4_put; try dsimp only; rw [if_neg c1, if_neg c4, if_neg c20, if_neg c36, if_neg c52, if_neg c53, if_neg c69, if_neg c85, if_neg c101, if_neg c117, if_neg c133, if_neg c149, if_neg c152, if_neg c153, if_neg c156, if_pos c172]))⟩ dX4_put_174
  by_cases c173 : p0 = 84
  · refine lv_tableIn (tgt := 166) (off := 165) hx hb dX4_put_1 (by rw [c173]; decide) (by rw [c173]; decide) (by rw [c173]; decide) (by decide) ?_
    have f173 : p0.toInt = 84 := f_eq rfl (by decide) c173
    refine lv_aload_n hx hb dX4_put_166 rfl (lv_at hl 0 rfl) ?_
    refine lv_iload_n hx hb dX4_put_167 rfl (lv_at hl 1 rfl) ?_
    refine lv_iload_n hx hb dX4_put_168 rfl (lv_at hl 3 rfl) ?_
    refine lv_iload hx hb dX4_put_169 (lv_at hl 4 rfl) ?_
    refine g_vF (w1 := fun (u : Int32 × Int32 × Int32 × Int32 × Int32) => [cell82_ qh sh (u.1) (u.2.1) (u.2.2.1) (u.2.2.2.1) (u.2.2.2.2), cell0_ k qh sh, cell1_ k qh sh, cell4_ k qh sh, cell3_ k qh sh, cell2_ k qh sh]) (g_runVF (ws := [cell32_ qh sh, cell0_ k qh sh, cell1_ k qh sh, cell4_ k qh sh, cell3_ k qh sh, cell2_ k qh sh]) (rest := []) cx hP hD hS [.int p0, .int p2, .int p3] (c_X4_putMeans l D k b qh sh H.size p0 p2 p3 (show 0 ≤ (sh 0 12).toInt ∧ (sh 0 12).toInt ≤ 5 from by first | decide | omega) (show ¬ p0.toInt = 66 ∨ (0 ≤ p3.toInt ∧ p3.toInt ≤ 5) from by first | decide | omega)) gX4_put_X4_putMeans rfl rfl rfl nd_X4_putMeans ⟨Nat.le_of_ble_eq_true rfl, Nat.le_of_ble_eq_true rfl⟩ (ci := 2) (q0 := 0) rfl rfl rfl hl.1 rfl (Nat.le_of_ble_eq_true rfl) ⟨Nat.zero_le _, Nat.zero_le _⟩ dX4_put_171) cx.2.2.1 hD hS (fun u175 H locs hw174 hP hD hS => ?_)
    obtain ⟨m176, m177, m178, m179, m180⟩ := u175
    have hP : va_P D vwCl [cell82_ qh sh m176 m177 m178 m179 m180, cell0_ k qh sh, cell1_ k qh sh, cell4_ k qh sh, cell3_ k qh sh, cell2_ k qh sh] H := hP
    have hD : va_D A [cell82_ qh sh m176 m177 m178 m179 m180, cell0_ k qh sh, cell1_ k qh sh, cell4_ k qh sh, cell3_ k qh sh, cell2_ k qh sh] := hD
    replace hw174 : (0 ≤ m180.toInt ∧ m180.toInt ≤ 5) ∧ ((m176, m177, m178, m179, m180) = J_X4_putMeans sh p0 p2 p3) := hw174
    obtain ⟨w181, w182⟩ := hw174
    have k184 : m176 = ((J_X4_putMeans sh p0 p2 p3).1) := congrArg (fun z => (z.1)) w182
    have k185 : m177 = ((J_X4_putMeans sh p0 p2 p3).2.1) := congrArg (fun z => (z.2.1)) w182
    have k186 : m178 = ((J_X4_putMeans sh p0 p2 p3).2.2.1) := congrArg (fun z => (z.2.2.1)) w182
    have k187 : m179 = ((J_X4_putMeans sh p0 p2 p3).2.2.2.1) := congrArg (fun z => (z.2.2.2.1)) w182
    have k188 : m180 = ((J_X4_putMeans sh p0 p2 p3).2.2.2.2) := congrArg (fun z => (z.2.2.2.2)) w182
    rw [hQ]
    exact x_v cx hr ((sh 0 1), (sh 1), (sh 2), (sh 3), (sh 4), (sh 0 6), (sh 0 7), m176, m177, m178, m179, m180) hP hD hS ⟨(show 0 ≤ (sh 0 1).toInt ∧ (sh 0 1).toInt ≤ 4 from by omega), (show 0 ≤ m180.toInt ∧ m180.toInt ≤ 5 from by omega), h_of, h_go, (show ((sh 0 1), (sh 1), (sh 2), (sh 3), (sh 4), (sh 0 6), (sh 0 7), m176, m177, m178, m179, m180) = J_X4_put sh p0 p1 p2 p3 from by subst k184 k185 k186 k187 k188; first | (refine Eq.symm ?_; refine Eq.trans (if_neg c1) ?_; refine Eq.trans (if_neg c4) ?_; refine Eq.trans (if_neg c20) ?_; refine Eq.trans (if_neg c36) ?_; refine Eq.trans (if_neg c52) ?_; refine Eq.trans (if_neg c53) ?_; refine Eq.trans (if_neg c69) ?_; refine Eq.trans (if_neg c85) ?_; refine Eq.trans (if_neg c101) ?_; refine Eq.trans (if_neg c117) ?_; refine Eq.trans (if_neg c133) ?_; refine Eq.trans (if_neg c149) ?_; refine Eq.trans (if_neg c152) ?_; refine Eq.trans (if_neg c153) ?_; refine Eq.trans (if_neg c156) ?_; refine Eq.trans (if_neg c172) ?_; refine Eq.trans (if_pos c173) ?_; rfl) | (unfold J_X4_put; try dsimp only; rw [if_neg c1, if_neg c4, if_neg c20, if_neg c36, if_neg c52, if_neg c53, if_neg c69, if_neg c85, if_neg c101, if_neg c117, if_neg c133, if_neg c149, if_neg c152, if_neg c153, if_neg c156, if_neg c172, if_pos c173]))⟩ dX4_put_174
  by_cases c189 : p0 = 85
  · refine lv_tableIn (tgt := 166) (off := 165) hx hb dX4_put_1 (by rw [c189]; decide) (by rw [c189]; decide) (by rw [c189]; decide) (by decide) ?_
    have f189 : p0.toInt = 85 := f_eq rfl (by decide) c189
    refine lv_aload_n hx hb dX4_put_166 rfl (lv_at hl 0 rfl) ?_
    refine lv_iload_n hx hb dX4_put_167 rfl (lv_at hl 1 rfl) ?_
    refine lv_iload_n hx hb dX4_put_168 rfl (lv_at hl 3 rfl) ?_
    refine lv_iload hx hb dX4_put_169 (lv_at hl 4 rfl) ?_
    refine g_vF (w1 := fun (u : Int32 × Int32 × Int32 × Int32 × Int32) => [cell82_ qh sh (u.1) (u.2.1) (u.2.2.1) (u.2.2.2.1) (u.2.2.2.2), cell0_ k qh sh, cell1_ k qh sh, cell4_ k qh sh, cell3_ k qh sh, cell2_ k qh sh]) (g_runVF (ws := [cell32_ qh sh, cell0_ k qh sh, cell1_ k qh sh, cell4_ k qh sh, cell3_ k qh sh, cell2_ k qh sh]) (rest := []) cx hP hD hS [.int p0, .int p2, .int p3] (c_X4_putMeans l D k b qh sh H.size p0 p2 p3 (show 0 ≤ (sh 0 12).toInt ∧ (sh 0 12).toInt ≤ 5 from by first | decide | omega) (show ¬ p0.toInt = 66 ∨ (0 ≤ p3.toInt ∧ p3.toInt ≤ 5) from by first | decide | omega)) gX4_put_X4_putMeans rfl rfl rfl nd_X4_putMeans ⟨Nat.le_of_ble_eq_true rfl, Nat.le_of_ble_eq_true rfl⟩ (ci := 2) (q0 := 0) rfl rfl rfl hl.1 rfl (Nat.le_of_ble_eq_true rfl) ⟨Nat.zero_le _, Nat.zero_le _⟩ dX4_put_171) cx.2.2.1 hD hS (fun u191 H locs hw190 hP hD hS => ?_)
    obtain ⟨m192, m193, m194, m195, m196⟩ := u191
    have hP : va_P D vwCl [cell82_ qh sh m192 m193 m194 m195 m196, cell0_ k qh sh, cell1_ k qh sh, cell4_ k qh sh, cell3_ k qh sh, cell2_ k qh sh] H := hP
    have hD : va_D A [cell82_ qh sh m192 m193 m194 m195 m196, cell0_ k qh sh, cell1_ k qh sh, cell4_ k qh sh, cell3_ k qh sh, cell2_ k qh sh] := hD
    replace hw190 : (0 ≤ m196.toInt ∧ m196.toInt ≤ 5) ∧ ((m192, m193, m194, m195, m196) = J_X4_putMeans sh p0 p2 p3) := hw190
    obtain ⟨w197, w198⟩ := hw190
    have k200 : m192 = ((J_X4_putMeans sh p0 p2 p3).1) := congrArg (fun z => (z.1)) w198
    have k201 : m193 = ((J_X4_putMeans sh p0 p2 p3).2.1) := congrArg (fun z => (z.2.1)) w198
    have k202 : m194 = ((J_X4_putMeans sh p0 p2 p3).2.2.1) := congrArg (fun z => (z.2.2.1)) w198
    have k203 : m195 = ((J_X4_putMeans sh p0 p2 p3).2.2.2.1) := congrArg (fun z => (z.2.2.2.1)) w198
    have k204 : m196 = ((J_X4_putMeans sh p0 p2 p3).2.2.2.2) := congrArg (fun z => (z.2.2.2.2)) w198
    rw [hQ]
    exact x_v cx hr ((sh 0 1), (sh 1), (sh 2), (sh 3), (sh 4), (sh 0 6), (sh 0 7), m192, m193, m194, m195, m196) hP hD hS ⟨(show 0 ≤ (sh 0 1).toInt ∧ (sh 0 1).toInt ≤ 4 from by omega), (show 0 ≤ m196.toInt ∧ m196.toInt ≤ 5 from by omega), h_of, h_go, (show ((sh 0 1), (sh 1), (sh 2), (sh 3), (sh 4), (sh 0 6), (sh 0 7), m192, m193, m194, m195, m196) = J_X4_put sh p0 p1 p2 p3 from by subst k200 k201 k202 k203 k204; first | (refine Eq.symm ?_; refine Eq.trans (if_neg c1) ?_; refine Eq.trans (if_neg c4) ?_; refine Eq.trans (if_neg c20) ?_; refine Eq.trans (if_neg c36) ?_; refine Eq.trans (if_neg c52) ?_; refine Eq.trans (if_neg c53) ?_; refine Eq.trans (if_neg c69) ?_; refine Eq.trans (if_neg c85) ?_; refine Eq.trans (if_neg c101) ?_; refine Eq.trans (if_neg c117) ?_; refine Eq.trans (if_neg c133) ?_; refine Eq.trans (if_neg c149) ?_; refine Eq.trans (if_neg c152) ?_; refine Eq.trans (if_neg c153) ?_; refine Eq.trans (if_neg c156) ?_; refine Eq.trans (if_neg c172) ?_; refine Eq.trans (if_neg c173) ?_; refine Eq.trans (if_pos c189) ?_; rfl) | (unfold J_X4_put; try dsimp only; rw [if_neg c1, if_neg c4, if_neg c20, if_neg c36, if_neg c52, if_neg c53, if_neg c69, if_neg c85, if_neg c101, if_neg c117, if_neg c133, if_neg c149, if_neg c152, if_neg c153, if_neg c156, if_neg c172, if_neg c173, if_pos c189]))⟩ dX4_put_174
  by_cases c205 : p0 = 86
  · refine lv_tableIn (tgt := 166) (off := 165) hx hb dX4_put_1 (by rw [c205]; decide) (by rw [c205]; decide) (by rw [c205]; decide) (by decide) ?_
    have f205 : p0.toInt = 86 := f_eq rfl (by decide) c205
    refine lv_aload_n hx hb dX4_put_166 rfl (lv_at hl 0 rfl) ?_
    refine lv_iload_n hx hb dX4_put_167 rfl (lv_at hl 1 rfl) ?_
    refine lv_iload_n hx hb dX4_put_168 rfl (lv_at hl 3 rfl) ?_
    refine lv_iload hx hb dX4_put_169 (lv_at hl 4 rfl) ?_
    refine g_vF (w1 := fun (u : Int32 × Int32 × Int32 × Int32 × Int32) => [cell82_ qh sh (u.1) (u.2.1) (u.2.2.1) (u.2.2.2.1) (u.2.2.2.2), cell0_ k qh sh, cell1_ k qh sh, cell4_ k qh sh, cell3_ k qh sh, cell2_ k qh sh]) (g_runVF (ws := [cell32_ qh sh, cell0_ k qh sh, cell1_ k qh sh, cell4_ k qh sh, cell3_ k qh sh, cell2_ k qh sh]) (rest := []) cx hP hD hS [.int p0, .int p2, .int p3] (c_X4_putMeans l D k b qh sh H.size p0 p2 p3 (show 0 ≤ (sh 0 12).toInt ∧ (sh 0 12).toInt ≤ 5 from by first | decide | omega) (show ¬ p0.toInt = 66 ∨ (0 ≤ p3.toInt ∧ p3.toInt ≤ 5) from by first | decide | omega)) gX4_put_X4_putMeans rfl rfl rfl nd_X4_putMeans ⟨Nat.le_of_ble_eq_true rfl, Nat.le_of_ble_eq_true rfl⟩ (ci := 2) (q0 := 0) rfl rfl rfl hl.1 rfl (Nat.le_of_ble_eq_true rfl) ⟨Nat.zero_le _, Nat.zero_le _⟩ dX4_put_171) cx.2.2.1 hD hS (fun u207 H locs hw206 hP hD hS => ?_)
    obtain ⟨m208, m209, m210, m211, m212⟩ := u207
    have hP : va_P D vwCl [cell82_ qh sh m208 m209 m210 m211 m212, cell0_ k qh sh, cell1_ k qh sh, cell4_ k qh sh, cell3_ k qh sh, cell2_ k qh sh] H := hP
    have hD : va_D A [cell82_ qh sh m208 m209 m210 m211 m212, cell0_ k qh sh, cell1_ k qh sh, cell4_ k qh sh, cell3_ k qh sh, cell2_ k qh sh] := hD
    replace hw206 : (0 ≤ m212.toInt ∧ m212.toInt ≤ 5) ∧ ((m208, m209, m210, m211, m212) = J_X4_putMeans sh p0 p2 p3) := hw206
    obtain ⟨w213, w214⟩ := hw206
    have k216 : m208 = ((J_X4_putMeans sh p0 p2 p3).1) := congrArg (fun z => (z.1)) w214
    have k217 : m209 = ((J_X4_putMeans sh p0 p2 p3).2.1) := congrArg (fun z => (z.2.1)) w214
    have k218 : m210 = ((J_X4_putMeans sh p0 p2 p3).2.2.1) := congrArg (fun z => (z.2.2.1)) w214
    have k219 : m211 = ((J_X4_putMeans sh p0 p2 p3).2.2.2.1) := congrArg (fun z => (z.2.2.2.1)) w214
    have k220 : m212 = ((J_X4_putMeans sh p0 p2 p3).2.2.2.2) := congrArg (fun z => (z.2.2.2.2)) w214
    rw [hQ]
    exact x_v cx hr ((sh 0 1), (sh 1), (sh 2), (sh 3), (sh 4), (sh 0 6), (sh 0 7), m208, m209, m210, m211, m212) hP hD hS ⟨(show 0 ≤ (sh 0 1).toInt ∧ (sh 0 1).toInt ≤ 4 from by omega), (show 0 ≤ m212.toInt ∧ m212.toInt ≤ 5 from by omega), h_of, h_go, (show ((sh 0 1), (sh 1), (sh 2), (sh 3), (sh 4), (sh 0 6), (sh 0 7), m208, m209, m210, m211, m212) = J_X4_put sh p0 p1 p2 p3 from by subst k216 k217 k218 k219 k220; first | (refine Eq.symm ?_; refine Eq.trans (if_neg c1) ?_; refine Eq.trans (if_neg c4) ?_; refine Eq.trans (if_neg c20) ?_; refine Eq.trans (if_neg c36) ?_; refine Eq.trans (if_neg c52) ?_; refine Eq.trans (if_neg c53) ?_; refine Eq.trans (if_neg c69) ?_; refine Eq.trans (if_neg c85) ?_; refine Eq.trans (if_neg c101) ?_; refine Eq.trans (if_neg c117) ?_; refine Eq.trans (if_neg c133) ?_; refine Eq.trans (if_neg c149) ?_; refine Eq.trans (if_neg c152) ?_; refine Eq.trans (if_neg c153) ?_; refine Eq.trans (if_neg c156) ?_; refine Eq.trans (if_neg c172) ?_; refine Eq.trans (if_neg c173) ?_; refine Eq.trans (if_neg c189) ?_; refine Eq.trans (if_pos c205) ?_; rfl) | (unfold J_X4_put; try dsimp only; rw [if_neg c1, if_neg c4, if_neg c20, if_neg c36, if_neg c52, if_neg c53, if_neg c69, if_neg c85, if_neg c101, if_neg c117, if_neg c133, if_neg c149, if_neg c152, if_neg c153, if_neg c156, if_neg c172, if_neg c173, if_neg c189, if_pos c205]))⟩ dX4_put_174
  by_cases c221 : p0 = 87
  · refine lv_tableIn (tgt := 104) (off := 103) hx hb dX4_put_1 (by rw [c221]; decide) (by rw [c221]; decide) (by rw [c221]; decide) (by decide) ?_
    have f221 : p0.toInt = 87 := f_eq rfl (by decide) c221
    refine lv_aload_n hx hb dX4_put_104 rfl (lv_at hl 0 rfl) ?_
    refine g_get cx hP iw_X4_put_X4 0 rfl rfl 2 (by decide) rfl fw_X4_put_9 rfl dX4_put_105 ?_
    refine lv_iload_n hx hb dX4_put_108 rfl (lv_at hl 2 rfl) ?_
    refine lv_bipush (v := 10) hx hb dX4_put_109 (by decide) ?_
    refine lv_iload_n hx hb dX4_put_111 rfl (lv_at hl 3 rfl) ?_
    refine lv_imul hx hb dX4_put_112 (lv_topi (fun v222 e222 => ?_))
    have t222 : v222.toInt = 10 * p2.toInt := by rw [e222]; exact i_mul (by decide) rfl (by omega) (by omega)
    refine lv_iload hx hb dX4_put_113 (lv_at hl 4 rfl) ?_
    refine lv_iadd hx hb dX4_put_115 (lv_topi (fun v223 e223 => ?_))
    have t223 : v223.toInt = v222.toInt + p3.toInt := by rw [e223]; exact i_add rfl rfl (by omega) (by omega)
    have hn224 : vp_in p1 5 := f_in (a := p1.toInt) rfl (by omega) (by omega)
    refine va_iast hx hb cx.2.1 hP hD hS 1 0 rfl rfl hn224 dX4_put_116 (fun H locs hP hD hS => ?_)
    obtain ⟨g225, eg225⟩ : ∃ g : Nat → Int32, g = upd (sh 1) (p1).toNatClampNeg v223 := ⟨_, rfl⟩
    rw [← eg225] at hP hD
    have hP : va_P D vwCl [cell32_ qh sh, (qh 1, .inl (k 0, 5, .inl g225)), cell1_ k qh sh, cell4_ k qh sh, cell3_ k qh sh, cell2_ k qh sh] H := hP
    have hD : va_D A [cell32_ qh sh, (qh 1, .inl (k 0, 5, .inl g225)), cell1_ k qh sh, cell4_ k qh sh, cell3_ k qh sh, cell2_ k qh sh] := hD
    refine lv_goto (tgt := 174) hx hb dX4_put_117 (by decide) ?_
    rw [hQ]
    exact x_v cx hr ((sh 0 1), g225, (sh 2), (sh 3), (sh 4), (sh 0 6), (sh 0 7), (sh 0 8), (sh 0 9), (sh 0 10), (sh 0 11), (sh 0 12)) hP hD hS ⟨(show 0 ≤ (sh 0 1).toInt ∧ (sh 0 1).toInt ≤ 4 from by omega), (show 0 ≤ (sh 0 12).toInt ∧ (sh 0 12).toInt ≤ 5 from by omega), h_of, h_go, (show ((sh 0 1), g225, (sh 2), (sh 3), (sh 4), (sh 0 6), (sh 0 7), (sh 0 8), (sh 0 9), (sh 0 10), (sh 0 11), (sh 0 12)) = J_X4_put sh p0 p1 p2 p3 from by subst e222 e223 eg225; first | (refine Eq.symm ?_; refine Eq.trans (if_neg c1) ?_; refine Eq.trans (if_neg c4) ?_; refine Eq.trans (if_neg c20) ?_; refine Eq.trans (if_neg c36) ?_; refine Eq.trans (if_neg c52) ?_; refine Eq.trans (if_neg c53) ?_; refine Eq.trans (if_neg c69) ?_; refine Eq.trans (if_neg c85) ?_; refine Eq.trans (if_neg c101) ?_; refine Eq.trans (if_neg c117) ?_; refine Eq.trans (if_neg c133) ?_; refine Eq.trans (if_neg c149) ?_; refine Eq.trans (if_neg c152) ?_; refine Eq.trans (if_neg c153) ?_; refine Eq.trans (if_neg c156) ?_; refine Eq.trans (if_neg c172) ?_; refine Eq.trans (if_neg c173) ?_; refine Eq.trans (if_neg c189) ?_; refine Eq.trans (if_neg c205) ?_; refine Eq.trans (if_pos c221) ?_; rfl) | (unfold J_X4_put; try dsimp only; rw [if_neg c1, if_neg c4, if_neg c20, if_neg c36, if_neg c52, if_neg c53, if_neg c69, if_neg c85, if_neg c101, if_neg c117, if_neg c133, if_neg c149, if_neg c152, if_neg c153, if_neg c156, if_neg c172, if_neg c173, if_neg c189, if_neg c205, if_pos c221]))⟩ dX4_put_174
  have gc1 : ¬ p0.toInt = 68 := f_ne rfl (by decide) c1
  have gc4 : ¬ p0.toInt = 69 := f_ne rfl (by decide) c4
  have gc20 : ¬ p0.toInt = 70 := f_ne rfl (by decide) c20
  have gc36 : ¬ p0.toInt = 71 := f_ne rfl (by decide) c36
  have gc52 : ¬ p0.toInt = 72 := f_ne rfl (by decide) c52
  have gc53 : ¬ p0.toInt = 73 := f_ne rfl (by decide) c53
  have gc69 : ¬ p0.toInt = 74 := f_ne rfl (by decide) c69
  have gc85 : ¬ p0.toInt = 75 := f_ne rfl (by decide) c85
  have gc101 : ¬ p0.toInt = 76 := f_ne rfl (by decide) c101
  have gc117 : ¬ p0.toInt = 77 := f_ne rfl (by decide) c117
  have gc133 : ¬ p0.toInt = 78 := f_ne rfl (by decide) c133
  have gc149 : ¬ p0.toInt = 79 := f_ne rfl (by decide) c149
  have gc152 : ¬ p0.toInt = 80 := f_ne rfl (by decide) c152
  have gc153 : ¬ p0.toInt = 81 := f_ne rfl (by decide) c153
  have gc156 : ¬ p0.toInt = 82 := f_ne rfl (by decide) c156
  have gc172 : ¬ p0.toInt = 83 := f_ne rfl (by decide) c172
  have gc173 : ¬ p0.toInt = 84 := f_ne rfl (by decide) c173
  have gc189 : ¬ p0.toInt = 85 := f_ne rfl (by decide) c189
  have gc205 : ¬ p0.toInt = 86 := f_ne rfl (by decide) c205
  have gc221 : ¬ p0.toInt = 87 := f_ne rfl (by decide) c221
  refine lv_tableOut (tgt := 166) hx hb dX4_put_1 (by omega) (by decide) ?_
  refine lv_aload_n hx hb dX4_put_166 rfl (lv_at hl 0 rfl) ?_
  refine lv_iload_n hx hb dX4_put_167 rfl (lv_at hl 1 rfl) ?_
  refine lv_iload_n hx hb dX4_put_168 rfl (lv_at hl 3 rfl) ?_
  refine lv_iload hx hb dX4_put_169 (lv_at hl 4 rfl) ?_
  refine g_vF (w1 := fun (u : Int32 × Int32 × Int32 × Int32 × Int32) => [cell82_ qh sh (u.1) (u.2.1) (u.2.2.1) (u.2.2.2.1) (u.2.2.2.2), cell0_ k qh sh, cell1_ k qh sh, cell4_ k qh sh, cell3_ k qh sh, cell2_ k qh sh]) (g_runVF (ws := [cell32_ qh sh, cell0_ k qh sh, cell1_ k qh sh, cell4_ k qh sh, cell3_ k qh sh, cell2_ k qh sh]) (rest := []) cx hP hD hS [.int p0, .int p2, .int p3] (c_X4_putMeans l D k b qh sh H.size p0 p2 p3 (show 0 ≤ (sh 0 12).toInt ∧ (sh 0 12).toInt ≤ 5 from by first | decide | omega) (show ¬ p0.toInt = 66 ∨ (0 ≤ p3.toInt ∧ p3.toInt ≤ 5) from by first | decide | omega)) gX4_put_X4_putMeans rfl rfl rfl nd_X4_putMeans ⟨Nat.le_of_ble_eq_true rfl, Nat.le_of_ble_eq_true rfl⟩ (ci := 2) (q0 := 0) rfl rfl rfl hl.1 rfl (Nat.le_of_ble_eq_true rfl) ⟨Nat.zero_le _, Nat.zero_le _⟩ dX4_put_171) cx.2.2.1 hD hS (fun u228 H locs hw227 hP hD hS => ?_)
  obtain ⟨m229, m230, m231, m232, m233⟩ := u228
  have hP : va_P D vwCl [cell82_ qh sh m229 m230 m231 m232 m233, cell0_ k qh sh, cell1_ k qh sh, cell4_ k qh sh, cell3_ k qh sh, cell2_ k qh sh] H := hP
  have hD : va_D A [cell82_ qh sh m229 m230 m231 m232 m233, cell0_ k qh sh, cell1_ k qh sh, cell4_ k qh sh, cell3_ k qh sh, cell2_ k qh sh] := hD
  replace hw227 : (0 ≤ m233.toInt ∧ m233.toInt ≤ 5) ∧ ((m229, m230, m231, m232, m233) = J_X4_putMeans sh p0 p2 p3) := hw227
  obtain ⟨w234, w235⟩ := hw227
  have k237 : m229 = ((J_X4_putMeans sh p0 p2 p3).1) := congrArg (fun z => (z.1)) w235
  have k238 : m230 = ((J_X4_putMeans sh p0 p2 p3).2.1) := congrArg (fun z => (z.2.1)) w235
  have k239 : m231 = ((J_X4_putMeans sh p0 p2 p3).2.2.1) := congrArg (fun z => (z.2.2.1)) w235
  have k240 : m232 = ((J_X4_putMeans sh p0 p2 p3).2.2.2.1) := congrArg (fun z => (z.2.2.2.1)) w235
  have k241 : m233 = ((J_X4_putMeans sh p0 p2 p3).2.2.2.2) := congrArg (fun z => (z.2.2.2.2)) w235
  rw [hQ]
  exact x_v cx hr ((sh 0 1), (sh 1), (sh 2), (sh 3), (sh 4), (sh 0 6), (sh 0 7), m229, m230, m231, m232, m233) hP hD hS ⟨(show 0 ≤ (sh 0 1).toInt ∧ (sh 0 1).toInt ≤ 4 from by omega), (show 0 ≤ m233.toInt ∧ m233.toInt ≤ 5 from by omega), h_of, h_go, (show ((sh 0 1), (sh 1), (sh 2), (sh 3), (sh 4), (sh 0 6), (sh 0 7), m229, m230, m231, m232, m233) = J_X4_put sh p0 p1 p2 p3 from by subst k237 k238 k239 k240 k241; first | (refine Eq.symm ?_; refine Eq.trans (if_neg c1) ?_; refine Eq.trans (if_neg c4) ?_; refine Eq.trans (if_neg c20) ?_; refine Eq.trans (if_neg c36) ?_; refine Eq.trans (if_neg c52) ?_; refine Eq.trans (if_neg c53) ?_; refine Eq.trans (if_neg c69) ?_; refine Eq.trans (if_neg c85) ?_; refine Eq.trans (if_neg c101) ?_; refine Eq.trans (if_neg c117) ?_; refine Eq.trans (if_neg c133) ?_; refine Eq.trans (if_neg c149) ?_; refine Eq.trans (if_neg c152) ?_; refine Eq.trans (if_neg c153) ?_; refine Eq.trans (if_neg c156) ?_; refine Eq.trans (if_neg c172) ?_; refine Eq.trans (if_neg c173) ?_; refine Eq.trans (if_neg c189) ?_; refine Eq.trans (if_neg c205) ?_; refine Eq.trans (if_neg c221) ?_; rfl) | (unfold J_X4_put; try dsimp only; rw [if_neg c1, if_neg c4, if_neg c20, if_neg c36, if_neg c52, if_neg c53, if_neg c69, if_neg c85, if_neg c101, if_neg c117, if_neg c133, if_neg c149, if_neg c152, if_neg c153, if_neg c156, if_neg c172, if_neg c173, if_neg c189, if_neg c205, if_neg c221]))⟩ dX4_put_174
