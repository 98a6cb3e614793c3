def J_X12_work (sm : Nat → Nat → Int32) (tm : Nat → Nat → Int64) (p0 : Int32) (p1 : Int32) (p2 : Int32) (p3 : Int32) (p4 : Int32) : Int32 := let y6 := J_X12_isWeek sm tm p0; if y6 = 0 then ((-1) : Int32) else let y14 := J_X12_isHands sm tm p1; if y14 = 0 then ((-2) : Int32) else let y23 := J_X12_isComing sm tm p2; if y23 = 0 then ((-2) : Int32) else if 0 ≤ p3 then let y31 := J_X12_after sm tm p0 p1 p3; if y31 = (-9) then ((-3) : Int32) else let y37 := J_X12_over sm tm p0 y31 p2 p3; if p4 = 0 then if 0 ≤ y37 then (0 : Int32) else (-y37) else if y37 ≤ 0 then (0 : Int32) else y37 else ((-2) : Int32)
set_option maxHeartbeats 4000000 in
set_option maxRecDepth 100000 in
theorem c_X12_work (l : Launch) (D : va_G) (k : Nat → ClassId) (b : Nat → Nat) (qm : Nat → Nat) (sm : Nat → Nat → Int32) (tm : Nat → Nat → Int64) (sz : Nat) (p0 : Int32) (p1 : Int32) (p2 : Int32) (p3 : Int32) (p4 : Int32) (h_w0 : 0 ≤ (sm 2 0).toInt ∧ (sm 2 0).toInt ≤ 5) (h_k1 : 0 ≤ (sm 2 1).toInt ∧ (sm 2 1).toInt ≤ 4) : MetI l D k b yX12_work wsX12_work ({ frames := 2, cells := 0, slots := 0, locals := 55 } : Room) [cell22_ qm sm tm, cell5_ k qm sm, cell13_ k qm sm, cell8_ k qm sm, cell6_ k qm sm, cell14_ k qm sm, cell15_ k qm tm, cell12_ k qm tm, cell18_ k qm tm, cell17_ k qm tm, cell19_ k qm tm, cell21_ k qm tm, cell20_ k qm sm, cell16_ k qm sm, cell11_ k qm sm, cell10_ k qm sm, cell9_ k qm sm, cell7_ k qm sm] sz [.ref (qm 0), .int p0, .int p1, .int p2, .int p3, .int p4] (fun (r : Int32) (u : Unit) => r = J_X12_work sm tm p0 p1 p2 p3 p4) (fun u => [cell22_ qm sm tm, cell5_ k qm sm, cell13_ k qm sm, cell8_ k qm sm, cell6_ k qm sm, cell14_ k qm sm, cell15_ k qm tm, cell12_ k qm tm, cell18_ k qm tm, cell17_ k qm tm, cell19_ k qm tm, cell21_ k qm tm, cell20_ k qm sm, cell16_ k qm sm, cell11_ k qm sm, cell10_ k qm sm, cell9_ k qm sm, cell7_ k qm sm]) := by
  refine g_enter (cc := cX12_work) (maxL := 8) (ret := (some .int)) (by decide) rfl (Nat.le_of_ble_eq_true rfl) ?_
  intro p e s m below meth c A hsz hAe cx hr hP hD hS ls hl
  rw [hAe]
  refine g_q (fun Q hQ => ?_)
  have hx := cx.1.1
  have hb := cx.1.2.1
  have bp0 := i_rng p0
  have bp1 := i_rng p1
  have bp2 := i_rng p2
  have bp3 := i_rng p3
  have bp4 := i_rng p4
  have hl : lv_has ls 8 [(0, .ref (qm 0)), (1, .int p0), (2, .int p1), (3, .int p2), (4, .int p3), (5, .int p4)] := hl
  obtain ⟨H, eH⟩ : ∃ H : Heap, H = s.heap := ⟨_, rfl⟩
  obtain ⟨locs, el⟩ : ∃ L : List Loc, L = [] := ⟨_, rfl⟩
  have hP : va_P D vwCl [cell22_ qm sm tm, cell5_ k qm sm, cell13_ k qm sm, cell8_ k qm sm, cell6_ k qm sm, cell14_ k qm sm, cell15_ k qm tm, cell12_ k qm tm, cell18_ k qm tm, cell17_ k qm tm, cell19_ k qm tm, cell21_ k qm tm, cell20_ k qm sm, cell16_ k qm sm, cell11_ k qm sm, cell10_ k qm sm, cell9_ k qm sm, cell7_ k qm sm] H := by rw [eH]; exact hP
  have hD : va_D A [cell22_ qm sm tm, cell5_ k qm sm, cell13_ k qm sm, cell8_ k qm sm, cell6_ k qm sm, cell14_ k qm sm, cell15_ k qm tm, cell12_ k qm tm, cell18_ k qm tm, cell17_ k qm tm, cell19_ k qm tm, cell21_ k qm tm, cell20_ k qm sm, cell16_ k qm sm, cell11_ k qm sm, cell10_ k qm sm, cell9_ k qm sm, cell7_ k qm sm] := hD
  have hS : va_S A s.heap H locs := by rw [eH, el]; exact hS
  suffices goal : W p l e ({ frames := 2, cells := 0, slots := 0, locals := 55 } : Room) s m ([.ref (qm 0), .int p0, .int p1, .int p2, .int p3, .int p4] : List Value).toArray below meth c H locs 0 0 Q (F0 m 0 ls []) by rw [eH, el] at goal; exact goal
  refine lv_aload_n hx hb dX12_work_0 rfl (lv_at hl 0 rfl) ?_
  refine lv_iload_n hx hb dX12_work_1 rfl (lv_at hl 1 rfl) ?_
  refine g_iF (w1 := fun (_ : Unit) => [cell22_ qm sm tm, cell5_ k qm sm, cell13_ k qm sm, cell8_ k qm sm, cell6_ k qm sm, cell14_ k qm sm, cell15_ k qm tm, cell12_ k qm tm, cell18_ k qm tm, cell17_ k qm tm, cell19_ k qm tm, cell21_ k qm tm, cell20_ k qm sm, cell16_ k qm sm, cell11_ k qm sm, cell10_ k qm sm, cell9_ k qm sm, cell7_ k qm sm]) (g_runVF (ws := [cell22_ qm sm tm, cell5_ k qm sm, cell13_ k qm sm, cell8_ k qm sm, cell6_ k qm sm, cell14_ k qm sm, cell15_ k qm tm, cell12_ k qm tm, cell18_ k qm tm, cell17_ k qm tm, cell19_ k qm tm, cell21_ k qm tm, cell20_ k qm sm, cell16_ k qm sm, cell11_ k qm sm, cell10_ k qm sm, cell9_ k qm sm, cell7_ k qm sm]) (rest := []) cx hP hD hS [.int p0] (c_X12_isWeek l D k b qm sm tm H.size p0 (show 0 ≤ ((sm 2) 0).toInt ∧ ((sm 2) 0).toInt ≤ 5 from by first | decide | omega)) gX12_work_X12_isWeek rfl rfl rfl nd_X12_isWeek ⟨Nat.le_of_ble_eq_true rfl, Nat.le_of_ble_eq_true rfl⟩ (ci := 10) (q0 := 0) rfl rfl rfl hl.1 rfl (Nat.le_of_ble_eq_true rfl) ⟨Nat.zero_le _, Nat.zero_le _⟩ dX12_work_2) cx.2.2.1 hD hS (fun r2 _ H locs hw1 hP hD hS => ?_)
  replace hw1 : (0 ≤ r2.toInt ∧ r2.toInt ≤ 1) ∧ (Imp (r2.toInt = 1) (0 ≤ p0.toInt ∧ p0.toInt ≤ 4)) ∧ (r2 = J_X12_isWeek sm tm p0) := hw1
  obtain ⟨w3, w4, w5⟩ := hw1
  have k7 : r2 = (J_X12_isWeek sm tm p0) := congrArg (fun z => z) w5
  have zr2 : 0 ≤ r2.toInt ∧ r2.toInt ≤ 1 := w3
  refine lv_if_ne (tgt := 10) hx hb dX12_work_5 (by decide) (fun c8 => ?_) (fun c8 => ?_)
  · have f8 : ¬ r2.toInt = 0 := f_ne rfl (by decide) c8
    have k8 : (0 ≤ p0.toInt ∧ p0.toInt ≤ 4) := w4 (by omega)
    refine lv_aload_n hx hb dX12_work_10 rfl (lv_at hl 0 rfl) ?_
    refine lv_iload_n hx hb dX12_work_11 rfl (lv_at hl 2 rfl) ?_
    refine g_iF (w1 := fun (_ : Unit) => [cell22_ qm sm tm, cell5_ k qm sm, cell13_ k qm sm, cell8_ k qm sm, cell6_ k qm sm, cell14_ k qm sm, cell15_ k qm tm, cell12_ k qm tm, cell18_ k qm tm, cell17_ k qm tm, cell19_ k qm tm, cell21_ k qm tm, cell20_ k qm sm, cell16_ k qm sm, cell11_ k qm sm, cell10_ k qm sm, cell9_ k qm sm, cell7_ k qm sm]) (g_runVF (ws := [cell22_ qm sm tm, cell5_ k qm sm, cell13_ k qm sm, cell8_ k qm sm, cell6_ k qm sm, cell14_ k qm sm, cell15_ k qm tm, cell12_ k qm tm, cell18_ k qm tm, cell17_ k qm tm, cell19_ k qm tm, cell21_ k qm tm, cell20_ k qm sm, cell16_ k qm sm, cell11_ k qm sm, cell10_ k qm sm, cell9_ k qm sm, cell7_ k qm sm]) (rest := []) cx hP hD hS [.int p1] (c_X12_isHands l D k b qm sm tm H.size p1 (show 0 ≤ ((sm 2) 1).toInt ∧ ((sm 2) 1).toInt ≤ 4 from by first | decide | omega)) gX12_work_X12_isHands rfl rfl rfl nd_X12_isHands ⟨Nat.le_of_ble_eq_true rfl, Nat.le_of_ble_eq_true rfl⟩ (ci := 10) (q0 := 0) rfl rfl rfl hl.1 rfl (Nat.le_of_ble_eq_true rfl) ⟨Nat.zero_le _, Nat.zero_le _⟩ dX12_work_12) cx.2.2.1 hD hS (fun r10 _ H locs hw9 hP hD hS => ?_)
    replace hw9 : (0 ≤ r10.toInt ∧ r10.toInt ≤ 1) ∧ (Imp (r10.toInt = 1) (0 ≤ p1.toInt ∧ p1.toInt ≤ 400)) ∧ (r10 = J_X12_isHands sm tm p1) := hw9
    obtain ⟨w11, w12, w13⟩ := hw9
    have k15 : r10 = (J_X12_isHands sm tm p1) := congrArg (fun z => z) w13
    have zr10 : 0 ≤ r10.toInt ∧ r10.toInt ≤ 1 := w11
    refine lv_if_eq (tgt := 31) hx hb dX12_work_15 (by decide) (fun c16 => ?_) (fun c16 => ?_)
    · have f16 : r10.toInt = 0 := f_eq rfl (by decide) c16
      refine lv_bipush (v := (-2)) hx hb dX12_work_31 (by decide) ?_
      have hlit17 : ((-2) : Int32).toInt = -2 := by decide
      rw [hQ]
      exact x_i cx hr () hP hD hS (show ((-2) : Int32) = J_X12_work sm tm p0 p1 p2 p3 p4 from by subst k7 k15; first | (refine Eq.symm ?_; refine Eq.trans (if_neg c8) ?_; refine Eq.trans (if_pos c16) ?_; rfl) | (unfold J_X12_work; try dsimp only; rw [if_neg c8, if_pos c16])) dX12_work_33
    · have f16 : ¬ r10.toInt = 0 := f_ne rfl (by decide) c16
      have k16 : (0 ≤ p1.toInt ∧ p1.toInt ≤ 400) := w12 (by omega)
      refine lv_aload_n hx hb dX12_work_18 rfl (lv_at hl 0 rfl) ?_
      refine lv_iload_n hx hb dX12_work_19 rfl (lv_at hl 3 rfl) ?_
      refine g_iF (w1 := fun (_ : Unit) => [cell22_ qm sm tm, cell5_ k qm sm, cell13_ k qm sm, cell8_ k qm sm, cell6_ k qm sm, cell14_ k qm sm, cell15_ k qm tm, cell12_ k qm tm, cell18_ k qm tm, cell17_ k qm tm, cell19_ k qm tm, cell21_ k qm tm, cell20_ k qm sm, cell16_ k qm sm, cell11_ k qm sm, cell10_ k qm sm, cell9_ k qm sm, cell7_ k qm sm]) (g_runVF (ws := [cell22_ qm sm tm, cell5_ k qm sm, cell13_ k qm sm, cell8_ k qm sm, cell6_ k qm sm, cell14_ k qm sm, cell15_ k qm tm, cell12_ k qm tm, cell18_ k qm tm, cell17_ k qm tm, cell19_ k qm tm, cell21_ k qm tm, cell20_ k qm sm, cell16_ k qm sm, cell11_ k qm sm, cell10_ k qm sm, cell9_ k qm sm, cell7_ k qm sm]) (rest := []) cx hP hD hS [.int p2] (c_X12_isComing l D k b qm sm tm H.size p2) gX12_work_X12_isComing rfl rfl rfl nd_X12_isComing ⟨Nat.le_of_ble_eq_true rfl, Nat.le_of_ble_eq_true rfl⟩ (ci := 10) (q0 := 0) rfl rfl rfl hl.1 rfl (Nat.le_of_ble_eq_true rfl) ⟨Nat.zero_le _, Nat.zero_le _⟩ dX12_work_20) cx.2.2.1 hD hS (fun r19 _ H locs hw18 hP hD hS => ?_)
      replace hw18 : (0 ≤ r19.toInt ∧ r19.toInt ≤ 1) ∧ (Imp (r19.toInt = 1) (0 ≤ p2.toInt ∧ p2.toInt ≤ 2)) ∧ (r19 = J_X12_isComing sm tm p2) := hw18
      obtain ⟨w20, w21, w22⟩ := hw18
      have k24 : r19 = (J_X12_isComing sm tm p2) := congrArg (fun z => z) w22
      have zr19 : 0 ≤ r19.toInt ∧ r19.toInt ≤ 1 := w20
      refine lv_if_eq (tgt := 31) hx hb dX12_work_23 (by decide) (fun c25 => ?_) (fun c25 => ?_)
      · have f25 : r19.toInt = 0 := f_eq rfl (by decide) c25
        refine lv_bipush (v := (-2)) hx hb dX12_work_31 (by decide) ?_
        have hlit26 : ((-2) : Int32).toInt = -2 := by decide
        rw [hQ]
        exact x_i cx hr () hP hD hS (show ((-2) : Int32) = J_X12_work sm tm p0 p1 p2 p3 p4 from by subst k7 k15 k24; first | (refine Eq.symm ?_; refine Eq.trans (if_neg c8) ?_; refine Eq.trans (if_neg c16) ?_; refine Eq.trans (if_pos c25) ?_; rfl) | (unfold J_X12_work; try dsimp only; rw [if_neg c8, if_neg c16, if_pos c25])) dX12_work_33
      · have f25 : ¬ r19.toInt = 0 := f_ne rfl (by decide) c25
        have k25 : (0 ≤ p2.toInt ∧ p2.toInt ≤ 2) := w21 (by omega)
        refine lv_iload hx hb dX12_work_26 (lv_at hl 4 rfl) ?_
        refine lv_if_ge (tgt := 34) hx hb dX12_work_28 (by decide) (fun c27 => ?_) (fun c27 => ?_)
        · have f27 : 0 ≤ p3.toInt := f_le (by decide) rfl c27
          refine lv_aload_n hx hb dX12_work_34 rfl (lv_at hl 0 rfl) ?_
          refine lv_iload_n hx hb dX12_work_35 rfl (lv_at hl 1 rfl) ?_
          refine lv_iload_n hx hb dX12_work_36 rfl (lv_at hl 2 rfl) ?_
          refine lv_iload hx hb dX12_work_37 (lv_at hl 4 rfl) ?_
          refine g_iF (w1 := fun (_ : Unit) => [cell22_ qm sm tm, cell5_ k qm sm, cell13_ k qm sm, cell8_ k qm sm, cell6_ k qm sm, cell14_ k qm sm, cell15_ k qm tm, cell12_ k qm tm, cell18_ k qm tm, cell17_ k qm tm, cell19_ k qm tm, cell21_ k qm tm, cell20_ k qm sm, cell16_ k qm sm, cell11_ k qm sm, cell10_ k qm sm, cell9_ k qm sm, cell7_ k qm sm]) (g_runVF (ws := [cell22_ qm sm tm, cell5_ k qm sm, cell13_ k qm sm, cell8_ k qm sm, cell6_ k qm sm, cell14_ k qm sm, cell15_ k qm tm, cell12_ k qm tm, cell18_ k qm tm, cell17_ k qm tm, cell19_ k qm tm, cell21_ k qm tm, cell20_ k qm sm, cell16_ k qm sm, cell11_ k qm sm, cell10_ k qm sm, cell9_ k qm sm, cell7_ k qm sm]) (rest := []) cx hP hD hS [.int p0, .int p1, .int p3] (c_X12_after l D k b qm sm tm H.size p0 p1 p3 (show 0 ≤ ((sm 2) 0).toInt ∧ ((sm 2) 0).toInt ≤ 5 from by first | decide | omega) (show 0 ≤ p0.toInt ∧ p0.toInt ≤ 4 from by first | decide | omega)) gX12_work_X12_after rfl rfl rfl nd_X12_after ⟨Nat.le_of_ble_eq_true rfl, Nat.le_of_ble_eq_true rfl⟩ (ci := 10) (q0 := 0) rfl rfl rfl hl.1 rfl (Nat.le_of_ble_eq_true rfl) ⟨Nat.zero_le _, Nat.zero_le _⟩ dX12_work_39) cx.2.2.1 hD hS (fun r29 _ H locs hw28 hP hD hS => ?_)
          have w30 : r29 = J_X12_after sm tm p0 p1 p3 := hw28
          clear hw28
          have k32 : r29 = (J_X12_after sm tm p0 p1 p3) := congrArg (fun z => z) w30
          refine lv_istore (lv' := [(6, .int r29), (0, .ref (qm 0)), (1, .int p0), (2, .int p1), (3, .int p2), (4, .int p3), (5, .int p4)]) hx hb dX12_work_42 hl (by decide) rfl (fun ls hl => ?_)
          refine lv_iload hx hb dX12_work_44 (lv_at hl 0 rfl) ?_
          refine lv_bipush (v := (-9)) hx hb dX12_work_46 (by decide) ?_
          refine lv_icmp_ne (tgt := 54) hx hb dX12_work_48 (by decide) (fun c33 => ?_) (fun c33 => ?_)
          · have f33 : ¬ r29.toInt = (-9) := f_ne rfl (by decide) c33
            refine lv_aload_n hx hb dX12_work_54 rfl (lv_at hl 1 rfl) ?_
            refine lv_iload_n hx hb dX12_work_55 rfl (lv_at hl 2 rfl) ?_
            refine lv_iload hx hb dX12_work_56 (lv_at hl 0 rfl) ?_
            refine lv_iload_n hx hb dX12_work_58 rfl (lv_at hl 4 rfl) ?_
            refine lv_iload hx hb dX12_work_59 (lv_at hl 5 rfl) ?_
            refine g_iF (w1 := fun (_ : Unit) => [cell22_ qm sm tm, cell5_ k qm sm, cell13_ k qm sm, cell8_ k qm sm, cell6_ k qm sm, cell14_ k qm sm, cell15_ k qm tm, cell12_ k qm tm, cell18_ k qm tm, cell17_ k qm tm, cell19_ k qm tm, cell21_ k qm tm, cell20_ k qm sm, cell16_ k qm sm, cell11_ k qm sm, cell10_ k qm sm, cell9_ k qm sm, cell7_ k qm sm]) (g_runVF (ws := [cell22_ qm sm tm, cell5_ k qm sm, cell13_ k qm sm, cell8_ k qm sm, cell6_ k qm sm, cell14_ k qm sm, cell15_ k qm tm, cell12_ k qm tm, cell18_ k qm tm, cell17_ k qm tm, cell19_ k qm tm, cell21_ k qm tm, cell20_ k qm sm, cell16_ k qm sm, cell11_ k qm sm, cell10_ k qm sm, cell9_ k qm sm, cell7_ k qm sm]) (rest := []) cx hP hD hS [.int p0, .int r29, .int p2, .int p3] (c_X12_over l D k b qm sm tm H.size p0 r29 p2 p3 (show 0 ≤ p0.toInt ∧ p0.toInt ≤ 4 from by first | decide | omega)) gX12_work_X12_over rfl rfl rfl nd_X12_over ⟨Nat.le_of_ble_eq_true rfl, Nat.le_of_ble_eq_true rfl⟩ (ci := 10) (q0 := 0) rfl rfl rfl hl.1 rfl (Nat.le_of_ble_eq_true rfl) ⟨Nat.zero_le _, Nat.zero_le _⟩ dX12_work_61) cx.2.2.1 hD hS (fun r35 _ H locs hw34 hP hD hS => ?_)
            have w36 : r35 = J_X12_over sm tm p0 r29 p2 p3 := hw34
            clear hw34
            have k38 : r35 = (J_X12_over sm tm p0 r29 p2 p3) := congrArg (fun z => z) w36
            refine lv_istore (lv' := [(7, .int r35), (6, .int r29), (0, .ref (qm 0)), (1, .int p0), (2, .int p1), (3, .int p2), (4, .int p3), (5, .int p4)]) hx hb dX12_work_64 hl (by decide) rfl (fun ls hl => ?_)
            refine lv_iload hx hb dX12_work_66 (lv_at hl 7 rfl) ?_
            refine lv_if_eq (tgt := 85) hx hb dX12_work_68 (by decide) (fun c39 => ?_) (fun c39 => ?_)
            · have f39 : p4.toInt = 0 := f_eq rfl (by decide) c39
              refine lv_iload hx hb dX12_work_85 (lv_at hl 0 rfl) ?_
              refine lv_if_ge (tgt := 96) hx hb dX12_work_87 (by decide) (fun c40 => ?_) (fun c40 => ?_)
              · have f40 : 0 ≤ r35.toInt := f_le (by decide) rfl c40
                refine lv_iconst (v := 0) hx hb dX12_work_96 (by decide) ?_
                have hlit41 : (0 : Int32).toInt = 0 := by decide
                rw [hQ]
                exact x_i cx hr () hP hD hS (show (0 : Int32) = J_X12_work sm tm p0 p1 p2 p3 p4 from by subst k7 k15 k24 k32 k38; first | (refine Eq.symm ?_; refine Eq.trans (if_neg c8) ?_; refine Eq.trans (if_neg c16) ?_; refine Eq.trans (if_neg c25) ?_; refine Eq.trans (if_pos c27) ?_; refine Eq.trans (if_neg c33) ?_; refine Eq.trans (if_pos c39) ?_; refine Eq.trans (if_pos c40) ?_; rfl) | (unfold J_X12_work; try dsimp only; rw [if_neg c8, if_neg c16, if_neg c25, if_pos c27, if_neg c33, if_pos c39, if_pos c40])) dX12_work_97
              · have f40 : r35.toInt < 0 := f_nle (by decide) rfl c40
                refine lv_iload hx hb dX12_work_90 (lv_at hl 0 rfl) ?_
                refine lv_ineg hx hb dX12_work_92 (lv_topi (fun v42 e42 => ?_))
                refine lv_goto (tgt := 97) hx hb dX12_work_93 (by decide) ?_
                rw [hQ]
                exact x_i cx hr () hP hD hS (show v42 = J_X12_work sm tm p0 p1 p2 p3 p4 from by subst k7 k15 k24 k32 k38 e42; first | (refine Eq.symm ?_; refine Eq.trans (if_neg c8) ?_; refine Eq.trans (if_neg c16) ?_; refine Eq.trans (if_neg c25) ?_; refine Eq.trans (if_pos c27) ?_; refine Eq.trans (if_neg c33) ?_; refine Eq.trans (if_pos c39) ?_; refine Eq.trans (if_neg c40) ?_; rfl) | (unfold J_X12_work; try dsimp only; rw [if_neg c8, if_neg c16, if_neg c25, if_pos c27, if_neg c33, if_pos c39, if_neg c40])) dX12_work_97
            · have f39 : ¬ p4.toInt = 0 := f_ne rfl (by decide) c39
              refine lv_iload hx hb dX12_work_71 (lv_at hl 0 rfl) ?_
              refine lv_if_le (tgt := 81) hx hb dX12_work_73 (by decide) (fun c43 => ?_) (fun c43 => ?_)
              · have f43 : r35.toInt ≤ 0 := f_le rfl (by decide) c43
                refine lv_iconst (v := 0) hx hb dX12_work_81 (by decide) ?_
                refine lv_goto (tgt := 97) hx hb dX12_work_82 (by decide) ?_
                have hlit44 : (0 : Int32).toInt = 0 := by decide
                rw [hQ]
                exact x_i cx hr () hP hD hS (show (0 : Int32) = J_X12_work sm tm p0 p1 p2 p3 p4 from by subst k7 k15 k24 k32 k38; first | (refine Eq.symm ?_; refine Eq.trans (if_neg c8) ?_; refine Eq.trans (if_neg c16) ?_; refine Eq.trans (if_neg c25) ?_; refine Eq.trans (if_pos c27) ?_; refine Eq.trans (if_neg c33) ?_; refine Eq.trans (if_neg c39) ?_; refine Eq.trans (if_pos c43) ?_; rfl) | (unfold J_X12_work; try dsimp only; rw [if_neg c8, if_neg c16, if_neg c25, if_pos c27, if_neg c33, if_neg c39, if_pos c43])) dX12_work_97
              · have f43 : 0 < r35.toInt := f_nle rfl (by decide) c43
                refine lv_iload hx hb dX12_work_76 (lv_at hl 0 rfl) ?_
                refine lv_goto (tgt := 97) hx hb dX12_work_78 (by decide) ?_
                rw [hQ]
                exact x_i cx hr () hP hD hS (show r35 = J_X12_work sm tm p0 p1 p2 p3 p4 from by subst k7 k15 k24 k32 k38; first | (refine Eq.symm ?_; refine Eq.trans (if_neg c8) ?_; refine Eq.trans (if_neg c16) ?_; refine Eq.trans (if_neg c25) ?_; refine Eq.trans (if_pos c27) ?_; refine Eq.trans (if_neg c33) ?_; refine Eq.trans (if_neg c39) ?_; refine Eq.trans (if_neg c43) ?_; rfl) | (unfold J_X12_work; try dsimp only; rw [if_neg c8, if_neg c16, if_neg c25, if_pos c27, if_neg c33, if_neg c39, if_neg c43])) dX12_work_97
          · have f33 : r29.toInt = (-9) := f_eq rfl (by decide) c33
            refine lv_bipush (v := (-3)) hx hb dX12_work_51 (by decide) ?_
            have hlit45 : ((-3) : Int32).toInt = -3 := by decide
            rw [hQ]
            exact x_i cx hr () hP hD hS (show ((-3) : Int32) = J_X12_work sm tm p0 p1 p2 p3 p4 from by subst k7 k15 k24 k32; first | (refine Eq.symm ?_; refine Eq.trans (if_neg c8) ?_; refine Eq.trans (if_neg c16) ?_; refine Eq.trans (if_neg c25) ?_; refine Eq.trans (if_pos c27) ?_; refine Eq.trans (if_pos c33) ?_; rfl) | (unfold J_X12_work; try dsimp only; rw [if_neg c8, if_neg c16, if_neg c25, if_pos c27, if_pos c33])) dX12_work_53
        · have f27 : p3.toInt < 0 := f_nle (by decide) rfl c27
          refine lv_bipush (v := (-2)) hx hb dX12_work_31 (by decide) ?_
          have hlit46 : ((-2) : Int32).toInt = -2 := by decide
          rw [hQ]
          exact x_i cx hr () hP hD hS (show ((-2) : Int32) = J_X12_work sm tm p0 p1 p2 p3 p4 from by subst k7 k15 k24; first | (refine Eq.symm ?_; refine Eq.trans (if_neg c8) ?_; refine Eq.trans (if_neg c16) ?_; refine Eq.trans (if_neg c25) ?_; refine Eq.trans (if_neg c27) ?_; rfl) | (unfold J_X12_work; try dsimp only; rw [if_neg c8, if_neg c16, if_neg c25, if_neg c27])) dX12_work_33
  · have f8 : r2.toInt = 0 := f_eq rfl (by decide) c8
    refine lv_iconst (v := (-1)) hx hb dX12_work_8 (by decide) ?_
    have hlit47 : ((-1) : Int32).toInt = -1 := by decide
    rw [hQ]
    exact x_i cx hr () hP hD hS (show ((-1) : Int32) = J_X12_work sm tm p0 p1 p2 p3 p4 from by subst k7; first | (refine Eq.symm ?_; refine Eq.trans (if_pos c8) ?_; rfl) | (unfold J_X12_work; try dsimp only; rw [if_pos c8])) dX12_work_9
