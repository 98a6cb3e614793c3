theorem nd_X12_ruleAct : yX12_ruleAct.cls = RX12 ∧ yX12_ruleAct.cls ≠ "java/lang/invoke/MethodHandle" ∧ yX12_ruleAct.cls ≠ "java/lang/invoke/VarHandle" ∧ (parseMethodDescriptor yX12_ruleAct.desc).map (fun d => d.parameters.length) = some 3 := by decide +kernel
def J_X12_takes (sm : Nat → Nat → Int32) (tm : Nat → Nat → Int64) (p0 : Int32) (p1 : Int32) (p2 : Int32) : Int32 := let y6 := J_X12_isRule p0; if y6 = 0 then ((-1) : Int32) else let y15 := J_X12_isWeek sm tm p1; if y15 = 0 then ((-1) : Int32) else let y23 := J_X12_isHands sm tm p2; if y23 = 0 then ((-2) : Int32) else let y30 := J_X12_ruleAct sm tm p0 p1 p2; (y30 / (100 : Int32))
set_option maxHeartbeats 4000000 in
set_option maxRecDepth 100000 in
theorem c_X12_takes (l : Launch) (D : va_G) (k : Nat → ClassId) (b : Nat → Nat) (qm : Nat → Nat) (sm : Nat → Nat → Int32) (tm : Nat → Nat → Int64) (sz : Nat) (p0 : Int32) (p1 : Int32) (p2 : Int32) (h_w0 : 0 ≤ (sm 2 0).toInt ∧ (sm 2 0).toInt ≤ 5) (h_k1 : 0 ≤ (sm 2 1).toInt ∧ (sm 2 1).toInt ≤ 4) : MetI l D k b yX12_takes wsX12_takes ({ frames := 2, cells := 0, slots := 0, locals := 46 } : Room) [cell22_ qm sm tm, cell5_ k qm sm, cell13_ k qm sm, cell8_ k qm sm, cell6_ k qm sm, cell14_ k qm sm, cell15_ k qm tm, cell12_ k qm tm, cell18_ k qm tm, cell17_ k qm tm, cell19_ k qm tm, cell21_ k qm tm, cell20_ k qm sm, cell16_ k qm sm, cell11_ k qm sm, cell10_ k qm sm, cell9_ k qm sm, cell7_ k qm sm] sz [.ref (qm 0), .int p0, .int p1, .int p2] (fun (r : Int32) (u : Unit) => r = J_X12_takes sm tm p0 p1 p2) (fun u => [cell22_ qm sm tm, cell5_ k qm sm, cell13_ k qm sm, cell8_ k qm sm, cell6_ k qm sm, cell14_ k qm sm, cell15_ k qm tm, cell12_ k qm tm, cell18_ k qm tm, cell17_ k qm tm, cell19_ k qm tm, cell21_ k qm tm, cell20_ k qm sm, cell16_ k qm sm, cell11_ k qm sm, cell10_ k qm sm, cell9_ k qm sm, cell7_ k qm sm]) := by
  refine g_enter (cc := cX12_takes) (maxL := 4) (ret := (some .int)) (by decide) rfl (Nat.le_of_ble_eq_true rfl) ?_
  intro p e s m below meth c A hsz hAe cx hr hP hD hS ls hl
  rw [hAe]
  refine g_q (fun Q hQ => ?_)
  have hx := cx.1.1
  have hb := cx.1.2.1
  have bp0 := i_rng p0
  have bp1 := i_rng p1
  have bp2 := i_rng p2
  have hl : lv_has ls 4 [(0, .ref (qm 0)), (1, .int p0), (2, .int p1), (3, .int p2)] := hl
  obtain ⟨H, eH⟩ : ∃ H : Heap, H = s.heap := ⟨_, rfl⟩
  obtain ⟨locs, el⟩ : ∃ L : List Loc, L = [] := ⟨_, rfl⟩
  have hP : va_P D vwCl [cell22_ qm sm tm, cell5_ k qm sm, cell13_ k qm sm, cell8_ k qm sm, cell6_ k qm sm, cell14_ k qm sm, cell15_ k qm tm, cell12_ k qm tm, cell18_ k qm tm, cell17_ k qm tm, cell19_ k qm tm, cell21_ k qm tm, cell20_ k qm sm, cell16_ k qm sm, cell11_ k qm sm, cell10_ k qm sm, cell9_ k qm sm, cell7_ k qm sm] H := by rw [eH]; exact hP
  have hD : va_D A [cell22_ qm sm tm, cell5_ k qm sm, cell13_ k qm sm, cell8_ k qm sm, cell6_ k qm sm, cell14_ k qm sm, cell15_ k qm tm, cell12_ k qm tm, cell18_ k qm tm, cell17_ k qm tm, cell19_ k qm tm, cell21_ k qm tm, cell20_ k qm sm, cell16_ k qm sm, cell11_ k qm sm, cell10_ k qm sm, cell9_ k qm sm, cell7_ k qm sm] := hD
  have hS : va_S A s.heap H locs := by rw [eH, el]; exact hS
  suffices goal : W p l e ({ frames := 2, cells := 0, slots := 0, locals := 46 } : Room) s m ([.ref (qm 0), .int p0, .int p1, .int p2] : List Value).toArray below meth c H locs 0 0 Q (F0 m 0 ls []) by rw [eH, el] at goal; exact goal
  refine lv_iload_n hx hb dX12_takes_0 rfl (lv_at hl 1 rfl) ?_
  refine g_ir (g_runS (wc := []) (rest := []) cx hP hD hS [] rfl (by decide) [.int p0] (c_X12_isRule l D k b H.size p0) gX12_takes_X12_isRule rfl rfl rfl nd_X12_isRule ⟨Nat.le_of_ble_eq_true rfl, Nat.le_of_ble_eq_true rfl⟩ rfl hl.1 rfl (Nat.le_of_ble_eq_true rfl) ⟨Nat.zero_le _, Nat.zero_le _⟩ dX12_takes_1) cx.2.2.1 hP hD hS [] rfl rfl (fun r2 H locs hw1 hP hS => ?_)
  replace hw1 : (0 ≤ r2.toInt ∧ r2.toInt ≤ 1) ∧ (Imp (r2.toInt = 1) (0 ≤ p0.toInt ∧ p0.toInt ≤ 2)) ∧ (r2 = J_X12_isRule p0) := hw1
  obtain ⟨w3, w4, w5⟩ := hw1
  have k7 : r2 = (J_X12_isRule p0) := congrArg (fun z => z) w5
  have zr2 : 0 ≤ r2.toInt ∧ r2.toInt ≤ 1 := w3
  refine lv_if_eq (tgt := 15) hx hb dX12_takes_4 (by decide) (fun c8 => ?_) (fun c8 => ?_)
  · have f8 : r2.toInt = 0 := f_eq rfl (by decide) c8
    refine lv_iconst (v := (-1)) hx hb dX12_takes_15 (by decide) ?_
    have hlit9 : ((-1) : Int32).toInt = -1 := by decide
    rw [hQ]
    exact x_i cx hr () hP hD hS (show ((-1) : Int32) = J_X12_takes sm tm p0 p1 p2 from by subst k7; first | (refine Eq.symm ?_; refine Eq.trans (if_pos c8) ?_; rfl) | (unfold J_X12_takes; try dsimp only; rw [if_pos c8])) dX12_takes_16
  · have f8 : ¬ r2.toInt = 0 := f_ne rfl (by decide) c8
    have k8 : (0 ≤ p0.toInt ∧ p0.toInt ≤ 2) := w4 (by omega)
    refine lv_aload_n hx hb dX12_takes_7 rfl (lv_at hl 0 rfl) ?_
    refine lv_iload_n hx hb dX12_takes_8 rfl (lv_at hl 2 rfl) ?_
    refine g_iF (w1 := fun (_ : Unit) => [cell22_ qm sm tm, cell5_ k qm sm, cell13_ k qm sm, cell8_ k qm sm, cell6_ k qm sm, cell14_ k qm sm, cell15_ k qm tm, cell12_ k qm tm, cell18_ k qm tm, cell17_ k qm tm, cell19_ k qm tm, cell21_ k qm tm, cell20_ k qm sm, cell16_ k qm sm, cell11_ k qm sm, cell10_ k qm sm, cell9_ k qm sm, cell7_ k qm sm]) (g_runVF (ws := [cell22_ qm sm tm, cell5_ k qm sm, cell13_ k qm sm, cell8_ k qm sm, cell6_ k qm sm, cell14_ k qm sm, cell15_ k qm tm, cell12_ k qm tm, cell18_ k qm tm, cell17_ k qm tm, cell19_ k qm tm, cell21_ k qm tm, cell20_ k qm sm, cell16_ k qm sm, cell11_ k qm sm, cell10_ k qm sm, cell9_ k qm sm, cell7_ k qm sm]) (rest := []) cx hP hD hS [.int p1] (c_X12_isWeek l D k b qm sm tm H.size p1 (show 0 ≤ ((sm 2) 0).toInt ∧ ((sm 2) 0).toInt ≤ 5 from by first | decide | omega)) gX12_takes_X12_isWeek rfl rfl rfl nd_X12_isWeek ⟨Nat.le_of_ble_eq_true rfl, Nat.le_of_ble_eq_true rfl⟩ (ci := 10) (q0 := 0) rfl rfl rfl hl.1 rfl (Nat.le_of_ble_eq_true rfl) ⟨Nat.zero_le _, Nat.zero_le _⟩ dX12_takes_9) cx.2.2.1 hD hS (fun r11 _ H locs hw10 hP hD hS => ?_)
    replace hw10 : (0 ≤ r11.toInt ∧ r11.toInt ≤ 1) ∧ (Imp (r11.toInt = 1) (0 ≤ p1.toInt ∧ p1.toInt ≤ 4)) ∧ (r11 = J_X12_isWeek sm tm p1) := hw10
    obtain ⟨w12, w13, w14⟩ := hw10
    have k16 : r11 = (J_X12_isWeek sm tm p1) := congrArg (fun z => z) w14
    have zr11 : 0 ≤ r11.toInt ∧ r11.toInt ≤ 1 := w12
    refine lv_if_ne (tgt := 17) hx hb dX12_takes_12 (by decide) (fun c17 => ?_) (fun c17 => ?_)
    · have f17 : ¬ r11.toInt = 0 := f_ne rfl (by decide) c17
      have k17 : (0 ≤ p1.toInt ∧ p1.toInt ≤ 4) := w13 (by omega)
      refine lv_aload_n hx hb dX12_takes_17 rfl (lv_at hl 0 rfl) ?_
      refine lv_iload_n hx hb dX12_takes_18 rfl (lv_at hl 3 rfl) ?_
      refine g_iF (w1 := fun (_ : Unit) => [cell22_ qm sm tm, cell5_ k qm sm, cell13_ k qm sm, cell8_ k qm sm, cell6_ k qm sm, cell14_ k qm sm, cell15_ k qm tm, cell12_ k qm tm, cell18_ k qm tm, cell17_ k qm tm, cell19_ k qm tm, cell21_ k qm tm, cell20_ k qm sm, cell16_ k qm sm, cell11_ k qm sm, cell10_ k qm sm, cell9_ k qm sm, cell7_ k qm sm]) (g_runVF (ws := [cell22_ qm sm tm, cell5_ k qm sm, cell13_ k qm sm, cell8_ k qm sm, cell6_ k qm sm, cell14_ k qm sm, cell15_ k qm tm, cell12_ k qm tm, cell18_ k qm tm, cell17_ k qm tm, cell19_ k qm tm, cell21_ k qm tm, cell20_ k qm sm, cell16_ k qm sm, cell11_ k qm sm, cell10_ k qm sm, cell9_ k qm sm, cell7_ k qm sm]) (rest := []) cx hP hD hS [.int p2] (c_X12_isHands l D k b qm sm tm H.size p2 (show 0 ≤ ((sm 2) 1).toInt ∧ ((sm 2) 1).toInt ≤ 4 from by first | decide | omega)) gX12_takes_X12_isHands rfl rfl rfl nd_X12_isHands ⟨Nat.le_of_ble_eq_true rfl, Nat.le_of_ble_eq_true rfl⟩ (ci := 10) (q0 := 0) rfl rfl rfl hl.1 rfl (Nat.le_of_ble_eq_true rfl) ⟨Nat.zero_le _, Nat.zero_le _⟩ dX12_takes_19) cx.2.2.1 hD hS (fun r19 _ H locs hw18 hP hD hS => ?_)
      replace hw18 : (0 ≤ r19.toInt ∧ r19.toInt ≤ 1) ∧ (Imp (r19.toInt = 1) (0 ≤ p2.toInt ∧ p2.toInt ≤ 400)) ∧ (r19 = J_X12_isHands sm tm p2) := hw18
      obtain ⟨w20, w21, w22⟩ := hw18
      have k24 : r19 = (J_X12_isHands sm tm p2) := congrArg (fun z => z) w22
      have zr19 : 0 ≤ r19.toInt ∧ r19.toInt ≤ 1 := w20
      refine lv_if_eq (tgt := 38) hx hb dX12_takes_22 (by decide) (fun c25 => ?_) (fun c25 => ?_)
      · have f25 : r19.toInt = 0 := f_eq rfl (by decide) c25
        refine lv_bipush (v := (-2)) hx hb dX12_takes_38 (by decide) ?_
        have hlit26 : ((-2) : Int32).toInt = -2 := by decide
        rw [hQ]
        exact x_i cx hr () hP hD hS (show ((-2) : Int32) = J_X12_takes sm tm p0 p1 p2 from by subst k7 k16 k24; first | (refine Eq.symm ?_; refine Eq.trans (if_neg c8) ?_; refine Eq.trans (if_neg c17) ?_; refine Eq.trans (if_pos c25) ?_; rfl) | (unfold J_X12_takes; try dsimp only; rw [if_neg c8, if_neg c17, if_pos c25])) dX12_takes_40
      · have f25 : ¬ r19.toInt = 0 := f_ne rfl (by decide) c25
        have k25 : (0 ≤ p2.toInt ∧ p2.toInt ≤ 400) := w21 (by omega)
        refine lv_aload_n hx hb dX12_takes_25 rfl (lv_at hl 0 rfl) ?_
        refine lv_iload_n hx hb dX12_takes_26 rfl (lv_at hl 1 rfl) ?_
        refine lv_iload_n hx hb dX12_takes_27 rfl (lv_at hl 2 rfl) ?_
        refine lv_iload_n hx hb dX12_takes_28 rfl (lv_at hl 3 rfl) ?_
        refine g_iF (w1 := fun (_ : Unit) => [cell22_ qm sm tm, cell5_ k qm sm, cell13_ k qm sm, cell8_ k qm sm, cell6_ k qm sm, cell14_ k qm sm, cell15_ k qm tm, cell12_ k qm tm, cell18_ k qm tm, cell17_ k qm tm, cell19_ k qm tm, cell21_ k qm tm, cell20_ k qm sm, cell16_ k qm sm, cell11_ k qm sm, cell10_ k qm sm, cell9_ k qm sm, cell7_ k qm sm]) (g_runVF (ws := [cell22_ qm sm tm, cell5_ k qm sm, cell13_ k qm sm, cell8_ k qm sm, cell6_ k qm sm, cell14_ k qm sm, cell15_ k qm tm, cell12_ k qm tm, cell18_ k qm tm, cell17_ k qm tm, cell19_ k qm tm, cell21_ k qm tm, cell20_ k qm sm, cell16_ k qm sm, cell11_ k qm sm, cell10_ k qm sm, cell9_ k qm sm, cell7_ k qm sm]) (rest := []) cx hP hD hS [.int p0, .int p1, .int p2] (c_X12_ruleAct l D k b qm sm tm H.size p0 p1 p2 (show 0 ≤ p0.toInt ∧ p0.toInt ≤ 2 from by first | decide | omega) (show 0 ≤ p1.toInt ∧ p1.toInt ≤ 4 from by first | decide | omega)) gX12_takes_X12_ruleAct rfl rfl rfl nd_X12_ruleAct ⟨Nat.le_of_ble_eq_true rfl, Nat.le_of_ble_eq_true rfl⟩ (ci := 10) (q0 := 0) rfl rfl rfl hl.1 rfl (Nat.le_of_ble_eq_true rfl) ⟨Nat.zero_le _, Nat.zero_le _⟩ dX12_takes_29) cx.2.2.1 hD hS (fun r28 _ H locs hw27 hP hD hS => ?_)
        have w29 : r28 = J_X12_ruleAct sm tm p0 p1 p2 := hw27
        clear hw27
        have k31 : r28 = (J_X12_ruleAct sm tm p0 p1 p2) := congrArg (fun z => z) w29
        refine lv_bipush (v := 100) hx hb dX12_takes_32 (by decide) ?_
        refine lv_idiv hx hb dX12_takes_34 (by decide) (lv_topi (fun v32 e32 => ?_))
        refine lv_goto (tgt := 40) hx hb dX12_takes_35 (by decide) ?_
        rw [hQ]
        exact x_i cx hr () hP hD hS (show v32 = J_X12_takes sm tm p0 p1 p2 from by subst k7 k16 k24 k31 e32; first | (refine Eq.symm ?_; refine Eq.trans (if_neg c8) ?_; refine Eq.trans (if_neg c17) ?_; refine Eq.trans (if_neg c25) ?_; rfl) | (unfold J_X12_takes; try dsimp only; rw [if_neg c8, if_neg c17, if_neg c25])) dX12_takes_40
    · have f17 : r11.toInt = 0 := f_eq rfl (by decide) c17
      refine lv_iconst (v := (-1)) hx hb dX12_takes_15 (by decide) ?_
      have hlit33 : ((-1) : Int32).toInt = -1 := by decide
      rw [hQ]
      exact x_i cx hr () hP hD hS (show ((-1) : Int32) = J_X12_takes sm tm p0 p1 p2 from by subst k7 k16; first | (refine Eq.symm ?_; refine Eq.trans (if_neg c8) ?_; refine Eq.trans (if_pos c17) ?_; rfl) | (unfold J_X12_takes; try dsimp only; rw [if_neg c8, if_pos c17])) dX12_takes_16

