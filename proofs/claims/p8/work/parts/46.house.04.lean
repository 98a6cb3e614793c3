theorem fw_X4_leaving_102 : Cond.fieldLink RX4 102 "StillInAugust$House" "POWERS" "[I" ∈ wsX4_leaving := by decide +kernel
theorem fw_X4_leaving_114 : Cond.fieldLink RX4 114 "StillInAugust$House" "WAYS" "[I" ∈ wsX4_leaving := by decide +kernel
theorem nd_X3_has : yX3_has.cls ≠ "java/lang/invoke/MethodHandle" ∧ yX3_has.cls ≠ "java/lang/invoke/VarHandle" ∧ (parseMethodDescriptor yX3_has.desc).map (fun d => d.parameters.length) = some 2 := by decide +kernel
theorem nd_X3_ofAge : yX3_ofAge.cls ≠ "java/lang/invoke/MethodHandle" ∧ yX3_ofAge.cls ≠ "java/lang/invoke/VarHandle" ∧ (parseMethodDescriptor yX3_ofAge.desc).map (fun d => d.parameters.length) = some 2 := by decide +kernel
theorem nd_X4_fifths : yX4_fifths.cls = RX4 ∧ yX4_fifths.cls ≠ "java/lang/invoke/MethodHandle" ∧ yX4_fifths.cls ≠ "java/lang/invoke/VarHandle" ∧ (parseMethodDescriptor yX4_fifths.desc).map (fun d => d.parameters.length) = some 1 := by decide +kernel
set_option maxHeartbeats 4000000 in
set_option maxRecDepth 100000 in
theorem c_X4_leaving (l : Launch) (D : va_G) (k : Nat → ClassId) (b : Nat → Nat) (qh : Nat → Nat) (sh : Nat → Nat → Int32) (sz : Nat) (p0 : Int32) (p1 : Int32) (h_fl : 0 ≤ (sh 0 12).toInt ∧ (sh 0 12).toInt ≤ 5) (h_go : ∀ j, 0 ≤ (sh 3 j).toInt ∧ (sh 3 j).toInt ≤ 5) (hv : 0 ≤ p0.toInt ∧ p0.toInt ≤ 400 ∧ tot p0 ≤ 4) (hg : 0 ≤ p1.toInt ∧ p1.toInt ≤ 444) : MetI l D k b yX4_leaving wsX4_leaving ({ frames := 2, cells := 0, slots := 0, locals := 42 } : Room) [cell32_ qh sh, cell0_ k qh sh, cell1_ k qh sh, cell4_ k qh sh, cell3_ k qh sh, cell2_ k qh sh] sz [.ref (qh 0), .int p0, .int p1] (fun (r : Int32) (u : Unit) => r.toInt = 0 ∨ (hasI p0 p1)) (fun u => [cell32_ qh sh, cell0_ k qh sh, cell1_ k qh sh, cell4_ k qh sh, cell3_ k qh sh, cell2_ k qh sh]) := by
  refine g_enter (cc := cX4_leaving) (maxL := 8) (ret := (some .int)) (by decide) rfl (Nat.le_of_ble_eq_true rfl) ?_
  intro p e s m below meth c A hsz hAe cx hr hP hD hS ls hl
  rw [hAe]
  refine g_q (fun Q hQ => ?_)
  have hx := cx.1.1
  have hb := cx.1.2.1
  have bp0 := i_rng p0
  have bp1 := i_rng p1
  have hl : lv_has ls 8 [(0, .ref (qh 0)), (1, .int p0), (2, .int p1)] := hl
  obtain ⟨H, eH⟩ : ∃ H : Heap, H = s.heap := ⟨_, rfl⟩
  obtain ⟨locs, el⟩ : ∃ L : List Loc, L = [] := ⟨_, rfl⟩
  have hP : va_P D vwCl [cell32_ qh sh, cell0_ k qh sh, cell1_ k qh sh, cell4_ k qh sh, cell3_ k qh sh, cell2_ k qh sh] H := by rw [eH]; exact hP
  have hD : va_D A [cell32_ qh sh, cell0_ k qh sh, cell1_ k qh sh, cell4_ k qh sh, cell3_ k qh sh, cell2_ k qh sh] := hD
  have hS : va_S A s.heap H locs := by rw [eH, el]; exact hS
  suffices goal : W p l e ({ frames := 2, cells := 0, slots := 0, locals := 42 } : Room) s m ([.ref (qh 0), .int p0, .int p1] : List Value).toArray below meth c H locs 0 0 Q (F0 m 0 ls []) by rw [eH, el] at goal; exact goal
  refine lv_iload_n hx hb dX4_leaving_0 rfl (lv_at hl 1 rfl) ?_
  refine lv_iload_n hx hb dX4_leaving_1 rfl (lv_at hl 2 rfl) ?_
  refine g_ir (g_runS (wc := []) (rest := []) cx hP hD hS [] rfl (by decide) [.int p0, .int p1] (c_X3_has l D k b H.size p0 p1) gX4_leaving_X3_has rfl rfl rfl nd_X3_has ⟨Nat.le_of_ble_eq_true rfl, Nat.le_of_ble_eq_true rfl⟩ rfl hl.1 rfl (Nat.le_of_ble_eq_true rfl) ⟨Nat.zero_le _, Nat.zero_le _⟩ dX4_leaving_2) cx.2.2.1 hP hD hS [] rfl rfl (fun r2 H locs hw1 hP hS => ?_)
  have w3 : r2 = J_X3_has p0 p1 := hw1
  clear hw1
  have zr2 := has_b w3
  refine lv_if_ne (tgt := 10) hx hb dX4_leaving_5 (by decide) (fun c4 => ?_) (fun c4 => ?_)
  · have f4 : ¬ r2.toInt = 0 := f_ne rfl (by decide) c4
    have k4 : hasI p0 p1 := has_t w3 c4 (by omega) (by omega)
    refine va_gets hx hb cx.2.2.2.t3.1 hS cx.1.2.2.2.1 (cx.1.2.2.2.2 _ fw_X4_leaving_102) (fun _ h => h) dX4_leaving_10 ?_
    refine lv_bipush (v := 29) hx hb dX4_leaving_13 (by decide) ?_
    refine lv_iload_n hx hb dX4_leaving_15 rfl (lv_at hl 1 rfl) ?_
    refine g_ir (g_runS (wc := []) (rest := [.int 29, .ref (b 3)]) cx hP hD hS [] rfl (by decide) [.int p0] (c_X3_total l D k b H.size p0) gX4_leaving_X3_total rfl rfl rfl nd_X3_total ⟨Nat.le_of_ble_eq_true rfl, Nat.le_of_ble_eq_true rfl⟩ rfl hl.1 rfl (Nat.le_of_ble_eq_true rfl) ⟨Nat.zero_le _, Nat.zero_le _⟩ dX4_leaving_16) cx.2.2.1 hP hD hS [] rfl rfl (fun r6 H locs hw5 hP hS => ?_)
    have w7 : r6 = J_X3_total p0 := hw5
    clear hw5
    have zr6 : r6.toInt = tot p0 := tot3 w7 (show 0 ≤ p0.toInt from by first | decide | omega)
    have yr6 := tot_0 (x := p0) (by first | decide | omega)
    refine lv_isub hx hb dX4_leaving_19 (lv_topi (fun v8 e8 => ?_))
    have t8 : v8.toInt = 29 - r6.toInt := by rw [e8]; exact i_sub (by decide) rfl (by omega) (by omega)
    have hn9 : vp_in v8 30 := f_in (a := v8.toInt) rfl (by omega) (by omega)
    refine va_ti hx hb cx.2.2.2.t3.2 hS hn9 rfl dX4_leaving_20 (lv_topi (fun v10 e10 => ?_))
    have t10 : 0 ≤ v10.toInt ∧ v10.toInt ≤ 625 := by rw [e10]; exact zPOW_b _
    refine lv_istore_n (lv' := [(3, .int v10), (0, .ref (qh 0)), (1, .int p0), (2, .int p1)]) hx hb dX4_leaving_21 rfl hl (by decide) rfl (fun ls hl => ?_)
    refine lv_iconst (v := 0) hx hb dX4_leaving_22 (by decide) ?_
    refine lv_istore (lv' := [(4, .int 0), (3, .int v10), (0, .ref (qh 0)), (1, .int p0), (2, .int p1)]) hx hb dX4_leaving_23 hl (by decide) rfl (fun ls hl => ?_)
    have hL25 : ∀ (n46 : Nat) (v44 : Int32) (v45 : Int32) (H : Heap) (locs : List Loc) (ls : Array Slot), 3 - v44.toInt < (n46 : Int) → (0 ≤ v44.toInt ∧ v44.toInt ≤ 3) → va_P D vwCl [cell32_ qh sh, cell0_ k qh sh, cell1_ k qh sh, cell4_ k qh sh, cell3_ k qh sh, cell2_ k qh sh] H → va_D A [cell32_ qh sh, cell0_ k qh sh, cell1_ k qh sh, cell4_ k qh sh, cell3_ k qh sh, cell2_ k qh sh] → va_S A s.heap H locs → lv_has ls 8 [(4, .int v44), (3, .int v45), (0, .ref (qh 0)), (1, .int p0), (2, .int p1)] → W p l e ({ frames := 2, cells := 0, slots := 0, locals := 42 } : Room) s m ([.ref (qh 0), .int p0, .int p1] : List Value).toArray below meth c H locs 0 0 Q (F0 m 25 ls []) := by
      intro n46
      induction n46 with
      | zero => intro v44 v45 H locs ls hmn46 bv44 hP hD hS hl; exact absurd hmn46 (by omega)
      | succ n46 ih25 =>
        intro v44 v45 H locs ls hmn46 bv44 hP hD hS hl
        refine lv_iload hx hb dX4_leaving_25 (lv_at hl 0 rfl) ?_
        refine lv_iconst (v := 3) hx hb dX4_leaving_27 (by decide) ?_
        refine lv_icmp_ge (tgt := 104) hx hb dX4_leaving_28 (by decide) (fun c47 => ?_) (fun c47 => ?_)
        · have f47 : 3 ≤ v44.toInt := f_le (by decide) rfl c47
          refine lv_iload_n hx hb dX4_leaving_104 rfl (lv_at hl 1 rfl) ?_
          rw [hQ]
          exact x_i cx hr () hP hD hS (show v45.toInt = 0 ∨ (hasI p0 p1) from by first | exact Or.inl (by first | decide | omega) | exact Or.inr (by assumption)) dX4_leaving_105
        · have f47 : v44.toInt < 3 := f_nle (by decide) rfl c47
          refine lv_iload_n hx hb dX4_leaving_31 rfl (lv_at hl 3 rfl) ?_
          refine lv_iload hx hb dX4_leaving_32 (lv_at hl 0 rfl) ?_
          refine g_ir (g_runS (wc := []) (rest := []) cx hP hD hS [] rfl (by decide) [.int p0, .int v44] (c_X3_ofAge l D k b H.size p0 v44) gX4_leaving_X3_ofAge rfl rfl rfl nd_X3_ofAge ⟨Nat.le_of_ble_eq_true rfl, Nat.le_of_ble_eq_true rfl⟩ rfl hl.1 rfl (Nat.le_of_ble_eq_true rfl) ⟨Nat.zero_le _, Nat.zero_le _⟩ dX4_leaving_34) cx.2.2.1 hP hD hS [] rfl rfl (fun r49 H locs hw48 hP hS => ?_)
          have w50 : r49 = J_X3_ofAge p0 v44 := hw48
          clear hw48
          have ow1 := w50
          refine lv_istore (lv' := [(5, .int r49), (4, .int v44), (3, .int v45), (0, .ref (qh 0)), (1, .int p0), (2, .int p1)]) hx hb dX4_leaving_37 hl (by decide) rfl (fun ls hl => ?_)
          refine lv_iload_n hx hb dX4_leaving_39 rfl (lv_at hl 5 rfl) ?_
          refine lv_iload hx hb dX4_leaving_40 (lv_at hl 1 rfl) ?_
          refine g_ir (g_runS (wc := []) (rest := []) cx hP hD hS [] rfl (by decide) [.int p1, .int v44] (c_X3_ofAge l D k b H.size p1 v44) gX4_leaving_X3_ofAge rfl rfl rfl nd_X3_ofAge ⟨Nat.le_of_ble_eq_true rfl, Nat.le_of_ble_eq_true rfl⟩ rfl hl.1 rfl (Nat.le_of_ble_eq_true rfl) ⟨Nat.zero_le _, Nat.zero_le _⟩ dX4_leaving_42) cx.2.2.1 hP hD hS [] rfl rfl (fun r52 H locs hw51 hP hS => ?_)
          have w53 : r52 = J_X3_ofAge p1 v44 := hw51
          clear hw51
          have ab := age_b ow1 w53 hv (by omega) (by assumption)
          refine lv_istore (lv' := [(6, .int r52), (5, .int r49), (4, .int v44), (3, .int v45), (0, .ref (qh 0)), (1, .int p0), (2, .int p1)]) hx hb dX4_leaving_45 hl (by decide) rfl (fun ls hl => ?_)
          refine lv_aload_n hx hb dX4_leaving_47 rfl (lv_at hl 4 rfl) ?_
          refine lv_iload hx hb dX4_leaving_48 (lv_at hl 2 rfl) ?_
          refine g_iF (w1 := fun (_ : Unit) => [cell32_ qh sh, cell0_ k qh sh, cell1_ k qh sh, cell4_ k qh sh, cell3_ k qh sh, cell2_ k qh sh]) (g_runVF (ws := [cell32_ qh sh, cell0_ k qh sh, cell1_ k qh sh, cell4_ k qh sh, cell3_ k qh sh, cell2_ k qh sh]) (rest := []) cx hP hD hS [.int v44] (c_X4_fifths l D k b qh sh H.size v44 (show 0 ≤ (sh 0 12).toInt ∧ (sh 0 12).toInt ≤ 5 from by first | decide | omega) h_go (show 0 ≤ v44.toInt ∧ v44.toInt ≤ 2 from by first | decide | omega)) gX4_leaving_X4_fifths rfl rfl rfl nd_X4_fifths ⟨Nat.le_of_ble_eq_true rfl, Nat.le_of_ble_eq_true rfl⟩ (ci := 2) (q0 := 0) rfl rfl rfl hl.1 rfl (Nat.le_of_ble_eq_true rfl) ⟨Nat.zero_le _, Nat.zero_le _⟩ dX4_leaving_50) cx.2.2.1 hD hS (fun r55 _ H locs hw54 hP hD hS => ?_)
          replace hw54 : (0 ≤ r55.toInt ∧ r55.toInt ≤ 5) ∧ (r55 = J_X4_fifths sh v44) := hw54
          obtain ⟨w56, w57⟩ := hw54
          have k59 : r55 = (J_X4_fifths sh v44) := congrArg (fun z => z) w57
          refine lv_istore (lv' := [(7, .int r55), (6, .int r52), (5, .int r49), (4, .int v44), (3, .int v45), (0, .ref (qh 0)), (1, .int p0), (2, .int p1)]) hx hb dX4_leaving_53 hl (by decide) rfl (fun ls hl => ?_)
          refine lv_iload_n hx hb dX4_leaving_55 rfl (lv_at hl 4 rfl) ?_
          refine va_gets hx hb cx.2.2.2.t2.1 hS cx.1.2.2.2.1 (cx.1.2.2.2.2 _ fw_X4_leaving_114) (fun _ h => h) dX4_leaving_56 ?_
          refine lv_iconst (v := 5) hx hb dX4_leaving_59 (by decide) ?_
          refine lv_iload hx hb dX4_leaving_60 (lv_at hl 2 rfl) ?_
          refine lv_imul hx hb dX4_leaving_62 (lv_topi (fun v60 e60 => ?_))
          have t60 : v60.toInt = 5 * r49.toInt := by rw [e60]; exact i_mul (by decide) rfl (by omega) (by omega)
          refine lv_iload hx hb dX4_leaving_63 (lv_at hl 1 rfl) ?_
          refine lv_iadd hx hb dX4_leaving_65 (lv_topi (fun v61 e61 => ?_))
          have t61 : v61.toInt = v60.toInt + r52.toInt := by rw [e61]; exact i_add rfl rfl (by omega) (by omega)
          have hn62 : vp_in v61 25 := f_in (a := v61.toInt) rfl (by omega) (by omega)
          refine va_ti hx hb cx.2.2.2.t2.2 hS hn62 rfl dX4_leaving_66 (lv_topi (fun v63 e63 => ?_))
          have t63 : 0 ≤ v63.toInt ∧ v63.toInt ≤ 6 := by rw [e63]; exact zWAY_b _
          refine va_gets hx hb cx.2.2.2.t3.1 hS cx.1.2.2.2.1 (cx.1.2.2.2.2 _ fw_X4_leaving_102) (fun _ h => h) dX4_leaving_67 ?_
          refine lv_iconst (v := 5) hx hb dX4_leaving_70 (by decide) ?_
          refine lv_iload hx hb dX4_leaving_71 (lv_at hl 0 rfl) ?_
          refine lv_imul hx hb dX4_leaving_73 (lv_topi (fun v64 e64 => ?_))
          have t64 : v64.toInt = 5 * r55.toInt := by rw [e64]; exact i_mul (by decide) rfl (by omega) (by omega)
          refine lv_iload hx hb dX4_leaving_74 (lv_at hl 1 rfl) ?_
          refine lv_iadd hx hb dX4_leaving_76 (lv_topi (fun v65 e65 => ?_))
          have t65 : v65.toInt = v64.toInt + r52.toInt := by rw [e65]; exact i_add rfl rfl (by omega) (by omega)
          have hn66 : vp_in v65 30 := f_in (a := v65.toInt) rfl (by omega) (by omega)
          refine va_ti hx hb cx.2.2.2.t3.2 hS hn66 rfl dX4_leaving_77 (lv_topi (fun v67 e67 => ?_))
          have t67 : 0 ≤ v67.toInt ∧ v67.toInt ≤ 625 := by rw [e67]; exact zPOW_b _
          refine lv_imul hx hb dX4_leaving_78 (lv_topi (fun v68 e68 => ?_))
          have t68b : 0 ≤ v63.toInt * v67.toInt ∧ v63.toInt * v67.toInt ≤ 3750 := ⟨Int.mul_nonneg (by omega) (by omega), Int.le_trans (Int.mul_le_mul (c := 6) (d := 625) (by omega) (by omega) (by omega) (by omega)) (by decide)⟩
          have t68c : v68.toInt = v63.toInt * v67.toInt := by rw [e68]; exact i_mul rfl rfl (by omega) (by omega)
          have t68 : 0 ≤ v68.toInt ∧ v68.toInt ≤ 3750 := by rw [t68c]; exact t68b
          refine va_gets hx hb cx.2.2.2.t3.1 hS cx.1.2.2.2.1 (cx.1.2.2.2.2 _ fw_X4_leaving_102) (fun _ h => h) dX4_leaving_79 ?_
          refine lv_iconst (v := 5) hx hb dX4_leaving_82 (by decide) ?_
          refine lv_iconst (v := 5) hx hb dX4_leaving_83 (by decide) ?_
          refine lv_iload hx hb dX4_leaving_84 (lv_at hl 0 rfl) ?_
          refine lv_isub hx hb dX4_leaving_86 (lv_topi (fun v69 e69 => ?_))
          have t69 : v69.toInt = 5 - r55.toInt := by rw [e69]; exact i_sub (by decide) rfl (by omega) (by omega)
          refine lv_imul hx hb dX4_leaving_87 (lv_topi (fun v70 e70 => ?_))
          have t70 : v70.toInt = 5 * v69.toInt := by rw [e70]; exact i_mul (by decide) rfl (by omega) (by omega)
          refine lv_iload hx hb dX4_leaving_88 (lv_at hl 2 rfl) ?_
          refine lv_iadd hx hb dX4_leaving_90 (lv_topi (fun v71 e71 => ?_))
          have t71 : v71.toInt = v70.toInt + r49.toInt := by rw [e71]; exact i_add rfl rfl (by omega) (by omega)
          refine lv_iload hx hb dX4_leaving_91 (lv_at hl 1 rfl) ?_
          refine lv_isub hx hb dX4_leaving_93 (lv_topi (fun v72 e72 => ?_))
          have t72 : v72.toInt = v71.toInt - r52.toInt := by rw [e72]; exact i_sub rfl rfl (by omega) (by omega)
          have hn73 : vp_in v72 30 := f_in (a := v72.toInt) rfl (by omega) (by omega)
          refine va_ti hx hb cx.2.2.2.t3.2 hS hn73 rfl dX4_leaving_94 (lv_topi (fun v74 e74 => ?_))
          have t74 : 0 ≤ v74.toInt ∧ v74.toInt ≤ 625 := by rw [e74]; exact zPOW_b _
          refine lv_imul hx hb dX4_leaving_95 (lv_topi (fun v75 e75 => ?_))
          have t75b : 0 ≤ v68.toInt * v74.toInt ∧ v68.toInt * v74.toInt ≤ 2343750 := ⟨Int.mul_nonneg (by omega) (by omega), Int.le_trans (Int.mul_le_mul (c := 3750) (d := 625) (by omega) (by omega) (by omega) (by omega)) (by decide)⟩
          have t75c : v75.toInt = v68.toInt * v74.toInt := by rw [e75]; exact i_mul rfl rfl (by omega) (by omega)
          have t75 : 0 ≤ v75.toInt ∧ v75.toInt ≤ 2343750 := by rw [t75c]; exact t75b
          refine lv_imul hx hb dX4_leaving_96 (lv_topi (fun v76 e76 => ?_))
          refine lv_istore_n (lv' := [(3, .int v76), (7, .int r55), (6, .int r52), (5, .int r49), (4, .int v44), (0, .ref (qh 0)), (1, .int p0), (2, .int p1)]) hx hb dX4_leaving_97 rfl hl (by decide) rfl (fun ls hl => ?_)
          obtain ⟨v77, e77⟩ : ∃ z : Int32, z = v44 + 1 := ⟨_, rfl⟩
          refine lv_iinc (v := v77) (lv' := [(4, .int v77), (3, .int v76), (7, .int r55), (6, .int r52), (5, .int r49), (0, .ref (qh 0)), (1, .int p0), (2, .int p1)]) hx hb dX4_leaving_98 hl (k := 4) rfl (by rw [e77]; rfl) (by decide) rfl (fun ls hl => ?_)
          have t77 : v77.toInt = v44.toInt + 1 := by rw [e77]; exact i_add rfl (by decide) (by omega) (by omega)
          refine lv_goto (tgt := 25) hx hb dX4_leaving_101 (by decide) ?_
          exact ih25 v77 v76 _ _ _ (by omega) (by first | decide | omega) hP hD hS (lv_sub hl [0, 1, 5, 6, 7] rfl)
    have hlit78 : (0 : Int32).toInt = 0 := by decide
    exact hL25 (Int.toNat (3 - 0) + 1) 0 v10 _ _ _ (by omega) (by first | decide | omega) hP hD hS (lv_sub hl [0, 1, 2, 3, 4] rfl)
  · have f4 : r2.toInt = 0 := f_eq rfl (by decide) c4
    refine lv_iconst (v := 0) hx hb dX4_leaving_8 (by decide) ?_
    have hlit79 : (0 : Int32).toInt = 0 := by decide
    rw [hQ]
    exact x_i cx hr () hP hD hS (show (0 : Int32).toInt = 0 ∨ (hasI p0 p1) from by first | exact Or.inl (by first | decide | omega) | exact Or.inr (by assumption)) dX4_leaving_9
