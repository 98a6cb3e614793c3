theorem nd_X3_areAtMost : yX3_areAtMost.cls ≠ "java/lang/invoke/MethodHandle" ∧ yX3_areAtMost.cls ≠ "java/lang/invoke/VarHandle" ∧ (parseMethodDescriptor yX3_areAtMost.desc).map (fun d => d.parameters.length) = some 2 := by decide +kernel
theorem nd_X4_partsTo : yX4_partsTo.cls = RX4 ∧ yX4_partsTo.cls ≠ "java/lang/invoke/MethodHandle" ∧ yX4_partsTo.cls ≠ "java/lang/invoke/VarHandle" ∧ (parseMethodDescriptor yX4_partsTo.desc).map (fun d => d.parameters.length) = some 2 := by decide +kernel
def J_X4_becomes (sh : Nat → Nat → Int32) (p0 : Int32) (p1 : Int32) : Int32 := if (J_X3_areAtMost p1 4) = 0 then (0 : Int32) else if p1 < 100 then LetF (J_X4_partsTo sh (J_X3_kind p0) (J_X3_kind p1)) (fun y18 => y18) else (0 : Int32)
theorem exl_X4_becomes_0 {sh : Nat → Nat → Int32} {p0 : Int32} {p1 : Int32} {r3 : Int32} (w4 : r3 = J_X3_areAtMost p1 (4 : Int32)) (c5 : r3 = (0 : Int32)) : (0 : Int32) = J_X4_becomes sh p0 p1 := by subst w4; refine Eq.symm ?_; unfold J_X4_becomes; refine Eq.trans (if_pos c5) ?_; rfl
theorem exl_X4_becomes_1 {sh : Nat → Nat → Int32} {p0 : Int32} {p1 : Int32} {r15 : Int32} {r3 : Int32} {r9 : Int32} {r12 : Int32} (w4 : r3 = J_X3_areAtMost p1 (4 : Int32)) (w10 : r9 = J_X3_kind p0) (w13 : r12 = J_X3_kind p1) (c5 : ¬ (r3 = (0 : Int32))) (c7 : p1 < (100 : Int32)) (w17 : r15 = J_X4_partsTo sh r9 r12) : r15 = J_X4_becomes sh p0 p1 := by subst w4 w10 w13; refine Eq.symm ?_; unfold J_X4_becomes; refine Eq.trans (if_neg c5) ?_; refine Eq.trans (if_pos c7) ?_; refine lt_e w17 ?_; rfl
theorem exl_X4_becomes_2 {sh : Nat → Nat → Int32} {p0 : Int32} {p1 : Int32} {r3 : Int32} (w4 : r3 = J_X3_areAtMost p1 (4 : Int32)) (c5 : ¬ (r3 = (0 : Int32))) (c7 : ¬ (p1 < (100 : Int32))) : (0 : Int32) = J_X4_becomes sh p0 p1 := by subst w4; refine Eq.symm ?_; unfold J_X4_becomes; refine Eq.trans (if_neg c5) ?_; refine Eq.trans (if_neg c7) ?_; rfl
set_option maxHeartbeats 4000000 in
set_option maxRecDepth 100000 in
theorem c_X4_becomes (l : Launch) (D : va_G) (k : Nat → ClassId) (b : Nat → Nat) (qh : Nat → Nat) (sh : Nat → Nat → Int32) (sz : Nat) (p0 : Int32) (p1 : Int32) (h_su : SUok (sh 5)) (hv : 0 ≤ p0.toInt ∧ p0.toInt ≤ 400 ∧ tot p0 ≤ 4) : MetI l D k b yX4_becomes wsX4_becomes ({ frames := 2, cells := 0, slots := 0, locals := 41 } : Room) [cell32_ qh sh, cell0_ k qh sh, cell1_ k qh sh, cell4_ k qh sh, cell3_ k qh sh, cell2_ k qh sh] sz [.ref (qh 0), .int p0, .int p1] (fun (r : Int32) (u : Unit) => r = J_X4_becomes sh p0 p1) (fun u => [cell32_ qh sh, cell0_ k qh sh, cell1_ k qh sh, cell4_ k qh sh, cell3_ k qh sh, cell2_ k qh sh]) := by
  refine g_enter (cc := cX4_becomes) (maxL := 3) (ret := (some .int)) (by decide) rfl (Nat.le_of_ble_eq_true rfl) ?_
  intro p e s m below meth c A hsz hAe cx hr hP hD hS ls hl
  rw [hAe]
  refine g_q (fun Q hQ => ?_)
  have hx := cx.1.1
  have hb := cx.1.2.1
  have bp0 := i_rng p0
  have bp1 := i_rng p1
  have hl : lv_has ls 3 [(0, .ref (qh 0)), (1, .int p0), (2, .int p1)] := hl
  obtain ⟨H, eH⟩ : ∃ H : Heap, H = s.heap := ⟨_, rfl⟩
  obtain ⟨locs, el⟩ : ∃ L : List Loc, L = [] := ⟨_, rfl⟩
  have hP : va_P D vwCl [cell32_ qh sh, cell0_ k qh sh, cell1_ k qh sh, cell4_ k qh sh, cell3_ k qh sh, cell2_ k qh sh] H := by rw [eH]; exact hP
  have hD : va_D A [cell32_ qh sh, cell0_ k qh sh, cell1_ k qh sh, cell4_ k qh sh, cell3_ k qh sh, cell2_ k qh sh] := hD
  have hS : va_S A s.heap H locs := by rw [eH, el]; exact hS
  suffices goal : W p l e ({ frames := 2, cells := 0, slots := 0, locals := 41 } : Room) s m ([.ref (qh 0), .int p0, .int p1] : List Value).toArray below meth c H locs 0 0 Q (F0 m 0 ls []) by rw [eH, el] at goal; exact goal
  refine lv_iload_n hx hb dX4_becomes_0 rfl (lv_at hl 2 rfl) ?_
  refine lv_iconst (v := 4) hx hb dX4_becomes_1 (by decide) ?_
  have hlit1 : (4 : Int32).toInt = 4 := by decide
  refine g_ir (g_runS (wc := []) (rest := []) cx hP hD hS [] rfl (by decide) [.int p1, .int 4] (c_X3_areAtMost l D k b H.size p1 4) gX4_becomes_X3_areAtMost rfl rfl rfl nd_X3_areAtMost ⟨Nat.le_of_ble_eq_true rfl, Nat.le_of_ble_eq_true rfl⟩ rfl hl.1 rfl (Nat.le_of_ble_eq_true rfl) ⟨Nat.zero_le _, Nat.zero_le _⟩ dX4_becomes_2) cx.2.2.1 hP hD hS [] rfl rfl (fun r3 H locs hw2 hP hS => ?_)
  have w4 : r3 = J_X3_areAtMost p1 (4 : Int32) := hw2
  clear hw2
  have hq4_ : (4 : Int32).toInt = 4 := by decide
  have zr3 := atm_b w4
  refine lv_if_eq (tgt := 14) hx hb dX4_becomes_5 (by decide) (fun c5 => ?_) (fun c5 => ?_)
  · have f5 : r3.toInt = 0 := f_eq rfl (by decide) c5
    refine lv_iconst (v := 0) hx hb dX4_becomes_14 (by decide) ?_
    have hlit6 : (0 : Int32).toInt = 0 := by decide
    rw [hQ]
    exact x_i cx hr () hP hD hS (show (0 : Int32) = J_X4_becomes sh p0 p1 from (exl_X4_becomes_0 w4 c5)) dX4_becomes_15
  · have f5 : ¬ r3.toInt = 0 := f_ne rfl (by decide) c5
    have k5 : (0 ≤ p1.toInt ∧ p1.toInt ≤ 400 ∧ tot p1 ≤ 4) ∧ tot p1 ≤ (4 : Int32).toInt := atm_v w4 c5 (by decide)
    refine lv_iload_n hx hb dX4_becomes_8 rfl (lv_at hl 2 rfl) ?_
    refine lv_bipush (v := 100) hx hb dX4_becomes_9 (by decide) ?_
    refine lv_icmp_lt (tgt := 16) hx hb dX4_becomes_11 (by decide) (fun c7 => ?_) (fun c7 => ?_)
    · have f7 : p1.toInt < 100 := f_lt rfl (by decide) c7
      refine lv_aload_n hx hb dX4_becomes_16 rfl (lv_at hl 0 rfl) ?_
      refine lv_iload_n hx hb dX4_becomes_17 rfl (lv_at hl 1 rfl) ?_
      refine g_ir (g_runS (wc := []) (rest := [.ref (qh 0)]) cx hP hD hS [] rfl (by decide) [.int p0] (c_X3_kind l D k b H.size p0 ⟨by first | decide | omega, by first | decide | omega, (show tot p0 ≤ 4 from by first | decide | omega)⟩) gX4_becomes_X3_kind rfl rfl rfl nd_X3_kind ⟨Nat.le_of_ble_eq_true rfl, Nat.le_of_ble_eq_true rfl⟩ rfl hl.1 rfl (Nat.le_of_ble_eq_true rfl) ⟨Nat.zero_le _, Nat.zero_le _⟩ dX4_becomes_18) cx.2.2.1 hP hD hS [] rfl rfl (fun r9 H locs hw8 hP hS => ?_)
      have w10 : r9 = J_X3_kind p0 := hw8
      clear hw8
      have zr9 := kind_t w10 ⟨by first | decide | omega, by first | decide | omega, (show tot p0 ≤ 4 from by first | decide | omega)⟩
      refine lv_iload_n hx hb dX4_becomes_21 rfl (lv_at hl 2 rfl) ?_
      refine g_ir (g_runS (wc := []) (rest := [.int r9, .ref (qh 0)]) cx hP hD hS [] rfl (by decide) [.int p1] (c_X3_kind l D k b H.size p1 ⟨by first | decide | omega, by first | decide | omega, (show tot p1 ≤ 4 from by first | decide | omega)⟩) gX4_becomes_X3_kind rfl rfl rfl nd_X3_kind ⟨Nat.le_of_ble_eq_true rfl, Nat.le_of_ble_eq_true rfl⟩ rfl hl.1 rfl (Nat.le_of_ble_eq_true rfl) ⟨Nat.zero_le _, Nat.zero_le _⟩ dX4_becomes_22) cx.2.2.1 hP hD hS [] rfl rfl (fun r12 H locs hw11 hP hS => ?_)
      have w13 : r12 = J_X3_kind p1 := hw11
      clear hw11
      have zr12 := kind_t w13 ⟨by first | decide | omega, by first | decide | omega, (show tot p1 ≤ 4 from by first | decide | omega)⟩
      refine g_iF (w1 := fun (_ : Unit) => [cell32_ qh sh, cell0_ k qh sh, cell1_ k qh sh, cell4_ k qh sh, cell3_ k qh sh, cell2_ k qh sh]) (g_runVF (ws := [cell32_ qh sh, cell0_ k qh sh, cell1_ k qh sh, cell4_ k qh sh, cell3_ k qh sh, cell2_ k qh sh]) (rest := []) cx hP hD hS [.int r9, .int r12] (c_X4_partsTo l D k b qh sh H.size r9 r12 (show SUok (sh 5) from by assumption) (show 0 ≤ r9.toInt ∧ r9.toInt ≤ 34 from by first | decide | omega) (show 0 ≤ r12.toInt ∧ r12.toInt ≤ 14 from by first | decide | omega)) gX4_becomes_X4_partsTo rfl rfl rfl nd_X4_partsTo ⟨Nat.le_of_ble_eq_true rfl, Nat.le_of_ble_eq_true rfl⟩ (ci := 2) (q0 := 0) rfl rfl rfl hl.1 rfl (Nat.le_of_ble_eq_true rfl) ⟨Nat.zero_le _, Nat.zero_le _⟩ dX4_becomes_25) cx.2.2.1 hD hS (fun r15 _ H locs hw14 hP hD hS => ?_)
      replace hw14 : (r15 = 0 ∨ totN r12.toNatClampNeg ≤ totN r9.toNatClampNeg) ∧ (r15 = J_X4_partsTo sh r9 r12) := hw14
      obtain ⟨w16, w17⟩ := hw14
      rw [hQ]
      exact x_i cx hr () hP hD hS (show r15 = J_X4_becomes sh p0 p1 from (exl_X4_becomes_1 w4 w10 w13 c5 c7 w17)) dX4_becomes_28
    · have f7 : 100 ≤ p1.toInt := f_nlt rfl (by decide) c7
      refine lv_iconst (v := 0) hx hb dX4_becomes_14 (by decide) ?_
      have hlit19 : (0 : Int32).toInt = 0 := by decide
      rw [hQ]
      exact x_i cx hr () hP hD hS (show (0 : Int32) = J_X4_becomes sh p0 p1 from (exl_X4_becomes_2 w4 c5 c7)) dX4_becomes_15
