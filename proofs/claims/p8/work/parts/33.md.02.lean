theorem fw_X12_rule_130 : Cond.fieldLink RX12 130 "StillInAugustModel" "exceptions" "I" ∈ wsX12_rule := by decide +kernel
theorem fw_X12_rule_19 : Cond.fieldLink RX12 19 "StillInAugustModel" "levels" "[I" ∈ wsX12_rule := by decide +kernel
theorem fw_X12_rule_22 : Cond.fieldLink RX12 22 "StillInAugustModel" "readLevels" "[I" ∈ wsX12_rule := by decide +kernel
theorem nd_X12_isRule : yX12_isRule.cls ≠ "java/lang/invoke/MethodHandle" ∧ yX12_isRule.cls ≠ "java/lang/invoke/VarHandle" ∧ (parseMethodDescriptor yX12_isRule.desc).map (fun d => d.parameters.length) = some 1 := by decide +kernel
theorem iw_X12_rule_X12 : ∀ w ∈ u_ws RX12 TX12 33, w ∈ wsX12_rule := fun _ h => List.mem_cons_of_mem _ (List.mem_append_right _ h)
def J_X12_rule (sm : Nat → Nat → Int32) (tm : Nat → Nat → Int64) (p0 : Int32) : Int32 × Int32 × Int32 × Int32 × (Nat → Int32) × (Nat → Int32) := let y6 := J_X12_isRule p0; if y6 = 0 then (((-1) : Int32), (sm 0 4), (sm 0 5), (sm 0 13), (sm 5), (sm 4)) else let y18 := J_X12_readRule sm tm; if (y18.1) = (-9) then ((y18.2.2.2.1), (y18.2.1), (y18.2.2.1), (y18.2.2.2.1), (y18.2.2.2.2), (PFo (Int.toNat (5 * p0.toInt)) (y18.2.2.2.2) 5 (sm 4))) else (((-3) : Int32), (y18.2.1), (y18.2.2.1), (y18.2.2.2.1), (y18.2.2.2.2), (sm 4))
set_option maxHeartbeats 4000000 in
set_option maxRecDepth 100000 in
theorem c_X12_rule (l : Launch) (D : va_G) (k : Nat → ClassId) (b : Nat → Nat) (qm : Nat → Nat) (sm : Nat → Nat → Int32) (tm : Nat → Nat → Int64) (sz : Nat) (p0 : Int32) (h_len : 0 ≤ (sm 0 3).toInt ∧ (sm 0 3).toInt ≤ 64) (h_at : 0 ≤ (sm 0 4).toInt ∧ (sm 0 4).toInt ≤ 64) : MetI l D k b yX12_rule wsX12_rule ({ frames := 3, cells := 0, slots := 0, locals := 70 } : Room) [cell22_ qm sm tm, cell5_ k qm sm, cell13_ k qm sm, cell8_ k qm sm, cell6_ k qm sm, cell14_ k qm sm, cell15_ k qm tm, cell12_ k qm tm, cell18_ k qm tm, cell17_ k qm tm, cell19_ k qm tm, cell21_ k qm tm, cell20_ k qm sm, cell16_ k qm sm, cell11_ k qm sm, cell10_ k qm sm, cell9_ k qm sm, cell7_ k qm sm] sz [.ref (qm 0), .int p0] (fun (r : Int32) (u : Int32 × Int32 × Int32 × (Nat → Int32) × (Nat → Int32)) => (0 ≤ (u.1).toInt ∧ (u.1).toInt ≤ 64) ∧ ((r, (u.1), (u.2.1), (u.2.2.1), (u.2.2.2.1), (u.2.2.2.2)) = J_X12_rule sm tm p0)) (fun u => [cell76_ qm sm tm (u.1) (u.2.1) (u.2.2.1), cell5_ k qm sm, cell13_ k qm sm, cell8_ k qm sm, (qm 4, .inl (k 0, 15, .inl (u.2.2.2.2))), cell162_ k qm (u.2.2.2.1), cell15_ k qm tm, cell12_ k qm tm, cell18_ k qm tm, cell17_ k qm tm, cell19_ k qm tm, cell21_ k qm tm, cell20_ k qm sm, cell16_ k qm sm, cell11_ k qm sm, cell10_ k qm sm, cell9_ k qm sm, cell7_ k qm sm]) := by
  refine g_enter (cc := cX12_rule) (maxL := 3) (ret := (some .int)) (by decide) rfl (Nat.le_of_ble_eq_true rfl) ?_
  intro p e s m below meth c A hsz hAe cx hr hP hD hS ls hl
  rw [hAe]
  refine g_q (fun Q hQ => ?_)
  have hx := cx.1.1
  have hb := cx.1.2.1
  have bp0 := i_rng p0
  have hl : lv_has ls 3 [(0, .ref (qm 0)), (1, .int p0)] := hl
  obtain ⟨H, eH⟩ : ∃ H : Heap, H = s.heap := ⟨_, rfl⟩
  obtain ⟨locs, el⟩ : ∃ L : List Loc, L = [] := ⟨_, rfl⟩
  have hP : va_P D vwCl [cell22_ qm sm tm, cell5_ k qm sm, cell13_ k qm sm, cell8_ k qm sm, cell6_ k qm sm, cell14_ k qm sm, cell15_ k qm tm, cell12_ k qm tm, cell18_ k qm tm, cell17_ k qm tm, cell19_ k qm tm, cell21_ k qm tm, cell20_ k qm sm, cell16_ k qm sm, cell11_ k qm sm, cell10_ k qm sm, cell9_ k qm sm, cell7_ k qm sm] H := by rw [eH]; exact hP
  have hD : va_D A [cell22_ qm sm tm, cell5_ k qm sm, cell13_ k qm sm, cell8_ k qm sm, cell6_ k qm sm, cell14_ k qm sm, cell15_ k qm tm, cell12_ k qm tm, cell18_ k qm tm, cell17_ k qm tm, cell19_ k qm tm, cell21_ k qm tm, cell20_ k qm sm, cell16_ k qm sm, cell11_ k qm sm, cell10_ k qm sm, cell9_ k qm sm, cell7_ k qm sm] := hD
  have hS : va_S A s.heap H locs := by rw [eH, el]; exact hS
  suffices goal : W p l e ({ frames := 3, cells := 0, slots := 0, locals := 70 } : Room) s m ([.ref (qm 0), .int p0] : List Value).toArray below meth c H locs 0 0 Q (F0 m 0 ls []) by rw [eH, el] at goal; exact goal
  refine lv_iload_n hx hb dX12_rule_0 rfl (lv_at hl 1 rfl) ?_
  refine g_ir (g_runS (wc := []) (rest := []) cx hP hD hS [] rfl (by decide) [.int p0] (c_X12_isRule l D k b H.size p0) gX12_rule_X12_isRule rfl rfl rfl nd_X12_isRule ⟨Nat.le_of_ble_eq_true rfl, Nat.le_of_ble_eq_true rfl⟩ rfl hl.1 rfl (Nat.le_of_ble_eq_true rfl) ⟨Nat.zero_le _, Nat.zero_le _⟩ dX12_rule_1) cx.2.2.1 hP hD hS [] rfl rfl (fun r2 H locs hw1 hP hS => ?_)
  replace hw1 : (0 ≤ r2.toInt ∧ r2.toInt ≤ 1) ∧ (Imp (r2.toInt = 1) (0 ≤ p0.toInt ∧ p0.toInt ≤ 2)) ∧ (r2 = J_X12_isRule p0) := hw1
  obtain ⟨w3, w4, w5⟩ := hw1
  have k7 : r2 = (J_X12_isRule p0) := congrArg (fun z => z) w5
  have zr2 : 0 ≤ r2.toInt ∧ r2.toInt ≤ 1 := w3
  refine lv_if_ne (tgt := 9) hx hb dX12_rule_4 (by decide) (fun c8 => ?_) (fun c8 => ?_)
  · have f8 : ¬ r2.toInt = 0 := f_ne rfl (by decide) c8
    have k8 : (0 ≤ p0.toInt ∧ p0.toInt ≤ 2) := w4 (by omega)
    refine lv_aload_n hx hb dX12_rule_9 rfl (lv_at hl 0 rfl) ?_
    refine g_iF (w1 := fun (u : Int32 × Int32 × Int32 × (Nat → Int32)) => [cell76_ qm sm tm (u.1) (u.2.1) (u.2.2.1), cell5_ k qm sm, cell13_ k qm sm, cell8_ k qm sm, cell6_ k qm sm, cell162_ k qm (u.2.2.2), cell15_ k qm tm, cell12_ k qm tm, cell18_ k qm tm, cell17_ k qm tm, cell19_ k qm tm, cell21_ k qm tm, cell20_ k qm sm, cell16_ k qm sm, cell11_ k qm sm, cell10_ k qm sm, cell9_ k qm sm, cell7_ k qm sm]) (g_runVF (ws := [cell22_ qm sm tm, cell5_ k qm sm, cell13_ k qm sm, cell8_ k qm sm, cell6_ k qm sm, cell14_ k qm sm, cell15_ k qm tm, cell12_ k qm tm, cell18_ k qm tm, cell17_ k qm tm, cell19_ k qm tm, cell21_ k qm tm, cell20_ k qm sm, cell16_ k qm sm, cell11_ k qm sm, cell10_ k qm sm, cell9_ k qm sm, cell7_ k qm sm]) (rest := []) cx hP hD hS [] (c_X12_readRule l D k b qm sm tm H.size (show 0 ≤ (sm 0 3).toInt ∧ (sm 0 3).toInt ≤ 64 from by first | decide | omega)) gX12_rule_X12_readRule rfl rfl rfl nd_X12_readRule ⟨Nat.le_of_ble_eq_true rfl, Nat.le_of_ble_eq_true rfl⟩ (ci := 10) (q0 := 0) rfl rfl rfl hl.1 rfl (Nat.le_of_ble_eq_true rfl) ⟨Nat.zero_le _, Nat.zero_le _⟩ dX12_rule_10) cx.2.2.1 hD hS (fun r11 u10 H locs hw9 hP hD hS => ?_)
    obtain ⟨m12, m13, m14, m15⟩ := u10
    have hP : va_P D vwCl [cell76_ qm sm tm m12 m13 m14, cell5_ k qm sm, cell13_ k qm sm, cell8_ k qm sm, cell6_ k qm sm, (qm 5, .inl (k 0, 5, .inl m15)), cell15_ k qm tm, cell12_ k qm tm, cell18_ k qm tm, cell17_ k qm tm, cell19_ k qm tm, cell21_ k qm tm, cell20_ k qm sm, cell16_ k qm sm, cell11_ k qm sm, cell10_ k qm sm, cell9_ k qm sm, cell7_ k qm sm] H := hP
    have hD : va_D A [cell76_ qm sm tm m12 m13 m14, cell5_ k qm sm, cell13_ k qm sm, cell8_ k qm sm, cell6_ k qm sm, (qm 5, .inl (k 0, 5, .inl m15)), cell15_ k qm tm, cell12_ k qm tm, cell18_ k qm tm, cell17_ k qm tm, cell19_ k qm tm, cell21_ k qm tm, cell20_ k qm sm, cell16_ k qm sm, cell11_ k qm sm, cell10_ k qm sm, cell9_ k qm sm, cell7_ k qm sm] := hD
    replace hw9 : (0 ≤ m12.toInt ∧ m12.toInt ≤ 64) ∧ ((r11, m12, m13, m14, m15) = J_X12_readRule sm tm) := hw9
    obtain ⟨w16, w17⟩ := hw9
    have k19 : r11 = ((J_X12_readRule sm tm).1) := congrArg (fun z => (z.1)) w17
    have k20 : m12 = ((J_X12_readRule sm tm).2.1) := congrArg (fun z => (z.2.1)) w17
    have k21 : m13 = ((J_X12_readRule sm tm).2.2.1) := congrArg (fun z => (z.2.2.1)) w17
    have k22 : m14 = ((J_X12_readRule sm tm).2.2.2.1) := congrArg (fun z => (z.2.2.2.1)) w17
    have k23 : m15 = ((J_X12_readRule sm tm).2.2.2.2) := congrArg (fun z => (z.2.2.2.2)) w17
    refine lv_bipush (v := (-9)) hx hb dX12_rule_13 (by decide) ?_
    refine lv_icmp_eq (tgt := 21) hx hb dX12_rule_15 (by decide) (fun c24 => ?_) (fun c24 => ?_)
    · have f24 : r11.toInt = (-9) := f_eq rfl (by decide) c24
      refine lv_iconst (v := 0) hx hb dX12_rule_21 (by decide) ?_
      refine lv_istore_n (lv' := [(2, .int 0), (0, .ref (qm 0)), (1, .int p0)]) hx hb dX12_rule_22 rfl hl (by decide) rfl (fun ls hl => ?_)
      have hL23 : ∀ (n34 : Nat) (v32 : Int32) (g33 : Nat → Int32) (H : Heap) (locs : List Loc) (ls : Array Slot), 5 - v32.toInt < (n34 : Int) → (0 ≤ v32.toInt ∧ v32.toInt ≤ 5) → (g33 = (PFo (Int.toNat (5 * p0.toInt)) m15 (Int.toNat v32.toInt) (sm 4))) → va_P D vwCl [cell76_ qm sm tm m12 m13 m14, cell5_ k qm sm, cell13_ k qm sm, cell8_ k qm sm, (qm 4, .inl (k 0, 15, .inl g33)), (qm 5, .inl (k 0, 5, .inl m15)), cell15_ k qm tm, cell12_ k qm tm, cell18_ k qm tm, cell17_ k qm tm, cell19_ k qm tm, cell21_ k qm tm, cell20_ k qm sm, cell16_ k qm sm, cell11_ k qm sm, cell10_ k qm sm, cell9_ k qm sm, cell7_ k qm sm] H → va_D A [cell76_ qm sm tm m12 m13 m14, cell5_ k qm sm, cell13_ k qm sm, cell8_ k qm sm, (qm 4, .inl (k 0, 15, .inl g33)), (qm 5, .inl (k 0, 5, .inl m15)), cell15_ k qm tm, cell12_ k qm tm, cell18_ k qm tm, cell17_ k qm tm, cell19_ k qm tm, cell21_ k qm tm, cell20_ k qm sm, cell16_ k qm sm, cell11_ k qm sm, cell10_ k qm sm, cell9_ k qm sm, cell7_ k qm sm] → va_S A s.heap H locs → lv_has ls 3 [(2, .int v32), (0, .ref (qm 0)), (1, .int p0)] → W p l e ({ frames := 3, cells := 0, slots := 0, locals := 70 } : Room) s m ([.ref (qm 0), .int p0] : List Value).toArray below meth c H locs 0 0 Q (F0 m 23 ls []) := by
        intro n34
        induction n34 with
        | zero => intro v32 g33 H locs ls hmn34 bv32 qR hP hD hS hl; exact absurd hmn34 (by omega)
        | succ n34 ih23 =>
          intro v32 g33 H locs ls hmn34 bv32 qR hP hD hS hl
          refine lv_iload_n hx hb dX12_rule_23 rfl (lv_at hl 0 rfl) ?_
          refine lv_iconst (v := 5) hx hb dX12_rule_24 (by decide) ?_
          refine lv_icmp_ge (tgt := 50) hx hb dX12_rule_25 (by decide) (fun c35 => ?_) (fun c35 => ?_)
          · have f35 : 5 ≤ v32.toInt := f_le (by decide) rfl c35
            have qR_e : g33 = (PFo (Int.toNat (5 * p0.toInt)) m15 5 (sm 4)) := by have q : Int.toNat v32.toInt = 5 := (by omega); rw [q] at qR; exact qR
            refine lv_aload_n hx hb dX12_rule_50 rfl (lv_at hl 1 rfl) ?_
            refine g_get cx hP iw_X12_rule_X12 0 rfl rfl 13 (by decide) rfl fw_X12_rule_130 rfl dX12_rule_51 ?_
            rw [hQ]
            exact x_i cx hr (m12, m13, m14, m15, g33) hP hD hS ⟨(show 0 ≤ m12.toInt ∧ m12.toInt ≤ 64 from by omega), (show (m14, m12, m13, m14, m15, g33) = J_X12_rule sm tm p0 from by subst k7 k19 k20 k21 k22 k23 qR_e; first | (refine Eq.symm ?_; refine Eq.trans (if_neg c8) ?_; refine Eq.trans (if_pos c24) ?_; rfl) | (unfold J_X12_rule; try dsimp only; rw [if_neg c8, if_pos c24]))⟩ dX12_rule_54
          · have f35 : v32.toInt < 5 := f_nle (by decide) rfl c35
            refine lv_aload_n hx hb dX12_rule_28 rfl (lv_at hl 1 rfl) ?_
            refine g_get cx hP iw_X12_rule_X12 0 rfl rfl 11 (by decide) rfl fw_X12_rule_19 rfl dX12_rule_29 ?_
            refine lv_iconst (v := 5) hx hb dX12_rule_32 (by decide) ?_
            refine lv_iload_n hx hb dX12_rule_33 rfl (lv_at hl 2 rfl) ?_
            refine lv_imul hx hb dX12_rule_34 (lv_topi (fun v36 e36 => ?_))
            have t36 : v36.toInt = 5 * p0.toInt := by rw [e36]; exact i_mul (by decide) rfl (by omega) (by omega)
            refine lv_iload_n hx hb dX12_rule_35 rfl (lv_at hl 0 rfl) ?_
            refine lv_iadd hx hb dX12_rule_36 (lv_topi (fun v37 e37 => ?_))
            have t37 : v37.toInt = v36.toInt + v32.toInt := by rw [e37]; exact i_add rfl rfl (by omega) (by omega)
            refine lv_aload_n hx hb dX12_rule_37 rfl (lv_at hl 1 rfl) ?_
            refine g_get cx hP iw_X12_rule_X12 0 rfl rfl 12 (by decide) rfl fw_X12_rule_22 rfl dX12_rule_38 ?_
            refine lv_iload_n hx hb dX12_rule_41 rfl (lv_at hl 0 rfl) ?_
            have hn38 : vp_in v32 5 := f_in (a := v32.toInt) rfl (by omega) (by omega)
            refine va_iald hx hb cx.2.1 hP 5 0 rfl rfl hn38 dX12_rule_42 (lv_topi (fun v39 e39 => ?_))
            have hn40 : vp_in v37 15 := f_in (a := v37.toInt) rfl (by omega) (by omega)
            refine va_iast hx hb cx.2.1 hP hD hS 4 0 rfl rfl hn40 dX12_rule_43 (fun H locs hP hD hS => ?_)
            obtain ⟨g41, eg41⟩ : ∃ g : Nat → Int32, g = upd g33 (v37).toNatClampNeg v39 := ⟨_, rfl⟩
            rw [← eg41] at hP hD
            have hP : va_P D vwCl [cell76_ qm sm tm m12 m13 m14, cell5_ k qm sm, cell13_ k qm sm, cell8_ k qm sm, (qm 4, .inl (k 0, 15, .inl g41)), (qm 5, .inl (k 0, 5, .inl m15)), cell15_ k qm tm, cell12_ k qm tm, cell18_ k qm tm, cell17_ k qm tm, cell19_ k qm tm, cell21_ k qm tm, cell20_ k qm sm, cell16_ k qm sm, cell11_ k qm sm, cell10_ k qm sm, cell9_ k qm sm, cell7_ k qm sm] H := hP
            have hD : va_D A [cell76_ qm sm tm m12 m13 m14, cell5_ k qm sm, cell13_ k qm sm, cell8_ k qm sm, (qm 4, .inl (k 0, 15, .inl g41)), (qm 5, .inl (k 0, 5, .inl m15)), cell15_ k qm tm, cell12_ k qm tm, cell18_ k qm tm, cell17_ k qm tm, cell19_ k qm tm, cell21_ k qm tm, cell20_ k qm sm, cell16_ k qm sm, cell11_ k qm sm, cell10_ k qm sm, cell9_ k qm sm, cell7_ k qm sm] := hD
            have flq := PFo_st (P := m15) (b := Int.toNat (5 * p0.toInt)) eg41 (k := Int.toNat v32.toInt) (show v37.toInt = ((Int.toNat (5 * p0.toInt) : Nat) : Int) + ((Int.toNat v32.toInt : Nat) : Int) from by omega) ((e39.trans (congrArg m15 (cN_of (show v32.toInt = ((Int.toNat (v32.toInt) : Nat) : Int) from by omega))))) qR
            obtain ⟨v42, e42⟩ : ∃ z : Int32, z = v32 + 1 := ⟨_, rfl⟩
            refine lv_iinc (v := v42) (lv' := [(2, .int v42), (0, .ref (qm 0)), (1, .int p0)]) hx hb dX12_rule_44 hl (k := 0) rfl (by rw [e42]; rfl) (by decide) rfl (fun ls hl => ?_)
            have t42 : v42.toInt = v32.toInt + 1 := by rw [e42]; exact i_add rfl (by decide) (by omega) (by omega)
            refine lv_goto (tgt := 23) hx hb dX12_rule_47 (by decide) ?_
            exact ih23 v42 g41 _ _ _ (by omega) (by first | decide | omega) (flq.trans (congrArg (fun n => (PFo (Int.toNat (5 * p0.toInt)) m15 n (sm 4))) (by omega))) hP hD hS (lv_sub hl [0, 1, 2] rfl)
      have hlit43 : (0 : Int32).toInt = 0 := by decide
      exact hL23 (Int.toNat (5 - 0) + 1) 0 (sm 4) _ _ _ (by omega) (by first | decide | omega) (PFo_0 _ _ _) hP hD hS (lv_sub hl [0, 1, 2] rfl)
    · have f24 : ¬ r11.toInt = (-9) := f_ne rfl (by decide) c24
      refine lv_bipush (v := (-3)) hx hb dX12_rule_18 (by decide) ?_
      have hlit44 : ((-3) : Int32).toInt = -3 := by decide
      rw [hQ]
      exact x_i cx hr (m12, m13, m14, m15, (sm 4)) hP hD hS ⟨(show 0 ≤ m12.toInt ∧ m12.toInt ≤ 64 from by omega), (show (((-3) : Int32), m12, m13, m14, m15, (sm 4)) = J_X12_rule sm tm p0 from by subst k7 k19 k20 k21 k22 k23; first | (refine Eq.symm ?_; refine Eq.trans (if_neg c8) ?_; refine Eq.trans (if_neg c24) ?_; rfl) | (unfold J_X12_rule; try dsimp only; rw [if_neg c8, if_neg c24]))⟩ dX12_rule_20
  · have f8 : r2.toInt = 0 := f_eq rfl (by decide) c8
    refine lv_iconst (v := (-1)) hx hb dX12_rule_7 (by decide) ?_
    have hlit45 : ((-1) : Int32).toInt = -1 := by decide
    rw [hQ]
    exact x_i cx hr ((sm 0 4), (sm 0 5), (sm 0 13), (sm 5), (sm 4)) hP hD hS ⟨(show 0 ≤ (sm 0 4).toInt ∧ (sm 0 4).toInt ≤ 64 from by omega), (show (((-1) : Int32), (sm 0 4), (sm 0 5), (sm 0 13), (sm 5), (sm 4)) = J_X12_rule sm tm p0 from by subst k7; first | (refine Eq.symm ?_; refine Eq.trans (if_pos c8) ?_; rfl) | (unfold J_X12_rule; try dsimp only; rw [if_pos c8]))⟩ dX12_rule_8
