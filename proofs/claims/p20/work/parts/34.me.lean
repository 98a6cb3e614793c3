theorem fw_X12_onward_25 : Cond.fieldLink RX12 25 "StillInAugustModel" "worth" "[J" ∈ wsX12_onward := by decide +kernel
theorem iw_X12_onward_X12 : ∀ w ∈ u_ws RX12 TX12 33, w ∈ wsX12_onward := fun _ h => List.mem_cons_of_mem _ (List.mem_append_right _ h)
def B_X12_onward_5 (sm : Nat → Nat → Int32) (tm : Nat → Nat → Int64) (p0 : Int32) (z : Int32 × Int64) : Sum (Int32 × Int64) (Int64) := let v17 := (z.1); let v18 := (z.2); if 50 ≤ v17 then Sum.inr (v18) else LetF (J_X12_isHands sm tm v17) (fun y26 => if y26 = 0 then Sum.inl (((v17 + 1), (v18 + (0 : Int64)))) else LetF (J_X12_sundayOf sm tm p0 v17) (fun y33 => Sum.inl (((v17 + 1), (v18 + ((y33.toInt64) * ((tm 6) (v17).toNatClampNeg)))))))
def J_X12_onward (sm : Nat → Nat → Int32) (tm : Nat → Nat → Int64) (p0 : Int32) : Int64 := LTs default (B_X12_onward_5 sm tm p0) 51 ((0 : Int32), (0 : Int64))
theorem exl_X12_onward_0 {sm : Nat → Nat → Int32} {tm : Nat → Nat → Int64} {p0 : Int32} : J_X12_onward sm tm p0 = LTs (default : Int64) (B_X12_onward_5 sm tm p0) 51 ((0 : Int32), (0 : Int64)) := by unfold J_X12_onward; rfl
theorem exl_X12_onward_1 {sm : Nat → Nat → Int32} {tm : Nat → Nat → Int64} {p0 : Int32} {v17 : Int32} {v18 : Int64} (c20 : (50 : Int32) ≤ v17) : (B_X12_onward_5 sm tm p0) (v17, v18) = Sum.inr (v18) := by unfold B_X12_onward_5; refine Eq.trans (if_pos c20) ?_; rfl
theorem exl_X12_onward_2 {sm : Nat → Nat → Int32} {tm : Nat → Nat → Int64} {p0 : Int32} {v17 : Int32} {v18 : Int64} {v29 : Int32} {v28 : Int64} {r22 : Int32} (e28 : v28 = (v18 + (0 : Int64))) (e29 : v29 = v17 + 1) (c20 : ¬ ((50 : Int32) ≤ v17)) (w25 : r22 = J_X12_isHands sm tm v17) (c27 : r22 = (0 : Int32)) : (B_X12_onward_5 sm tm p0) (v17, v18) = Sum.inl (v29, v28) := by subst e28 e29; unfold B_X12_onward_5; refine Eq.trans (if_neg c20) ?_; refine lt_e w25 ?_; refine Eq.trans (if_pos c27) ?_; rfl
theorem exl_X12_onward_3 {sm : Nat → Nat → Int32} {tm : Nat → Nat → Int64} {p0 : Int32} {v17 : Int32} {v18 : Int64} {v39 : Int32} {v38 : Int64} {v34 : Int64} {r31 : Int32} {v36 : Int64} {v37 : Int64} {r22 : Int32} (e34 : v34 = (r31 : Int32).toInt64) (e36 : v36 = ((tm 6) (v17).toNatClampNeg)) (e37 : v37 = (v34 * v36)) (e38 : v38 = (v18 + v37)) (e39 : v39 = v17 + 1) (c20 : ¬ ((50 : Int32) ≤ v17)) (w25 : r22 = J_X12_isHands sm tm v17) (c27 : ¬ (r22 = (0 : Int32))) (w32 : r31 = J_X12_sundayOf sm tm p0 v17) : (B_X12_onward_5 sm tm p0) (v17, v18) = Sum.inl (v39, v38) := by subst e34 e36 e37 e38 e39; unfold B_X12_onward_5; refine Eq.trans (if_neg c20) ?_; refine lt_e w25 ?_; refine Eq.trans (if_neg c27) ?_; refine lt_e w32 ?_; rfl
set_option maxHeartbeats 4000000 in
set_option maxRecDepth 100000 in
theorem c_X12_onward (l : Launch) (D : va_G) (k : Nat → ClassId) (b : Nat → Nat) (qm : Nat → Nat) (sm : Nat → Nat → Int32) (tm : Nat → Nat → Int64) (sz : Nat) (p0 : Int32) (h_k1 : 0 ≤ (sm 2 1).toInt ∧ (sm 2 1).toInt ≤ 4) : MetL l D k b yX12_onward wsX12_onward ({ frames := 3, cells := 0, slots := 0, locals := 75 } : Room) [cell22_ qm sm tm, cell5_ k qm sm, cell13_ k qm sm, cell8_ k qm sm, cell6_ k qm sm, cell15_ k qm sm, cell14_ k qm tm, cell12_ k qm tm, cell18_ k qm tm, cell17_ k qm tm, cell19_ k qm tm, cell21_ k qm tm, cell20_ k qm sm, cell16_ k qm sm, cell11_ k qm sm, cell10_ k qm sm, cell9_ k qm sm, cell7_ k qm sm] sz [.ref (qm 0), .int p0] (fun (r : Int64) (u : Unit) => r = J_X12_onward sm tm p0) (fun u => [cell22_ qm sm tm, cell5_ k qm sm, cell13_ k qm sm, cell8_ k qm sm, cell6_ k qm sm, cell15_ k qm sm, cell14_ k qm tm, cell12_ k qm tm, cell18_ k qm tm, cell17_ k qm tm, cell19_ k qm tm, cell21_ k qm tm, cell20_ k qm sm, cell16_ k qm sm, cell11_ k qm sm, cell10_ k qm sm, cell9_ k qm sm, cell7_ k qm sm]) := by
  refine g_enter (cc := cX12_onward) (maxL := 5) (ret := (some .long)) (by decide) rfl (Nat.le_of_ble_eq_true rfl) ?_
  intro p e s m below meth c A hsz hAe cx hr hP hD hS ls hl
  rw [hAe]
  refine g_q (fun Q hQ => ?_)
  have hx := cx.1.1
  have hb := cx.1.2.1
  have bp0 := i_rng p0
  have hl : lv_has ls 5 [(0, .ref (qm 0)), (1, .int p0)] := hl
  obtain ⟨H, eH⟩ : ∃ H : Heap, H = s.heap := ⟨_, rfl⟩
  obtain ⟨locs, el⟩ : ∃ L : List Loc, L = [] := ⟨_, rfl⟩
  have hP : va_P D vwCl [cell22_ qm sm tm, cell5_ k qm sm, cell13_ k qm sm, cell8_ k qm sm, cell6_ k qm sm, cell15_ k qm sm, cell14_ k qm tm, cell12_ k qm tm, cell18_ k qm tm, cell17_ k qm tm, cell19_ k qm tm, cell21_ k qm tm, cell20_ k qm sm, cell16_ k qm sm, cell11_ k qm sm, cell10_ k qm sm, cell9_ k qm sm, cell7_ k qm sm] H := by rw [eH]; exact hP
  have hD : va_D A [cell22_ qm sm tm, cell5_ k qm sm, cell13_ k qm sm, cell8_ k qm sm, cell6_ k qm sm, cell15_ k qm sm, cell14_ k qm tm, cell12_ k qm tm, cell18_ k qm tm, cell17_ k qm tm, cell19_ k qm tm, cell21_ k qm tm, cell20_ k qm sm, cell16_ k qm sm, cell11_ k qm sm, cell10_ k qm sm, cell9_ k qm sm, cell7_ k qm sm] := hD
  have hS : va_S A s.heap H locs := by rw [eH, el]; exact hS
  suffices goal : W p l e ({ frames := 3, cells := 0, slots := 0, locals := 75 } : Room) s m ([.ref (qm 0), .int p0] : List Value).toArray below meth c H locs 0 0 Q (F0 m 0 ls []) by rw [eH, el] at goal; exact goal
  refine lv_lconst (v := 0) hx hb dX12_onward_0 (by decide) ?_
  refine lv_lstore_n (lv' := [(2, .long 0), (0, .ref (qm 0)), (1, .int p0)]) hx hb dX12_onward_1 rfl hl (by decide) rfl (fun ls hl => ?_)
  refine lv_iconst (v := 0) hx hb dX12_onward_2 (by decide) ?_
  refine lv_istore (lv' := [(4, .int 0), (2, .long 0), (0, .ref (qm 0)), (1, .int p0)]) hx hb dX12_onward_3 hl (by decide) rfl (fun ls hl => ?_)
  obtain ⟨rr5_1, err5_1⟩ : ∃ r : Int64, LTs (default : Int64) (B_X12_onward_5 sm tm p0) 51 ((0 : Int32), (0 : Int64)) = r := ⟨_, rfl⟩
  have hrr5_1 : J_X12_onward sm tm p0 = rr5_1 := ((exl_X12_onward_0)).trans err5_1
  have hL5 : ∀ (n19 : Nat) (v17 : Int32) (v18 : Int64) (H : Heap) (locs : List Loc) (ls : Array Slot), 50 - v17.toInt < (n19 : Int) → (0 ≤ v17.toInt ∧ v17.toInt ≤ 50) → (LTs (default : Int64) (B_X12_onward_5 sm tm p0) n19 (v17, v18) = rr5_1) → va_P D vwCl [cell22_ qm sm tm, cell5_ k qm sm, cell13_ k qm sm, cell8_ k qm sm, cell6_ k qm sm, cell15_ k qm sm, cell14_ k qm tm, cell12_ k qm tm, cell18_ k qm tm, cell17_ k qm tm, cell19_ k qm tm, cell21_ k qm tm, cell20_ k qm sm, cell16_ k qm sm, cell11_ k qm sm, cell10_ k qm sm, cell9_ k qm sm, cell7_ k qm sm] H → va_D A [cell22_ qm sm tm, cell5_ k qm sm, cell13_ k qm sm, cell8_ k qm sm, cell6_ k qm sm, cell15_ k qm sm, cell14_ k qm tm, cell12_ k qm tm, cell18_ k qm tm, cell17_ k qm tm, cell19_ k qm tm, cell21_ k qm tm, cell20_ k qm sm, cell16_ k qm sm, cell11_ k qm sm, cell10_ k qm sm, cell9_ k qm sm, cell7_ k qm sm] → va_S A s.heap H locs → lv_has ls 5 [(4, .int v17), (2, .long v18), (0, .ref (qm 0)), (1, .int p0)] → W p l e ({ frames := 3, cells := 0, slots := 0, locals := 75 } : Room) s m ([.ref (qm 0), .int p0] : List Value).toArray below meth c H locs 0 0 Q (F0 m 5 ls []) := by
    intro n19
    induction n19 with
    | zero => intro v17 v18 H locs ls hmn19 bv17 hzrr5_1 hP hD hS hl; exact absurd hmn19 (by omega)
    | succ n19 ih5 =>
      intro v17 v18 H locs ls hmn19 bv17 hzrr5_1 hP hD hS hl
      refine lv_iload hx hb dX12_onward_5 (lv_at hl 0 rfl) ?_
      refine lv_bipush (v := 50) hx hb dX12_onward_7 (by decide) ?_
      refine lv_icmp_ge (tgt := 50) hx hb dX12_onward_9 (by decide) (fun c20 => ?_) (fun c20 => ?_)
      · have f20 : 50 ≤ v17.toInt := f_le (by decide) rfl c20
        refine lv_lload_n hx hb dX12_onward_50 rfl (lv_at hl 1 rfl) ?_
        rw [hQ]
        exact x_l cx hr () hP hD hS (show v18 = J_X12_onward sm tm p0 from ((hrr5_1.trans (LT_r hzrr5_1 (exl_X12_onward_1 c20)))).symm) dX12_onward_51
      · have f20 : v17.toInt < 50 := f_nle (by decide) rfl c20
        refine lv_lload_n hx hb dX12_onward_12 rfl (lv_at hl 1 rfl) ?_
        refine lv_aload_n hx hb dX12_onward_13 rfl (lv_at hl 2 rfl) ?_
        refine lv_iload hx hb dX12_onward_14 (lv_at hl 0 rfl) ?_
        refine g_iF (w1 := fun (_ : Unit) => [cell22_ qm sm tm, cell5_ k qm sm, cell13_ k qm sm, cell8_ k qm sm, cell6_ k qm sm, cell15_ k qm sm, cell14_ k qm tm, cell12_ k qm tm, cell18_ k qm tm, cell17_ k qm tm, cell19_ k qm tm, cell21_ k qm tm, cell20_ k qm sm, cell16_ k qm sm, cell11_ k qm sm, cell10_ k qm sm, cell9_ k qm sm, cell7_ k qm sm]) (g_runVF (ws := [cell22_ qm sm tm, cell5_ k qm sm, cell13_ k qm sm, cell8_ k qm sm, cell6_ k qm sm, cell15_ k qm sm, cell14_ k qm tm, cell12_ k qm tm, cell18_ k qm tm, cell17_ k qm tm, cell19_ k qm tm, cell21_ k qm tm, cell20_ k qm sm, cell16_ k qm sm, cell11_ k qm sm, cell10_ k qm sm, cell9_ k qm sm, cell7_ k qm sm]) (rest := [.long v18]) cx hP hD hS [.int v17] (c_X12_isHands l D k b qm sm tm H.size v17 (show 0 ≤ ((sm 2) 1).toInt ∧ ((sm 2) 1).toInt ≤ 4 from by first | decide | omega)) gX12_onward_X12_isHands rfl rfl rfl nd_X12_isHands ⟨Nat.le_of_ble_eq_true rfl, Nat.le_of_ble_eq_true rfl⟩ (ci := 10) (q0 := 0) rfl rfl rfl hl.1 rfl (Nat.le_of_ble_eq_true rfl) ⟨Nat.zero_le _, Nat.zero_le _⟩ dX12_onward_16) cx.2.2.1 hD hS (fun r22 _ H locs hw21 hP hD hS => ?_)
        replace hw21 : (0 ≤ r22.toInt ∧ r22.toInt ≤ 1) ∧ (Imp (r22.toInt = 1) (0 ≤ v17.toInt ∧ v17.toInt ≤ 400)) ∧ (r22 = J_X12_isHands sm tm v17) := hw21
        obtain ⟨w23, w24, w25⟩ := hw21
        have zr22 : 0 ≤ r22.toInt ∧ r22.toInt ≤ 1 := w23
        refine lv_if_eq (tgt := 41) hx hb dX12_onward_19 (by decide) (fun c27 => ?_) (fun c27 => ?_)
        · have f27 : r22.toInt = 0 := f_eq rfl (by decide) c27
          refine lv_lconst (v := 0) hx hb dX12_onward_41 (by decide) ?_
          refine lv_ladd hx hb dX12_onward_42 (lv_topl (fun v28 e28 => ?_))
          refine lv_lstore_n (lv' := [(2, .long v28), (4, .int v17), (0, .ref (qm 0)), (1, .int p0)]) hx hb dX12_onward_43 rfl hl (by decide) rfl (fun ls hl => ?_)
          obtain ⟨v29, e29⟩ : ∃ z : Int32, z = v17 + 1 := ⟨_, rfl⟩
          refine lv_iinc (v := v29) (lv' := [(4, .int v29), (2, .long v28), (0, .ref (qm 0)), (1, .int p0)]) hx hb dX12_onward_44 hl (k := 1) rfl (by rw [e29]; rfl) (by decide) rfl (fun ls hl => ?_)
          have t29 : v29.toInt = v17.toInt + 1 := by rw [e29]; exact i_add rfl (by decide) (by omega) (by omega)
          refine lv_goto (tgt := 5) hx hb dX12_onward_47 (by decide) ?_
          exact ih5 v29 v28 _ _ _ (by omega) (by first | decide | omega) (LT_g hzrr5_1 (exl_X12_onward_2 e28 e29 c20 w25 c27)) hP hD hS (lv_sub hl [0, 1, 2, 3] rfl)
        · have f27 : ¬ r22.toInt = 0 := f_ne rfl (by decide) c27
          have k27 : (0 ≤ v17.toInt ∧ v17.toInt ≤ 400) := w24 (by omega)
          refine lv_aload_n hx hb dX12_onward_22 rfl (lv_at hl 2 rfl) ?_
          refine lv_iload_n hx hb dX12_onward_23 rfl (lv_at hl 3 rfl) ?_
          refine lv_iload hx hb dX12_onward_24 (lv_at hl 0 rfl) ?_
          refine g_iF (w1 := fun (_ : Unit) => [cell22_ qm sm tm, cell5_ k qm sm, cell13_ k qm sm, cell8_ k qm sm, cell6_ k qm sm, cell15_ k qm sm, cell14_ k qm tm, cell12_ k qm tm, cell18_ k qm tm, cell17_ k qm tm, cell19_ k qm tm, cell21_ k qm tm, cell20_ k qm sm, cell16_ k qm sm, cell11_ k qm sm, cell10_ k qm sm, cell9_ k qm sm, cell7_ k qm sm]) (g_runVF (ws := [cell22_ qm sm tm, cell5_ k qm sm, cell13_ k qm sm, cell8_ k qm sm, cell6_ k qm sm, cell15_ k qm sm, cell14_ k qm tm, cell12_ k qm tm, cell18_ k qm tm, cell17_ k qm tm, cell19_ k qm tm, cell21_ k qm tm, cell20_ k qm sm, cell16_ k qm sm, cell11_ k qm sm, cell10_ k qm sm, cell9_ k qm sm, cell7_ k qm sm]) (rest := [.long v18]) cx hP hD hS [.int p0, .int v17] (c_X12_sundayOf l D k b qm sm tm H.size p0 v17) gX12_onward_X12_sundayOf rfl rfl rfl nd_X12_sundayOf ⟨Nat.le_of_ble_eq_true rfl, Nat.le_of_ble_eq_true rfl⟩ (ci := 10) (q0 := 0) rfl rfl rfl hl.1 rfl (Nat.le_of_ble_eq_true rfl) ⟨Nat.zero_le _, Nat.zero_le _⟩ dX12_onward_26) cx.2.2.1 hD hS (fun r31 _ H locs hw30 hP hD hS => ?_)
          have w32 : r31 = J_X12_sundayOf sm tm p0 v17 := hw30
          clear hw30
          obtain ⟨v34, e34⟩ : ∃ z : Int64, z = (r31 : Int32).toInt64 := ⟨_, rfl⟩
          refine lv_i2l (v := v34) hx hb dX12_onward_29 e34.symm ?_
          refine lv_aload_n hx hb dX12_onward_30 rfl (lv_at hl 2 rfl) ?_
          refine g_get cx hP iw_X12_onward_X12 0 rfl rfl 14 (by decide) rfl fw_X12_onward_25 rfl dX12_onward_31 ?_
          refine lv_iload hx hb dX12_onward_34 (lv_at hl 0 rfl) ?_
          have hn35 : vp_in v17 1000 := f_in (a := v17.toInt) rfl (by omega) (by omega)
          refine va_lald hx hb cx.2.1 hP 6 1 rfl rfl hn35 dX12_onward_36 (lv_topl (fun v36 e36 => ?_))
          refine lv_lmul hx hb dX12_onward_37 (lv_topl (fun v37 e37 => ?_))
          refine lv_goto (tgt := 42) hx hb dX12_onward_38 (by decide) ?_
          refine lv_ladd hx hb dX12_onward_42 (lv_topl (fun v38 e38 => ?_))
          refine lv_lstore_n (lv' := [(2, .long v38), (4, .int v17), (0, .ref (qm 0)), (1, .int p0)]) hx hb dX12_onward_43 rfl hl (by decide) rfl (fun ls hl => ?_)
          obtain ⟨v39, e39⟩ : ∃ z : Int32, z = v17 + 1 := ⟨_, rfl⟩
          refine lv_iinc (v := v39) (lv' := [(4, .int v39), (2, .long v38), (0, .ref (qm 0)), (1, .int p0)]) hx hb dX12_onward_44 hl (k := 1) rfl (by rw [e39]; rfl) (by decide) rfl (fun ls hl => ?_)
          have t39 : v39.toInt = v17.toInt + 1 := by rw [e39]; exact i_add rfl (by decide) (by omega) (by omega)
          refine lv_goto (tgt := 5) hx hb dX12_onward_47 (by decide) ?_
          exact ih5 v39 v38 _ _ _ (by omega) (by first | decide | omega) (LT_g hzrr5_1 (exl_X12_onward_3 e34 e36 e37 e38 e39 c20 w25 c27 w32)) hP hD hS (lv_sub hl [0, 1, 2, 3] rfl)
  have hlit40 : (0 : Int32).toInt = 0 := by decide
  have hlit41 : (0 : Int32).toInt = 0 := by decide
  exact hL5 (51) 0 0 _ _ _ (by omega) (by first | decide | omega) err5_1 hP hD hS (lv_sub hl [0, 1, 2, 3] rfl)
theorem fw_X12_layMean_13 : Cond.fieldLink RX12 13 "StillInAugustModel" "house" "[I" ∈ wsX12_layMean := by decide +kernel
theorem fw_X12_layMean_25 : Cond.fieldLink RX12 25 "StillInAugustModel" "worth" "[J" ∈ wsX12_layMean := by decide +kernel
theorem fw_X12_layMean_29 : Cond.fieldLink RX12 29 "StillInAugustModel" "before" "[J" ∈ wsX12_layMean := by decide +kernel
theorem nd_X12_bonus : yX12_bonus.cls = RX12 ∧ yX12_bonus.cls ≠ "java/lang/invoke/MethodHandle" ∧ yX12_bonus.cls ≠ "java/lang/invoke/VarHandle" ∧ (parseMethodDescriptor yX12_bonus.desc).map (fun d => d.parameters.length) = some 1 := by decide +kernel
theorem nd_X12_onward : yX12_onward.cls = RX12 ∧ yX12_onward.cls ≠ "java/lang/invoke/MethodHandle" ∧ yX12_onward.cls ≠ "java/lang/invoke/VarHandle" ∧ (parseMethodDescriptor yX12_onward.desc).map (fun d => d.parameters.length) = some 1 := by decide +kernel
theorem nd_X12_parts : yX12_parts.cls ≠ "java/lang/invoke/MethodHandle" ∧ yX12_parts.cls ≠ "java/lang/invoke/VarHandle" ∧ (parseMethodDescriptor yX12_parts.desc).map (fun d => d.parameters.length) = some 1 := by decide +kernel
theorem iw_X12_layMean_X12 : ∀ w ∈ u_ws RX12 TX12 33, w ∈ wsX12_layMean := fun _ h => List.mem_cons_of_mem _ (List.mem_append_right _ h)
def B_X12_layMean_162_4 (sm : Nat → Nat → Int32) (tm : Nat → Nat → Int64) (p0 : Int32) (p1 : Int32) (p2 : Int32) (p3 : Int32) (v15 : Int32) (g16 : Nat → Int64) (v64 : Int32) (g65 : Nat → Int64) (g66 : Nat → Int64) (v107 : Int32) (g108 : Nat → Int64) (z : Int32 × (Nat → Int64)) : Sum (Int32 × (Nat → Int64)) (Sum (Int32 × (Nat → Int64)) (Sum (Int32 × (Nat → Int64) × (Nat → Int64)) (Sum (Int32 × (Nat → Int64)) (Int64 × (Nat → Int64) × (Nat → Int64))))) := let v116 := (z.1); let g117 := (z.2); if 500 ≤ v116 then Sum.inr (Sum.inr (Sum.inl (((v64 + (-1)), g117, g108)))) else Sum.inl (((v116 + 1), (vp_updL g117 (v116).toNatClampNeg (g108 (v116).toNatClampNeg))))
def B_X12_layMean_63_3 (sm : Nat → Nat → Int32) (tm : Nat → Nat → Int64) (p0 : Int32) (p1 : Int32) (p2 : Int32) (p3 : Int32) (v15 : Int32) (g16 : Nat → Int64) (v64 : Int32) (g65 : Nat → Int64) (g66 : Nat → Int64) (z : Int32 × (Nat → Int64)) : Sum (Int32 × (Nat → Int64)) (Sum (Int32 × (Nat → Int64) × (Nat → Int64)) (Sum (Int32 × (Nat → Int64)) (Int64 × (Nat → Int64) × (Nat → Int64)))) := let v107 := (z.1); let g108 := (z.2); if 500 ≤ v107 then LTs (Sum.inl default) (B_X12_layMean_162_4 sm tm p0 p1 p2 p3 v15 g16 v64 g65 g66 v107 g108) 501 ((0 : Int32), g65) else LetF (J_X12_isHands sm (up2L (up2L tm 6 g65) 7 g108) v107) (fun y132 => if y132 = 0 then Sum.inl (((v107 + 1), g108)) else LetF (J_X12_ruleAct sm (up2L (up2L tm 6 g65) 7 g108) p0 v64 v107) (fun y138 => LetF (J_X12_after sm (up2L (up2L tm 6 g65) 7 g108) v64 v107 y138) (fun y142 => if v64 = p1 then LetF (J_X12_costOf sm (up2L (up2L tm 6 g65) 7 g108) v64 y142 p3 y138) (fun y169 => LetF (J_X12_parts ((((sm 2) (0 : Int32).toNatClampNeg) - v64))) (fun y178 => LetF (J_X12_onward sm (up2L (up2L tm 6 g65) 7 g108) y142) (fun y183 => Sum.inl (((v107 + 1), (vp_updL g108 (v107).toNatClampNeg (((y169.toInt64) * y178) + y183))))))) else LetF (J_X12_costOf sm (up2L (up2L tm 6 g65) 7 g108) v64 y142 0 y138) (fun y147 => LetF (J_X12_parts ((((sm 2) (0 : Int32).toNatClampNeg) - v64))) (fun y156 => LetF (J_X12_onward sm (up2L (up2L tm 6 g65) 7 g108) y142) (fun y161 => Sum.inl (((v107 + 1), (vp_updL g108 (v107).toNatClampNeg (((y147.toInt64) * y156) + y161))))))))))
def B_X12_layMean_54_2 (sm : Nat → Nat → Int32) (tm : Nat → Nat → Int64) (p0 : Int32) (p1 : Int32) (p2 : Int32) (p3 : Int32) (v15 : Int32) (g16 : Nat → Int64) (z : Int32 × (Nat → Int64) × (Nat → Int64)) : Sum (Int32 × (Nat → Int64) × (Nat → Int64)) (Sum (Int32 × (Nat → Int64)) (Int64 × (Nat → Int64) × (Nat → Int64))) := let v64 := (z.1); let g65 := (z.2.1); let g66 := (z.2.2); if v64 < p1 then Sum.inr (Sum.inr (((g65 (p2).toNatClampNeg), g65, g66))) else LTs (Sum.inl default) (B_X12_layMean_63_3 sm tm p0 p1 p2 p3 v15 g16 v64 g65 g66) 501 ((0 : Int32), g66)
def B_X12_layMean_3 (sm : Nat → Nat → Int32) (tm : Nat → Nat → Int64) (p0 : Int32) (p1 : Int32) (p2 : Int32) (p3 : Int32) (z : Int32 × (Nat → Int64)) : Sum (Int32 × (Nat → Int64)) (Int64 × (Nat → Int64) × (Nat → Int64)) := let v15 := (z.1); let g16 := (z.2); if 1000 ≤ v15 then LTs (Sum.inl default) (B_X12_layMean_54_2 sm tm p0 p1 p2 p3 v15 g16) 6 ((((sm 2) (0 : Int32).toNatClampNeg) - (1 : Int32)), g16, (tm 7)) else LetF (J_X12_isHands sm (up2L tm 6 g16) v15) (fun y194 => if y194 = 0 then Sum.inl (((v15 + 1), (vp_updL g16 (v15).toNatClampNeg 0))) else LetF (J_X12_bonus sm (up2L tm 6 g16) v15) (fun y202 => Sum.inl (((v15 + 1), (vp_updL g16 (v15).toNatClampNeg (y202.toInt64))))))
def J_X12_layMean (sm : Nat → Nat → Int32) (tm : Nat → Nat → Int64) (p0 : Int32) (p1 : Int32) (p2 : Int32) (p3 : Int32) : Int64 × (Nat → Int64) × (Nat → Int64) := LTs default (B_X12_layMean_3 sm tm p0 p1 p2 p3) 1001 ((0 : Int32), (tm 6))
theorem exl_X12_layMean_0 {sm : Nat → Nat → Int32} {tm : Nat → Nat → Int64} {p0 : Int32} {p1 : Int32} {p2 : Int32} {p3 : Int32} : J_X12_layMean sm tm p0 p1 p2 p3 = LTs (default : Int64 × (Nat → Int64) × (Nat → Int64)) (B_X12_layMean_3 sm tm p0 p1 p2 p3) 1001 ((0 : Int32), (tm 6)) := by unfold J_X12_layMean; rfl
theorem exl_X12_layMean_1 {sm : Nat → Nat → Int32} {tm : Nat → Nat → Int64} {p0 : Int32} {p1 : Int32} {p2 : Int32} {p3 : Int32} {v15 : Int32} {g16 : Nat → Int64} {v21 : Int32} {v20 : Int32} (e20 : v20 = ((sm 2) ((0 : Int32).toNatClampNeg))) (e21 : v21 = (v20 - (1 : Int32))) (c18 : (1000 : Int32) ≤ v15) : (B_X12_layMean_3 sm tm p0 p1 p2 p3) (v15, g16) = LTs (Sum.inl default : Sum (Int32 × (Nat → Int64)) (Int64 × (Nat → Int64) × (Nat → Int64))) (B_X12_layMean_54_2 sm tm p0 p1 p2 p3 v15 g16) 6 (v21, g16, (tm 7)) := by subst e20 e21; unfold B_X12_layMean_3; refine Eq.trans (if_pos c18) ?_; rfl
theorem exl_X12_layMean_2 {sm : Nat → Nat → Int32} {tm : Nat → Nat → Int64} {p0 : Int32} {p1 : Int32} {p2 : Int32} {p3 : Int32} {v15 : Int32} {g16 : Nat → Int64} {v64 : Int32} {g65 : Nat → Int64} {g66 : Nat → Int64} {v70 : Int64} (e70 : v70 = (g65 (p2).toNatClampNeg)) (c68 : v64 < p1) : (B_X12_layMean_54_2 sm tm p0 p1 p2 p3 v15 g16) (v64, g65, g66) = Sum.inr (Sum.inr ((v70, g65, g66))) := by subst e70; unfold B_X12_layMean_54_2; refine Eq.trans (if_pos c68) ?_; rfl
theorem exl_X12_layMean_3 {sm : Nat → Nat → Int32} {tm : Nat → Nat → Int64} {p0 : Int32} {p1 : Int32} {p2 : Int32} {p3 : Int32} {v15 : Int32} {g16 : Nat → Int64} {v64 : Int32} {g65 : Nat → Int64} {g66 : Nat → Int64} (c68 : ¬ (v64 < p1)) : (B_X12_layMean_54_2 sm tm p0 p1 p2 p3 v15 g16) (v64, g65, g66) = LTs (Sum.inl default : Sum (Int32 × (Nat → Int64) × (Nat → Int64)) (Sum (Int32 × (Nat → Int64)) (Int64 × (Nat → Int64) × (Nat → Int64)))) (B_X12_layMean_63_3 sm tm p0 p1 p2 p3 v15 g16 v64 g65 g66) 501 ((0 : Int32), g66) := by unfold B_X12_layMean_54_2; refine Eq.trans (if_neg c68) ?_; rfl
theorem exl_X12_layMean_4 {sm : Nat → Nat → Int32} {tm : Nat → Nat → Int64} {p0 : Int32} {p1 : Int32} {p2 : Int32} {p3 : Int32} {v15 : Int32} {g16 : Nat → Int64} {v64 : Int32} {g65 : Nat → Int64} {g66 : Nat → Int64} {v107 : Int32} {g108 : Nat → Int64} (c110 : (500 : Int32) ≤ v107) : (B_X12_layMean_63_3 sm tm p0 p1 p2 p3 v15 g16 v64 g65 g66) (v107, g108) = LTs (Sum.inl default : Sum (Int32 × (Nat → Int64)) (Sum (Int32 × (Nat → Int64) × (Nat → Int64)) (Sum (Int32 × (Nat → Int64)) (Int64 × (Nat → Int64) × (Nat → Int64))))) (B_X12_layMean_162_4 sm tm p0 p1 p2 p3 v15 g16 v64 g65 g66 v107 g108) 501 ((0 : Int32), g65) := by unfold B_X12_layMean_63_3; refine Eq.trans (if_pos c110) ?_; rfl
theorem exl_X12_layMean_5 {sm : Nat → Nat → Int32} {tm : Nat → Nat → Int64} {p0 : Int32} {p1 : Int32} {p2 : Int32} {p3 : Int32} {v15 : Int32} {g16 : Nat → Int64} {v64 : Int32} {g65 : Nat → Int64} {g66 : Nat → Int64} {v107 : Int32} {g108 : Nat → Int64} {v116 : Int32} {g117 : Nat → Int64} {v120 : Int32} (e120 : v120 = v64 + (-1)) (c119 : (500 : Int32) ≤ v116) : (B_X12_layMean_162_4 sm tm p0 p1 p2 p3 v15 g16 v64 g65 g66 v107 g108) (v116, g117) = Sum.inr (Sum.inr (Sum.inl (v120, g117, g108))) := by subst e120; unfold B_X12_layMean_162_4; refine Eq.trans (if_pos c119) ?_; rfl
theorem exl_X12_layMean_6 {sm : Nat → Nat → Int32} {tm : Nat → Nat → Int64} {p0 : Int32} {p1 : Int32} {p2 : Int32} {p3 : Int32} {v15 : Int32} {g16 : Nat → Int64} {v64 : Int32} {g65 : Nat → Int64} {g66 : Nat → Int64} {v107 : Int32} {g108 : Nat → Int64} {v116 : Int32} {g117 : Nat → Int64} {v125 : Int32} {g124 : Nat → Int64} {v122 : Int64} (e122 : v122 = (g108 (v116).toNatClampNeg)) (eg124 : g124 = vp_updL g117 (v116).toNatClampNeg v122) (e125 : v125 = v116 + 1) (c119 : ¬ ((500 : Int32) ≤ v116)) : (B_X12_layMean_162_4 sm tm p0 p1 p2 p3 v15 g16 v64 g65 g66 v107 g108) (v116, g117) = Sum.inl (v125, g124) := by subst e122 eg124 e125; unfold B_X12_layMean_162_4; refine Eq.trans (if_neg c119) ?_; rfl
theorem exl_X12_layMean_7 {sm : Nat → Nat → Int32} {tm : Nat → Nat → Int64} {p0 : Int32} {p1 : Int32} {p2 : Int32} {p3 : Int32} {v15 : Int32} {g16 : Nat → Int64} {v64 : Int32} {g65 : Nat → Int64} {g66 : Nat → Int64} {v107 : Int32} {g108 : Nat → Int64} {v134 : Int32} {r128 : Int32} (e134 : v134 = v107 + 1) (c110 : ¬ ((500 : Int32) ≤ v107)) (w131 : r128 = J_X12_isHands sm (up2L (up2L tm 6 g65) 7 g108) v107) (c133 : r128 = (0 : Int32)) : (B_X12_layMean_63_3 sm tm p0 p1 p2 p3 v15 g16 v64 g65 g66) (v107, g108) = Sum.inl (v134, g108) := by subst e134; unfold B_X12_layMean_63_3; refine Eq.trans (if_neg c110) ?_; refine lt_e w131 ?_; refine Eq.trans (if_pos c133) ?_; rfl
theorem exl_X12_layMean_8 {sm : Nat → Nat → Int32} {tm : Nat → Nat → Int64} {p0 : Int32} {p1 : Int32} {p2 : Int32} {p3 : Int32} {v15 : Int32} {g16 : Nat → Int64} {v64 : Int32} {g65 : Nat → Int64} {g66 : Nat → Int64} {v107 : Int32} {g108 : Nat → Int64} {v165 : Int32} {g164 : Nat → Int64} {v148 : Int64} {r145 : Int32} {v150 : Int32} {v151 : Int32} {v157 : Int64} {r153 : Int64} {v162 : Int64} {r159 : Int64} {r128 : Int32} {r136 : Int32} {r140 : Int32} (e148 : v148 = (r145 : Int32).toInt64) (e150 : v150 = ((sm 2) ((0 : Int32).toNatClampNeg))) (e151 : v151 = (v150 - v64)) (e157 : v157 = (v148 * r153)) (e162 : v162 = (v157 + r159)) (eg164 : g164 = vp_updL g108 (v107).toNatClampNeg v162) (e165 : v165 = v107 + 1) (c110 : ¬ ((500 : Int32) ≤ v107)) (w131 : r128 = J_X12_isHands sm (up2L (up2L tm 6 g65) 7 g108) v107) (c133 : ¬ (r128 = (0 : Int32))) (w137 : r136 = J_X12_ruleAct sm (up2L (up2L tm 6 g65) 7 g108) p0 v64 v107) (w141 : r140 = J_X12_after sm (up2L (up2L tm 6 g65) 7 g108) v64 v107 r136) (c143 : ¬ (v64 = p1)) (w146 : r145 = J_X12_costOf sm (up2L (up2L tm 6 g65) 7 g108) v64 r140 (0 : Int32) r136) (w155 : r153 = J_X12_parts v151) (w160 : r159 = J_X12_onward sm (up2L (up2L tm 6 g65) 7 g108) r140) : (B_X12_layMean_63_3 sm tm p0 p1 p2 p3 v15 g16 v64 g65 g66) (v107, g108) = Sum.inl (v165, g164) := by subst e148 e150 e151 e157 e162 eg164 e165; unfold B_X12_layMean_63_3; refine Eq.trans (if_neg c110) ?_; refine lt_e w131 ?_; refine Eq.trans (if_neg c133) ?_; refine lt_e w137 ?_; refine lt_e w141 ?_; refine Eq.trans (if_neg c143) ?_; refine lt_e w146 ?_; refine lt_e w155 ?_; refine lt_e w160 ?_; rfl
theorem exl_X12_layMean_9 {sm : Nat → Nat → Int32} {tm : Nat → Nat → Int64} {p0 : Int32} {p1 : Int32} {p2 : Int32} {p3 : Int32} {v15 : Int32} {g16 : Nat → Int64} {v64 : Int32} {g65 : Nat → Int64} {g66 : Nat → Int64} {v107 : Int32} {g108 : Nat → Int64} {v187 : Int32} {g186 : Nat → Int64} {v170 : Int64} {r167 : Int32} {v172 : Int32} {v173 : Int32} {v179 : Int64} {r175 : Int64} {v184 : Int64} {r181 : Int64} {r128 : Int32} {r136 : Int32} {r140 : Int32} (e170 : v170 = (r167 : Int32).toInt64) (e172 : v172 = ((sm 2) ((0 : Int32).toNatClampNeg))) (e173 : v173 = (v172 - v64)) (e179 : v179 = (v170 * r175)) (e184 : v184 = (v179 + r181)) (eg186 : g186 = vp_updL g108 (v107).toNatClampNeg v184) (e187 : v187 = v107 + 1) (c110 : ¬ ((500 : Int32) ≤ v107)) (w131 : r128 = J_X12_isHands sm (up2L (up2L tm 6 g65) 7 g108) v107) (c133 : ¬ (r128 = (0 : Int32))) (w137 : r136 = J_X12_ruleAct sm (up2L (up2L tm 6 g65) 7 g108) p0 v64 v107) (w141 : r140 = J_X12_after sm (up2L (up2L tm 6 g65) 7 g108) v64 v107 r136) (c143 : v64 = p1) (w168 : r167 = J_X12_costOf sm (up2L (up2L tm 6 g65) 7 g108) v64 r140 p3 r136) (w177 : r175 = J_X12_parts v173) (w182 : r181 = J_X12_onward sm (up2L (up2L tm 6 g65) 7 g108) r140) : (B_X12_layMean_63_3 sm tm p0 p1 p2 p3 v15 g16 v64 g65 g66) (v107, g108) = Sum.inl (v187, g186) := by subst e170 e172 e173 e179 e184 eg186 e187; unfold B_X12_layMean_63_3; refine Eq.trans (if_neg c110) ?_; refine lt_e w131 ?_; refine Eq.trans (if_neg c133) ?_; refine lt_e w137 ?_; refine lt_e w141 ?_; refine Eq.trans (if_pos c143) ?_; refine lt_e w168 ?_; refine lt_e w177 ?_; refine lt_e w182 ?_; rfl
theorem exl_X12_layMean_10 {sm : Nat → Nat → Int32} {tm : Nat → Nat → Int64} {p0 : Int32} {p1 : Int32} {p2 : Int32} {p3 : Int32} {v15 : Int32} {g16 : Nat → Int64} {v198 : Int32} {g197 : Nat → Int64} {r190 : Int32} (eg197 : g197 = vp_updL g16 (v15).toNatClampNeg (0 : Int64)) (e198 : v198 = v15 + 1) (c18 : ¬ ((1000 : Int32) ≤ v15)) (w193 : r190 = J_X12_isHands sm (up2L tm 6 g16) v15) (c195 : r190 = (0 : Int32)) : (B_X12_layMean_3 sm tm p0 p1 p2 p3) (v15, g16) = Sum.inl (v198, g197) := by subst eg197 e198; unfold B_X12_layMean_3; refine Eq.trans (if_neg c18) ?_; refine lt_e w193 ?_; refine Eq.trans (if_pos c195) ?_; rfl
theorem exl_X12_layMean_11 {sm : Nat → Nat → Int32} {tm : Nat → Nat → Int64} {p0 : Int32} {p1 : Int32} {p2 : Int32} {p3 : Int32} {v15 : Int32} {g16 : Nat → Int64} {v206 : Int32} {g205 : Nat → Int64} {v203 : Int64} {r200 : Int32} {r190 : Int32} (e203 : v203 = (r200 : Int32).toInt64) (eg205 : g205 = vp_updL g16 (v15).toNatClampNeg v203) (e206 : v206 = v15 + 1) (c18 : ¬ ((1000 : Int32) ≤ v15)) (w193 : r190 = J_X12_isHands sm (up2L tm 6 g16) v15) (c195 : ¬ (r190 = (0 : Int32))) (w201 : r200 = J_X12_bonus sm (up2L tm 6 g16) v15) : (B_X12_layMean_3 sm tm p0 p1 p2 p3) (v15, g16) = Sum.inl (v206, g205) := by subst e203 eg205 e206; unfold B_X12_layMean_3; refine Eq.trans (if_neg c18) ?_; refine lt_e w193 ?_; refine Eq.trans (if_neg c195) ?_; refine lt_e w201 ?_; rfl
set_option maxHeartbeats 4000000 in
set_option maxRecDepth 100000 in
theorem c_X12_layMean (l : Launch) (D : va_G) (k : Nat → ClassId) (b : Nat → Nat) (qm : Nat → Nat) (sm : Nat → Nat → Int32) (tm : Nat → Nat → Int64) (sz : Nat) (p0 : Int32) (p1 : Int32) (p2 : Int32) (p3 : Int32) (h_w0 : 0 ≤ (sm 2 0).toInt ∧ (sm 2 0).toInt ≤ 5) (h_k1 : 0 ≤ (sm 2 1).toInt ∧ (sm 2 1).toInt ≤ 4) (hp0 : 0 ≤ p0.toInt ∧ p0.toInt ≤ 2) (hp1 : 0 ≤ p1.toInt ∧ p1.toInt ≤ 4) (hp2 : 0 ≤ p2.toInt ∧ p2.toInt ≤ 999) : MetL l D k b yX12_layMean wsX12_layMean ({ frames := 4, cells := 0, slots := 0, locals := 99 } : Room) [cell22_ qm sm tm, cell5_ k qm sm, cell13_ k qm sm, cell8_ k qm sm, cell6_ k qm sm, cell15_ k qm sm, cell14_ k qm tm, cell12_ k qm tm, cell18_ k qm tm, cell17_ k qm tm, cell19_ k qm tm, cell21_ k qm tm, cell20_ k qm sm, cell16_ k qm sm, cell11_ k qm sm, cell10_ k qm sm, cell9_ k qm sm, cell7_ k qm sm] sz [.ref (qm 0), .int p0, .int p1, .int p2, .int p3] (fun (r : Int64) (u : (Nat → Int64) × (Nat → Int64)) => (r, (u.1), (u.2)) = J_X12_layMean sm tm p0 p1 p2 p3) (fun u => [cell22_ qm sm tm, cell5_ k qm sm, cell13_ k qm sm, cell8_ k qm sm, cell6_ k qm sm, cell15_ k qm sm, cell154_ k qm (u.1), cell155_ k qm (u.2), cell18_ k qm tm, cell17_ k qm tm, cell19_ k qm tm, cell21_ k qm tm, cell20_ k qm sm, cell16_ k qm sm, cell11_ k qm sm, cell10_ k qm sm, cell9_ k qm sm, cell7_ k qm sm]) := by
  refine g_enter (cc := cX12_layMean) (maxL := 9) (ret := (some .long)) (by decide) rfl (Nat.le_of_ble_eq_true rfl) ?_
  intro p e s m below meth c A hsz hAe cx hr hP hD hS ls hl
  rw [hAe]
  refine g_q (fun Q hQ => ?_)
  have hx := cx.1.1
  have hb := cx.1.2.1
  have bp0 := i_rng p0
  have bp1 := i_rng p1
  have bp2 := i_rng p2
  have bp3 := i_rng p3
  have hl : lv_has ls 9 [(0, .ref (qm 0)), (1, .int p0), (2, .int p1), (3, .int p2), (4, .int p3)] := hl
  obtain ⟨H, eH⟩ : ∃ H : Heap, H = s.heap := ⟨_, rfl⟩
  obtain ⟨locs, el⟩ : ∃ L : List Loc, L = [] := ⟨_, rfl⟩
  have hP : va_P D vwCl [cell22_ qm sm tm, cell5_ k qm sm, cell13_ k qm sm, cell8_ k qm sm, cell6_ k qm sm, cell15_ k qm sm, cell14_ k qm tm, cell12_ k qm tm, cell18_ k qm tm, cell17_ k qm tm, cell19_ k qm tm, cell21_ k qm tm, cell20_ k qm sm, cell16_ k qm sm, cell11_ k qm sm, cell10_ k qm sm, cell9_ k qm sm, cell7_ k qm sm] H := by rw [eH]; exact hP
  have hD : va_D A [cell22_ qm sm tm, cell5_ k qm sm, cell13_ k qm sm, cell8_ k qm sm, cell6_ k qm sm, cell15_ k qm sm, cell14_ k qm tm, cell12_ k qm tm, cell18_ k qm tm, cell17_ k qm tm, cell19_ k qm tm, cell21_ k qm tm, cell20_ k qm sm, cell16_ k qm sm, cell11_ k qm sm, cell10_ k qm sm, cell9_ k qm sm, cell7_ k qm sm] := hD
  have hS : va_S A s.heap H locs := by rw [eH, el]; exact hS
  suffices goal : W p l e ({ frames := 4, cells := 0, slots := 0, locals := 99 } : Room) s m ([.ref (qm 0), .int p0, .int p1, .int p2, .int p3] : List Value).toArray below meth c H locs 0 0 Q (F0 m 0 ls []) by rw [eH, el] at goal; exact goal
  refine lv_iconst (v := 0) hx hb dX12_layMean_0 (by decide) ?_
  refine lv_istore (lv' := [(5, .int 0), (0, .ref (qm 0)), (1, .int p0), (2, .int p1), (3, .int p2), (4, .int p3)]) hx hb dX12_layMean_1 hl (by decide) rfl (fun ls hl => ?_)
  obtain ⟨rr3_1, err3_1⟩ : ∃ r : Int64 × (Nat → Int64) × (Nat → Int64), LTs (default : Int64 × (Nat → Int64) × (Nat → Int64)) (B_X12_layMean_3 sm tm p0 p1 p2 p3) 1001 ((0 : Int32), (tm 6)) = r := ⟨_, rfl⟩
  have hrr3_1 : J_X12_layMean sm tm p0 p1 p2 p3 = rr3_1 := ((exl_X12_layMean_0)).trans err3_1
  have hL3 : ∀ (n17 : Nat) (v15 : Int32) (g16 : Nat → Int64) (H : Heap) (locs : List Loc) (ls : Array Slot), 1000 - v15.toInt < (n17 : Int) → (0 ≤ v15.toInt ∧ v15.toInt ≤ 1000) → (LTs (default : Int64 × (Nat → Int64) × (Nat → Int64)) (B_X12_layMean_3 sm tm p0 p1 p2 p3) n17 (v15, g16) = rr3_1) → va_P D vwCl [cell22_ qm sm tm, cell5_ k qm sm, cell13_ k qm sm, cell8_ k qm sm, cell6_ k qm sm, cell15_ k qm sm, (qm 6, .inl (k 1, 1000, .inr (.inl g16))), cell12_ k qm tm, cell18_ k qm tm, cell17_ k qm tm, cell19_ k qm tm, cell21_ k qm tm, cell20_ k qm sm, cell16_ k qm sm, cell11_ k qm sm, cell10_ k qm sm, cell9_ k qm sm, cell7_ k qm sm] H → va_D A [cell22_ qm sm tm, cell5_ k qm sm, cell13_ k qm sm, cell8_ k qm sm, cell6_ k qm sm, cell15_ k qm sm, (qm 6, .inl (k 1, 1000, .inr (.inl g16))), cell12_ k qm tm, cell18_ k qm tm, cell17_ k qm tm, cell19_ k qm tm, cell21_ k qm tm, cell20_ k qm sm, cell16_ k qm sm, cell11_ k qm sm, cell10_ k qm sm, cell9_ k qm sm, cell7_ k qm sm] → va_S A s.heap H locs → lv_has ls 9 [(5, .int v15), (0, .ref (qm 0)), (1, .int p0), (2, .int p1), (3, .int p2), (4, .int p3)] → W p l e ({ frames := 4, cells := 0, slots := 0, locals := 99 } : Room) s m ([.ref (qm 0), .int p0, .int p1, .int p2, .int p3] : List Value).toArray below meth c H locs 0 0 Q (F0 m 3 ls []) := by
    intro n17
    induction n17 with
    | zero => intro v15 g16 H locs ls hmn17 bv15 hzrr3_1 hP hD hS hl; exact absurd hmn17 (by omega)
    | succ n17 ih3 =>
      intro v15 g16 H locs ls hmn17 bv15 hzrr3_1 hP hD hS hl
      refine lv_iload hx hb dX12_layMean_3 (lv_at hl 0 rfl) ?_
      refine lv_sipush (v := 1000) hx hb dX12_layMean_5 (by decide) ?_
      refine lv_icmp_ge (tgt := 44) hx hb dX12_layMean_8 (by decide) (fun c18 => ?_) (fun c18 => ?_)
      · have f18 : 1000 ≤ v15.toInt := f_le (by decide) rfl c18
        refine lv_aload_n hx hb dX12_layMean_44 rfl (lv_at hl 1 rfl) ?_
        refine g_get cx hP iw_X12_layMean_X12 0 rfl rfl 1 (by decide) rfl fw_X12_layMean_13 rfl dX12_layMean_45 ?_
        refine lv_iconst (v := 0) hx hb dX12_layMean_48 (by decide) ?_
        have hn19 : vp_in 0 26 := f_in (a := 0) (by decide) (by omega) (by omega)
        refine va_iald hx hb cx.2.1 hP 2 0 rfl rfl hn19 dX12_layMean_49 (lv_topi (fun v20 e20 => ?_))
        have uv20 : v20.toInt = ((sm 2) 0).toInt := congrArg Int32.toInt e20
        have t20 : 0 ≤ v20.toInt ∧ v20.toInt ≤ 5 := by rw [e20]; exact h_w0
        refine lv_iconst (v := 1) hx hb dX12_layMean_50 (by decide) ?_
        refine lv_isub hx hb dX12_layMean_51 (lv_topi (fun v21 e21 => ?_))
        have t21 : v21.toInt = v20.toInt - 1 := by rw [e21]; exact i_sub rfl (by decide) (by omega) (by omega)
        refine lv_istore (lv' := [(5, .int v21), (0, .ref (qm 0)), (1, .int p0), (2, .int p1), (3, .int p2), (4, .int p3)]) hx hb dX12_layMean_52 hl (by decide) rfl (fun ls hl => ?_)
        obtain ⟨rr54_2, err54_2⟩ : ∃ r : Sum (Int32 × (Nat → Int64)) (Int64 × (Nat → Int64) × (Nat → Int64)), LTs (Sum.inl default : Sum (Int32 × (Nat → Int64)) (Int64 × (Nat → Int64) × (Nat → Int64))) (B_X12_layMean_54_2 sm tm p0 p1 p2 p3 v15 g16) 6 (v21, g16, (tm 7)) = r := ⟨_, rfl⟩
        have hrr54_2 : (B_X12_layMean_3 sm tm p0 p1 p2 p3) (v15, g16) = rr54_2 := ((exl_X12_layMean_1 e20 e21 c18)).trans err54_2
        have hL54 : ∀ (n67 : Nat) (v64 : Int32) (g65 : Nat → Int64) (g66 : Nat → Int64) (H : Heap) (locs : List Loc) (ls : Array Slot), v64.toInt + 1 < (n67 : Int) → (-1 ≤ v64.toInt ∧ v64.toInt ≤ 4) → (LTs (Sum.inl default : Sum (Int32 × (Nat → Int64)) (Int64 × (Nat → Int64) × (Nat → Int64))) (B_X12_layMean_54_2 sm tm p0 p1 p2 p3 v15 g16) n67 (v64, g65, g66) = rr54_2) → va_P D vwCl [cell22_ qm sm tm, cell5_ k qm sm, cell13_ k qm sm, cell8_ k qm sm, cell6_ k qm sm, cell15_ k qm sm, (qm 6, .inl (k 1, 1000, .inr (.inl g65))), (qm 7, .inl (k 1, 1000, .inr (.inl g66))), cell18_ k qm tm, cell17_ k qm tm, cell19_ k qm tm, cell21_ k qm tm, cell20_ k qm sm, cell16_ k qm sm, cell11_ k qm sm, cell10_ k qm sm, cell9_ k qm sm, cell7_ k qm sm] H → va_D A [cell22_ qm sm tm, cell5_ k qm sm, cell13_ k qm sm, cell8_ k qm sm, cell6_ k qm sm, cell15_ k qm sm, (qm 6, .inl (k 1, 1000, .inr (.inl g65))), (qm 7, .inl (k 1, 1000, .inr (.inl g66))), cell18_ k qm tm, cell17_ k qm tm, cell19_ k qm tm, cell21_ k qm tm, cell20_ k qm sm, cell16_ k qm sm, cell11_ k qm sm, cell10_ k qm sm, cell9_ k qm sm, cell7_ k qm sm] → va_S A s.heap H locs → lv_has ls 9 [(5, .int v64), (0, .ref (qm 0)), (1, .int p0), (2, .int p1), (3, .int p2), (4, .int p3)] → W p l e ({ frames := 4, cells := 0, slots := 0, locals := 99 } : Room) s m ([.ref (qm 0), .int p0, .int p1, .int p2, .int p3] : List Value).toArray below meth c H locs 0 0 Q (F0 m 54 ls []) := by
          intro n67
          induction n67 with
          | zero => intro v64 g65 g66 H locs ls hmn67 bv64 hzrr54_2 hP hD hS hl; exact absurd hmn67 (by omega)
          | succ n67 ih54 =>
            intro v64 g65 g66 H locs ls hmn67 bv64 hzrr54_2 hP hD hS hl
            refine lv_iload hx hb dX12_layMean_54 (lv_at hl 0 rfl) ?_
            refine lv_iload_n hx hb dX12_layMean_56 rfl (lv_at hl 3 rfl) ?_
            refine lv_icmp_lt (tgt := 196) hx hb dX12_layMean_57 (by decide) (fun c68 => ?_) (fun c68 => ?_)
            · have f68 : v64.toInt < p1.toInt := f_lt rfl rfl c68
              refine lv_aload_n hx hb dX12_layMean_196 rfl (lv_at hl 1 rfl) ?_
              refine g_get cx hP iw_X12_layMean_X12 0 rfl rfl 14 (by decide) rfl fw_X12_layMean_25 rfl dX12_layMean_197 ?_
              refine lv_iload_n hx hb dX12_layMean_200 rfl (lv_at hl 4 rfl) ?_
              have hn69 : vp_in p2 1000 := f_in (a := p2.toInt) rfl (by omega) (by omega)
              refine va_lald hx hb cx.2.1 hP 6 1 rfl rfl hn69 dX12_layMean_201 (lv_topl (fun v70 e70 => ?_))
              rw [hQ]
              exact x_l cx hr (g65, g66) hP hD hS (show (v70, g65, g66) = J_X12_layMean sm tm p0 p1 p2 p3 from ((hrr3_1.trans (LT_r hzrr3_1 (hrr54_2.trans (LT_r hzrr54_2 (exl_X12_layMean_2 e70 c68)))))).symm) dX12_layMean_202
            · have f68 : p1.toInt ≤ v64.toInt := f_nlt rfl rfl c68
              refine lv_iconst (v := 0) hx hb dX12_layMean_60 (by decide) ?_
              refine lv_istore (lv' := [(6, .int 0), (5, .int v64), (0, .ref (qm 0)), (1, .int p0), (2, .int p1), (3, .int p2), (4, .int p3)]) hx hb dX12_layMean_61 hl (by decide) rfl (fun ls hl => ?_)
              obtain ⟨rr63_3, err63_3⟩ : ∃ r : Sum (Int32 × (Nat → Int64) × (Nat → Int64)) (Sum (Int32 × (Nat → Int64)) (Int64 × (Nat → Int64) × (Nat → Int64))), LTs (Sum.inl default : Sum (Int32 × (Nat → Int64) × (Nat → Int64)) (Sum (Int32 × (Nat → Int64)) (Int64 × (Nat → Int64) × (Nat → Int64)))) (B_X12_layMean_63_3 sm tm p0 p1 p2 p3 v15 g16 v64 g65 g66) 501 ((0 : Int32), g66) = r := ⟨_, rfl⟩
              have hrr63_3 : (B_X12_layMean_54_2 sm tm p0 p1 p2 p3 v15 g16) (v64, g65, g66) = rr63_3 := ((exl_X12_layMean_3 c68)).trans err63_3
              have hL63 : ∀ (n109 : Nat) (v107 : Int32) (g108 : Nat → Int64) (H : Heap) (locs : List Loc) (ls : Array Slot), 500 - v107.toInt < (n109 : Int) → (0 ≤ v107.toInt ∧ v107.toInt ≤ 500) → (LTs (Sum.inl default : Sum (Int32 × (Nat → Int64) × (Nat → Int64)) (Sum (Int32 × (Nat → Int64)) (Int64 × (Nat → Int64) × (Nat → Int64)))) (B_X12_layMean_63_3 sm tm p0 p1 p2 p3 v15 g16 v64 g65 g66) n109 (v107, g108) = rr63_3) → va_P D vwCl [cell22_ qm sm tm, cell5_ k qm sm, cell13_ k qm sm, cell8_ k qm sm, cell6_ k qm sm, cell15_ k qm sm, (qm 6, .inl (k 1, 1000, .inr (.inl g65))), (qm 7, .inl (k 1, 1000, .inr (.inl g108))), cell18_ k qm tm, cell17_ k qm tm, cell19_ k qm tm, cell21_ k qm tm, cell20_ k qm sm, cell16_ k qm sm, cell11_ k qm sm, cell10_ k qm sm, cell9_ k qm sm, cell7_ k qm sm] H → va_D A [cell22_ qm sm tm, cell5_ k qm sm, cell13_ k qm sm, cell8_ k qm sm, cell6_ k qm sm, cell15_ k qm sm, (qm 6, .inl (k 1, 1000, .inr (.inl g65))), (qm 7, .inl (k 1, 1000, .inr (.inl g108))), cell18_ k qm tm, cell17_ k qm tm, cell19_ k qm tm, cell21_ k qm tm, cell20_ k qm sm, cell16_ k qm sm, cell11_ k qm sm, cell10_ k qm sm, cell9_ k qm sm, cell7_ k qm sm] → va_S A s.heap H locs → lv_has ls 9 [(6, .int v107), (5, .int v64), (0, .ref (qm 0)), (1, .int p0), (2, .int p1), (3, .int p2), (4, .int p3)] → W p l e ({ frames := 4, cells := 0, slots := 0, locals := 99 } : Room) s m ([.ref (qm 0), .int p0, .int p1, .int p2, .int p3] : List Value).toArray below meth c H locs 0 0 Q (F0 m 63 ls []) := by
                intro n109
                induction n109 with
                | zero => intro v107 g108 H locs ls hmn109 bv107 hzrr63_3 hP hD hS hl; exact absurd hmn109 (by omega)
                | succ n109 ih63 =>
                  intro v107 g108 H locs ls hmn109 bv107 hzrr63_3 hP hD hS hl
                  refine lv_iload hx hb dX12_layMean_63 (lv_at hl 0 rfl) ?_
                  refine lv_sipush (v := 500) hx hb dX12_layMean_65 (by decide) ?_
                  refine lv_icmp_ge (tgt := 159) hx hb dX12_layMean_68 (by decide) (fun c110 => ?_) (fun c110 => ?_)
                  · have f110 : 500 ≤ v107.toInt := f_le (by decide) rfl c110
                    refine lv_iconst (v := 0) hx hb dX12_layMean_159 (by decide) ?_
                    refine lv_istore (lv' := [(6, .int 0), (5, .int v64), (0, .ref (qm 0)), (1, .int p0), (2, .int p1), (3, .int p2), (4, .int p3)]) hx hb dX12_layMean_160 hl (by decide) rfl (fun ls hl => ?_)
                    obtain ⟨rr162_4, err162_4⟩ : ∃ r : Sum (Int32 × (Nat → Int64)) (Sum (Int32 × (Nat → Int64) × (Nat → Int64)) (Sum (Int32 × (Nat → Int64)) (Int64 × (Nat → Int64) × (Nat → Int64)))), LTs (Sum.inl default : Sum (Int32 × (Nat → Int64)) (Sum (Int32 × (Nat → Int64) × (Nat → Int64)) (Sum (Int32 × (Nat → Int64)) (Int64 × (Nat → Int64) × (Nat → Int64))))) (B_X12_layMean_162_4 sm tm p0 p1 p2 p3 v15 g16 v64 g65 g66 v107 g108) 501 ((0 : Int32), g65) = r := ⟨_, rfl⟩
                    have hrr162_4 : (B_X12_layMean_63_3 sm tm p0 p1 p2 p3 v15 g16 v64 g65 g66) (v107, g108) = rr162_4 := ((exl_X12_layMean_4 c110)).trans err162_4
                    have hL162 : ∀ (n118 : Nat) (v116 : Int32) (g117 : Nat → Int64) (H : Heap) (locs : List Loc) (ls : Array Slot), 500 - v116.toInt < (n118 : Int) → (0 ≤ v116.toInt ∧ v116.toInt ≤ 500) → (LTs (Sum.inl default : Sum (Int32 × (Nat → Int64)) (Sum (Int32 × (Nat → Int64) × (Nat → Int64)) (Sum (Int32 × (Nat → Int64)) (Int64 × (Nat → Int64) × (Nat → Int64))))) (B_X12_layMean_162_4 sm tm p0 p1 p2 p3 v15 g16 v64 g65 g66 v107 g108) n118 (v116, g117) = rr162_4) → va_P D vwCl [cell22_ qm sm tm, cell5_ k qm sm, cell13_ k qm sm, cell8_ k qm sm, cell6_ k qm sm, cell15_ k qm sm, (qm 6, .inl (k 1, 1000, .inr (.inl g117))), (qm 7, .inl (k 1, 1000, .inr (.inl g108))), cell18_ k qm tm, cell17_ k qm tm, cell19_ k qm tm, cell21_ k qm tm, cell20_ k qm sm, cell16_ k qm sm, cell11_ k qm sm, cell10_ k qm sm, cell9_ k qm sm, cell7_ k qm sm] H → va_D A [cell22_ qm sm tm, cell5_ k qm sm, cell13_ k qm sm, cell8_ k qm sm, cell6_ k qm sm, cell15_ k qm sm, (qm 6, .inl (k 1, 1000, .inr (.inl g117))), (qm 7, .inl (k 1, 1000, .inr (.inl g108))), cell18_ k qm tm, cell17_ k qm tm, cell19_ k qm tm, cell21_ k qm tm, cell20_ k qm sm, cell16_ k qm sm, cell11_ k qm sm, cell10_ k qm sm, cell9_ k qm sm, cell7_ k qm sm] → va_S A s.heap H locs → lv_has ls 9 [(6, .int v116), (5, .int v64), (0, .ref (qm 0)), (1, .int p0), (2, .int p1), (3, .int p2), (4, .int p3)] → W p l e ({ frames := 4, cells := 0, slots := 0, locals := 99 } : Room) s m ([.ref (qm 0), .int p0, .int p1, .int p2, .int p3] : List Value).toArray below meth c H locs 0 0 Q (F0 m 162 ls []) := by
                      intro n118
                      induction n118 with
                      | zero => intro v116 g117 H locs ls hmn118 bv116 hzrr162_4 hP hD hS hl; exact absurd hmn118 (by omega)
                      | succ n118 ih162 =>
                        intro v116 g117 H locs ls hmn118 bv116 hzrr162_4 hP hD hS hl
                        refine lv_iload hx hb dX12_layMean_162 (lv_at hl 0 rfl) ?_
                        refine lv_sipush (v := 500) hx hb dX12_layMean_164 (by decide) ?_
                        refine lv_icmp_ge (tgt := 190) hx hb dX12_layMean_167 (by decide) (fun c119 => ?_) (fun c119 => ?_)
                        · have f119 : 500 ≤ v116.toInt := f_le (by decide) rfl c119
                          obtain ⟨v120, e120⟩ : ∃ z : Int32, z = v64 + (-1) := ⟨_, rfl⟩
                          refine lv_iinc (v := v120) (lv' := [(5, .int v120), (6, .int v116), (0, .ref (qm 0)), (1, .int p0), (2, .int p1), (3, .int p2), (4, .int p3)]) hx hb dX12_layMean_190 hl (k := 1) rfl (by rw [e120]; rfl) (by decide) rfl (fun ls hl => ?_)
                          have t120 : v120.toInt = v64.toInt + (-1) := by rw [e120]; exact i_add rfl (by decide) (by omega) (by omega)
                          refine lv_goto (tgt := 54) hx hb dX12_layMean_193 (by decide) ?_
                          exact ih54 v120 g117 g108 _ _ _ (by omega) (by first | decide | omega) (LT_g hzrr54_2 (hrr63_3.trans (LT_r hzrr63_3 (hrr162_4.trans (LT_r hzrr162_4 (exl_X12_layMean_5 e120 c119)))))) hP hD hS (lv_sub hl [0, 2, 3, 4, 5, 6] rfl)
                        · have f119 : v116.toInt < 500 := f_nle (by decide) rfl c119
                          refine lv_aload_n hx hb dX12_layMean_170 rfl (lv_at hl 2 rfl) ?_
                          refine g_get cx hP iw_X12_layMean_X12 0 rfl rfl 14 (by decide) rfl fw_X12_layMean_25 rfl dX12_layMean_171 ?_
                          refine lv_iload hx hb dX12_layMean_174 (lv_at hl 0 rfl) ?_
                          refine lv_aload_n hx hb dX12_layMean_176 rfl (lv_at hl 2 rfl) ?_
                          refine g_get cx hP iw_X12_layMean_X12 0 rfl rfl 15 (by decide) rfl fw_X12_layMean_29 rfl dX12_layMean_177 ?_
                          refine lv_iload hx hb dX12_layMean_180 (lv_at hl 0 rfl) ?_
                          have hn121 : vp_in v116 1000 := f_in (a := v116.toInt) rfl (by omega) (by omega)
                          refine va_lald hx hb cx.2.1 hP 7 1 rfl rfl hn121 dX12_layMean_182 (lv_topl (fun v122 e122 => ?_))
                          have hn123 : vp_in v116 1000 := f_in (a := v116.toInt) rfl (by omega) (by omega)
                          refine va_last hx hb cx.2.1 hP hD hS 6 1 rfl rfl hn123 dX12_layMean_183 (fun H locs hP hD hS => ?_)
                          obtain ⟨g124, eg124⟩ : ∃ g : Nat → Int64, g = vp_updL g117 (v116).toNatClampNeg v122 := ⟨_, rfl⟩
                          rw [← eg124] at hP hD
                          have hP : va_P D vwCl [cell22_ qm sm tm, cell5_ k qm sm, cell13_ k qm sm, cell8_ k qm sm, cell6_ k qm sm, cell15_ k qm sm, (qm 6, .inl (k 1, 1000, .inr (.inl g124))), (qm 7, .inl (k 1, 1000, .inr (.inl g108))), cell18_ k qm tm, cell17_ k qm tm, cell19_ k qm tm, cell21_ k qm tm, cell20_ k qm sm, cell16_ k qm sm, cell11_ k qm sm, cell10_ k qm sm, cell9_ k qm sm, cell7_ k qm sm] H := hP
                          have hD : va_D A [cell22_ qm sm tm, cell5_ k qm sm, cell13_ k qm sm, cell8_ k qm sm, cell6_ k qm sm, cell15_ k qm sm, (qm 6, .inl (k 1, 1000, .inr (.inl g124))), (qm 7, .inl (k 1, 1000, .inr (.inl g108))), cell18_ k qm tm, cell17_ k qm tm, cell19_ k qm tm, cell21_ k qm tm, cell20_ k qm sm, cell16_ k qm sm, cell11_ k qm sm, cell10_ k qm sm, cell9_ k qm sm, cell7_ k qm sm] := hD
                          obtain ⟨v125, e125⟩ : ∃ z : Int32, z = v116 + 1 := ⟨_, rfl⟩
                          refine lv_iinc (v := v125) (lv' := [(6, .int v125), (5, .int v64), (0, .ref (qm 0)), (1, .int p0), (2, .int p1), (3, .int p2), (4, .int p3)]) hx hb dX12_layMean_184 hl (k := 0) rfl (by rw [e125]; rfl) (by decide) rfl (fun ls hl => ?_)
                          have t125 : v125.toInt = v116.toInt + 1 := by rw [e125]; exact i_add rfl (by decide) (by omega) (by omega)
                          refine lv_goto (tgt := 162) hx hb dX12_layMean_187 (by decide) ?_
                          exact ih162 v125 g124 _ _ _ (by omega) (by first | decide | omega) (LT_g hzrr162_4 (exl_X12_layMean_6 e122 eg124 e125 c119)) hP hD hS (lv_sub hl [0, 1, 2, 3, 4, 5, 6] rfl)
                    have hlit126 : (0 : Int32).toInt = 0 := by decide
                    exact hL162 (501) 0 g65 _ _ _ (by omega) (by first | decide | omega) err162_4 hP hD hS (lv_sub hl [0, 1, 2, 3, 4, 5, 6] rfl)
                  · have f110 : v107.toInt < 500 := f_nle (by decide) rfl c110
                    refine lv_aload_n hx hb dX12_layMean_71 rfl (lv_at hl 2 rfl) ?_
                    refine lv_iload hx hb dX12_layMean_72 (lv_at hl 0 rfl) ?_
                    refine g_iF (w1 := fun (_ : Unit) => [cell22_ qm sm tm, cell5_ k qm sm, cell13_ k qm sm, cell8_ k qm sm, cell6_ k qm sm, cell15_ k qm sm, (qm 6, .inl (k 1, 1000, .inr (.inl g65))), (qm 7, .inl (k 1, 1000, .inr (.inl g108))), cell18_ k qm tm, cell17_ k qm tm, cell19_ k qm tm, cell21_ k qm tm, cell20_ k qm sm, cell16_ k qm sm, cell11_ k qm sm, cell10_ k qm sm, cell9_ k qm sm, cell7_ k qm sm]) (g_runVF (ws := [cell22_ qm sm tm, cell5_ k qm sm, cell13_ k qm sm, cell8_ k qm sm, cell6_ k qm sm, cell15_ k qm sm, (qm 6, .inl (k 1, 1000, .inr (.inl g65))), (qm 7, .inl (k 1, 1000, .inr (.inl g108))), cell18_ k qm tm, cell17_ k qm tm, cell19_ k qm tm, cell21_ k qm tm, cell20_ k qm sm, cell16_ k qm sm, cell11_ k qm sm, cell10_ k qm sm, cell9_ k qm sm, cell7_ k qm sm]) (rest := []) cx hP hD hS [.int v107] (c_X12_isHands l D k b qm sm (up2L (up2L tm 6 g65) 7 g108) H.size v107 (show 0 ≤ ((sm 2) 1).toInt ∧ ((sm 2) 1).toInt ≤ 4 from by first | decide | omega)) gX12_layMean_X12_isHands rfl rfl rfl nd_X12_isHands ⟨Nat.le_of_ble_eq_true rfl, Nat.le_of_ble_eq_true rfl⟩ (ci := 10) (q0 := 0) rfl rfl rfl hl.1 rfl (Nat.le_of_ble_eq_true rfl) ⟨Nat.zero_le _, Nat.zero_le _⟩ dX12_layMean_74) cx.2.2.1 hD hS (fun r128 _ H locs hw127 hP hD hS => ?_)
                    replace hw127 : (0 ≤ r128.toInt ∧ r128.toInt ≤ 1) ∧ (Imp (r128.toInt = 1) (0 ≤ v107.toInt ∧ v107.toInt ≤ 400)) ∧ (r128 = J_X12_isHands sm (up2L (up2L tm 6 g65) 7 g108) v107) := hw127
                    obtain ⟨w129, w130, w131⟩ := hw127
                    have zr128 : 0 ≤ r128.toInt ∧ r128.toInt ≤ 1 := w129
                    refine lv_if_eq (tgt := 153) hx hb dX12_layMean_77 (by decide) (fun c133 => ?_) (fun c133 => ?_)
                    · have f133 : r128.toInt = 0 := f_eq rfl (by decide) c133
                      obtain ⟨v134, e134⟩ : ∃ z : Int32, z = v107 + 1 := ⟨_, rfl⟩
                      refine lv_iinc (v := v134) (lv' := [(6, .int v134), (5, .int v64), (0, .ref (qm 0)), (1, .int p0), (2, .int p1), (3, .int p2), (4, .int p3)]) hx hb dX12_layMean_153 hl (k := 0) rfl (by rw [e134]; rfl) (by decide) rfl (fun ls hl => ?_)
                      have t134 : v134.toInt = v107.toInt + 1 := by rw [e134]; exact i_add rfl (by decide) (by omega) (by omega)
                      refine lv_goto (tgt := 63) hx hb dX12_layMean_156 (by decide) ?_
                      exact ih63 v134 g108 _ _ _ (by omega) (by first | decide | omega) (LT_g hzrr63_3 (exl_X12_layMean_7 e134 c110 w131 c133)) hP hD hS (lv_sub hl [0, 1, 2, 3, 4, 5, 6] rfl)
                    · have f133 : ¬ r128.toInt = 0 := f_ne rfl (by decide) c133
                      have k133 : (0 ≤ v107.toInt ∧ v107.toInt ≤ 400) := w130 (by omega)
                      refine lv_aload_n hx hb dX12_layMean_80 rfl (lv_at hl 2 rfl) ?_
                      refine lv_iload_n hx hb dX12_layMean_81 rfl (lv_at hl 3 rfl) ?_
                      refine lv_iload hx hb dX12_layMean_82 (lv_at hl 1 rfl) ?_
                      refine lv_iload hx hb dX12_layMean_84 (lv_at hl 0 rfl) ?_
                      refine g_iF (w1 := fun (_ : Unit) => [cell22_ qm sm tm, cell5_ k qm sm, cell13_ k qm sm, cell8_ k qm sm, cell6_ k qm sm, cell15_ k qm sm, (qm 6, .inl (k 1, 1000, .inr (.inl g65))), (qm 7, .inl (k 1, 1000, .inr (.inl g108))), cell18_ k qm tm, cell17_ k qm tm, cell19_ k qm tm, cell21_ k qm tm, cell20_ k qm sm, cell16_ k qm sm, cell11_ k qm sm, cell10_ k qm sm, cell9_ k qm sm, cell7_ k qm sm]) (g_runVF (ws := [cell22_ qm sm tm, cell5_ k qm sm, cell13_ k qm sm, cell8_ k qm sm, cell6_ k qm sm, cell15_ k qm sm, (qm 6, .inl (k 1, 1000, .inr (.inl g65))), (qm 7, .inl (k 1, 1000, .inr (.inl g108))), cell18_ k qm tm, cell17_ k qm tm, cell19_ k qm tm, cell21_ k qm tm, cell20_ k qm sm, cell16_ k qm sm, cell11_ k qm sm, cell10_ k qm sm, cell9_ k qm sm, cell7_ k qm sm]) (rest := []) cx hP hD hS [.int p0, .int v64, .int v107] (c_X12_ruleAct l D k b qm sm (up2L (up2L tm 6 g65) 7 g108) H.size p0 v64 v107 (show 0 ≤ p0.toInt ∧ p0.toInt ≤ 2 from by first | decide | omega) (show 0 ≤ v64.toInt ∧ v64.toInt ≤ 4 from by first | decide | omega)) gX12_layMean_X12_ruleAct rfl rfl rfl nd_X12_ruleAct ⟨Nat.le_of_ble_eq_true rfl, Nat.le_of_ble_eq_true rfl⟩ (ci := 10) (q0 := 0) rfl rfl rfl hl.1 rfl (Nat.le_of_ble_eq_true rfl) ⟨Nat.zero_le _, Nat.zero_le _⟩ dX12_layMean_86) cx.2.2.1 hD hS (fun r136 _ H locs hw135 hP hD hS => ?_)
                      have w137 : r136 = J_X12_ruleAct sm (up2L (up2L tm 6 g65) 7 g108) p0 v64 v107 := hw135
                      clear hw135
                      refine lv_istore (lv' := [(7, .int r136), (6, .int v107), (5, .int v64), (0, .ref (qm 0)), (1, .int p0), (2, .int p1), (3, .int p2), (4, .int p3)]) hx hb dX12_layMean_89 hl (by decide) rfl (fun ls hl => ?_)
                      refine lv_aload_n hx hb dX12_layMean_91 rfl (lv_at hl 3 rfl) ?_
                      refine lv_iload hx hb dX12_layMean_92 (lv_at hl 2 rfl) ?_
                      refine lv_iload hx hb dX12_layMean_94 (lv_at hl 1 rfl) ?_
                      refine lv_iload hx hb dX12_layMean_96 (lv_at hl 0 rfl) ?_
                      refine g_iF (w1 := fun (_ : Unit) => [cell22_ qm sm tm, cell5_ k qm sm, cell13_ k qm sm, cell8_ k qm sm, cell6_ k qm sm, cell15_ k qm sm, (qm 6, .inl (k 1, 1000, .inr (.inl g65))), (qm 7, .inl (k 1, 1000, .inr (.inl g108))), cell18_ k qm tm, cell17_ k qm tm, cell19_ k qm tm, cell21_ k qm tm, cell20_ k qm sm, cell16_ k qm sm, cell11_ k qm sm, cell10_ k qm sm, cell9_ k qm sm, cell7_ k qm sm]) (g_runVF (ws := [cell22_ qm sm tm, cell5_ k qm sm, cell13_ k qm sm, cell8_ k qm sm, cell6_ k qm sm, cell15_ k qm sm, (qm 6, .inl (k 1, 1000, .inr (.inl g65))), (qm 7, .inl (k 1, 1000, .inr (.inl g108))), cell18_ k qm tm, cell17_ k qm tm, cell19_ k qm tm, cell21_ k qm tm, cell20_ k qm sm, cell16_ k qm sm, cell11_ k qm sm, cell10_ k qm sm, cell9_ k qm sm, cell7_ k qm sm]) (rest := []) cx hP hD hS [.int v64, .int v107, .int r136] (c_X12_after l D k b qm sm (up2L (up2L tm 6 g65) 7 g108) H.size v64 v107 r136 (show 0 ≤ ((sm 2) 0).toInt ∧ ((sm 2) 0).toInt ≤ 5 from by first | decide | omega) (show 0 ≤ v64.toInt ∧ v64.toInt ≤ 4 from by first | decide | omega)) gX12_layMean_X12_after rfl rfl rfl nd_X12_after ⟨Nat.le_of_ble_eq_true rfl, Nat.le_of_ble_eq_true rfl⟩ (ci := 10) (q0 := 0) rfl rfl rfl hl.1 rfl (Nat.le_of_ble_eq_true rfl) ⟨Nat.zero_le _, Nat.zero_le _⟩ dX12_layMean_98) cx.2.2.1 hD hS (fun r140 _ H locs hw139 hP hD hS => ?_)
                      have w141 : r140 = J_X12_after sm (up2L (up2L tm 6 g65) 7 g108) v64 v107 r136 := hw139
                      clear hw139
                      refine lv_istore (lv' := [(8, .int r140), (7, .int r136), (6, .int v107), (5, .int v64), (0, .ref (qm 0)), (1, .int p0), (2, .int p1), (3, .int p2), (4, .int p3)]) hx hb dX12_layMean_101 hl (by decide) rfl (fun ls hl => ?_)
                      refine lv_aload_n hx hb dX12_layMean_103 rfl (lv_at hl 4 rfl) ?_
                      refine g_get cx hP iw_X12_layMean_X12 0 rfl rfl 15 (by decide) rfl fw_X12_layMean_29 rfl dX12_layMean_104 ?_
                      refine lv_iload hx hb dX12_layMean_107 (lv_at hl 2 rfl) ?_
                      refine lv_aload_n hx hb dX12_layMean_109 rfl (lv_at hl 4 rfl) ?_
                      refine lv_iload hx hb dX12_layMean_110 (lv_at hl 3 rfl) ?_
                      refine lv_iload hx hb dX12_layMean_112 (lv_at hl 0 rfl) ?_
                      refine lv_iload hx hb dX12_layMean_114 (lv_at hl 3 rfl) ?_
                      refine lv_iload_n hx hb dX12_layMean_116 rfl (lv_at hl 6 rfl) ?_
                      refine lv_icmp_ne (tgt := 125) hx hb dX12_layMean_117 (by decide) (fun c143 => ?_) (fun c143 => ?_)
                      · have f143 : ¬ v64.toInt = p1.toInt := f_ne rfl rfl c143
                        refine lv_iconst (v := 0) hx hb dX12_layMean_125 (by decide) ?_
                        refine lv_iload hx hb dX12_layMean_126 (lv_at hl 1 rfl) ?_
                        refine g_iF (w1 := fun (_ : Unit) => [cell22_ qm sm tm, cell5_ k qm sm, cell13_ k qm sm, cell8_ k qm sm, cell6_ k qm sm, cell15_ k qm sm, (qm 6, .inl (k 1, 1000, .inr (.inl g65))), (qm 7, .inl (k 1, 1000, .inr (.inl g108))), cell18_ k qm tm, cell17_ k qm tm, cell19_ k qm tm, cell21_ k qm tm, cell20_ k qm sm, cell16_ k qm sm, cell11_ k qm sm, cell10_ k qm sm, cell9_ k qm sm, cell7_ k qm sm]) (g_runVF (ws := [cell22_ qm sm tm, cell5_ k qm sm, cell13_ k qm sm, cell8_ k qm sm, cell6_ k qm sm, cell15_ k qm sm, (qm 6, .inl (k 1, 1000, .inr (.inl g65))), (qm 7, .inl (k 1, 1000, .inr (.inl g108))), cell18_ k qm tm, cell17_ k qm tm, cell19_ k qm tm, cell21_ k qm tm, cell20_ k qm sm, cell16_ k qm sm, cell11_ k qm sm, cell10_ k qm sm, cell9_ k qm sm, cell7_ k qm sm]) (rest := [.int v107, .ref (qm 7)]) cx hP hD hS [.int v64, .int r140, .int 0, .int r136] (c_X12_costOf l D k b qm sm (up2L (up2L tm 6 g65) 7 g108) H.size v64 r140 0 r136 (show 0 ≤ v64.toInt ∧ v64.toInt ≤ 4 from by first | decide | omega)) gX12_layMean_X12_costOf rfl rfl rfl nd_X12_costOf ⟨Nat.le_of_ble_eq_true rfl, Nat.le_of_ble_eq_true rfl⟩ (ci := 10) (q0 := 0) rfl rfl rfl hl.1 rfl (Nat.le_of_ble_eq_true rfl) ⟨Nat.zero_le _, Nat.zero_le _⟩ dX12_layMean_128) cx.2.2.1 hD hS (fun r145 _ H locs hw144 hP hD hS => ?_)
                        have w146 : r145 = J_X12_costOf sm (up2L (up2L tm 6 g65) 7 g108) v64 r140 (0 : Int32) r136 := hw144
                        clear hw144
                        obtain ⟨v148, e148⟩ : ∃ z : Int64, z = (r145 : Int32).toInt64 := ⟨_, rfl⟩
                        refine lv_i2l (v := v148) hx hb dX12_layMean_131 e148.symm ?_
                        refine lv_aload_n hx hb dX12_layMean_132 rfl (lv_at hl 4 rfl) ?_
                        refine g_get cx hP iw_X12_layMean_X12 0 rfl rfl 1 (by decide) rfl fw_X12_layMean_13 rfl dX12_layMean_133 ?_
                        refine lv_iconst (v := 0) hx hb dX12_layMean_136 (by decide) ?_
                        have hn149 : vp_in 0 26 := f_in (a := 0) (by decide) (by omega) (by omega)
                        refine va_iald hx hb cx.2.1 hP 2 0 rfl rfl hn149 dX12_layMean_137 (lv_topi (fun v150 e150 => ?_))
                        have qv150_ : v150.toInt = v20.toInt := congrArg Int32.toInt (e150.trans e20.symm)
                        have uv150 : v150.toInt = ((sm 2) 0).toInt := congrArg Int32.toInt e150
                        have t150 : 0 ≤ v150.toInt ∧ v150.toInt ≤ 5 := by rw [e150]; exact h_w0
                        refine lv_iload hx hb dX12_layMean_138 (lv_at hl 3 rfl) ?_
                        refine lv_isub hx hb dX12_layMean_140 (lv_topi (fun v151 e151 => ?_))
                        have t151 : v151.toInt = v150.toInt - v64.toInt := by rw [e151]; exact i_sub rfl rfl (by omega) (by omega)
                        refine g_lr (g_runS (wc := []) (rest := [.long v148, .int v107, .ref (qm 7)]) cx hP hD hS [] rfl (by decide) [.int v151] (c_X12_parts l D k b H.size v151) gX12_layMean_X12_parts rfl rfl rfl nd_X12_parts ⟨Nat.le_of_ble_eq_true rfl, Nat.le_of_ble_eq_true rfl⟩ rfl hl.1 rfl (Nat.le_of_ble_eq_true rfl) ⟨Nat.zero_le _, Nat.zero_le _⟩ dX12_layMean_141) cx.2.2.1 hP hD hS [] rfl rfl (fun r153 H locs hw152 hP hS => ?_)
                        replace hw152 : (r153.toInt % 2 = 1) ∧ (r153 = J_X12_parts v151) := hw152
                        obtain ⟨w154, w155⟩ := hw152
                        refine lv_lmul hx hb dX12_layMean_144 (lv_topl (fun v157 e157 => ?_))
                        refine lv_aload_n hx hb dX12_layMean_145 rfl (lv_at hl 4 rfl) ?_
                        refine lv_iload hx hb dX12_layMean_146 (lv_at hl 0 rfl) ?_
                        refine g_lF (w1 := fun (_ : Unit) => [cell22_ qm sm tm, cell5_ k qm sm, cell13_ k qm sm, cell8_ k qm sm, cell6_ k qm sm, cell15_ k qm sm, (qm 6, .inl (k 1, 1000, .inr (.inl g65))), (qm 7, .inl (k 1, 1000, .inr (.inl g108))), cell18_ k qm tm, cell17_ k qm tm, cell19_ k qm tm, cell21_ k qm tm, cell20_ k qm sm, cell16_ k qm sm, cell11_ k qm sm, cell10_ k qm sm, cell9_ k qm sm, cell7_ k qm sm]) (g_runVF (ws := [cell22_ qm sm tm, cell5_ k qm sm, cell13_ k qm sm, cell8_ k qm sm, cell6_ k qm sm, cell15_ k qm sm, (qm 6, .inl (k 1, 1000, .inr (.inl g65))), (qm 7, .inl (k 1, 1000, .inr (.inl g108))), cell18_ k qm tm, cell17_ k qm tm, cell19_ k qm tm, cell21_ k qm tm, cell20_ k qm sm, cell16_ k qm sm, cell11_ k qm sm, cell10_ k qm sm, cell9_ k qm sm, cell7_ k qm sm]) (rest := [.long v157, .int v107, .ref (qm 7)]) cx hP hD hS [.int r140] (c_X12_onward l D k b qm sm (up2L (up2L tm 6 g65) 7 g108) H.size r140 (show 0 ≤ ((sm 2) 1).toInt ∧ ((sm 2) 1).toInt ≤ 4 from by first | decide | omega)) gX12_layMean_X12_onward rfl rfl rfl nd_X12_onward ⟨Nat.le_of_ble_eq_true rfl, Nat.le_of_ble_eq_true rfl⟩ (ci := 10) (q0 := 0) rfl rfl rfl hl.1 rfl (Nat.le_of_ble_eq_true rfl) ⟨Nat.zero_le _, Nat.zero_le _⟩ dX12_layMean_148) cx.2.2.1 hD hS (fun r159 _ H locs hw158 hP hD hS => ?_)
                        have w160 : r159 = J_X12_onward sm (up2L (up2L tm 6 g65) 7 g108) r140 := hw158
                        clear hw158
                        refine lv_ladd hx hb dX12_layMean_151 (lv_topl (fun v162 e162 => ?_))
                        have hn163 : vp_in v107 1000 := f_in (a := v107.toInt) rfl (by omega) (by omega)
                        refine va_last hx hb cx.2.1 hP hD hS 7 1 rfl rfl hn163 dX12_layMean_152 (fun H locs hP hD hS => ?_)
                        obtain ⟨g164, eg164⟩ : ∃ g : Nat → Int64, g = vp_updL g108 (v107).toNatClampNeg v162 := ⟨_, rfl⟩
                        rw [← eg164] at hP hD
                        have hP : va_P D vwCl [cell22_ qm sm tm, cell5_ k qm sm, cell13_ k qm sm, cell8_ k qm sm, cell6_ k qm sm, cell15_ k qm sm, (qm 6, .inl (k 1, 1000, .inr (.inl g65))), (qm 7, .inl (k 1, 1000, .inr (.inl g164))), cell18_ k qm tm, cell17_ k qm tm, cell19_ k qm tm, cell21_ k qm tm, cell20_ k qm sm, cell16_ k qm sm, cell11_ k qm sm, cell10_ k qm sm, cell9_ k qm sm, cell7_ k qm sm] H := hP
                        have hD : va_D A [cell22_ qm sm tm, cell5_ k qm sm, cell13_ k qm sm, cell8_ k qm sm, cell6_ k qm sm, cell15_ k qm sm, (qm 6, .inl (k 1, 1000, .inr (.inl g65))), (qm 7, .inl (k 1, 1000, .inr (.inl g164))), cell18_ k qm tm, cell17_ k qm tm, cell19_ k qm tm, cell21_ k qm tm, cell20_ k qm sm, cell16_ k qm sm, cell11_ k qm sm, cell10_ k qm sm, cell9_ k qm sm, cell7_ k qm sm] := hD
                        obtain ⟨v165, e165⟩ : ∃ z : Int32, z = v107 + 1 := ⟨_, rfl⟩
                        refine lv_iinc (v := v165) (lv' := [(6, .int v165), (8, .int r140), (7, .int r136), (5, .int v64), (0, .ref (qm 0)), (1, .int p0), (2, .int p1), (3, .int p2), (4, .int p3)]) hx hb dX12_layMean_153 hl (k := 2) rfl (by rw [e165]; rfl) (by decide) rfl (fun ls hl => ?_)
                        have t165 : v165.toInt = v107.toInt + 1 := by rw [e165]; exact i_add rfl (by decide) (by omega) (by omega)
                        refine lv_goto (tgt := 63) hx hb dX12_layMean_156 (by decide) ?_
                        exact ih63 v165 g164 _ _ _ (by omega) (by first | decide | omega) (LT_g hzrr63_3 (exl_X12_layMean_8 e148 e150 e151 e157 e162 eg164 e165 c110 w131 c133 w137 w141 c143 w146 w155 w160)) hP hD hS (lv_sub hl [0, 3, 4, 5, 6, 7, 8] rfl)
                      · have f143 : v64.toInt = p1.toInt := f_eq rfl rfl c143
                        refine lv_iload hx hb dX12_layMean_120 (lv_at hl 8 rfl) ?_
                        refine lv_goto (tgt := 126) hx hb dX12_layMean_122 (by decide) ?_
                        refine lv_iload hx hb dX12_layMean_126 (lv_at hl 1 rfl) ?_
                        refine g_iF (w1 := fun (_ : Unit) => [cell22_ qm sm tm, cell5_ k qm sm, cell13_ k qm sm, cell8_ k qm sm, cell6_ k qm sm, cell15_ k qm sm, (qm 6, .inl (k 1, 1000, .inr (.inl g65))), (qm 7, .inl (k 1, 1000, .inr (.inl g108))), cell18_ k qm tm, cell17_ k qm tm, cell19_ k qm tm, cell21_ k qm tm, cell20_ k qm sm, cell16_ k qm sm, cell11_ k qm sm, cell10_ k qm sm, cell9_ k qm sm, cell7_ k qm sm]) (g_runVF (ws := [cell22_ qm sm tm, cell5_ k qm sm, cell13_ k qm sm, cell8_ k qm sm, cell6_ k qm sm, cell15_ k qm sm, (qm 6, .inl (k 1, 1000, .inr (.inl g65))), (qm 7, .inl (k 1, 1000, .inr (.inl g108))), cell18_ k qm tm, cell17_ k qm tm, cell19_ k qm tm, cell21_ k qm tm, cell20_ k qm sm, cell16_ k qm sm, cell11_ k qm sm, cell10_ k qm sm, cell9_ k qm sm, cell7_ k qm sm]) (rest := [.int v107, .ref (qm 7)]) cx hP hD hS [.int v64, .int r140, .int p3, .int r136] (c_X12_costOf l D k b qm sm (up2L (up2L tm 6 g65) 7 g108) H.size v64 r140 p3 r136 (show 0 ≤ v64.toInt ∧ v64.toInt ≤ 4 from by first | decide | omega)) gX12_layMean_X12_costOf rfl rfl rfl nd_X12_costOf ⟨Nat.le_of_ble_eq_true rfl, Nat.le_of_ble_eq_true rfl⟩ (ci := 10) (q0 := 0) rfl rfl rfl hl.1 rfl (Nat.le_of_ble_eq_true rfl) ⟨Nat.zero_le _, Nat.zero_le _⟩ dX12_layMean_128) cx.2.2.1 hD hS (fun r167 _ H locs hw166 hP hD hS => ?_)
                        have w168 : r167 = J_X12_costOf sm (up2L (up2L tm 6 g65) 7 g108) v64 r140 p3 r136 := hw166
                        clear hw166
                        obtain ⟨v170, e170⟩ : ∃ z : Int64, z = (r167 : Int32).toInt64 := ⟨_, rfl⟩
                        refine lv_i2l (v := v170) hx hb dX12_layMean_131 e170.symm ?_
                        refine lv_aload_n hx hb dX12_layMean_132 rfl (lv_at hl 4 rfl) ?_
                        refine g_get cx hP iw_X12_layMean_X12 0 rfl rfl 1 (by decide) rfl fw_X12_layMean_13 rfl dX12_layMean_133 ?_
                        refine lv_iconst (v := 0) hx hb dX12_layMean_136 (by decide) ?_
                        have hn171 : vp_in 0 26 := f_in (a := 0) (by decide) (by omega) (by omega)
                        refine va_iald hx hb cx.2.1 hP 2 0 rfl rfl hn171 dX12_layMean_137 (lv_topi (fun v172 e172 => ?_))
                        have qv172_ : v172.toInt = v20.toInt := congrArg Int32.toInt (e172.trans e20.symm)
                        have uv172 : v172.toInt = ((sm 2) 0).toInt := congrArg Int32.toInt e172
                        have t172 : 0 ≤ v172.toInt ∧ v172.toInt ≤ 5 := by rw [e172]; exact h_w0
                        refine lv_iload hx hb dX12_layMean_138 (lv_at hl 3 rfl) ?_
                        refine lv_isub hx hb dX12_layMean_140 (lv_topi (fun v173 e173 => ?_))
                        have t173 : v173.toInt = v172.toInt - v64.toInt := by rw [e173]; exact i_sub rfl rfl (by omega) (by omega)
                        refine g_lr (g_runS (wc := []) (rest := [.long v170, .int v107, .ref (qm 7)]) cx hP hD hS [] rfl (by decide) [.int v173] (c_X12_parts l D k b H.size v173) gX12_layMean_X12_parts rfl rfl rfl nd_X12_parts ⟨Nat.le_of_ble_eq_true rfl, Nat.le_of_ble_eq_true rfl⟩ rfl hl.1 rfl (Nat.le_of_ble_eq_true rfl) ⟨Nat.zero_le _, Nat.zero_le _⟩ dX12_layMean_141) cx.2.2.1 hP hD hS [] rfl rfl (fun r175 H locs hw174 hP hS => ?_)
                        replace hw174 : (r175.toInt % 2 = 1) ∧ (r175 = J_X12_parts v173) := hw174
                        obtain ⟨w176, w177⟩ := hw174
                        refine lv_lmul hx hb dX12_layMean_144 (lv_topl (fun v179 e179 => ?_))
                        refine lv_aload_n hx hb dX12_layMean_145 rfl (lv_at hl 4 rfl) ?_
                        refine lv_iload hx hb dX12_layMean_146 (lv_at hl 0 rfl) ?_
                        refine g_lF (w1 := fun (_ : Unit) => [cell22_ qm sm tm, cell5_ k qm sm, cell13_ k qm sm, cell8_ k qm sm, cell6_ k qm sm, cell15_ k qm sm, (qm 6, .inl (k 1, 1000, .inr (.inl g65))), (qm 7, .inl (k 1, 1000, .inr (.inl g108))), cell18_ k qm tm, cell17_ k qm tm, cell19_ k qm tm, cell21_ k qm tm, cell20_ k qm sm, cell16_ k qm sm, cell11_ k qm sm, cell10_ k qm sm, cell9_ k qm sm, cell7_ k qm sm]) (g_runVF (ws := [cell22_ qm sm tm, cell5_ k qm sm, cell13_ k qm sm, cell8_ k qm sm, cell6_ k qm sm, cell15_ k qm sm, (qm 6, .inl (k 1, 1000, .inr (.inl g65))), (qm 7, .inl (k 1, 1000, .inr (.inl g108))), cell18_ k qm tm, cell17_ k qm tm, cell19_ k qm tm, cell21_ k qm tm, cell20_ k qm sm, cell16_ k qm sm, cell11_ k qm sm, cell10_ k qm sm, cell9_ k qm sm, cell7_ k qm sm]) (rest := [.long v179, .int v107, .ref (qm 7)]) cx hP hD hS [.int r140] (c_X12_onward l D k b qm sm (up2L (up2L tm 6 g65) 7 g108) H.size r140 (show 0 ≤ ((sm 2) 1).toInt ∧ ((sm 2) 1).toInt ≤ 4 from by first | decide | omega)) gX12_layMean_X12_onward rfl rfl rfl nd_X12_onward ⟨Nat.le_of_ble_eq_true rfl, Nat.le_of_ble_eq_true rfl⟩ (ci := 10) (q0 := 0) rfl rfl rfl hl.1 rfl (Nat.le_of_ble_eq_true rfl) ⟨Nat.zero_le _, Nat.zero_le _⟩ dX12_layMean_148) cx.2.2.1 hD hS (fun r181 _ H locs hw180 hP hD hS => ?_)
                        have w182 : r181 = J_X12_onward sm (up2L (up2L tm 6 g65) 7 g108) r140 := hw180
                        clear hw180
                        refine lv_ladd hx hb dX12_layMean_151 (lv_topl (fun v184 e184 => ?_))
                        have hn185 : vp_in v107 1000 := f_in (a := v107.toInt) rfl (by omega) (by omega)
                        refine va_last hx hb cx.2.1 hP hD hS 7 1 rfl rfl hn185 dX12_layMean_152 (fun H locs hP hD hS => ?_)
                        obtain ⟨g186, eg186⟩ : ∃ g : Nat → Int64, g = vp_updL g108 (v107).toNatClampNeg v184 := ⟨_, rfl⟩
                        rw [← eg186] at hP hD
                        have hP : va_P D vwCl [cell22_ qm sm tm, cell5_ k qm sm, cell13_ k qm sm, cell8_ k qm sm, cell6_ k qm sm, cell15_ k qm sm, (qm 6, .inl (k 1, 1000, .inr (.inl g65))), (qm 7, .inl (k 1, 1000, .inr (.inl g186))), cell18_ k qm tm, cell17_ k qm tm, cell19_ k qm tm, cell21_ k qm tm, cell20_ k qm sm, cell16_ k qm sm, cell11_ k qm sm, cell10_ k qm sm, cell9_ k qm sm, cell7_ k qm sm] H := hP
                        have hD : va_D A [cell22_ qm sm tm, cell5_ k qm sm, cell13_ k qm sm, cell8_ k qm sm, cell6_ k qm sm, cell15_ k qm sm, (qm 6, .inl (k 1, 1000, .inr (.inl g65))), (qm 7, .inl (k 1, 1000, .inr (.inl g186))), cell18_ k qm tm, cell17_ k qm tm, cell19_ k qm tm, cell21_ k qm tm, cell20_ k qm sm, cell16_ k qm sm, cell11_ k qm sm, cell10_ k qm sm, cell9_ k qm sm, cell7_ k qm sm] := hD
                        obtain ⟨v187, e187⟩ : ∃ z : Int32, z = v107 + 1 := ⟨_, rfl⟩
                        refine lv_iinc (v := v187) (lv' := [(6, .int v187), (8, .int r140), (7, .int r136), (5, .int v64), (0, .ref (qm 0)), (1, .int p0), (2, .int p1), (3, .int p2), (4, .int p3)]) hx hb dX12_layMean_153 hl (k := 2) rfl (by rw [e187]; rfl) (by decide) rfl (fun ls hl => ?_)
                        have t187 : v187.toInt = v107.toInt + 1 := by rw [e187]; exact i_add rfl (by decide) (by omega) (by omega)
                        refine lv_goto (tgt := 63) hx hb dX12_layMean_156 (by decide) ?_
                        exact ih63 v187 g186 _ _ _ (by omega) (by first | decide | omega) (LT_g hzrr63_3 (exl_X12_layMean_9 e170 e172 e173 e179 e184 eg186 e187 c110 w131 c133 w137 w141 c143 w168 w177 w182)) hP hD hS (lv_sub hl [0, 3, 4, 5, 6, 7, 8] rfl)
              have hlit188 : (0 : Int32).toInt = 0 := by decide
              exact hL63 (501) 0 g66 _ _ _ (by omega) (by first | decide | omega) err63_3 hP hD hS (lv_sub hl [0, 1, 2, 3, 4, 5, 6] rfl)
        exact hL54 (6) v21 g16 (tm 7) _ _ _ (by omega) (by first | decide | omega) err54_2 hP hD hS (lv_sub hl [0, 1, 2, 3, 4, 5] rfl)
      · have f18 : v15.toInt < 1000 := f_nle (by decide) rfl c18
        refine lv_aload_n hx hb dX12_layMean_11 rfl (lv_at hl 1 rfl) ?_
        refine g_get cx hP iw_X12_layMean_X12 0 rfl rfl 14 (by decide) rfl fw_X12_layMean_25 rfl dX12_layMean_12 ?_
        refine lv_iload hx hb dX12_layMean_15 (lv_at hl 0 rfl) ?_
        refine lv_aload_n hx hb dX12_layMean_17 rfl (lv_at hl 1 rfl) ?_
        refine lv_iload hx hb dX12_layMean_18 (lv_at hl 0 rfl) ?_
        refine g_iF (w1 := fun (_ : Unit) => [cell22_ qm sm tm, cell5_ k qm sm, cell13_ k qm sm, cell8_ k qm sm, cell6_ k qm sm, cell15_ k qm sm, (qm 6, .inl (k 1, 1000, .inr (.inl g16))), cell12_ k qm tm, cell18_ k qm tm, cell17_ k qm tm, cell19_ k qm tm, cell21_ k qm tm, cell20_ k qm sm, cell16_ k qm sm, cell11_ k qm sm, cell10_ k qm sm, cell9_ k qm sm, cell7_ k qm sm]) (g_runVF (ws := [cell22_ qm sm tm, cell5_ k qm sm, cell13_ k qm sm, cell8_ k qm sm, cell6_ k qm sm, cell15_ k qm sm, (qm 6, .inl (k 1, 1000, .inr (.inl g16))), cell12_ k qm tm, cell18_ k qm tm, cell17_ k qm tm, cell19_ k qm tm, cell21_ k qm tm, cell20_ k qm sm, cell16_ k qm sm, cell11_ k qm sm, cell10_ k qm sm, cell9_ k qm sm, cell7_ k qm sm]) (rest := [.int v15, .ref (qm 6)]) cx hP hD hS [.int v15] (c_X12_isHands l D k b qm sm (up2L tm 6 g16) H.size v15 (show 0 ≤ ((sm 2) 1).toInt ∧ ((sm 2) 1).toInt ≤ 4 from by first | decide | omega)) gX12_layMean_X12_isHands rfl rfl rfl nd_X12_isHands ⟨Nat.le_of_ble_eq_true rfl, Nat.le_of_ble_eq_true rfl⟩ (ci := 10) (q0 := 0) rfl rfl rfl hl.1 rfl (Nat.le_of_ble_eq_true rfl) ⟨Nat.zero_le _, Nat.zero_le _⟩ dX12_layMean_20) cx.2.2.1 hD hS (fun r190 _ H locs hw189 hP hD hS => ?_)
        replace hw189 : (0 ≤ r190.toInt ∧ r190.toInt ≤ 1) ∧ (Imp (r190.toInt = 1) (0 ≤ v15.toInt ∧ v15.toInt ≤ 400)) ∧ (r190 = J_X12_isHands sm (up2L tm 6 g16) v15) := hw189
        obtain ⟨w191, w192, w193⟩ := hw189
        have zr190 : 0 ≤ r190.toInt ∧ r190.toInt ≤ 1 := w191
        refine lv_if_eq (tgt := 36) hx hb dX12_layMean_23 (by decide) (fun c195 => ?_) (fun c195 => ?_)
        · have f195 : r190.toInt = 0 := f_eq rfl (by decide) c195
          refine lv_lconst (v := 0) hx hb dX12_layMean_36 (by decide) ?_
          have hn196 : vp_in v15 1000 := f_in (a := v15.toInt) rfl (by omega) (by omega)
          refine va_last hx hb cx.2.1 hP hD hS 6 1 rfl rfl hn196 dX12_layMean_37 (fun H locs hP hD hS => ?_)
          obtain ⟨g197, eg197⟩ : ∃ g : Nat → Int64, g = vp_updL g16 (v15).toNatClampNeg 0 := ⟨_, rfl⟩
          rw [← eg197] at hP hD
          have hP : va_P D vwCl [cell22_ qm sm tm, cell5_ k qm sm, cell13_ k qm sm, cell8_ k qm sm, cell6_ k qm sm, cell15_ k qm sm, (qm 6, .inl (k 1, 1000, .inr (.inl g197))), cell12_ k qm tm, cell18_ k qm tm, cell17_ k qm tm, cell19_ k qm tm, cell21_ k qm tm, cell20_ k qm sm, cell16_ k qm sm, cell11_ k qm sm, cell10_ k qm sm, cell9_ k qm sm, cell7_ k qm sm] H := hP
          have hD : va_D A [cell22_ qm sm tm, cell5_ k qm sm, cell13_ k qm sm, cell8_ k qm sm, cell6_ k qm sm, cell15_ k qm sm, (qm 6, .inl (k 1, 1000, .inr (.inl g197))), cell12_ k qm tm, cell18_ k qm tm, cell17_ k qm tm, cell19_ k qm tm, cell21_ k qm tm, cell20_ k qm sm, cell16_ k qm sm, cell11_ k qm sm, cell10_ k qm sm, cell9_ k qm sm, cell7_ k qm sm] := hD
          obtain ⟨v198, e198⟩ : ∃ z : Int32, z = v15 + 1 := ⟨_, rfl⟩
          refine lv_iinc (v := v198) (lv' := [(5, .int v198), (0, .ref (qm 0)), (1, .int p0), (2, .int p1), (3, .int p2), (4, .int p3)]) hx hb dX12_layMean_38 hl (k := 0) rfl (by rw [e198]; rfl) (by decide) rfl (fun ls hl => ?_)
          have t198 : v198.toInt = v15.toInt + 1 := by rw [e198]; exact i_add rfl (by decide) (by omega) (by omega)
          refine lv_goto (tgt := 3) hx hb dX12_layMean_41 (by decide) ?_
          exact ih3 v198 g197 _ _ _ (by omega) (by first | decide | omega) (LT_g hzrr3_1 (exl_X12_layMean_10 eg197 e198 c18 w193 c195)) hP hD hS (lv_sub hl [0, 1, 2, 3, 4, 5] rfl)
        · have f195 : ¬ r190.toInt = 0 := f_ne rfl (by decide) c195
          have k195 : (0 ≤ v15.toInt ∧ v15.toInt ≤ 400) := w192 (by omega)
          refine lv_aload_n hx hb dX12_layMean_26 rfl (lv_at hl 1 rfl) ?_
          refine lv_iload hx hb dX12_layMean_27 (lv_at hl 0 rfl) ?_
          refine g_iF (w1 := fun (_ : Unit) => [cell22_ qm sm tm, cell5_ k qm sm, cell13_ k qm sm, cell8_ k qm sm, cell6_ k qm sm, cell15_ k qm sm, (qm 6, .inl (k 1, 1000, .inr (.inl g16))), cell12_ k qm tm, cell18_ k qm tm, cell17_ k qm tm, cell19_ k qm tm, cell21_ k qm tm, cell20_ k qm sm, cell16_ k qm sm, cell11_ k qm sm, cell10_ k qm sm, cell9_ k qm sm, cell7_ k qm sm]) (g_runVF (ws := [cell22_ qm sm tm, cell5_ k qm sm, cell13_ k qm sm, cell8_ k qm sm, cell6_ k qm sm, cell15_ k qm sm, (qm 6, .inl (k 1, 1000, .inr (.inl g16))), cell12_ k qm tm, cell18_ k qm tm, cell17_ k qm tm, cell19_ k qm tm, cell21_ k qm tm, cell20_ k qm sm, cell16_ k qm sm, cell11_ k qm sm, cell10_ k qm sm, cell9_ k qm sm, cell7_ k qm sm]) (rest := [.int v15, .ref (qm 6)]) cx hP hD hS [.int v15] (c_X12_bonus l D k b qm sm (up2L tm 6 g16) H.size v15) gX12_layMean_X12_bonus rfl rfl rfl nd_X12_bonus ⟨Nat.le_of_ble_eq_true rfl, Nat.le_of_ble_eq_true rfl⟩ (ci := 10) (q0 := 0) rfl rfl rfl hl.1 rfl (Nat.le_of_ble_eq_true rfl) ⟨Nat.zero_le _, Nat.zero_le _⟩ dX12_layMean_29) cx.2.2.1 hD hS (fun r200 _ H locs hw199 hP hD hS => ?_)
          have w201 : r200 = J_X12_bonus sm (up2L tm 6 g16) v15 := hw199
          clear hw199
          obtain ⟨v203, e203⟩ : ∃ z : Int64, z = (r200 : Int32).toInt64 := ⟨_, rfl⟩
          refine lv_i2l (v := v203) hx hb dX12_layMean_32 e203.symm ?_
          refine lv_goto (tgt := 37) hx hb dX12_layMean_33 (by decide) ?_
          have hn204 : vp_in v15 1000 := f_in (a := v15.toInt) rfl (by omega) (by omega)
          refine va_last hx hb cx.2.1 hP hD hS 6 1 rfl rfl hn204 dX12_layMean_37 (fun H locs hP hD hS => ?_)
          obtain ⟨g205, eg205⟩ : ∃ g : Nat → Int64, g = vp_updL g16 (v15).toNatClampNeg v203 := ⟨_, rfl⟩
          rw [← eg205] at hP hD
          have hP : va_P D vwCl [cell22_ qm sm tm, cell5_ k qm sm, cell13_ k qm sm, cell8_ k qm sm, cell6_ k qm sm, cell15_ k qm sm, (qm 6, .inl (k 1, 1000, .inr (.inl g205))), cell12_ k qm tm, cell18_ k qm tm, cell17_ k qm tm, cell19_ k qm tm, cell21_ k qm tm, cell20_ k qm sm, cell16_ k qm sm, cell11_ k qm sm, cell10_ k qm sm, cell9_ k qm sm, cell7_ k qm sm] H := hP
          have hD : va_D A [cell22_ qm sm tm, cell5_ k qm sm, cell13_ k qm sm, cell8_ k qm sm, cell6_ k qm sm, cell15_ k qm sm, (qm 6, .inl (k 1, 1000, .inr (.inl g205))), cell12_ k qm tm, cell18_ k qm tm, cell17_ k qm tm, cell19_ k qm tm, cell21_ k qm tm, cell20_ k qm sm, cell16_ k qm sm, cell11_ k qm sm, cell10_ k qm sm, cell9_ k qm sm, cell7_ k qm sm] := hD
          obtain ⟨v206, e206⟩ : ∃ z : Int32, z = v15 + 1 := ⟨_, rfl⟩
          refine lv_iinc (v := v206) (lv' := [(5, .int v206), (0, .ref (qm 0)), (1, .int p0), (2, .int p1), (3, .int p2), (4, .int p3)]) hx hb dX12_layMean_38 hl (k := 0) rfl (by rw [e206]; rfl) (by decide) rfl (fun ls hl => ?_)
          have t206 : v206.toInt = v15.toInt + 1 := by rw [e206]; exact i_add rfl (by decide) (by omega) (by omega)
          refine lv_goto (tgt := 3) hx hb dX12_layMean_41 (by decide) ?_
          exact ih3 v206 g205 _ _ _ (by omega) (by first | decide | omega) (LT_g hzrr3_1 (exl_X12_layMean_11 e203 eg205 e206 c18 w193 c195 w201)) hP hD hS (lv_sub hl [0, 1, 2, 3, 4, 5] rfl)
  have hlit207 : (0 : Int32).toInt = 0 := by decide
  exact hL3 (1001) 0 (tm 6) _ _ _ (by omega) (by first | decide | omega) err3_1 hP hD hS (lv_sub hl [0, 1, 2, 3, 4, 5] rfl)
theorem fw_X12_mean_13 : Cond.fieldLink RX12 13 "StillInAugustModel" "house" "[I" ∈ wsX12_mean := by decide +kernel
theorem kJ_X12_mean_206 : Cond.constantLong RX12 206 (-2) ∈ wsX12_mean := by decide +kernel
theorem kJ_X12_mean_221 : Cond.constantLong RX12 221 (-1) ∈ wsX12_mean := by decide +kernel
theorem nd_X12_layMean : yX12_layMean.cls = RX12 ∧ yX12_layMean.cls ≠ "java/lang/invoke/MethodHandle" ∧ yX12_layMean.cls ≠ "java/lang/invoke/VarHandle" ∧ (parseMethodDescriptor yX12_layMean.desc).map (fun d => d.parameters.length) = some 4 := by decide +kernel
theorem iw_X12_mean_X12 : ∀ w ∈ u_ws RX12 TX12 33, w ∈ wsX12_mean := fun _ h => List.mem_cons_of_mem _ (List.mem_append_right _ h)
def J_X12_mean (sm : Nat → Nat → Int32) (tm : Nat → Nat → Int64) (p0 : Int32) (p1 : Int32) (p2 : Int32) (p3 : Int32) (p4 : Int32) : Int64 × (Nat → Int64) × (Nat → Int64) := LetF (J_X12_isRule p0) (fun y6 => if y6 = 0 then (((-1) : Int64), (tm 6), (tm 7)) else LetF (J_X12_isWeek sm tm p1) (fun y13 => if y13 = 0 then (((-1) : Int64), (tm 6), (tm 7)) else LetF (J_X12_isHands sm tm p2) (fun y20 => if y20 = 0 then (((-2) : Int64), (tm 6), (tm 7)) else LetF (J_X12_isComing sm tm p3) (fun y27 => if y27 = 0 then (((-2) : Int64), (tm 6), (tm 7)) else LetF (J_X12_layMean sm tm p0 p1 p2 p3) (fun y35 => LetF (J_X12_parts ((((sm 2) (0 : Int32).toNatClampNeg) - p1))) (fun y43 => LetF (J_X12_told (y35.1) y43 p4) (fun y47 => (y47, (y35.2.1), (y35.2.2)))))))))
theorem exl_X12_mean_0 {sm : Nat → Nat → Int32} {tm : Nat → Nat → Int64} {p0 : Int32} {p1 : Int32} {p2 : Int32} {p3 : Int32} {p4 : Int32} {r2 : Int32} (w5 : r2 = J_X12_isRule p0) (c7 : r2 = (0 : Int32)) : (((-1) : Int64), (tm 6), (tm 7)) = J_X12_mean sm tm p0 p1 p2 p3 p4 := by refine Eq.symm ?_; unfold J_X12_mean; refine lt_e w5 ?_; refine Eq.trans (if_pos c7) ?_; rfl
theorem exl_X12_mean_1 {sm : Nat → Nat → Int32} {tm : Nat → Nat → Int64} {p0 : Int32} {p1 : Int32} {p2 : Int32} {p3 : Int32} {p4 : Int32} {r2 : Int32} {r9 : Int32} {r16 : Int32} (w5 : r2 = J_X12_isRule p0) (c7 : ¬ (r2 = (0 : Int32))) (w12 : r9 = J_X12_isWeek sm tm p1) (c14 : ¬ (r9 = (0 : Int32))) (w19 : r16 = J_X12_isHands sm tm p2) (c21 : r16 = (0 : Int32)) : (((-2) : Int64), (tm 6), (tm 7)) = J_X12_mean sm tm p0 p1 p2 p3 p4 := by refine Eq.symm ?_; unfold J_X12_mean; refine lt_e w5 ?_; refine Eq.trans (if_neg c7) ?_; refine lt_e w12 ?_; refine Eq.trans (if_neg c14) ?_; refine lt_e w19 ?_; refine Eq.trans (if_pos c21) ?_; rfl
theorem exl_X12_mean_2 {sm : Nat → Nat → Int32} {tm : Nat → Nat → Int64} {p0 : Int32} {p1 : Int32} {p2 : Int32} {p3 : Int32} {p4 : Int32} {r45 : Int64} {m32 : Nat → Int64} {m33 : Nat → Int64} {v37 : Int32} {v38 : Int32} {r2 : Int32} {r9 : Int32} {r16 : Int32} {r23 : Int32} {r31 : Int64} {r40 : Int64} (e37 : v37 = ((sm 2) ((0 : Int32).toNatClampNeg))) (e38 : v38 = (v37 - p1)) (w5 : r2 = J_X12_isRule p0) (c7 : ¬ (r2 = (0 : Int32))) (w12 : r9 = J_X12_isWeek sm tm p1) (c14 : ¬ (r9 = (0 : Int32))) (w19 : r16 = J_X12_isHands sm tm p2) (c21 : ¬ (r16 = (0 : Int32))) (w26 : r23 = J_X12_isComing sm tm p3) (c28 : ¬ (r23 = (0 : Int32))) (w34 : (r31, m32, m33) = J_X12_layMean sm tm p0 p1 p2 p3) (w42 : r40 = J_X12_parts v38) (w46 : r45 = J_X12_told r31 r40 p4) : (r45, m32, m33) = J_X12_mean sm tm p0 p1 p2 p3 p4 := by subst e37 e38; refine Eq.symm ?_; unfold J_X12_mean; refine lt_e w5 ?_; refine Eq.trans (if_neg c7) ?_; refine lt_e w12 ?_; refine Eq.trans (if_neg c14) ?_; refine lt_e w19 ?_; refine Eq.trans (if_neg c21) ?_; refine lt_e w26 ?_; refine Eq.trans (if_neg c28) ?_; refine lt_e w34 ?_; refine lt_e w42 ?_; refine lt_e w46 ?_; rfl
theorem exl_X12_mean_3 {sm : Nat → Nat → Int32} {tm : Nat → Nat → Int64} {p0 : Int32} {p1 : Int32} {p2 : Int32} {p3 : Int32} {p4 : Int32} {r2 : Int32} {r9 : Int32} {r16 : Int32} {r23 : Int32} (w5 : r2 = J_X12_isRule p0) (c7 : ¬ (r2 = (0 : Int32))) (w12 : r9 = J_X12_isWeek sm tm p1) (c14 : ¬ (r9 = (0 : Int32))) (w19 : r16 = J_X12_isHands sm tm p2) (c21 : ¬ (r16 = (0 : Int32))) (w26 : r23 = J_X12_isComing sm tm p3) (c28 : r23 = (0 : Int32)) : (((-2) : Int64), (tm 6), (tm 7)) = J_X12_mean sm tm p0 p1 p2 p3 p4 := by refine Eq.symm ?_; unfold J_X12_mean; refine lt_e w5 ?_; refine Eq.trans (if_neg c7) ?_; refine lt_e w12 ?_; refine Eq.trans (if_neg c14) ?_; refine lt_e w19 ?_; refine Eq.trans (if_neg c21) ?_; refine lt_e w26 ?_; refine Eq.trans (if_pos c28) ?_; rfl
theorem exl_X12_mean_4 {sm : Nat → Nat → Int32} {tm : Nat → Nat → Int64} {p0 : Int32} {p1 : Int32} {p2 : Int32} {p3 : Int32} {p4 : Int32} {r2 : Int32} {r9 : Int32} (w5 : r2 = J_X12_isRule p0) (c7 : ¬ (r2 = (0 : Int32))) (w12 : r9 = J_X12_isWeek sm tm p1) (c14 : r9 = (0 : Int32)) : (((-1) : Int64), (tm 6), (tm 7)) = J_X12_mean sm tm p0 p1 p2 p3 p4 := by refine Eq.symm ?_; unfold J_X12_mean; refine lt_e w5 ?_; refine Eq.trans (if_neg c7) ?_; refine lt_e w12 ?_; refine Eq.trans (if_pos c14) ?_; rfl
set_option maxHeartbeats 4000000 in
set_option maxRecDepth 100000 in
theorem c_X12_mean (l : Launch) (D : va_G) (k : Nat → ClassId) (b : Nat → Nat) (qm : Nat → Nat) (sm : Nat → Nat → Int32) (tm : Nat → Nat → Int64) (sz : Nat) (p0 : Int32) (p1 : Int32) (p2 : Int32) (p3 : Int32) (p4 : Int32) (h_w0 : 0 ≤ (sm 2 0).toInt ∧ (sm 2 0).toInt ≤ 5) (h_k1 : 0 ≤ (sm 2 1).toInt ∧ (sm 2 1).toInt ≤ 4) : MetL l D k b yX12_mean wsX12_mean ({ frames := 5, cells := 0, slots := 0, locals := 127 } : Room) [cell22_ qm sm tm, cell5_ k qm sm, cell13_ k qm sm, cell8_ k qm sm, cell6_ k qm sm, cell15_ k qm sm, cell14_ k qm tm, cell12_ k qm tm, cell18_ k qm tm, cell17_ k qm tm, cell19_ k qm tm, cell21_ k qm tm, cell20_ k qm sm, cell16_ k qm sm, cell11_ k qm sm, cell10_ k qm sm, cell9_ k qm sm, cell7_ k qm sm] sz [.ref (qm 0), .int p0, .int p1, .int p2, .int p3, .int p4] (fun (r : Int64) (u : (Nat → Int64) × (Nat → Int64)) => (r, (u.1), (u.2)) = J_X12_mean sm tm p0 p1 p2 p3 p4) (fun u => [cell22_ qm sm tm, cell5_ k qm sm, cell13_ k qm sm, cell8_ k qm sm, cell6_ k qm sm, cell15_ k qm sm, cell154_ k qm (u.1), cell155_ k qm (u.2), cell18_ k qm tm, cell17_ k qm tm, cell19_ k qm tm, cell21_ k qm tm, cell20_ k qm sm, cell16_ k qm sm, cell11_ k qm sm, cell10_ k qm sm, cell9_ k qm sm, cell7_ k qm sm]) := by
  refine g_enter (cc := cX12_mean) (maxL := 6) (ret := (some .long)) (by decide) rfl (Nat.le_of_ble_eq_true rfl) ?_
  intro p e s m below meth c A hsz hAe cx hr hP hD hS ls hl
  rw [hAe]
  refine g_q (fun Q hQ => ?_)
  have hx := cx.1.1
  have hb := cx.1.2.1
  have bp0 := i_rng p0
  have bp1 := i_rng p1
  have bp2 := i_rng p2
  have bp3 := i_rng p3
  have bp4 := i_rng p4
  have hl : lv_has ls 6 [(0, .ref (qm 0)), (1, .int p0), (2, .int p1), (3, .int p2), (4, .int p3), (5, .int p4)] := hl
  obtain ⟨H, eH⟩ : ∃ H : Heap, H = s.heap := ⟨_, rfl⟩
  obtain ⟨locs, el⟩ : ∃ L : List Loc, L = [] := ⟨_, rfl⟩
  have hP : va_P D vwCl [cell22_ qm sm tm, cell5_ k qm sm, cell13_ k qm sm, cell8_ k qm sm, cell6_ k qm sm, cell15_ k qm sm, cell14_ k qm tm, cell12_ k qm tm, cell18_ k qm tm, cell17_ k qm tm, cell19_ k qm tm, cell21_ k qm tm, cell20_ k qm sm, cell16_ k qm sm, cell11_ k qm sm, cell10_ k qm sm, cell9_ k qm sm, cell7_ k qm sm] H := by rw [eH]; exact hP
  have hD : va_D A [cell22_ qm sm tm, cell5_ k qm sm, cell13_ k qm sm, cell8_ k qm sm, cell6_ k qm sm, cell15_ k qm sm, cell14_ k qm tm, cell12_ k qm tm, cell18_ k qm tm, cell17_ k qm tm, cell19_ k qm tm, cell21_ k qm tm, cell20_ k qm sm, cell16_ k qm sm, cell11_ k qm sm, cell10_ k qm sm, cell9_ k qm sm, cell7_ k qm sm] := hD
  have hS : va_S A s.heap H locs := by rw [eH, el]; exact hS
  suffices goal : W p l e ({ frames := 5, cells := 0, slots := 0, locals := 127 } : Room) s m ([.ref (qm 0), .int p0, .int p1, .int p2, .int p3, .int p4] : List Value).toArray below meth c H locs 0 0 Q (F0 m 0 ls []) by rw [eH, el] at goal; exact goal
  refine lv_iload_n hx hb dX12_mean_0 rfl (lv_at hl 1 rfl) ?_
  refine g_ir (g_runS (wc := []) (rest := []) cx hP hD hS [] rfl (by decide) [.int p0] (c_X12_isRule l D k b H.size p0) gX12_mean_X12_isRule rfl rfl rfl nd_X12_isRule ⟨Nat.le_of_ble_eq_true rfl, Nat.le_of_ble_eq_true rfl⟩ rfl hl.1 rfl (Nat.le_of_ble_eq_true rfl) ⟨Nat.zero_le _, Nat.zero_le _⟩ dX12_mean_1) cx.2.2.1 hP hD hS [] rfl rfl (fun r2 H locs hw1 hP hS => ?_)
  replace hw1 : (0 ≤ r2.toInt ∧ r2.toInt ≤ 1) ∧ (Imp (r2.toInt = 1) (0 ≤ p0.toInt ∧ p0.toInt ≤ 2)) ∧ (r2 = J_X12_isRule p0) := hw1
  obtain ⟨w3, w4, w5⟩ := hw1
  have zr2 : 0 ≤ r2.toInt ∧ r2.toInt ≤ 1 := w3
  refine lv_if_eq (tgt := 15) hx hb dX12_mean_4 (by decide) (fun c7 => ?_) (fun c7 => ?_)
  · have f7 : r2.toInt = 0 := f_eq rfl (by decide) c7
    refine lv_ldc2 (v := (-1)) hx hb cx.1.2.2.2.1 (cx.1.2.2.2.2 _ kJ_X12_mean_221) dX12_mean_15 ?_
    rw [hQ]
    exact x_l cx hr ((tm 6), (tm 7)) hP hD hS (show (((-1) : Int64), (tm 6), (tm 7)) = J_X12_mean sm tm p0 p1 p2 p3 p4 from (exl_X12_mean_0 w5 c7)) dX12_mean_18
  · have f7 : ¬ r2.toInt = 0 := f_ne rfl (by decide) c7
    have k7 : (0 ≤ p0.toInt ∧ p0.toInt ≤ 2) := w4 (by omega)
    refine lv_aload_n hx hb dX12_mean_7 rfl (lv_at hl 0 rfl) ?_
    refine lv_iload_n hx hb dX12_mean_8 rfl (lv_at hl 2 rfl) ?_
    refine g_iF (w1 := fun (_ : Unit) => [cell22_ qm sm tm, cell5_ k qm sm, cell13_ k qm sm, cell8_ k qm sm, cell6_ k qm sm, cell15_ k qm sm, cell14_ k qm tm, cell12_ k qm tm, cell18_ k qm tm, cell17_ k qm tm, cell19_ k qm tm, cell21_ k qm tm, cell20_ k qm sm, cell16_ k qm sm, cell11_ k qm sm, cell10_ k qm sm, cell9_ k qm sm, cell7_ k qm sm]) (g_runVF (ws := [cell22_ qm sm tm, cell5_ k qm sm, cell13_ k qm sm, cell8_ k qm sm, cell6_ k qm sm, cell15_ k qm sm, cell14_ k qm tm, cell12_ k qm tm, cell18_ k qm tm, cell17_ k qm tm, cell19_ k qm tm, cell21_ k qm tm, cell20_ k qm sm, cell16_ k qm sm, cell11_ k qm sm, cell10_ k qm sm, cell9_ k qm sm, cell7_ k qm sm]) (rest := []) cx hP hD hS [.int p1] (c_X12_isWeek l D k b qm sm tm H.size p1 (show 0 ≤ ((sm 2) 0).toInt ∧ ((sm 2) 0).toInt ≤ 5 from by first | decide | omega)) gX12_mean_X12_isWeek rfl rfl rfl nd_X12_isWeek ⟨Nat.le_of_ble_eq_true rfl, Nat.le_of_ble_eq_true rfl⟩ (ci := 10) (q0 := 0) rfl rfl rfl hl.1 rfl (Nat.le_of_ble_eq_true rfl) ⟨Nat.zero_le _, Nat.zero_le _⟩ dX12_mean_9) cx.2.2.1 hD hS (fun r9 _ H locs hw8 hP hD hS => ?_)
    replace hw8 : (0 ≤ r9.toInt ∧ r9.toInt ≤ 1) ∧ (Imp (r9.toInt = 1) (0 ≤ p1.toInt ∧ p1.toInt ≤ 4)) ∧ (r9 = J_X12_isWeek sm tm p1) := hw8
    obtain ⟨w10, w11, w12⟩ := hw8
    have zr9 : 0 ≤ r9.toInt ∧ r9.toInt ≤ 1 := w10
    refine lv_if_ne (tgt := 19) hx hb dX12_mean_12 (by decide) (fun c14 => ?_) (fun c14 => ?_)
    · have f14 : ¬ r9.toInt = 0 := f_ne rfl (by decide) c14
      have k14 : (0 ≤ p1.toInt ∧ p1.toInt ≤ 4) := w11 (by omega)
      refine lv_aload_n hx hb dX12_mean_19 rfl (lv_at hl 0 rfl) ?_
      refine lv_iload_n hx hb dX12_mean_20 rfl (lv_at hl 3 rfl) ?_
      refine g_iF (w1 := fun (_ : Unit) => [cell22_ qm sm tm, cell5_ k qm sm, cell13_ k qm sm, cell8_ k qm sm, cell6_ k qm sm, cell15_ k qm sm, cell14_ k qm tm, cell12_ k qm tm, cell18_ k qm tm, cell17_ k qm tm, cell19_ k qm tm, cell21_ k qm tm, cell20_ k qm sm, cell16_ k qm sm, cell11_ k qm sm, cell10_ k qm sm, cell9_ k qm sm, cell7_ k qm sm]) (g_runVF (ws := [cell22_ qm sm tm, cell5_ k qm sm, cell13_ k qm sm, cell8_ k qm sm, cell6_ k qm sm, cell15_ k qm sm, cell14_ k qm tm, cell12_ k qm tm, cell18_ k qm tm, cell17_ k qm tm, cell19_ k qm tm, cell21_ k qm tm, cell20_ k qm sm, cell16_ k qm sm, cell11_ k qm sm, cell10_ k qm sm, cell9_ k qm sm, cell7_ k qm sm]) (rest := []) cx hP hD hS [.int p2] (c_X12_isHands l D k b qm sm tm H.size p2 (show 0 ≤ ((sm 2) 1).toInt ∧ ((sm 2) 1).toInt ≤ 4 from by first | decide | omega)) gX12_mean_X12_isHands rfl rfl rfl nd_X12_isHands ⟨Nat.le_of_ble_eq_true rfl, Nat.le_of_ble_eq_true rfl⟩ (ci := 10) (q0 := 0) rfl rfl rfl hl.1 rfl (Nat.le_of_ble_eq_true rfl) ⟨Nat.zero_le _, Nat.zero_le _⟩ dX12_mean_21) cx.2.2.1 hD hS (fun r16 _ H locs hw15 hP hD hS => ?_)
      replace hw15 : (0 ≤ r16.toInt ∧ r16.toInt ≤ 1) ∧ (Imp (r16.toInt = 1) (0 ≤ p2.toInt ∧ p2.toInt ≤ 400)) ∧ (r16 = J_X12_isHands sm tm p2) := hw15
      obtain ⟨w17, w18, w19⟩ := hw15
      have zr16 : 0 ≤ r16.toInt ∧ r16.toInt ≤ 1 := w17
      refine lv_if_eq (tgt := 36) hx hb dX12_mean_24 (by decide) (fun c21 => ?_) (fun c21 => ?_)
      · have f21 : r16.toInt = 0 := f_eq rfl (by decide) c21
        refine lv_ldc2 (v := (-2)) hx hb cx.1.2.2.2.1 (cx.1.2.2.2.2 _ kJ_X12_mean_206) dX12_mean_36 ?_
        rw [hQ]
        exact x_l cx hr ((tm 6), (tm 7)) hP hD hS (show (((-2) : Int64), (tm 6), (tm 7)) = J_X12_mean sm tm p0 p1 p2 p3 p4 from (exl_X12_mean_1 w5 c7 w12 c14 w19 c21)) dX12_mean_39
      · have f21 : ¬ r16.toInt = 0 := f_ne rfl (by decide) c21
        have k21 : (0 ≤ p2.toInt ∧ p2.toInt ≤ 400) := w18 (by omega)
        refine lv_aload_n hx hb dX12_mean_27 rfl (lv_at hl 0 rfl) ?_
        refine lv_iload hx hb dX12_mean_28 (lv_at hl 4 rfl) ?_
        refine g_iF (w1 := fun (_ : Unit) => [cell22_ qm sm tm, cell5_ k qm sm, cell13_ k qm sm, cell8_ k qm sm, cell6_ k qm sm, cell15_ k qm sm, cell14_ k qm tm, cell12_ k qm tm, cell18_ k qm tm, cell17_ k qm tm, cell19_ k qm tm, cell21_ k qm tm, cell20_ k qm sm, cell16_ k qm sm, cell11_ k qm sm, cell10_ k qm sm, cell9_ k qm sm, cell7_ k qm sm]) (g_runVF (ws := [cell22_ qm sm tm, cell5_ k qm sm, cell13_ k qm sm, cell8_ k qm sm, cell6_ k qm sm, cell15_ k qm sm, cell14_ k qm tm, cell12_ k qm tm, cell18_ k qm tm, cell17_ k qm tm, cell19_ k qm tm, cell21_ k qm tm, cell20_ k qm sm, cell16_ k qm sm, cell11_ k qm sm, cell10_ k qm sm, cell9_ k qm sm, cell7_ k qm sm]) (rest := []) cx hP hD hS [.int p3] (c_X12_isComing l D k b qm sm tm H.size p3) gX12_mean_X12_isComing rfl rfl rfl nd_X12_isComing ⟨Nat.le_of_ble_eq_true rfl, Nat.le_of_ble_eq_true rfl⟩ (ci := 10) (q0 := 0) rfl rfl rfl hl.1 rfl (Nat.le_of_ble_eq_true rfl) ⟨Nat.zero_le _, Nat.zero_le _⟩ dX12_mean_30) cx.2.2.1 hD hS (fun r23 _ H locs hw22 hP hD hS => ?_)
        replace hw22 : (0 ≤ r23.toInt ∧ r23.toInt ≤ 1) ∧ (Imp (r23.toInt = 1) (0 ≤ p3.toInt ∧ p3.toInt ≤ 2)) ∧ (r23 = J_X12_isComing sm tm p3) := hw22
        obtain ⟨w24, w25, w26⟩ := hw22
        have zr23 : 0 ≤ r23.toInt ∧ r23.toInt ≤ 1 := w24
        refine lv_if_ne (tgt := 40) hx hb dX12_mean_33 (by decide) (fun c28 => ?_) (fun c28 => ?_)
        · have f28 : ¬ r23.toInt = 0 := f_ne rfl (by decide) c28
          have k28 : (0 ≤ p3.toInt ∧ p3.toInt ≤ 2) := w25 (by omega)
          refine lv_aload_n hx hb dX12_mean_40 rfl (lv_at hl 0 rfl) ?_
          refine lv_iload_n hx hb dX12_mean_41 rfl (lv_at hl 1 rfl) ?_
          refine lv_iload_n hx hb dX12_mean_42 rfl (lv_at hl 2 rfl) ?_
          refine lv_iload_n hx hb dX12_mean_43 rfl (lv_at hl 3 rfl) ?_
          refine lv_iload hx hb dX12_mean_44 (lv_at hl 4 rfl) ?_
          refine g_lF (w1 := fun (u : (Nat → Int64) × (Nat → Int64)) => [cell22_ qm sm tm, cell5_ k qm sm, cell13_ k qm sm, cell8_ k qm sm, cell6_ k qm sm, cell15_ k qm sm, cell154_ k qm (u.1), cell155_ k qm (u.2), cell18_ k qm tm, cell17_ k qm tm, cell19_ k qm tm, cell21_ k qm tm, cell20_ k qm sm, cell16_ k qm sm, cell11_ k qm sm, cell10_ k qm sm, cell9_ k qm sm, cell7_ k qm sm]) (g_runVF (ws := [cell22_ qm sm tm, cell5_ k qm sm, cell13_ k qm sm, cell8_ k qm sm, cell6_ k qm sm, cell15_ k qm sm, cell14_ k qm tm, cell12_ k qm tm, cell18_ k qm tm, cell17_ k qm tm, cell19_ k qm tm, cell21_ k qm tm, cell20_ k qm sm, cell16_ k qm sm, cell11_ k qm sm, cell10_ k qm sm, cell9_ k qm sm, cell7_ k qm sm]) (rest := []) cx hP hD hS [.int p0, .int p1, .int p2, .int p3] (c_X12_layMean l D k b qm sm tm H.size p0 p1 p2 p3 (show 0 ≤ ((sm 2) 0).toInt ∧ ((sm 2) 0).toInt ≤ 5 from by first | decide | omega) (show 0 ≤ ((sm 2) 1).toInt ∧ ((sm 2) 1).toInt ≤ 4 from by first | decide | omega) (show 0 ≤ p0.toInt ∧ p0.toInt ≤ 2 from by first | decide | omega) (show 0 ≤ p1.toInt ∧ p1.toInt ≤ 4 from by first | decide | omega) (show 0 ≤ p2.toInt ∧ p2.toInt ≤ 999 from by first | decide | omega)) gX12_mean_X12_layMean rfl rfl rfl nd_X12_layMean ⟨Nat.le_of_ble_eq_true rfl, Nat.le_of_ble_eq_true rfl⟩ (ci := 10) (q0 := 0) rfl rfl rfl hl.1 rfl (Nat.le_of_ble_eq_true rfl) ⟨Nat.zero_le _, Nat.zero_le _⟩ dX12_mean_46) cx.2.2.1 hD hS (fun r31 u30 H locs hw29 hP hD hS => ?_)
          obtain ⟨m32, m33⟩ := u30
          have hP : va_P D vwCl [cell22_ qm sm tm, cell5_ k qm sm, cell13_ k qm sm, cell8_ k qm sm, cell6_ k qm sm, cell15_ k qm sm, (qm 6, .inl (k 1, 1000, .inr (.inl m32))), (qm 7, .inl (k 1, 1000, .inr (.inl m33))), cell18_ k qm tm, cell17_ k qm tm, cell19_ k qm tm, cell21_ k qm tm, cell20_ k qm sm, cell16_ k qm sm, cell11_ k qm sm, cell10_ k qm sm, cell9_ k qm sm, cell7_ k qm sm] H := hP
          have hD : va_D A [cell22_ qm sm tm, cell5_ k qm sm, cell13_ k qm sm, cell8_ k qm sm, cell6_ k qm sm, cell15_ k qm sm, (qm 6, .inl (k 1, 1000, .inr (.inl m32))), (qm 7, .inl (k 1, 1000, .inr (.inl m33))), cell18_ k qm tm, cell17_ k qm tm, cell19_ k qm tm, cell21_ k qm tm, cell20_ k qm sm, cell16_ k qm sm, cell11_ k qm sm, cell10_ k qm sm, cell9_ k qm sm, cell7_ k qm sm] := hD
          have w34 : (r31, m32, m33) = J_X12_layMean sm tm p0 p1 p2 p3 := hw29
          clear hw29
          refine lv_aload_n hx hb dX12_mean_49 rfl (lv_at hl 0 rfl) ?_
          refine g_get cx hP iw_X12_mean_X12 0 rfl rfl 1 (by decide) rfl fw_X12_mean_13 rfl dX12_mean_50 ?_
          refine lv_iconst (v := 0) hx hb dX12_mean_53 (by decide) ?_
          have hn36 : vp_in 0 26 := f_in (a := 0) (by decide) (by omega) (by omega)
          refine va_iald hx hb cx.2.1 hP 2 0 rfl rfl hn36 dX12_mean_54 (lv_topi (fun v37 e37 => ?_))
          have uv37 : v37.toInt = ((sm 2) 0).toInt := congrArg Int32.toInt e37
          have t37 : 0 ≤ v37.toInt ∧ v37.toInt ≤ 5 := by rw [e37]; exact h_w0
          refine lv_iload_n hx hb dX12_mean_55 rfl (lv_at hl 2 rfl) ?_
          refine lv_isub hx hb dX12_mean_56 (lv_topi (fun v38 e38 => ?_))
          have t38 : v38.toInt = v37.toInt - p1.toInt := by rw [e38]; exact i_sub rfl rfl (by omega) (by omega)
          refine g_lr (g_runS (wc := []) (rest := [.long r31]) cx hP hD hS [] rfl (by decide) [.int v38] (c_X12_parts l D k b H.size v38) gX12_mean_X12_parts rfl rfl rfl nd_X12_parts ⟨Nat.le_of_ble_eq_true rfl, Nat.le_of_ble_eq_true rfl⟩ rfl hl.1 rfl (Nat.le_of_ble_eq_true rfl) ⟨Nat.zero_le _, Nat.zero_le _⟩ dX12_mean_57) cx.2.2.1 hP hD hS [] rfl rfl (fun r40 H locs hw39 hP hS => ?_)
          replace hw39 : (r40.toInt % 2 = 1) ∧ (r40 = J_X12_parts v38) := hw39
          obtain ⟨w41, w42⟩ := hw39
          refine lv_iload hx hb dX12_mean_60 (lv_at hl 5 rfl) ?_
          refine g_lr (g_runS (wc := []) (rest := []) cx hP hD hS [] rfl (by decide) [.long r31, .long r40, .int p4] (c_X12_told l D k b H.size r31 r40 p4 (show ¬ r40.toInt = 0 from by first | decide | omega)) gX12_mean_X12_told rfl rfl rfl nd_X12_told ⟨Nat.le_of_ble_eq_true rfl, Nat.le_of_ble_eq_true rfl⟩ rfl hl.1 rfl (Nat.le_of_ble_eq_true rfl) ⟨Nat.zero_le _, Nat.zero_le _⟩ dX12_mean_62) cx.2.2.1 hP hD hS [] rfl rfl (fun r45 H locs hw44 hP hS => ?_)
          have w46 : r45 = J_X12_told r31 r40 p4 := hw44
          clear hw44
          rw [hQ]
          exact x_l cx hr (m32, m33) hP hD hS (show (r45, m32, m33) = J_X12_mean sm tm p0 p1 p2 p3 p4 from (exl_X12_mean_2 e37 e38 w5 c7 w12 c14 w19 c21 w26 c28 w34 w42 w46)) dX12_mean_65
        · have f28 : r23.toInt = 0 := f_eq rfl (by decide) c28
          refine lv_ldc2 (v := (-2)) hx hb cx.1.2.2.2.1 (cx.1.2.2.2.2 _ kJ_X12_mean_206) dX12_mean_36 ?_
          rw [hQ]
          exact x_l cx hr ((tm 6), (tm 7)) hP hD hS (show (((-2) : Int64), (tm 6), (tm 7)) = J_X12_mean sm tm p0 p1 p2 p3 p4 from (exl_X12_mean_3 w5 c7 w12 c14 w19 c21 w26 c28)) dX12_mean_39
    · have f14 : r9.toInt = 0 := f_eq rfl (by decide) c14
      refine lv_ldc2 (v := (-1)) hx hb cx.1.2.2.2.1 (cx.1.2.2.2.2 _ kJ_X12_mean_221) dX12_mean_15 ?_
      rw [hQ]
      exact x_l cx hr ((tm 6), (tm 7)) hP hD hS (show (((-1) : Int64), (tm 6), (tm 7)) = J_X12_mean sm tm p0 p1 p2 p3 p4 from (exl_X12_mean_4 w5 c7 w12 c14)) dX12_mean_18
theorem fw_X12_layLikely_32 : Cond.fieldLink RX12 32 "StillInAugustModel" "likely" "[J" ∈ wsX12_layLikely := by decide +kernel
theorem fw_X12_layLikely_35 : Cond.fieldLink RX12 35 "StillInAugustModel" "thenLikely" "[J" ∈ wsX12_layLikely := by decide +kernel
theorem iw_X12_layLikely_X12 : ∀ w ∈ u_ws RX12 TX12 33, w ∈ wsX12_layLikely := fun _ h => List.mem_cons_of_mem _ (List.mem_append_right _ h)
def B_X12_layLikely_164_5 (sm : Nat → Nat → Int32) (tm : Nat → Nat → Int64) (p0 : Int32) (p1 : Int32) (v4 : Int32) (g5 : Nat → Int64) (v49 : Int32) (g50 : Nat → Int64) (g51 : Nat → Int64) (v57 : Int32) (g58 : Nat → Int64) (v93 : Int32) (g94 : Nat → Int64) (z : Int32 × (Nat → Int64)) : Sum (Int32 × (Nat → Int64)) (Sum (Int32 × (Nat → Int64)) (Sum (Int32 × (Nat → Int64)) (Sum (Int32 × (Nat → Int64) × (Nat → Int64)) (Sum (Int32 × (Nat → Int64)) ((Nat → Int64) × (Nat → Int64)))))) := let v102 := (z.1); let g103 := (z.2); if 50 ≤ v102 then Sum.inr (Sum.inr (Sum.inr (Sum.inl (((v49 + 1), g103, g94))))) else Sum.inl (((v102 + 1), (vp_updL g103 (v102).toNatClampNeg (g94 (v102).toNatClampNeg))))
def B_X12_layLikely_102_6 (sm : Nat → Nat → Int32) (tm : Nat → Nat → Int64) (p0 : Int32) (p1 : Int32) (v4 : Int32) (g5 : Nat → Int64) (v49 : Int32) (g50 : Nat → Int64) (g51 : Nat → Int64) (v57 : Int32) (g58 : Nat → Int64) (v93 : Int32) (g94 : Nat → Int64) (y121 : Int32) (y125 : Int32) (z : Int32 × (Nat → Int64)) : Sum (Int32 × (Nat → Int64)) (Sum (Int32 × (Nat → Int64)) (Sum (Int32 × (Nat → Int64)) (Sum (Int32 × (Nat → Int64) × (Nat → Int64)) (Sum (Int32 × (Nat → Int64)) ((Nat → Int64) × (Nat → Int64)))))) := let v146 := (z.1); let g147 := (z.2); if 50 ≤ v146 then Sum.inr (Sum.inl (((v93 + 1), g147))) else LetF (J_X12_isHands sm (up2L (up2L tm 8 g50) 9 g147) v146) (fun y158 => if y158 = 0 then Sum.inl (((v146 + 1), (vp_updL g147 (v146).toNatClampNeg (((g147 (v146).toNatClampNeg) + (0 : Int64)))))) else LetF (J_X12_sundayOf sm (up2L (up2L tm 8 g50) 9 g147) y125 v146) (fun y169 => Sum.inl (((v146 + 1), (vp_updL g147 (v146).toNatClampNeg (((g147 (v146).toNatClampNeg) + ((g50 (v93).toNatClampNeg) * (y169.toInt64)))))))))
def B_X12_layLikely_63_4 (sm : Nat → Nat → Int32) (tm : Nat → Nat → Int64) (p0 : Int32) (p1 : Int32) (v4 : Int32) (g5 : Nat → Int64) (v49 : Int32) (g50 : Nat → Int64) (g51 : Nat → Int64) (v57 : Int32) (g58 : Nat → Int64) (z : Int32 × (Nat → Int64)) : Sum (Int32 × (Nat → Int64)) (Sum (Int32 × (Nat → Int64)) (Sum (Int32 × (Nat → Int64) × (Nat → Int64)) (Sum (Int32 × (Nat → Int64)) ((Nat → Int64) × (Nat → Int64))))) := let v93 := (z.1); let g94 := (z.2); if 50 ≤ v93 then LTs (Sum.inl default) (B_X12_layLikely_164_5 sm tm p0 p1 v4 g5 v49 g50 g51 v57 g58 v93 g94) 51 ((0 : Int32), g50) else if (lg_cmp (g50 (v93).toNatClampNeg) 0) ≤ 0 then Sum.inl (((v93 + 1), g94)) else LetF (J_X12_ruleAct sm (up2L (up2L tm 8 g50) 9 g94) p0 v49 v93) (fun y121 => LetF (J_X12_after sm (up2L (up2L tm 8 g50) 9 g94) v49 v93 y121) (fun y125 => LTs (Sum.inl default) (B_X12_layLikely_102_6 sm tm p0 p1 v4 g5 v49 g50 g51 v57 g58 v93 g94 y121 y125) 51 ((0 : Int32), g94)))
def B_X12_layLikely_39_3 (sm : Nat → Nat → Int32) (tm : Nat → Nat → Int64) (p0 : Int32) (p1 : Int32) (v4 : Int32) (g5 : Nat → Int64) (v49 : Int32) (g50 : Nat → Int64) (g51 : Nat → Int64) (z : Int32 × (Nat → Int64)) : Sum (Int32 × (Nat → Int64)) (Sum (Int32 × (Nat → Int64) × (Nat → Int64)) (Sum (Int32 × (Nat → Int64)) ((Nat → Int64) × (Nat → Int64)))) := let v57 := (z.1); let g58 := (z.2); if 50 ≤ v57 then LTs (Sum.inl default) (B_X12_layLikely_63_4 sm tm p0 p1 v4 g5 v49 g50 g51 v57 g58) 51 ((0 : Int32), g58) else Sum.inl (((v57 + 1), (vp_updL g58 (v57).toNatClampNeg 0)))
def B_X12_layLikely_31_2 (sm : Nat → Nat → Int32) (tm : Nat → Nat → Int64) (p0 : Int32) (p1 : Int32) (v4 : Int32) (g5 : Nat → Int64) (z : Int32 × (Nat → Int64) × (Nat → Int64)) : Sum (Int32 × (Nat → Int64) × (Nat → Int64)) (Sum (Int32 × (Nat → Int64)) ((Nat → Int64) × (Nat → Int64))) := let v49 := (z.1); let g50 := (z.2.1); let g51 := (z.2.2); if p1 ≤ v49 then Sum.inr (Sum.inr ((g50, g51))) else LTs (Sum.inl default) (B_X12_layLikely_39_3 sm tm p0 p1 v4 g5 v49 g50 g51) 51 ((0 : Int32), g51)
def B_X12_layLikely_2 (sm : Nat → Nat → Int32) (tm : Nat → Nat → Int64) (p0 : Int32) (p1 : Int32) (z : Int32 × (Nat → Int64)) : Sum (Int32 × (Nat → Int64)) ((Nat → Int64) × (Nat → Int64)) := let v4 := (z.1); let g5 := (z.2); if 50 ≤ v4 then LTs (Sum.inl default) (B_X12_layLikely_31_2 sm tm p0 p1 v4 g5) 6 ((0 : Int32), g5, (tm 9)) else if v4 = 0 then Sum.inl (((v4 + 1), (vp_updL g5 (v4).toNatClampNeg 1))) else Sum.inl (((v4 + 1), (vp_updL g5 (v4).toNatClampNeg 0)))
def J_X12_layLikely (sm : Nat → Nat → Int32) (tm : Nat → Nat → Int64) (p0 : Int32) (p1 : Int32) : (Nat → Int64) × (Nat → Int64) := LTs default (B_X12_layLikely_2 sm tm p0 p1) 51 ((0 : Int32), (tm 8))
theorem exl_X12_layLikely_0 {sm : Nat → Nat → Int32} {tm : Nat → Nat → Int64} {p0 : Int32} {p1 : Int32} : J_X12_layLikely sm tm p0 p1 = LTs (default : (Nat → Int64) × (Nat → Int64)) (B_X12_layLikely_2 sm tm p0 p1) 51 ((0 : Int32), (tm 8)) := by unfold J_X12_layLikely; rfl
theorem exl_X12_layLikely_1 {sm : Nat → Nat → Int32} {tm : Nat → Nat → Int64} {p0 : Int32} {p1 : Int32} {v4 : Int32} {g5 : Nat → Int64} (c7 : (50 : Int32) ≤ v4) : (B_X12_layLikely_2 sm tm p0 p1) (v4, g5) = LTs (Sum.inl default : Sum (Int32 × (Nat → Int64)) ((Nat → Int64) × (Nat → Int64))) (B_X12_layLikely_31_2 sm tm p0 p1 v4 g5) 6 ((0 : Int32), g5, (tm 9)) := by unfold B_X12_layLikely_2; refine Eq.trans (if_pos c7) ?_; rfl
theorem exl_X12_layLikely_2 {sm : Nat → Nat → Int32} {tm : Nat → Nat → Int64} {p0 : Int32} {p1 : Int32} {v4 : Int32} {g5 : Nat → Int64} {v49 : Int32} {g50 : Nat → Int64} {g51 : Nat → Int64} (c53 : p1 ≤ v49) : (B_X12_layLikely_31_2 sm tm p0 p1 v4 g5) (v49, g50, g51) = Sum.inr (Sum.inr ((g50, g51))) := by unfold B_X12_layLikely_31_2; refine Eq.trans (if_pos c53) ?_; rfl
theorem exl_X12_layLikely_3 {sm : Nat → Nat → Int32} {tm : Nat → Nat → Int64} {p0 : Int32} {p1 : Int32} {v4 : Int32} {g5 : Nat → Int64} {v49 : Int32} {g50 : Nat → Int64} {g51 : Nat → Int64} (c53 : ¬ (p1 ≤ v49)) : (B_X12_layLikely_31_2 sm tm p0 p1 v4 g5) (v49, g50, g51) = LTs (Sum.inl default : Sum (Int32 × (Nat → Int64) × (Nat → Int64)) (Sum (Int32 × (Nat → Int64)) ((Nat → Int64) × (Nat → Int64)))) (B_X12_layLikely_39_3 sm tm p0 p1 v4 g5 v49 g50 g51) 51 ((0 : Int32), g51) := by unfold B_X12_layLikely_31_2; refine Eq.trans (if_neg c53) ?_; rfl
theorem exl_X12_layLikely_4 {sm : Nat → Nat → Int32} {tm : Nat → Nat → Int64} {p0 : Int32} {p1 : Int32} {v4 : Int32} {g5 : Nat → Int64} {v49 : Int32} {g50 : Nat → Int64} {g51 : Nat → Int64} {v57 : Int32} {g58 : Nat → Int64} (c60 : (50 : Int32) ≤ v57) : (B_X12_layLikely_39_3 sm tm p0 p1 v4 g5 v49 g50 g51) (v57, g58) = LTs (Sum.inl default : Sum (Int32 × (Nat → Int64)) (Sum (Int32 × (Nat → Int64) × (Nat → Int64)) (Sum (Int32 × (Nat → Int64)) ((Nat → Int64) × (Nat → Int64))))) (B_X12_layLikely_63_4 sm tm p0 p1 v4 g5 v49 g50 g51 v57 g58) 51 ((0 : Int32), g58) := by unfold B_X12_layLikely_39_3; refine Eq.trans (if_pos c60) ?_; rfl
theorem exl_X12_layLikely_5 {sm : Nat → Nat → Int32} {tm : Nat → Nat → Int64} {p0 : Int32} {p1 : Int32} {v4 : Int32} {g5 : Nat → Int64} {v49 : Int32} {g50 : Nat → Int64} {g51 : Nat → Int64} {v57 : Int32} {g58 : Nat → Int64} {v93 : Int32} {g94 : Nat → Int64} (c96 : (50 : Int32) ≤ v93) : (B_X12_layLikely_63_4 sm tm p0 p1 v4 g5 v49 g50 g51 v57 g58) (v93, g94) = LTs (Sum.inl default : Sum (Int32 × (Nat → Int64)) (Sum (Int32 × (Nat → Int64)) (Sum (Int32 × (Nat → Int64) × (Nat → Int64)) (Sum (Int32 × (Nat → Int64)) ((Nat → Int64) × (Nat → Int64)))))) (B_X12_layLikely_164_5 sm tm p0 p1 v4 g5 v49 g50 g51 v57 g58 v93 g94) 51 ((0 : Int32), g50) := by unfold B_X12_layLikely_63_4; refine Eq.trans (if_pos c96) ?_; rfl
theorem exl_X12_layLikely_6 {sm : Nat → Nat → Int32} {tm : Nat → Nat → Int64} {p0 : Int32} {p1 : Int32} {v4 : Int32} {g5 : Nat → Int64} {v49 : Int32} {g50 : Nat → Int64} {g51 : Nat → Int64} {v57 : Int32} {g58 : Nat → Int64} {v93 : Int32} {g94 : Nat → Int64} {v102 : Int32} {g103 : Nat → Int64} {v106 : Int32} (e106 : v106 = v49 + 1) (c105 : (50 : Int32) ≤ v102) : (B_X12_layLikely_164_5 sm tm p0 p1 v4 g5 v49 g50 g51 v57 g58 v93 g94) (v102, g103) = Sum.inr (Sum.inr (Sum.inr (Sum.inl (v106, g103, g94)))) := by subst e106; unfold B_X12_layLikely_164_5; refine Eq.trans (if_pos c105) ?_; rfl
theorem exl_X12_layLikely_7 {sm : Nat → Nat → Int32} {tm : Nat → Nat → Int64} {p0 : Int32} {p1 : Int32} {v4 : Int32} {g5 : Nat → Int64} {v49 : Int32} {g50 : Nat → Int64} {g51 : Nat → Int64} {v57 : Int32} {g58 : Nat → Int64} {v93 : Int32} {g94 : Nat → Int64} {v102 : Int32} {g103 : Nat → Int64} {v111 : Int32} {g110 : Nat → Int64} {v108 : Int64} (e108 : v108 = (g94 (v102).toNatClampNeg)) (eg110 : g110 = vp_updL g103 (v102).toNatClampNeg v108) (e111 : v111 = v102 + 1) (c105 : ¬ ((50 : Int32) ≤ v102)) : (B_X12_layLikely_164_5 sm tm p0 p1 v4 g5 v49 g50 g51 v57 g58 v93 g94) (v102, g103) = Sum.inl (v111, g110) := by subst e108 eg110 e111; unfold B_X12_layLikely_164_5; refine Eq.trans (if_neg c105) ?_; rfl
theorem exl_X12_layLikely_8 {sm : Nat → Nat → Int32} {tm : Nat → Nat → Int64} {p0 : Int32} {p1 : Int32} {v4 : Int32} {g5 : Nat → Int64} {v49 : Int32} {g50 : Nat → Int64} {g51 : Nat → Int64} {v57 : Int32} {g58 : Nat → Int64} {v93 : Int32} {g94 : Nat → Int64} {v117 : Int32} {v114 : Int64} {v115 : Int32} (e114 : v114 = (g50 (v93).toNatClampNeg)) (e115 : v115 = (lg_cmp v114 (0 : Int64))) (e117 : v117 = v93 + 1) (c96 : ¬ ((50 : Int32) ≤ v93)) (c116 : v115 ≤ (0 : Int32)) : (B_X12_layLikely_63_4 sm tm p0 p1 v4 g5 v49 g50 g51 v57 g58) (v93, g94) = Sum.inl (v117, g94) := by subst e114 e115 e117; unfold B_X12_layLikely_63_4; refine Eq.trans (if_neg c96) ?_; refine Eq.trans (if_pos c116) ?_; rfl
theorem exl_X12_layLikely_9 {sm : Nat → Nat → Int32} {tm : Nat → Nat → Int64} {p0 : Int32} {p1 : Int32} {v4 : Int32} {g5 : Nat → Int64} {v49 : Int32} {g50 : Nat → Int64} {g51 : Nat → Int64} {v57 : Int32} {g58 : Nat → Int64} {v93 : Int32} {g94 : Nat → Int64} {r119 : Int32} {r123 : Int32} {v114 : Int64} {v115 : Int32} (e114 : v114 = (g50 (v93).toNatClampNeg)) (e115 : v115 = (lg_cmp v114 (0 : Int64))) (c96 : ¬ ((50 : Int32) ≤ v93)) (c116 : ¬ (v115 ≤ (0 : Int32))) (w120 : r119 = J_X12_ruleAct sm (up2L (up2L tm 8 g50) 9 g94) p0 v49 v93) (w124 : r123 = J_X12_after sm (up2L (up2L tm 8 g50) 9 g94) v49 v93 r119) : (B_X12_layLikely_63_4 sm tm p0 p1 v4 g5 v49 g50 g51 v57 g58) (v93, g94) = LTs (Sum.inl default : Sum (Int32 × (Nat → Int64)) (Sum (Int32 × (Nat → Int64)) (Sum (Int32 × (Nat → Int64) × (Nat → Int64)) (Sum (Int32 × (Nat → Int64)) ((Nat → Int64) × (Nat → Int64)))))) (B_X12_layLikely_102_6 sm tm p0 p1 v4 g5 v49 g50 g51 v57 g58 v93 g94 r119 r123) 51 ((0 : Int32), g94) := by subst e114 e115; unfold B_X12_layLikely_63_4; refine Eq.trans (if_neg c96) ?_; refine Eq.trans (if_neg c116) ?_; refine lt_e w120 ?_; refine lt_e w124 ?_; rfl
theorem exl_X12_layLikely_10 {sm : Nat → Nat → Int32} {tm : Nat → Nat → Int64} {p0 : Int32} {p1 : Int32} {v4 : Int32} {g5 : Nat → Int64} {v49 : Int32} {g50 : Nat → Int64} {g51 : Nat → Int64} {v57 : Int32} {g58 : Nat → Int64} {v93 : Int32} {g94 : Nat → Int64} {r119 : Int32} {r123 : Int32} {v146 : Int32} {g147 : Nat → Int64} {v150 : Int32} (e150 : v150 = v93 + 1) (c149 : (50 : Int32) ≤ v146) : (B_X12_layLikely_102_6 sm tm p0 p1 v4 g5 v49 g50 g51 v57 g58 v93 g94 r119 r123) (v146, g147) = Sum.inr (Sum.inl (v150, g147)) := by subst e150; unfold B_X12_layLikely_102_6; refine Eq.trans (if_pos c149) ?_; rfl
theorem exl_X12_layLikely_11 {sm : Nat → Nat → Int32} {tm : Nat → Nat → Int64} {p0 : Int32} {p1 : Int32} {v4 : Int32} {g5 : Nat → Int64} {v49 : Int32} {g50 : Nat → Int64} {g51 : Nat → Int64} {v57 : Int32} {g58 : Nat → Int64} {v93 : Int32} {g94 : Nat → Int64} {r119 : Int32} {r123 : Int32} {v146 : Int32} {g147 : Nat → Int64} {v163 : Int32} {g162 : Nat → Int64} {v152 : Int64} {v160 : Int64} {r154 : Int32} (e152 : v152 = (g147 (v146).toNatClampNeg)) (e160 : v160 = (v152 + (0 : Int64))) (eg162 : g162 = vp_updL g147 (v146).toNatClampNeg v160) (e163 : v163 = v146 + 1) (c149 : ¬ ((50 : Int32) ≤ v146)) (w157 : r154 = J_X12_isHands sm (up2L (up2L tm 8 g50) 9 g147) v146) (c159 : r154 = (0 : Int32)) : (B_X12_layLikely_102_6 sm tm p0 p1 v4 g5 v49 g50 g51 v57 g58 v93 g94 r119 r123) (v146, g147) = Sum.inl (v163, g162) := by subst e152 e160 eg162 e163; unfold B_X12_layLikely_102_6; refine Eq.trans (if_neg c149) ?_; refine lt_e w157 ?_; refine Eq.trans (if_pos c159) ?_; rfl
theorem exl_X12_layLikely_12 {sm : Nat → Nat → Int32} {tm : Nat → Nat → Int64} {p0 : Int32} {p1 : Int32} {v4 : Int32} {g5 : Nat → Int64} {v49 : Int32} {g50 : Nat → Int64} {g51 : Nat → Int64} {v57 : Int32} {g58 : Nat → Int64} {v93 : Int32} {g94 : Nat → Int64} {r119 : Int32} {r123 : Int32} {v146 : Int32} {g147 : Nat → Int64} {v175 : Int32} {g174 : Nat → Int64} {v152 : Int64} {v165 : Int64} {v170 : Int64} {r167 : Int32} {v171 : Int64} {v172 : Int64} {r154 : Int32} (e152 : v152 = (g147 (v146).toNatClampNeg)) (e165 : v165 = (g50 (v93).toNatClampNeg)) (e170 : v170 = (r167 : Int32).toInt64) (e171 : v171 = (v165 * v170)) (e172 : v172 = (v152 + v171)) (eg174 : g174 = vp_updL g147 (v146).toNatClampNeg v172) (e175 : v175 = v146 + 1) (c149 : ¬ ((50 : Int32) ≤ v146)) (w157 : r154 = J_X12_isHands sm (up2L (up2L tm 8 g50) 9 g147) v146) (c159 : ¬ (r154 = (0 : Int32))) (w168 : r167 = J_X12_sundayOf sm (up2L (up2L tm 8 g50) 9 g147) r123 v146) : (B_X12_layLikely_102_6 sm tm p0 p1 v4 g5 v49 g50 g51 v57 g58 v93 g94 r119 r123) (v146, g147) = Sum.inl (v175, g174) := by subst e152 e165 e170 e171 e172 eg174 e175; unfold B_X12_layLikely_102_6; refine Eq.trans (if_neg c149) ?_; refine lt_e w157 ?_; refine Eq.trans (if_neg c159) ?_; refine lt_e w168 ?_; rfl
theorem exl_X12_layLikely_13 {sm : Nat → Nat → Int32} {tm : Nat → Nat → Int64} {p0 : Int32} {p1 : Int32} {v4 : Int32} {g5 : Nat → Int64} {v49 : Int32} {g50 : Nat → Int64} {g51 : Nat → Int64} {v57 : Int32} {g58 : Nat → Int64} {v180 : Int32} {g179 : Nat → Int64} (eg179 : g179 = vp_updL g58 (v57).toNatClampNeg (0 : Int64)) (e180 : v180 = v57 + 1) (c60 : ¬ ((50 : Int32) ≤ v57)) : (B_X12_layLikely_39_3 sm tm p0 p1 v4 g5 v49 g50 g51) (v57, g58) = Sum.inl (v180, g179) := by subst eg179 e180; unfold B_X12_layLikely_39_3; refine Eq.trans (if_neg c60) ?_; rfl
theorem exl_X12_layLikely_14 {sm : Nat → Nat → Int32} {tm : Nat → Nat → Int64} {p0 : Int32} {p1 : Int32} {v4 : Int32} {g5 : Nat → Int64} {v186 : Int32} {g185 : Nat → Int64} (eg185 : g185 = vp_updL g5 (v4).toNatClampNeg (0 : Int64)) (e186 : v186 = v4 + 1) (c7 : ¬ ((50 : Int32) ≤ v4)) (c183 : ¬ (v4 = (0 : Int32))) : (B_X12_layLikely_2 sm tm p0 p1) (v4, g5) = Sum.inl (v186, g185) := by subst eg185 e186; unfold B_X12_layLikely_2; refine Eq.trans (if_neg c7) ?_; refine Eq.trans (if_neg c183) ?_; rfl
theorem exl_X12_layLikely_15 {sm : Nat → Nat → Int32} {tm : Nat → Nat → Int64} {p0 : Int32} {p1 : Int32} {v4 : Int32} {g5 : Nat → Int64} {v189 : Int32} {g188 : Nat → Int64} (eg188 : g188 = vp_updL g5 (v4).toNatClampNeg (1 : Int64)) (e189 : v189 = v4 + 1) (c7 : ¬ ((50 : Int32) ≤ v4)) (c183 : v4 = (0 : Int32)) : (B_X12_layLikely_2 sm tm p0 p1) (v4, g5) = Sum.inl (v189, g188) := by subst eg188 e189; unfold B_X12_layLikely_2; refine Eq.trans (if_neg c7) ?_; refine Eq.trans (if_pos c183) ?_; rfl
set_option maxHeartbeats 4000000 in
set_option maxRecDepth 100000 in
theorem c_X12_layLikely (l : Launch) (D : va_G) (k : Nat → ClassId) (b : Nat → Nat) (qm : Nat → Nat) (sm : Nat → Nat → Int32) (tm : Nat → Nat → Int64) (sz : Nat) (p0 : Int32) (p1 : Int32) (h_w0 : 0 ≤ (sm 2 0).toInt ∧ (sm 2 0).toInt ≤ 5) (h_k1 : 0 ≤ (sm 2 1).toInt ∧ (sm 2 1).toInt ≤ 4) (hp0 : 0 ≤ p0.toInt ∧ p0.toInt ≤ 2) (hp1 : 0 ≤ p1.toInt ∧ p1.toInt ≤ 5) : MetV l D k b yX12_layLikely wsX12_layLikely ({ frames := 3, cells := 0, slots := 0, locals := 75 } : Room) [cell22_ qm sm tm, cell5_ k qm sm, cell13_ k qm sm, cell8_ k qm sm, cell6_ k qm sm, cell15_ k qm sm, cell14_ k qm tm, cell12_ k qm tm, cell18_ k qm tm, cell17_ k qm tm, cell19_ k qm tm, cell21_ k qm tm, cell20_ k qm sm, cell16_ k qm sm, cell11_ k qm sm, cell10_ k qm sm, cell9_ k qm sm, cell7_ k qm sm] sz [.ref (qm 0), .int p0, .int p1] (fun (u : (Nat → Int64) × (Nat → Int64)) => ((u.1), (u.2)) = J_X12_layLikely sm tm p0 p1) (fun u => [cell22_ qm sm tm, cell5_ k qm sm, cell13_ k qm sm, cell8_ k qm sm, cell6_ k qm sm, cell15_ k qm sm, cell14_ k qm tm, cell12_ k qm tm, cell142_ k qm (u.1), cell143_ k qm (u.2), cell19_ k qm tm, cell21_ k qm tm, cell20_ k qm sm, cell16_ k qm sm, cell11_ k qm sm, cell10_ k qm sm, cell9_ k qm sm, cell7_ k qm sm]) := by
  refine g_enter (cc := cX12_layLikely) (maxL := 7) (ret := none) (by decide) rfl (Nat.le_of_ble_eq_true rfl) ?_
  intro p e s m below meth c A hsz hAe cx hr hP hD hS ls hl
  rw [hAe]
  refine g_q (fun Q hQ => ?_)
  have hx := cx.1.1
  have hb := cx.1.2.1
  have bp0 := i_rng p0
  have bp1 := i_rng p1
  have hl : lv_has ls 7 [(0, .ref (qm 0)), (1, .int p0), (2, .int p1)] := hl
  obtain ⟨H, eH⟩ : ∃ H : Heap, H = s.heap := ⟨_, rfl⟩
  obtain ⟨locs, el⟩ : ∃ L : List Loc, L = [] := ⟨_, rfl⟩
  have hP : va_P D vwCl [cell22_ qm sm tm, cell5_ k qm sm, cell13_ k qm sm, cell8_ k qm sm, cell6_ k qm sm, cell15_ k qm sm, cell14_ k qm tm, cell12_ k qm tm, cell18_ k qm tm, cell17_ k qm tm, cell19_ k qm tm, cell21_ k qm tm, cell20_ k qm sm, cell16_ k qm sm, cell11_ k qm sm, cell10_ k qm sm, cell9_ k qm sm, cell7_ k qm sm] H := by rw [eH]; exact hP
  have hD : va_D A [cell22_ qm sm tm, cell5_ k qm sm, cell13_ k qm sm, cell8_ k qm sm, cell6_ k qm sm, cell15_ k qm sm, cell14_ k qm tm, cell12_ k qm tm, cell18_ k qm tm, cell17_ k qm tm, cell19_ k qm tm, cell21_ k qm tm, cell20_ k qm sm, cell16_ k qm sm, cell11_ k qm sm, cell10_ k qm sm, cell9_ k qm sm, cell7_ k qm sm] := hD
  have hS : va_S A s.heap H locs := by rw [eH, el]; exact hS
  suffices goal : W p l e ({ frames := 3, cells := 0, slots := 0, locals := 75 } : Room) s m ([.ref (qm 0), .int p0, .int p1] : List Value).toArray below meth c H locs 0 0 Q (F0 m 0 ls []) by rw [eH, el] at goal; exact goal
  refine lv_iconst (v := 0) hx hb dX12_layLikely_0 (by decide) ?_
  refine lv_istore_n (lv' := [(3, .int 0), (0, .ref (qm 0)), (1, .int p0), (2, .int p1)]) hx hb dX12_layLikely_1 rfl hl (by decide) rfl (fun ls hl => ?_)
  obtain ⟨rr2_1, err2_1⟩ : ∃ r : (Nat → Int64) × (Nat → Int64), LTs (default : (Nat → Int64) × (Nat → Int64)) (B_X12_layLikely_2 sm tm p0 p1) 51 ((0 : Int32), (tm 8)) = r := ⟨_, rfl⟩
  have hrr2_1 : J_X12_layLikely sm tm p0 p1 = rr2_1 := ((exl_X12_layLikely_0)).trans err2_1
  have hL2 : ∀ (n6 : Nat) (v4 : Int32) (g5 : Nat → Int64) (H : Heap) (locs : List Loc) (ls : Array Slot), 50 - v4.toInt < (n6 : Int) → (0 ≤ v4.toInt ∧ v4.toInt ≤ 50) → (LTs (default : (Nat → Int64) × (Nat → Int64)) (B_X12_layLikely_2 sm tm p0 p1) n6 (v4, g5) = rr2_1) → va_P D vwCl [cell22_ qm sm tm, cell5_ k qm sm, cell13_ k qm sm, cell8_ k qm sm, cell6_ k qm sm, cell15_ k qm sm, cell14_ k qm tm, cell12_ k qm tm, (qm 8, .inl (k 1, 50, .inr (.inl g5))), cell17_ k qm tm, cell19_ k qm tm, cell21_ k qm tm, cell20_ k qm sm, cell16_ k qm sm, cell11_ k qm sm, cell10_ k qm sm, cell9_ k qm sm, cell7_ k qm sm] H → va_D A [cell22_ qm sm tm, cell5_ k qm sm, cell13_ k qm sm, cell8_ k qm sm, cell6_ k qm sm, cell15_ k qm sm, cell14_ k qm tm, cell12_ k qm tm, (qm 8, .inl (k 1, 50, .inr (.inl g5))), cell17_ k qm tm, cell19_ k qm tm, cell21_ k qm tm, cell20_ k qm sm, cell16_ k qm sm, cell11_ k qm sm, cell10_ k qm sm, cell9_ k qm sm, cell7_ k qm sm] → va_S A s.heap H locs → lv_has ls 7 [(3, .int v4), (0, .ref (qm 0)), (1, .int p0), (2, .int p1)] → W p l e ({ frames := 3, cells := 0, slots := 0, locals := 75 } : Room) s m ([.ref (qm 0), .int p0, .int p1] : List Value).toArray below meth c H locs 0 0 Q (F0 m 2 ls []) := by
    intro n6
    induction n6 with
    | zero => intro v4 g5 H locs ls hmn6 bv4 hzrr2_1 hP hD hS hl; exact absurd hmn6 (by omega)
    | succ n6 ih2 =>
      intro v4 g5 H locs ls hmn6 bv4 hzrr2_1 hP hD hS hl
      refine lv_iload_n hx hb dX12_layLikely_2 rfl (lv_at hl 0 rfl) ?_
      refine lv_bipush (v := 50) hx hb dX12_layLikely_3 (by decide) ?_
      refine lv_icmp_ge (tgt := 29) hx hb dX12_layLikely_5 (by decide) (fun c7 => ?_) (fun c7 => ?_)
      · have f7 : 50 ≤ v4.toInt := f_le (by decide) rfl c7
        refine lv_iconst (v := 0) hx hb dX12_layLikely_29 (by decide) ?_
        refine lv_istore_n (lv' := [(3, .int 0), (0, .ref (qm 0)), (1, .int p0), (2, .int p1)]) hx hb dX12_layLikely_30 rfl hl (by decide) rfl (fun ls hl => ?_)
        obtain ⟨rr31_2, err31_2⟩ : ∃ r : Sum (Int32 × (Nat → Int64)) ((Nat → Int64) × (Nat → Int64)), LTs (Sum.inl default : Sum (Int32 × (Nat → Int64)) ((Nat → Int64) × (Nat → Int64))) (B_X12_layLikely_31_2 sm tm p0 p1 v4 g5) 6 ((0 : Int32), g5, (tm 9)) = r := ⟨_, rfl⟩
        have hrr31_2 : (B_X12_layLikely_2 sm tm p0 p1) (v4, g5) = rr31_2 := ((exl_X12_layLikely_1 c7)).trans err31_2
        have hL31 : ∀ (n52 : Nat) (v49 : Int32) (g50 : Nat → Int64) (g51 : Nat → Int64) (H : Heap) (locs : List Loc) (ls : Array Slot), 5 - v49.toInt < (n52 : Int) → (0 ≤ v49.toInt ∧ v49.toInt ≤ 5) → (LTs (Sum.inl default : Sum (Int32 × (Nat → Int64)) ((Nat → Int64) × (Nat → Int64))) (B_X12_layLikely_31_2 sm tm p0 p1 v4 g5) n52 (v49, g50, g51) = rr31_2) → va_P D vwCl [cell22_ qm sm tm, cell5_ k qm sm, cell13_ k qm sm, cell8_ k qm sm, cell6_ k qm sm, cell15_ k qm sm, cell14_ k qm tm, cell12_ k qm tm, (qm 8, .inl (k 1, 50, .inr (.inl g50))), (qm 9, .inl (k 1, 50, .inr (.inl g51))), cell19_ k qm tm, cell21_ k qm tm, cell20_ k qm sm, cell16_ k qm sm, cell11_ k qm sm, cell10_ k qm sm, cell9_ k qm sm, cell7_ k qm sm] H → va_D A [cell22_ qm sm tm, cell5_ k qm sm, cell13_ k qm sm, cell8_ k qm sm, cell6_ k qm sm, cell15_ k qm sm, cell14_ k qm tm, cell12_ k qm tm, (qm 8, .inl (k 1, 50, .inr (.inl g50))), (qm 9, .inl (k 1, 50, .inr (.inl g51))), cell19_ k qm tm, cell21_ k qm tm, cell20_ k qm sm, cell16_ k qm sm, cell11_ k qm sm, cell10_ k qm sm, cell9_ k qm sm, cell7_ k qm sm] → va_S A s.heap H locs → lv_has ls 7 [(3, .int v49), (0, .ref (qm 0)), (1, .int p0), (2, .int p1)] → W p l e ({ frames := 3, cells := 0, slots := 0, locals := 75 } : Room) s m ([.ref (qm 0), .int p0, .int p1] : List Value).toArray below meth c H locs 0 0 Q (F0 m 31 ls []) := by
          intro n52
          induction n52 with
          | zero => intro v49 g50 g51 H locs ls hmn52 bv49 hzrr31_2 hP hD hS hl; exact absurd hmn52 (by omega)
          | succ n52 ih31 =>
            intro v49 g50 g51 H locs ls hmn52 bv49 hzrr31_2 hP hD hS hl
            refine lv_iload_n hx hb dX12_layLikely_31 rfl (lv_at hl 0 rfl) ?_
            refine lv_iload_n hx hb dX12_layLikely_32 rfl (lv_at hl 3 rfl) ?_
            refine lv_icmp_ge (tgt := 197) hx hb dX12_layLikely_33 (by decide) (fun c53 => ?_) (fun c53 => ?_)
            · have f53 : p1.toInt ≤ v49.toInt := f_le rfl rfl c53
              rw [hQ]
              exact x_v cx hr (g50, g51) hP hD hS (show (g50, g51) = J_X12_layLikely sm tm p0 p1 from ((hrr2_1.trans (LT_r hzrr2_1 (hrr31_2.trans (LT_r hzrr31_2 (exl_X12_layLikely_2 c53)))))).symm) dX12_layLikely_197
            · have f53 : v49.toInt < p1.toInt := f_nle rfl rfl c53
              refine lv_iconst (v := 0) hx hb dX12_layLikely_36 (by decide) ?_
              refine lv_istore (lv' := [(4, .int 0), (3, .int v49), (0, .ref (qm 0)), (1, .int p0), (2, .int p1)]) hx hb dX12_layLikely_37 hl (by decide) rfl (fun ls hl => ?_)
              obtain ⟨rr39_3, err39_3⟩ : ∃ r : Sum (Int32 × (Nat → Int64) × (Nat → Int64)) (Sum (Int32 × (Nat → Int64)) ((Nat → Int64) × (Nat → Int64))), LTs (Sum.inl default : Sum (Int32 × (Nat → Int64) × (Nat → Int64)) (Sum (Int32 × (Nat → Int64)) ((Nat → Int64) × (Nat → Int64)))) (B_X12_layLikely_39_3 sm tm p0 p1 v4 g5 v49 g50 g51) 51 ((0 : Int32), g51) = r := ⟨_, rfl⟩
              have hrr39_3 : (B_X12_layLikely_31_2 sm tm p0 p1 v4 g5) (v49, g50, g51) = rr39_3 := ((exl_X12_layLikely_3 c53)).trans err39_3
              have hL39 : ∀ (n59 : Nat) (v57 : Int32) (g58 : Nat → Int64) (H : Heap) (locs : List Loc) (ls : Array Slot), 50 - v57.toInt < (n59 : Int) → (0 ≤ v57.toInt ∧ v57.toInt ≤ 50) → (LTs (Sum.inl default : Sum (Int32 × (Nat → Int64) × (Nat → Int64)) (Sum (Int32 × (Nat → Int64)) ((Nat → Int64) × (Nat → Int64)))) (B_X12_layLikely_39_3 sm tm p0 p1 v4 g5 v49 g50 g51) n59 (v57, g58) = rr39_3) → va_P D vwCl [cell22_ qm sm tm, cell5_ k qm sm, cell13_ k qm sm, cell8_ k qm sm, cell6_ k qm sm, cell15_ k qm sm, cell14_ k qm tm, cell12_ k qm tm, (qm 8, .inl (k 1, 50, .inr (.inl g50))), (qm 9, .inl (k 1, 50, .inr (.inl g58))), cell19_ k qm tm, cell21_ k qm tm, cell20_ k qm sm, cell16_ k qm sm, cell11_ k qm sm, cell10_ k qm sm, cell9_ k qm sm, cell7_ k qm sm] H → va_D A [cell22_ qm sm tm, cell5_ k qm sm, cell13_ k qm sm, cell8_ k qm sm, cell6_ k qm sm, cell15_ k qm sm, cell14_ k qm tm, cell12_ k qm tm, (qm 8, .inl (k 1, 50, .inr (.inl g50))), (qm 9, .inl (k 1, 50, .inr (.inl g58))), cell19_ k qm tm, cell21_ k qm tm, cell20_ k qm sm, cell16_ k qm sm, cell11_ k qm sm, cell10_ k qm sm, cell9_ k qm sm, cell7_ k qm sm] → va_S A s.heap H locs → lv_has ls 7 [(4, .int v57), (3, .int v49), (0, .ref (qm 0)), (1, .int p0), (2, .int p1)] → W p l e ({ frames := 3, cells := 0, slots := 0, locals := 75 } : Room) s m ([.ref (qm 0), .int p0, .int p1] : List Value).toArray below meth c H locs 0 0 Q (F0 m 39 ls []) := by
                intro n59
                induction n59 with
                | zero => intro v57 g58 H locs ls hmn59 bv57 hzrr39_3 hP hD hS hl; exact absurd hmn59 (by omega)
                | succ n59 ih39 =>
                  intro v57 g58 H locs ls hmn59 bv57 hzrr39_3 hP hD hS hl
                  refine lv_iload hx hb dX12_layLikely_39 (lv_at hl 0 rfl) ?_
                  refine lv_bipush (v := 50) hx hb dX12_layLikely_41 (by decide) ?_
                  refine lv_icmp_ge (tgt := 60) hx hb dX12_layLikely_43 (by decide) (fun c60 => ?_) (fun c60 => ?_)
                  · have f60 : 50 ≤ v57.toInt := f_le (by decide) rfl c60
                    refine lv_iconst (v := 0) hx hb dX12_layLikely_60 (by decide) ?_
                    refine lv_istore (lv' := [(4, .int 0), (3, .int v49), (0, .ref (qm 0)), (1, .int p0), (2, .int p1)]) hx hb dX12_layLikely_61 hl (by decide) rfl (fun ls hl => ?_)
                    obtain ⟨rr63_4, err63_4⟩ : ∃ r : Sum (Int32 × (Nat → Int64)) (Sum (Int32 × (Nat → Int64) × (Nat → Int64)) (Sum (Int32 × (Nat → Int64)) ((Nat → Int64) × (Nat → Int64)))), LTs (Sum.inl default : Sum (Int32 × (Nat → Int64)) (Sum (Int32 × (Nat → Int64) × (Nat → Int64)) (Sum (Int32 × (Nat → Int64)) ((Nat → Int64) × (Nat → Int64))))) (B_X12_layLikely_63_4 sm tm p0 p1 v4 g5 v49 g50 g51 v57 g58) 51 ((0 : Int32), g58) = r := ⟨_, rfl⟩
                    have hrr63_4 : (B_X12_layLikely_39_3 sm tm p0 p1 v4 g5 v49 g50 g51) (v57, g58) = rr63_4 := ((exl_X12_layLikely_4 c60)).trans err63_4
                    have hL63 : ∀ (n95 : Nat) (v93 : Int32) (g94 : Nat → Int64) (H : Heap) (locs : List Loc) (ls : Array Slot), 50 - v93.toInt < (n95 : Int) → (0 ≤ v93.toInt ∧ v93.toInt ≤ 50) → (LTs (Sum.inl default : Sum (Int32 × (Nat → Int64)) (Sum (Int32 × (Nat → Int64) × (Nat → Int64)) (Sum (Int32 × (Nat → Int64)) ((Nat → Int64) × (Nat → Int64))))) (B_X12_layLikely_63_4 sm tm p0 p1 v4 g5 v49 g50 g51 v57 g58) n95 (v93, g94) = rr63_4) → va_P D vwCl [cell22_ qm sm tm, cell5_ k qm sm, cell13_ k qm sm, cell8_ k qm sm, cell6_ k qm sm, cell15_ k qm sm, cell14_ k qm tm, cell12_ k qm tm, (qm 8, .inl (k 1, 50, .inr (.inl g50))), (qm 9, .inl (k 1, 50, .inr (.inl g94))), cell19_ k qm tm, cell21_ k qm tm, cell20_ k qm sm, cell16_ k qm sm, cell11_ k qm sm, cell10_ k qm sm, cell9_ k qm sm, cell7_ k qm sm] H → va_D A [cell22_ qm sm tm, cell5_ k qm sm, cell13_ k qm sm, cell8_ k qm sm, cell6_ k qm sm, cell15_ k qm sm, cell14_ k qm tm, cell12_ k qm tm, (qm 8, .inl (k 1, 50, .inr (.inl g50))), (qm 9, .inl (k 1, 50, .inr (.inl g94))), cell19_ k qm tm, cell21_ k qm tm, cell20_ k qm sm, cell16_ k qm sm, cell11_ k qm sm, cell10_ k qm sm, cell9_ k qm sm, cell7_ k qm sm] → va_S A s.heap H locs → lv_has ls 7 [(4, .int v93), (3, .int v49), (0, .ref (qm 0)), (1, .int p0), (2, .int p1)] → W p l e ({ frames := 3, cells := 0, slots := 0, locals := 75 } : Room) s m ([.ref (qm 0), .int p0, .int p1] : List Value).toArray below meth c H locs 0 0 Q (F0 m 63 ls []) := by
                      intro n95
                      induction n95 with
                      | zero => intro v93 g94 H locs ls hmn95 bv93 hzrr63_4 hP hD hS hl; exact absurd hmn95 (by omega)
                      | succ n95 ih63 =>
                        intro v93 g94 H locs ls hmn95 bv93 hzrr63_4 hP hD hS hl
                        refine lv_iload hx hb dX12_layLikely_63 (lv_at hl 0 rfl) ?_
                        refine lv_bipush (v := 50) hx hb dX12_layLikely_65 (by decide) ?_
                        refine lv_icmp_ge (tgt := 161) hx hb dX12_layLikely_67 (by decide) (fun c96 => ?_) (fun c96 => ?_)
                        · have f96 : 50 ≤ v93.toInt := f_le (by decide) rfl c96
                          refine lv_iconst (v := 0) hx hb dX12_layLikely_161 (by decide) ?_
                          refine lv_istore (lv' := [(4, .int 0), (3, .int v49), (0, .ref (qm 0)), (1, .int p0), (2, .int p1)]) hx hb dX12_layLikely_162 hl (by decide) rfl (fun ls hl => ?_)
                          obtain ⟨rr164_5, err164_5⟩ : ∃ r : Sum (Int32 × (Nat → Int64)) (Sum (Int32 × (Nat → Int64)) (Sum (Int32 × (Nat → Int64) × (Nat → Int64)) (Sum (Int32 × (Nat → Int64)) ((Nat → Int64) × (Nat → Int64))))), LTs (Sum.inl default : Sum (Int32 × (Nat → Int64)) (Sum (Int32 × (Nat → Int64)) (Sum (Int32 × (Nat → Int64) × (Nat → Int64)) (Sum (Int32 × (Nat → Int64)) ((Nat → Int64) × (Nat → Int64)))))) (B_X12_layLikely_164_5 sm tm p0 p1 v4 g5 v49 g50 g51 v57 g58 v93 g94) 51 ((0 : Int32), g50) = r := ⟨_, rfl⟩
                          have hrr164_5 : (B_X12_layLikely_63_4 sm tm p0 p1 v4 g5 v49 g50 g51 v57 g58) (v93, g94) = rr164_5 := ((exl_X12_layLikely_5 c96)).trans err164_5
                          have hL164 : ∀ (n104 : Nat) (v102 : Int32) (g103 : Nat → Int64) (H : Heap) (locs : List Loc) (ls : Array Slot), 50 - v102.toInt < (n104 : Int) → (0 ≤ v102.toInt ∧ v102.toInt ≤ 50) → (LTs (Sum.inl default : Sum (Int32 × (Nat → Int64)) (Sum (Int32 × (Nat → Int64)) (Sum (Int32 × (Nat → Int64) × (Nat → Int64)) (Sum (Int32 × (Nat → Int64)) ((Nat → Int64) × (Nat → Int64)))))) (B_X12_layLikely_164_5 sm tm p0 p1 v4 g5 v49 g50 g51 v57 g58 v93 g94) n104 (v102, g103) = rr164_5) → va_P D vwCl [cell22_ qm sm tm, cell5_ k qm sm, cell13_ k qm sm, cell8_ k qm sm, cell6_ k qm sm, cell15_ k qm sm, cell14_ k qm tm, cell12_ k qm tm, (qm 8, .inl (k 1, 50, .inr (.inl g103))), (qm 9, .inl (k 1, 50, .inr (.inl g94))), cell19_ k qm tm, cell21_ k qm tm, cell20_ k qm sm, cell16_ k qm sm, cell11_ k qm sm, cell10_ k qm sm, cell9_ k qm sm, cell7_ k qm sm] H → va_D A [cell22_ qm sm tm, cell5_ k qm sm, cell13_ k qm sm, cell8_ k qm sm, cell6_ k qm sm, cell15_ k qm sm, cell14_ k qm tm, cell12_ k qm tm, (qm 8, .inl (k 1, 50, .inr (.inl g103))), (qm 9, .inl (k 1, 50, .inr (.inl g94))), cell19_ k qm tm, cell21_ k qm tm, cell20_ k qm sm, cell16_ k qm sm, cell11_ k qm sm, cell10_ k qm sm, cell9_ k qm sm, cell7_ k qm sm] → va_S A s.heap H locs → lv_has ls 7 [(4, .int v102), (3, .int v49), (0, .ref (qm 0)), (1, .int p0), (2, .int p1)] → W p l e ({ frames := 3, cells := 0, slots := 0, locals := 75 } : Room) s m ([.ref (qm 0), .int p0, .int p1] : List Value).toArray below meth c H locs 0 0 Q (F0 m 164 ls []) := by
                            intro n104
                            induction n104 with
                            | zero => intro v102 g103 H locs ls hmn104 bv102 hzrr164_5 hP hD hS hl; exact absurd hmn104 (by omega)
                            | succ n104 ih164 =>
                              intro v102 g103 H locs ls hmn104 bv102 hzrr164_5 hP hD hS hl
                              refine lv_iload hx hb dX12_layLikely_164 (lv_at hl 0 rfl) ?_
                              refine lv_bipush (v := 50) hx hb dX12_layLikely_166 (by decide) ?_
                              refine lv_icmp_ge (tgt := 191) hx hb dX12_layLikely_168 (by decide) (fun c105 => ?_) (fun c105 => ?_)
                              · have f105 : 50 ≤ v102.toInt := f_le (by decide) rfl c105
                                obtain ⟨v106, e106⟩ : ∃ z : Int32, z = v49 + 1 := ⟨_, rfl⟩
                                refine lv_iinc (v := v106) (lv' := [(3, .int v106), (4, .int v102), (0, .ref (qm 0)), (1, .int p0), (2, .int p1)]) hx hb dX12_layLikely_191 hl (k := 1) rfl (by rw [e106]; rfl) (by decide) rfl (fun ls hl => ?_)
                                have t106 : v106.toInt = v49.toInt + 1 := by rw [e106]; exact i_add rfl (by decide) (by omega) (by omega)
                                refine lv_goto (tgt := 31) hx hb dX12_layLikely_194 (by decide) ?_
                                exact ih31 v106 g103 g94 _ _ _ (by omega) (by first | decide | omega) (LT_g hzrr31_2 (hrr39_3.trans (LT_r hzrr39_3 (hrr63_4.trans (LT_r hzrr63_4 (hrr164_5.trans (LT_r hzrr164_5 (exl_X12_layLikely_6 e106 c105)))))))) hP hD hS (lv_sub hl [0, 2, 3, 4] rfl)
                              · have f105 : v102.toInt < 50 := f_nle (by decide) rfl c105
                                refine lv_aload_n hx hb dX12_layLikely_171 rfl (lv_at hl 2 rfl) ?_
                                refine g_get cx hP iw_X12_layLikely_X12 0 rfl rfl 16 (by decide) rfl fw_X12_layLikely_32 rfl dX12_layLikely_172 ?_
                                refine lv_iload hx hb dX12_layLikely_175 (lv_at hl 0 rfl) ?_
                                refine lv_aload_n hx hb dX12_layLikely_177 rfl (lv_at hl 2 rfl) ?_
                                refine g_get cx hP iw_X12_layLikely_X12 0 rfl rfl 17 (by decide) rfl fw_X12_layLikely_35 rfl dX12_layLikely_178 ?_
                                refine lv_iload hx hb dX12_layLikely_181 (lv_at hl 0 rfl) ?_
                                have hn107 : vp_in v102 50 := f_in (a := v102.toInt) rfl (by omega) (by omega)
                                refine va_lald hx hb cx.2.1 hP 9 1 rfl rfl hn107 dX12_layLikely_183 (lv_topl (fun v108 e108 => ?_))
                                have hn109 : vp_in v102 50 := f_in (a := v102.toInt) rfl (by omega) (by omega)
                                refine va_last hx hb cx.2.1 hP hD hS 8 1 rfl rfl hn109 dX12_layLikely_184 (fun H locs hP hD hS => ?_)
                                obtain ⟨g110, eg110⟩ : ∃ g : Nat → Int64, g = vp_updL g103 (v102).toNatClampNeg v108 := ⟨_, rfl⟩
                                rw [← eg110] at hP hD
                                have hP : va_P D vwCl [cell22_ qm sm tm, cell5_ k qm sm, cell13_ k qm sm, cell8_ k qm sm, cell6_ k qm sm, cell15_ k qm sm, cell14_ k qm tm, cell12_ k qm tm, (qm 8, .inl (k 1, 50, .inr (.inl g110))), (qm 9, .inl (k 1, 50, .inr (.inl g94))), cell19_ k qm tm, cell21_ k qm tm, cell20_ k qm sm, cell16_ k qm sm, cell11_ k qm sm, cell10_ k qm sm, cell9_ k qm sm, cell7_ k qm sm] H := hP
                                have hD : va_D A [cell22_ qm sm tm, cell5_ k qm sm, cell13_ k qm sm, cell8_ k qm sm, cell6_ k qm sm, cell15_ k qm sm, cell14_ k qm tm, cell12_ k qm tm, (qm 8, .inl (k 1, 50, .inr (.inl g110))), (qm 9, .inl (k 1, 50, .inr (.inl g94))), cell19_ k qm tm, cell21_ k qm tm, cell20_ k qm sm, cell16_ k qm sm, cell11_ k qm sm, cell10_ k qm sm, cell9_ k qm sm, cell7_ k qm sm] := hD
                                obtain ⟨v111, e111⟩ : ∃ z : Int32, z = v102 + 1 := ⟨_, rfl⟩
                                refine lv_iinc (v := v111) (lv' := [(4, .int v111), (3, .int v49), (0, .ref (qm 0)), (1, .int p0), (2, .int p1)]) hx hb dX12_layLikely_185 hl (k := 0) rfl (by rw [e111]; rfl) (by decide) rfl (fun ls hl => ?_)
                                have t111 : v111.toInt = v102.toInt + 1 := by rw [e111]; exact i_add rfl (by decide) (by omega) (by omega)
                                refine lv_goto (tgt := 164) hx hb dX12_layLikely_188 (by decide) ?_
                                exact ih164 v111 g110 _ _ _ (by omega) (by first | decide | omega) (LT_g hzrr164_5 (exl_X12_layLikely_7 e108 eg110 e111 c105)) hP hD hS (lv_sub hl [0, 1, 2, 3, 4] rfl)
                          have hlit112 : (0 : Int32).toInt = 0 := by decide
                          exact hL164 (51) 0 g50 _ _ _ (by omega) (by first | decide | omega) err164_5 hP hD hS (lv_sub hl [0, 1, 2, 3, 4] rfl)
                        · have f96 : v93.toInt < 50 := f_nle (by decide) rfl c96
                          refine lv_aload_n hx hb dX12_layLikely_70 rfl (lv_at hl 2 rfl) ?_
                          refine g_get cx hP iw_X12_layLikely_X12 0 rfl rfl 16 (by decide) rfl fw_X12_layLikely_32 rfl dX12_layLikely_71 ?_
                          refine lv_iload hx hb dX12_layLikely_74 (lv_at hl 0 rfl) ?_
                          have hn113 : vp_in v93 50 := f_in (a := v93.toInt) rfl (by omega) (by omega)
                          refine va_lald hx hb cx.2.1 hP 8 1 rfl rfl hn113 dX12_layLikely_76 (lv_topl (fun v114 e114 => ?_))
                          refine lv_lconst (v := 0) hx hb dX12_layLikely_77 (by decide) ?_
                          refine W.lcmp hx hb dX12_layLikely_78 (lv_topi (fun v115 e115 => ?_))
                          refine lv_if_le (tgt := 155) hx hb dX12_layLikely_79 (by decide) (fun c116 => ?_) (fun c116 => ?_)
                          · have f116 : v115.toInt ≤ 0 := f_le rfl (by decide) c116
                            obtain ⟨v117, e117⟩ : ∃ z : Int32, z = v93 + 1 := ⟨_, rfl⟩
                            refine lv_iinc (v := v117) (lv' := [(4, .int v117), (3, .int v49), (0, .ref (qm 0)), (1, .int p0), (2, .int p1)]) hx hb dX12_layLikely_155 hl (k := 0) rfl (by rw [e117]; rfl) (by decide) rfl (fun ls hl => ?_)
                            have t117 : v117.toInt = v93.toInt + 1 := by rw [e117]; exact i_add rfl (by decide) (by omega) (by omega)
                            refine lv_goto (tgt := 63) hx hb dX12_layLikely_158 (by decide) ?_
                            exact ih63 v117 g94 _ _ _ (by omega) (by first | decide | omega) (LT_g hzrr63_4 (exl_X12_layLikely_8 e114 e115 e117 c96 c116)) hP hD hS (lv_sub hl [0, 1, 2, 3, 4] rfl)
                          · have f116 : 0 < v115.toInt := f_nle rfl (by decide) c116
                            refine lv_aload_n hx hb dX12_layLikely_82 rfl (lv_at hl 2 rfl) ?_
                            refine lv_iload_n hx hb dX12_layLikely_83 rfl (lv_at hl 1 rfl) ?_
                            refine lv_iload hx hb dX12_layLikely_84 (lv_at hl 0 rfl) ?_
                            refine lv_aload_n hx hb dX12_layLikely_86 rfl (lv_at hl 2 rfl) ?_
                            refine lv_iload_n hx hb dX12_layLikely_87 rfl (lv_at hl 3 rfl) ?_
                            refine lv_iload_n hx hb dX12_layLikely_88 rfl (lv_at hl 1 rfl) ?_
                            refine lv_iload hx hb dX12_layLikely_89 (lv_at hl 0 rfl) ?_
                            refine g_iF (w1 := fun (_ : Unit) => [cell22_ qm sm tm, cell5_ k qm sm, cell13_ k qm sm, cell8_ k qm sm, cell6_ k qm sm, cell15_ k qm sm, cell14_ k qm tm, cell12_ k qm tm, (qm 8, .inl (k 1, 50, .inr (.inl g50))), (qm 9, .inl (k 1, 50, .inr (.inl g94))), cell19_ k qm tm, cell21_ k qm tm, cell20_ k qm sm, cell16_ k qm sm, cell11_ k qm sm, cell10_ k qm sm, cell9_ k qm sm, cell7_ k qm sm]) (g_runVF (ws := [cell22_ qm sm tm, cell5_ k qm sm, cell13_ k qm sm, cell8_ k qm sm, cell6_ k qm sm, cell15_ k qm sm, cell14_ k qm tm, cell12_ k qm tm, (qm 8, .inl (k 1, 50, .inr (.inl g50))), (qm 9, .inl (k 1, 50, .inr (.inl g94))), cell19_ k qm tm, cell21_ k qm tm, cell20_ k qm sm, cell16_ k qm sm, cell11_ k qm sm, cell10_ k qm sm, cell9_ k qm sm, cell7_ k qm sm]) (rest := [.int v93, .int v49, .ref (qm 0)]) cx hP hD hS [.int p0, .int v49, .int v93] (c_X12_ruleAct l D k b qm sm (up2L (up2L tm 8 g50) 9 g94) H.size p0 v49 v93 (show 0 ≤ p0.toInt ∧ p0.toInt ≤ 2 from by first | decide | omega) (show 0 ≤ v49.toInt ∧ v49.toInt ≤ 4 from by first | decide | omega)) gX12_layLikely_X12_ruleAct rfl rfl rfl nd_X12_ruleAct ⟨Nat.le_of_ble_eq_true rfl, Nat.le_of_ble_eq_true rfl⟩ (ci := 10) (q0 := 0) rfl rfl rfl hl.1 rfl (Nat.le_of_ble_eq_true rfl) ⟨Nat.zero_le _, Nat.zero_le _⟩ dX12_layLikely_91) cx.2.2.1 hD hS (fun r119 _ H locs hw118 hP hD hS => ?_)
                            have w120 : r119 = J_X12_ruleAct sm (up2L (up2L tm 8 g50) 9 g94) p0 v49 v93 := hw118
                            clear hw118
                            refine g_iF (w1 := fun (_ : Unit) => [cell22_ qm sm tm, cell5_ k qm sm, cell13_ k qm sm, cell8_ k qm sm, cell6_ k qm sm, cell15_ k qm sm, cell14_ k qm tm, cell12_ k qm tm, (qm 8, .inl (k 1, 50, .inr (.inl g50))), (qm 9, .inl (k 1, 50, .inr (.inl g94))), cell19_ k qm tm, cell21_ k qm tm, cell20_ k qm sm, cell16_ k qm sm, cell11_ k qm sm, cell10_ k qm sm, cell9_ k qm sm, cell7_ k qm sm]) (g_runVF (ws := [cell22_ qm sm tm, cell5_ k qm sm, cell13_ k qm sm, cell8_ k qm sm, cell6_ k qm sm, cell15_ k qm sm, cell14_ k qm tm, cell12_ k qm tm, (qm 8, .inl (k 1, 50, .inr (.inl g50))), (qm 9, .inl (k 1, 50, .inr (.inl g94))), cell19_ k qm tm, cell21_ k qm tm, cell20_ k qm sm, cell16_ k qm sm, cell11_ k qm sm, cell10_ k qm sm, cell9_ k qm sm, cell7_ k qm sm]) (rest := []) cx hP hD hS [.int v49, .int v93, .int r119] (c_X12_after l D k b qm sm (up2L (up2L tm 8 g50) 9 g94) H.size v49 v93 r119 (show 0 ≤ ((sm 2) 0).toInt ∧ ((sm 2) 0).toInt ≤ 5 from by first | decide | omega) (show 0 ≤ v49.toInt ∧ v49.toInt ≤ 4 from by first | decide | omega)) gX12_layLikely_X12_after rfl rfl rfl nd_X12_after ⟨Nat.le_of_ble_eq_true rfl, Nat.le_of_ble_eq_true rfl⟩ (ci := 10) (q0 := 0) rfl rfl rfl hl.1 rfl (Nat.le_of_ble_eq_true rfl) ⟨Nat.zero_le _, Nat.zero_le _⟩ dX12_layLikely_94) cx.2.2.1 hD hS (fun r123 _ H locs hw122 hP hD hS => ?_)
                            have w124 : r123 = J_X12_after sm (up2L (up2L tm 8 g50) 9 g94) v49 v93 r119 := hw122
                            clear hw122
                            refine lv_istore (lv' := [(5, .int r123), (4, .int v93), (3, .int v49), (0, .ref (qm 0)), (1, .int p0), (2, .int p1)]) hx hb dX12_layLikely_97 hl (by decide) rfl (fun ls hl => ?_)
                            refine lv_iconst (v := 0) hx hb dX12_layLikely_99 (by decide) ?_
                            refine lv_istore (lv' := [(6, .int 0), (5, .int r123), (4, .int v93), (3, .int v49), (0, .ref (qm 0)), (1, .int p0), (2, .int p1)]) hx hb dX12_layLikely_100 hl (by decide) rfl (fun ls hl => ?_)
                            obtain ⟨rr102_6, err102_6⟩ : ∃ r : Sum (Int32 × (Nat → Int64)) (Sum (Int32 × (Nat → Int64)) (Sum (Int32 × (Nat → Int64) × (Nat → Int64)) (Sum (Int32 × (Nat → Int64)) ((Nat → Int64) × (Nat → Int64))))), LTs (Sum.inl default : Sum (Int32 × (Nat → Int64)) (Sum (Int32 × (Nat → Int64)) (Sum (Int32 × (Nat → Int64) × (Nat → Int64)) (Sum (Int32 × (Nat → Int64)) ((Nat → Int64) × (Nat → Int64)))))) (B_X12_layLikely_102_6 sm tm p0 p1 v4 g5 v49 g50 g51 v57 g58 v93 g94 r119 r123) 51 ((0 : Int32), g94) = r := ⟨_, rfl⟩
                            have hrr102_6 : (B_X12_layLikely_63_4 sm tm p0 p1 v4 g5 v49 g50 g51 v57 g58) (v93, g94) = rr102_6 := ((exl_X12_layLikely_9 e114 e115 c96 c116 w120 w124)).trans err102_6
                            have hL102 : ∀ (n148 : Nat) (v146 : Int32) (g147 : Nat → Int64) (H : Heap) (locs : List Loc) (ls : Array Slot), 50 - v146.toInt < (n148 : Int) → (0 ≤ v146.toInt ∧ v146.toInt ≤ 50) → (LTs (Sum.inl default : Sum (Int32 × (Nat → Int64)) (Sum (Int32 × (Nat → Int64)) (Sum (Int32 × (Nat → Int64) × (Nat → Int64)) (Sum (Int32 × (Nat → Int64)) ((Nat → Int64) × (Nat → Int64)))))) (B_X12_layLikely_102_6 sm tm p0 p1 v4 g5 v49 g50 g51 v57 g58 v93 g94 r119 r123) n148 (v146, g147) = rr102_6) → va_P D vwCl [cell22_ qm sm tm, cell5_ k qm sm, cell13_ k qm sm, cell8_ k qm sm, cell6_ k qm sm, cell15_ k qm sm, cell14_ k qm tm, cell12_ k qm tm, (qm 8, .inl (k 1, 50, .inr (.inl g50))), (qm 9, .inl (k 1, 50, .inr (.inl g147))), cell19_ k qm tm, cell21_ k qm tm, cell20_ k qm sm, cell16_ k qm sm, cell11_ k qm sm, cell10_ k qm sm, cell9_ k qm sm, cell7_ k qm sm] H → va_D A [cell22_ qm sm tm, cell5_ k qm sm, cell13_ k qm sm, cell8_ k qm sm, cell6_ k qm sm, cell15_ k qm sm, cell14_ k qm tm, cell12_ k qm tm, (qm 8, .inl (k 1, 50, .inr (.inl g50))), (qm 9, .inl (k 1, 50, .inr (.inl g147))), cell19_ k qm tm, cell21_ k qm tm, cell20_ k qm sm, cell16_ k qm sm, cell11_ k qm sm, cell10_ k qm sm, cell9_ k qm sm, cell7_ k qm sm] → va_S A s.heap H locs → lv_has ls 7 [(6, .int v146), (5, .int r123), (4, .int v93), (3, .int v49), (0, .ref (qm 0)), (1, .int p0), (2, .int p1)] → W p l e ({ frames := 3, cells := 0, slots := 0, locals := 75 } : Room) s m ([.ref (qm 0), .int p0, .int p1] : List Value).toArray below meth c H locs 0 0 Q (F0 m 102 ls []) := by
                              intro n148
                              induction n148 with
                              | zero => intro v146 g147 H locs ls hmn148 bv146 hzrr102_6 hP hD hS hl; exact absurd hmn148 (by omega)
                              | succ n148 ih102 =>
                                intro v146 g147 H locs ls hmn148 bv146 hzrr102_6 hP hD hS hl
                                refine lv_iload hx hb dX12_layLikely_102 (lv_at hl 0 rfl) ?_
                                refine lv_bipush (v := 50) hx hb dX12_layLikely_104 (by decide) ?_
                                refine lv_icmp_ge (tgt := 155) hx hb dX12_layLikely_106 (by decide) (fun c149 => ?_) (fun c149 => ?_)
                                · have f149 : 50 ≤ v146.toInt := f_le (by decide) rfl c149
                                  obtain ⟨v150, e150⟩ : ∃ z : Int32, z = v93 + 1 := ⟨_, rfl⟩
                                  refine lv_iinc (v := v150) (lv' := [(4, .int v150), (6, .int v146), (5, .int r123), (3, .int v49), (0, .ref (qm 0)), (1, .int p0), (2, .int p1)]) hx hb dX12_layLikely_155 hl (k := 2) rfl (by rw [e150]; rfl) (by decide) rfl (fun ls hl => ?_)
                                  have t150 : v150.toInt = v93.toInt + 1 := by rw [e150]; exact i_add rfl (by decide) (by omega) (by omega)
                                  refine lv_goto (tgt := 63) hx hb dX12_layLikely_158 (by decide) ?_
                                  exact ih63 v150 g147 _ _ _ (by omega) (by first | decide | omega) (LT_g hzrr63_4 (hrr102_6.trans (LT_r hzrr102_6 (exl_X12_layLikely_10 e150 c149)))) hP hD hS (lv_sub hl [0, 3, 4, 5, 6] rfl)
                                · have f149 : v146.toInt < 50 := f_nle (by decide) rfl c149
                                  refine lv_aload_n hx hb dX12_layLikely_109 rfl (lv_at hl 4 rfl) ?_
                                  refine g_get cx hP iw_X12_layLikely_X12 0 rfl rfl 17 (by decide) rfl fw_X12_layLikely_35 rfl dX12_layLikely_110 ?_
                                  refine lv_iload hx hb dX12_layLikely_113 (lv_at hl 0 rfl) ?_
                                  refine lv_dup2_11 hx hb dX12_layLikely_115 rfl rfl ?_
                                  have hn151 : vp_in v146 50 := f_in (a := v146.toInt) rfl (by omega) (by omega)
                                  refine va_lald hx hb cx.2.1 hP 9 1 rfl rfl hn151 dX12_layLikely_116 (lv_topl (fun v152 e152 => ?_))
                                  refine lv_aload_n hx hb dX12_layLikely_117 rfl (lv_at hl 4 rfl) ?_
                                  refine lv_iload hx hb dX12_layLikely_118 (lv_at hl 0 rfl) ?_
                                  refine g_iF (w1 := fun (_ : Unit) => [cell22_ qm sm tm, cell5_ k qm sm, cell13_ k qm sm, cell8_ k qm sm, cell6_ k qm sm, cell15_ k qm sm, cell14_ k qm tm, cell12_ k qm tm, (qm 8, .inl (k 1, 50, .inr (.inl g50))), (qm 9, .inl (k 1, 50, .inr (.inl g147))), cell19_ k qm tm, cell21_ k qm tm, cell20_ k qm sm, cell16_ k qm sm, cell11_ k qm sm, cell10_ k qm sm, cell9_ k qm sm, cell7_ k qm sm]) (g_runVF (ws := [cell22_ qm sm tm, cell5_ k qm sm, cell13_ k qm sm, cell8_ k qm sm, cell6_ k qm sm, cell15_ k qm sm, cell14_ k qm tm, cell12_ k qm tm, (qm 8, .inl (k 1, 50, .inr (.inl g50))), (qm 9, .inl (k 1, 50, .inr (.inl g147))), cell19_ k qm tm, cell21_ k qm tm, cell20_ k qm sm, cell16_ k qm sm, cell11_ k qm sm, cell10_ k qm sm, cell9_ k qm sm, cell7_ k qm sm]) (rest := [.long v152, .int v146, .ref (qm 9)]) cx hP hD hS [.int v146] (c_X12_isHands l D k b qm sm (up2L (up2L tm 8 g50) 9 g147) H.size v146 (show 0 ≤ ((sm 2) 1).toInt ∧ ((sm 2) 1).toInt ≤ 4 from by first | decide | omega)) gX12_layLikely_X12_isHands rfl rfl rfl nd_X12_isHands ⟨Nat.le_of_ble_eq_true rfl, Nat.le_of_ble_eq_true rfl⟩ (ci := 10) (q0 := 0) rfl rfl rfl hl.1 rfl (Nat.le_of_ble_eq_true rfl) ⟨Nat.zero_le _, Nat.zero_le _⟩ dX12_layLikely_120) cx.2.2.1 hD hS (fun r154 _ H locs hw153 hP hD hS => ?_)
                                  replace hw153 : (0 ≤ r154.toInt ∧ r154.toInt ≤ 1) ∧ (Imp (r154.toInt = 1) (0 ≤ v146.toInt ∧ v146.toInt ≤ 400)) ∧ (r154 = J_X12_isHands sm (up2L (up2L tm 8 g50) 9 g147) v146) := hw153
                                  obtain ⟨w155, w156, w157⟩ := hw153
                                  have zr154 : 0 ≤ r154.toInt ∧ r154.toInt ≤ 1 := w155
                                  refine lv_if_eq (tgt := 146) hx hb dX12_layLikely_123 (by decide) (fun c159 => ?_) (fun c159 => ?_)
                                  · have f159 : r154.toInt = 0 := f_eq rfl (by decide) c159
                                    refine lv_lconst (v := 0) hx hb dX12_layLikely_146 (by decide) ?_
                                    refine lv_ladd hx hb dX12_layLikely_147 (lv_topl (fun v160 e160 => ?_))
                                    have hn161 : vp_in v146 50 := f_in (a := v146.toInt) rfl (by omega) (by omega)
                                    refine va_last hx hb cx.2.1 hP hD hS 9 1 rfl rfl hn161 dX12_layLikely_148 (fun H locs hP hD hS => ?_)
                                    obtain ⟨g162, eg162⟩ : ∃ g : Nat → Int64, g = vp_updL g147 (v146).toNatClampNeg v160 := ⟨_, rfl⟩
                                    rw [← eg162] at hP hD
                                    have hP : va_P D vwCl [cell22_ qm sm tm, cell5_ k qm sm, cell13_ k qm sm, cell8_ k qm sm, cell6_ k qm sm, cell15_ k qm sm, cell14_ k qm tm, cell12_ k qm tm, (qm 8, .inl (k 1, 50, .inr (.inl g50))), (qm 9, .inl (k 1, 50, .inr (.inl g162))), cell19_ k qm tm, cell21_ k qm tm, cell20_ k qm sm, cell16_ k qm sm, cell11_ k qm sm, cell10_ k qm sm, cell9_ k qm sm, cell7_ k qm sm] H := hP
                                    have hD : va_D A [cell22_ qm sm tm, cell5_ k qm sm, cell13_ k qm sm, cell8_ k qm sm, cell6_ k qm sm, cell15_ k qm sm, cell14_ k qm tm, cell12_ k qm tm, (qm 8, .inl (k 1, 50, .inr (.inl g50))), (qm 9, .inl (k 1, 50, .inr (.inl g162))), cell19_ k qm tm, cell21_ k qm tm, cell20_ k qm sm, cell16_ k qm sm, cell11_ k qm sm, cell10_ k qm sm, cell9_ k qm sm, cell7_ k qm sm] := hD
                                    obtain ⟨v163, e163⟩ : ∃ z : Int32, z = v146 + 1 := ⟨_, rfl⟩
                                    refine lv_iinc (v := v163) (lv' := [(6, .int v163), (5, .int r123), (4, .int v93), (3, .int v49), (0, .ref (qm 0)), (1, .int p0), (2, .int p1)]) hx hb dX12_layLikely_149 hl (k := 0) rfl (by rw [e163]; rfl) (by decide) rfl (fun ls hl => ?_)
                                    have t163 : v163.toInt = v146.toInt + 1 := by rw [e163]; exact i_add rfl (by decide) (by omega) (by omega)
                                    refine lv_goto (tgt := 102) hx hb dX12_layLikely_152 (by decide) ?_
                                    exact ih102 v163 g162 _ _ _ (by omega) (by first | decide | omega) (LT_g hzrr102_6 (exl_X12_layLikely_11 e152 e160 eg162 e163 c149 w157 c159)) hP hD hS (lv_sub hl [0, 1, 2, 3, 4, 5, 6] rfl)
                                  · have f159 : ¬ r154.toInt = 0 := f_ne rfl (by decide) c159
                                    have k159 : (0 ≤ v146.toInt ∧ v146.toInt ≤ 400) := w156 (by omega)
                                    refine lv_aload_n hx hb dX12_layLikely_126 rfl (lv_at hl 4 rfl) ?_
                                    refine g_get cx hP iw_X12_layLikely_X12 0 rfl rfl 16 (by decide) rfl fw_X12_layLikely_32 rfl dX12_layLikely_127 ?_
                                    refine lv_iload hx hb dX12_layLikely_130 (lv_at hl 2 rfl) ?_
                                    have hn164 : vp_in v93 50 := f_in (a := v93.toInt) rfl (by omega) (by omega)
                                    refine va_lald hx hb cx.2.1 hP 8 1 rfl rfl hn164 dX12_layLikely_132 (lv_topl (fun v165 e165 => ?_))
                                    have qv165_ : v165.toInt = v114.toInt := congrArg Int64.toInt (e165.trans e114.symm)
                                    refine lv_aload_n hx hb dX12_layLikely_133 rfl (lv_at hl 4 rfl) ?_
                                    refine lv_iload hx hb dX12_layLikely_134 (lv_at hl 1 rfl) ?_
                                    refine lv_iload hx hb dX12_layLikely_136 (lv_at hl 0 rfl) ?_
                                    refine g_iF (w1 := fun (_ : Unit) => [cell22_ qm sm tm, cell5_ k qm sm, cell13_ k qm sm, cell8_ k qm sm, cell6_ k qm sm, cell15_ k qm sm, cell14_ k qm tm, cell12_ k qm tm, (qm 8, .inl (k 1, 50, .inr (.inl g50))), (qm 9, .inl (k 1, 50, .inr (.inl g147))), cell19_ k qm tm, cell21_ k qm tm, cell20_ k qm sm, cell16_ k qm sm, cell11_ k qm sm, cell10_ k qm sm, cell9_ k qm sm, cell7_ k qm sm]) (g_runVF (ws := [cell22_ qm sm tm, cell5_ k qm sm, cell13_ k qm sm, cell8_ k qm sm, cell6_ k qm sm, cell15_ k qm sm, cell14_ k qm tm, cell12_ k qm tm, (qm 8, .inl (k 1, 50, .inr (.inl g50))), (qm 9, .inl (k 1, 50, .inr (.inl g147))), cell19_ k qm tm, cell21_ k qm tm, cell20_ k qm sm, cell16_ k qm sm, cell11_ k qm sm, cell10_ k qm sm, cell9_ k qm sm, cell7_ k qm sm]) (rest := [.long v165, .long v152, .int v146, .ref (qm 9)]) cx hP hD hS [.int r123, .int v146] (c_X12_sundayOf l D k b qm sm (up2L (up2L tm 8 g50) 9 g147) H.size r123 v146) gX12_layLikely_X12_sundayOf rfl rfl rfl nd_X12_sundayOf ⟨Nat.le_of_ble_eq_true rfl, Nat.le_of_ble_eq_true rfl⟩ (ci := 10) (q0 := 0) rfl rfl rfl hl.1 rfl (Nat.le_of_ble_eq_true rfl) ⟨Nat.zero_le _, Nat.zero_le _⟩ dX12_layLikely_138) cx.2.2.1 hD hS (fun r167 _ H locs hw166 hP hD hS => ?_)
                                    have w168 : r167 = J_X12_sundayOf sm (up2L (up2L tm 8 g50) 9 g147) r123 v146 := hw166
                                    clear hw166
                                    obtain ⟨v170, e170⟩ : ∃ z : Int64, z = (r167 : Int32).toInt64 := ⟨_, rfl⟩
                                    refine lv_i2l (v := v170) hx hb dX12_layLikely_141 e170.symm ?_
                                    refine lv_lmul hx hb dX12_layLikely_142 (lv_topl (fun v171 e171 => ?_))
                                    refine lv_goto (tgt := 147) hx hb dX12_layLikely_143 (by decide) ?_
                                    refine lv_ladd hx hb dX12_layLikely_147 (lv_topl (fun v172 e172 => ?_))
                                    have hn173 : vp_in v146 50 := f_in (a := v146.toInt) rfl (by omega) (by omega)
                                    refine va_last hx hb cx.2.1 hP hD hS 9 1 rfl rfl hn173 dX12_layLikely_148 (fun H locs hP hD hS => ?_)
                                    obtain ⟨g174, eg174⟩ : ∃ g : Nat → Int64, g = vp_updL g147 (v146).toNatClampNeg v172 := ⟨_, rfl⟩
                                    rw [← eg174] at hP hD
                                    have hP : va_P D vwCl [cell22_ qm sm tm, cell5_ k qm sm, cell13_ k qm sm, cell8_ k qm sm, cell6_ k qm sm, cell15_ k qm sm, cell14_ k qm tm, cell12_ k qm tm, (qm 8, .inl (k 1, 50, .inr (.inl g50))), (qm 9, .inl (k 1, 50, .inr (.inl g174))), cell19_ k qm tm, cell21_ k qm tm, cell20_ k qm sm, cell16_ k qm sm, cell11_ k qm sm, cell10_ k qm sm, cell9_ k qm sm, cell7_ k qm sm] H := hP
                                    have hD : va_D A [cell22_ qm sm tm, cell5_ k qm sm, cell13_ k qm sm, cell8_ k qm sm, cell6_ k qm sm, cell15_ k qm sm, cell14_ k qm tm, cell12_ k qm tm, (qm 8, .inl (k 1, 50, .inr (.inl g50))), (qm 9, .inl (k 1, 50, .inr (.inl g174))), cell19_ k qm tm, cell21_ k qm tm, cell20_ k qm sm, cell16_ k qm sm, cell11_ k qm sm, cell10_ k qm sm, cell9_ k qm sm, cell7_ k qm sm] := hD
                                    obtain ⟨v175, e175⟩ : ∃ z : Int32, z = v146 + 1 := ⟨_, rfl⟩
                                    refine lv_iinc (v := v175) (lv' := [(6, .int v175), (5, .int r123), (4, .int v93), (3, .int v49), (0, .ref (qm 0)), (1, .int p0), (2, .int p1)]) hx hb dX12_layLikely_149 hl (k := 0) rfl (by rw [e175]; rfl) (by decide) rfl (fun ls hl => ?_)
                                    have t175 : v175.toInt = v146.toInt + 1 := by rw [e175]; exact i_add rfl (by decide) (by omega) (by omega)
                                    refine lv_goto (tgt := 102) hx hb dX12_layLikely_152 (by decide) ?_
                                    exact ih102 v175 g174 _ _ _ (by omega) (by first | decide | omega) (LT_g hzrr102_6 (exl_X12_layLikely_12 e152 e165 e170 e171 e172 eg174 e175 c149 w157 c159 w168)) hP hD hS (lv_sub hl [0, 1, 2, 3, 4, 5, 6] rfl)
                            have hlit176 : (0 : Int32).toInt = 0 := by decide
                            exact hL102 (51) 0 g94 _ _ _ (by omega) (by first | decide | omega) err102_6 hP hD hS (lv_sub hl [0, 1, 2, 3, 4, 5, 6] rfl)
                    have hlit177 : (0 : Int32).toInt = 0 := by decide
                    exact hL63 (51) 0 g58 _ _ _ (by omega) (by first | decide | omega) err63_4 hP hD hS (lv_sub hl [0, 1, 2, 3, 4] rfl)
                  · have f60 : v57.toInt < 50 := f_nle (by decide) rfl c60
                    refine lv_aload_n hx hb dX12_layLikely_46 rfl (lv_at hl 2 rfl) ?_
                    refine g_get cx hP iw_X12_layLikely_X12 0 rfl rfl 17 (by decide) rfl fw_X12_layLikely_35 rfl dX12_layLikely_47 ?_
                    refine lv_iload hx hb dX12_layLikely_50 (lv_at hl 0 rfl) ?_
                    refine lv_lconst (v := 0) hx hb dX12_layLikely_52 (by decide) ?_
                    have hn178 : vp_in v57 50 := f_in (a := v57.toInt) rfl (by omega) (by omega)
                    refine va_last hx hb cx.2.1 hP hD hS 9 1 rfl rfl hn178 dX12_layLikely_53 (fun H locs hP hD hS => ?_)
                    obtain ⟨g179, eg179⟩ : ∃ g : Nat → Int64, g = vp_updL g58 (v57).toNatClampNeg 0 := ⟨_, rfl⟩
                    rw [← eg179] at hP hD
                    have hP : va_P D vwCl [cell22_ qm sm tm, cell5_ k qm sm, cell13_ k qm sm, cell8_ k qm sm, cell6_ k qm sm, cell15_ k qm sm, cell14_ k qm tm, cell12_ k qm tm, (qm 8, .inl (k 1, 50, .inr (.inl g50))), (qm 9, .inl (k 1, 50, .inr (.inl g179))), cell19_ k qm tm, cell21_ k qm tm, cell20_ k qm sm, cell16_ k qm sm, cell11_ k qm sm, cell10_ k qm sm, cell9_ k qm sm, cell7_ k qm sm] H := hP
                    have hD : va_D A [cell22_ qm sm tm, cell5_ k qm sm, cell13_ k qm sm, cell8_ k qm sm, cell6_ k qm sm, cell15_ k qm sm, cell14_ k qm tm, cell12_ k qm tm, (qm 8, .inl (k 1, 50, .inr (.inl g50))), (qm 9, .inl (k 1, 50, .inr (.inl g179))), cell19_ k qm tm, cell21_ k qm tm, cell20_ k qm sm, cell16_ k qm sm, cell11_ k qm sm, cell10_ k qm sm, cell9_ k qm sm, cell7_ k qm sm] := hD
                    obtain ⟨v180, e180⟩ : ∃ z : Int32, z = v57 + 1 := ⟨_, rfl⟩
                    refine lv_iinc (v := v180) (lv' := [(4, .int v180), (3, .int v49), (0, .ref (qm 0)), (1, .int p0), (2, .int p1)]) hx hb dX12_layLikely_54 hl (k := 0) rfl (by rw [e180]; rfl) (by decide) rfl (fun ls hl => ?_)
                    have t180 : v180.toInt = v57.toInt + 1 := by rw [e180]; exact i_add rfl (by decide) (by omega) (by omega)
                    refine lv_goto (tgt := 39) hx hb dX12_layLikely_57 (by decide) ?_
                    exact ih39 v180 g179 _ _ _ (by omega) (by first | decide | omega) (LT_g hzrr39_3 (exl_X12_layLikely_13 eg179 e180 c60)) hP hD hS (lv_sub hl [0, 1, 2, 3, 4] rfl)
              have hlit181 : (0 : Int32).toInt = 0 := by decide
              exact hL39 (51) 0 g51 _ _ _ (by omega) (by first | decide | omega) err39_3 hP hD hS (lv_sub hl [0, 1, 2, 3, 4] rfl)
        have hlit182 : (0 : Int32).toInt = 0 := by decide
        exact hL31 (6) 0 g5 (tm 9) _ _ _ (by omega) (by first | decide | omega) err31_2 hP hD hS (lv_sub hl [0, 1, 2, 3] rfl)
      · have f7 : v4.toInt < 50 := f_nle (by decide) rfl c7
        refine lv_aload_n hx hb dX12_layLikely_8 rfl (lv_at hl 1 rfl) ?_
        refine g_get cx hP iw_X12_layLikely_X12 0 rfl rfl 16 (by decide) rfl fw_X12_layLikely_32 rfl dX12_layLikely_9 ?_
        refine lv_iload_n hx hb dX12_layLikely_12 rfl (lv_at hl 0 rfl) ?_
        refine lv_iload_n hx hb dX12_layLikely_13 rfl (lv_at hl 0 rfl) ?_
        refine lv_if_ne (tgt := 21) hx hb dX12_layLikely_14 (by decide) (fun c183 => ?_) (fun c183 => ?_)
        · have f183 : ¬ v4.toInt = 0 := f_ne rfl (by decide) c183
          refine lv_lconst (v := 0) hx hb dX12_layLikely_21 (by decide) ?_
          have hn184 : vp_in v4 50 := f_in (a := v4.toInt) rfl (by omega) (by omega)
          refine va_last hx hb cx.2.1 hP hD hS 8 1 rfl rfl hn184 dX12_layLikely_22 (fun H locs hP hD hS => ?_)
          obtain ⟨g185, eg185⟩ : ∃ g : Nat → Int64, g = vp_updL g5 (v4).toNatClampNeg 0 := ⟨_, rfl⟩
          rw [← eg185] at hP hD
          have hP : va_P D vwCl [cell22_ qm sm tm, cell5_ k qm sm, cell13_ k qm sm, cell8_ k qm sm, cell6_ k qm sm, cell15_ k qm sm, cell14_ k qm tm, cell12_ k qm tm, (qm 8, .inl (k 1, 50, .inr (.inl g185))), cell17_ k qm tm, cell19_ k qm tm, cell21_ k qm tm, cell20_ k qm sm, cell16_ k qm sm, cell11_ k qm sm, cell10_ k qm sm, cell9_ k qm sm, cell7_ k qm sm] H := hP
          have hD : va_D A [cell22_ qm sm tm, cell5_ k qm sm, cell13_ k qm sm, cell8_ k qm sm, cell6_ k qm sm, cell15_ k qm sm, cell14_ k qm tm, cell12_ k qm tm, (qm 8, .inl (k 1, 50, .inr (.inl g185))), cell17_ k qm tm, cell19_ k qm tm, cell21_ k qm tm, cell20_ k qm sm, cell16_ k qm sm, cell11_ k qm sm, cell10_ k qm sm, cell9_ k qm sm, cell7_ k qm sm] := hD
          obtain ⟨v186, e186⟩ : ∃ z : Int32, z = v4 + 1 := ⟨_, rfl⟩
          refine lv_iinc (v := v186) (lv' := [(3, .int v186), (0, .ref (qm 0)), (1, .int p0), (2, .int p1)]) hx hb dX12_layLikely_23 hl (k := 0) rfl (by rw [e186]; rfl) (by decide) rfl (fun ls hl => ?_)
          have t186 : v186.toInt = v4.toInt + 1 := by rw [e186]; exact i_add rfl (by decide) (by omega) (by omega)
          refine lv_goto (tgt := 2) hx hb dX12_layLikely_26 (by decide) ?_
          exact ih2 v186 g185 _ _ _ (by omega) (by first | decide | omega) (LT_g hzrr2_1 (exl_X12_layLikely_14 eg185 e186 c7 c183)) hP hD hS (lv_sub hl [0, 1, 2, 3] rfl)
        · have f183 : v4.toInt = 0 := f_eq rfl (by decide) c183
          refine lv_lconst (v := 1) hx hb dX12_layLikely_17 (by decide) ?_
          refine lv_goto (tgt := 22) hx hb dX12_layLikely_18 (by decide) ?_
          have hn187 : vp_in v4 50 := f_in (a := v4.toInt) rfl (by omega) (by omega)
          refine va_last hx hb cx.2.1 hP hD hS 8 1 rfl rfl hn187 dX12_layLikely_22 (fun H locs hP hD hS => ?_)
          obtain ⟨g188, eg188⟩ : ∃ g : Nat → Int64, g = vp_updL g5 (v4).toNatClampNeg 1 := ⟨_, rfl⟩
          rw [← eg188] at hP hD
          have hP : va_P D vwCl [cell22_ qm sm tm, cell5_ k qm sm, cell13_ k qm sm, cell8_ k qm sm, cell6_ k qm sm, cell15_ k qm sm, cell14_ k qm tm, cell12_ k qm tm, (qm 8, .inl (k 1, 50, .inr (.inl g188))), cell17_ k qm tm, cell19_ k qm tm, cell21_ k qm tm, cell20_ k qm sm, cell16_ k qm sm, cell11_ k qm sm, cell10_ k qm sm, cell9_ k qm sm, cell7_ k qm sm] H := hP
          have hD : va_D A [cell22_ qm sm tm, cell5_ k qm sm, cell13_ k qm sm, cell8_ k qm sm, cell6_ k qm sm, cell15_ k qm sm, cell14_ k qm tm, cell12_ k qm tm, (qm 8, .inl (k 1, 50, .inr (.inl g188))), cell17_ k qm tm, cell19_ k qm tm, cell21_ k qm tm, cell20_ k qm sm, cell16_ k qm sm, cell11_ k qm sm, cell10_ k qm sm, cell9_ k qm sm, cell7_ k qm sm] := hD
          obtain ⟨v189, e189⟩ : ∃ z : Int32, z = v4 + 1 := ⟨_, rfl⟩
          refine lv_iinc (v := v189) (lv' := [(3, .int v189), (0, .ref (qm 0)), (1, .int p0), (2, .int p1)]) hx hb dX12_layLikely_23 hl (k := 0) rfl (by rw [e189]; rfl) (by decide) rfl (fun ls hl => ?_)
          have t189 : v189.toInt = v4.toInt + 1 := by rw [e189]; exact i_add rfl (by decide) (by omega) (by omega)
          refine lv_goto (tgt := 2) hx hb dX12_layLikely_26 (by decide) ?_
          exact ih2 v189 g188 _ _ _ (by omega) (by first | decide | omega) (LT_g hzrr2_1 (exl_X12_layLikely_15 eg188 e189 c7 c183)) hP hD hS (lv_sub hl [0, 1, 2, 3] rfl)
  have hlit190 : (0 : Int32).toInt = 0 := by decide
  exact hL2 (51) 0 (tm 8) _ _ _ (by omega) (by first | decide | omega) err2_1 hP hD hS (lv_sub hl [0, 1, 2, 3] rfl)
def J_X12_overBy (sm : Nat → Nat → Int32) (tm : Nat → Nat → Int64) (p0 : Int32) (p1 : Int32) (p2 : Int32) : Int32 := LetF (J_X12_ruleAct sm tm p0 p1 p2) (fun y4 => LetF (J_X12_after sm tm p1 p2 y4) (fun y8 => LetF (J_X12_over sm tm p1 y8 0 y4) (fun y12 => y12)))
theorem exl_X12_overBy_0 {sm : Nat → Nat → Int32} {tm : Nat → Nat → Int64} {p0 : Int32} {p1 : Int32} {p2 : Int32} {r10 : Int32} {r2 : Int32} {r6 : Int32} (w3 : r2 = J_X12_ruleAct sm tm p0 p1 p2) (w7 : r6 = J_X12_after sm tm p1 p2 r2) (w11 : r10 = J_X12_over sm tm p1 r6 (0 : Int32) r2) : r10 = J_X12_overBy sm tm p0 p1 p2 := by refine Eq.symm ?_; unfold J_X12_overBy; refine lt_e w3 ?_; refine lt_e w7 ?_; refine lt_e w11 ?_; rfl
set_option maxHeartbeats 4000000 in
set_option maxRecDepth 100000 in
theorem c_X12_overBy (l : Launch) (D : va_G) (k : Nat → ClassId) (b : Nat → Nat) (qm : Nat → Nat) (sm : Nat → Nat → Int32) (tm : Nat → Nat → Int64) (sz : Nat) (p0 : Int32) (p1 : Int32) (p2 : Int32) (h_w0 : 0 ≤ (sm 2 0).toInt ∧ (sm 2 0).toInt ≤ 5) (hp0 : 0 ≤ p0.toInt ∧ p0.toInt ≤ 2) (hp1 : 0 ≤ p1.toInt ∧ p1.toInt ≤ 4) : MetI l D k b yX12_overBy wsX12_overBy ({ frames := 2, cells := 0, slots := 0, locals := 55 } : Room) [cell22_ qm sm tm, cell5_ k qm sm, cell13_ k qm sm, cell8_ k qm sm, cell6_ k qm sm, cell15_ k qm sm, cell14_ k qm tm, cell12_ k qm tm, cell18_ k qm tm, cell17_ k qm tm, cell19_ k qm tm, cell21_ k qm tm, cell20_ k qm sm, cell16_ k qm sm, cell11_ k qm sm, cell10_ k qm sm, cell9_ k qm sm, cell7_ k qm sm] sz [.ref (qm 0), .int p0, .int p1, .int p2] (fun (r : Int32) (u : Unit) => r = J_X12_overBy sm tm p0 p1 p2) (fun u => [cell22_ qm sm tm, cell5_ k qm sm, cell13_ k qm sm, cell8_ k qm sm, cell6_ k qm sm, cell15_ k qm sm, cell14_ k qm tm, cell12_ k qm tm, cell18_ k qm tm, cell17_ k qm tm, cell19_ k qm tm, cell21_ k qm tm, cell20_ k qm sm, cell16_ k qm sm, cell11_ k qm sm, cell10_ k qm sm, cell9_ k qm sm, cell7_ k qm sm]) := by
  refine g_enter (cc := cX12_overBy) (maxL := 5) (ret := (some .int)) (by decide) rfl (Nat.le_of_ble_eq_true rfl) ?_
  intro p e s m below meth c A hsz hAe cx hr hP hD hS ls hl
  rw [hAe]
  refine g_q (fun Q hQ => ?_)
  have hx := cx.1.1
  have hb := cx.1.2.1
  have bp0 := i_rng p0
  have bp1 := i_rng p1
  have bp2 := i_rng p2
  have hl : lv_has ls 5 [(0, .ref (qm 0)), (1, .int p0), (2, .int p1), (3, .int p2)] := hl
  obtain ⟨H, eH⟩ : ∃ H : Heap, H = s.heap := ⟨_, rfl⟩
  obtain ⟨locs, el⟩ : ∃ L : List Loc, L = [] := ⟨_, rfl⟩
  have hP : va_P D vwCl [cell22_ qm sm tm, cell5_ k qm sm, cell13_ k qm sm, cell8_ k qm sm, cell6_ k qm sm, cell15_ k qm sm, cell14_ k qm tm, cell12_ k qm tm, cell18_ k qm tm, cell17_ k qm tm, cell19_ k qm tm, cell21_ k qm tm, cell20_ k qm sm, cell16_ k qm sm, cell11_ k qm sm, cell10_ k qm sm, cell9_ k qm sm, cell7_ k qm sm] H := by rw [eH]; exact hP
  have hD : va_D A [cell22_ qm sm tm, cell5_ k qm sm, cell13_ k qm sm, cell8_ k qm sm, cell6_ k qm sm, cell15_ k qm sm, cell14_ k qm tm, cell12_ k qm tm, cell18_ k qm tm, cell17_ k qm tm, cell19_ k qm tm, cell21_ k qm tm, cell20_ k qm sm, cell16_ k qm sm, cell11_ k qm sm, cell10_ k qm sm, cell9_ k qm sm, cell7_ k qm sm] := hD
  have hS : va_S A s.heap H locs := by rw [eH, el]; exact hS
  suffices goal : W p l e ({ frames := 2, cells := 0, slots := 0, locals := 55 } : Room) s m ([.ref (qm 0), .int p0, .int p1, .int p2] : List Value).toArray below meth c H locs 0 0 Q (F0 m 0 ls []) by rw [eH, el] at goal; exact goal
  refine lv_aload_n hx hb dX12_overBy_0 rfl (lv_at hl 0 rfl) ?_
  refine lv_iload_n hx hb dX12_overBy_1 rfl (lv_at hl 1 rfl) ?_
  refine lv_iload_n hx hb dX12_overBy_2 rfl (lv_at hl 2 rfl) ?_
  refine lv_iload_n hx hb dX12_overBy_3 rfl (lv_at hl 3 rfl) ?_
  refine g_iF (w1 := fun (_ : Unit) => [cell22_ qm sm tm, cell5_ k qm sm, cell13_ k qm sm, cell8_ k qm sm, cell6_ k qm sm, cell15_ k qm sm, cell14_ k qm tm, cell12_ k qm tm, cell18_ k qm tm, cell17_ k qm tm, cell19_ k qm tm, cell21_ k qm tm, cell20_ k qm sm, cell16_ k qm sm, cell11_ k qm sm, cell10_ k qm sm, cell9_ k qm sm, cell7_ k qm sm]) (g_runVF (ws := [cell22_ qm sm tm, cell5_ k qm sm, cell13_ k qm sm, cell8_ k qm sm, cell6_ k qm sm, cell15_ k qm sm, cell14_ k qm tm, cell12_ k qm tm, cell18_ k qm tm, cell17_ k qm tm, cell19_ k qm tm, cell21_ k qm tm, cell20_ k qm sm, cell16_ k qm sm, cell11_ k qm sm, cell10_ k qm sm, cell9_ k qm sm, cell7_ k qm sm]) (rest := []) cx hP hD hS [.int p0, .int p1, .int p2] (c_X12_ruleAct l D k b qm sm tm H.size p0 p1 p2 (show 0 ≤ p0.toInt ∧ p0.toInt ≤ 2 from by first | decide | omega) (show 0 ≤ p1.toInt ∧ p1.toInt ≤ 4 from by first | decide | omega)) gX12_overBy_X12_ruleAct rfl rfl rfl nd_X12_ruleAct ⟨Nat.le_of_ble_eq_true rfl, Nat.le_of_ble_eq_true rfl⟩ (ci := 10) (q0 := 0) rfl rfl rfl hl.1 rfl (Nat.le_of_ble_eq_true rfl) ⟨Nat.zero_le _, Nat.zero_le _⟩ dX12_overBy_4) cx.2.2.1 hD hS (fun r2 _ H locs hw1 hP hD hS => ?_)
  have w3 : r2 = J_X12_ruleAct sm tm p0 p1 p2 := hw1
  clear hw1
  refine lv_istore (lv' := [(4, .int r2), (0, .ref (qm 0)), (1, .int p0), (2, .int p1), (3, .int p2)]) hx hb dX12_overBy_7 hl (by decide) rfl (fun ls hl => ?_)
  refine lv_aload_n hx hb dX12_overBy_9 rfl (lv_at hl 1 rfl) ?_
  refine lv_iload_n hx hb dX12_overBy_10 rfl (lv_at hl 3 rfl) ?_
  refine lv_aload_n hx hb dX12_overBy_11 rfl (lv_at hl 1 rfl) ?_
  refine lv_iload_n hx hb dX12_overBy_12 rfl (lv_at hl 3 rfl) ?_
  refine lv_iload_n hx hb dX12_overBy_13 rfl (lv_at hl 4 rfl) ?_
  refine lv_iload hx hb dX12_overBy_14 (lv_at hl 0 rfl) ?_
  refine g_iF (w1 := fun (_ : Unit) => [cell22_ qm sm tm, cell5_ k qm sm, cell13_ k qm sm, cell8_ k qm sm, cell6_ k qm sm, cell15_ k qm sm, cell14_ k qm tm, cell12_ k qm tm, cell18_ k qm tm, cell17_ k qm tm, cell19_ k qm tm, cell21_ k qm tm, cell20_ k qm sm, cell16_ k qm sm, cell11_ k qm sm, cell10_ k qm sm, cell9_ k qm sm, cell7_ k qm sm]) (g_runVF (ws := [cell22_ qm sm tm, cell5_ k qm sm, cell13_ k qm sm, cell8_ k qm sm, cell6_ k qm sm, cell15_ k qm sm, cell14_ k qm tm, cell12_ k qm tm, cell18_ k qm tm, cell17_ k qm tm, cell19_ k qm tm, cell21_ k qm tm, cell20_ k qm sm, cell16_ k qm sm, cell11_ k qm sm, cell10_ k qm sm, cell9_ k qm sm, cell7_ k qm sm]) (rest := [.int p1, .ref (qm 0)]) cx hP hD hS [.int p1, .int p2, .int r2] (c_X12_after l D k b qm sm tm H.size p1 p2 r2 (show 0 ≤ ((sm 2) 0).toInt ∧ ((sm 2) 0).toInt ≤ 5 from by first | decide | omega) (show 0 ≤ p1.toInt ∧ p1.toInt ≤ 4 from by first | decide | omega)) gX12_overBy_X12_after rfl rfl rfl nd_X12_after ⟨Nat.le_of_ble_eq_true rfl, Nat.le_of_ble_eq_true rfl⟩ (ci := 10) (q0 := 0) rfl rfl rfl hl.1 rfl (Nat.le_of_ble_eq_true rfl) ⟨Nat.zero_le _, Nat.zero_le _⟩ dX12_overBy_16) cx.2.2.1 hD hS (fun r6 _ H locs hw5 hP hD hS => ?_)
  have w7 : r6 = J_X12_after sm tm p1 p2 r2 := hw5
  clear hw5
  refine lv_iconst (v := 0) hx hb dX12_overBy_19 (by decide) ?_
  refine lv_iload hx hb dX12_overBy_20 (lv_at hl 0 rfl) ?_
  refine g_iF (w1 := fun (_ : Unit) => [cell22_ qm sm tm, cell5_ k qm sm, cell13_ k qm sm, cell8_ k qm sm, cell6_ k qm sm, cell15_ k qm sm, cell14_ k qm tm, cell12_ k qm tm, cell18_ k qm tm, cell17_ k qm tm, cell19_ k qm tm, cell21_ k qm tm, cell20_ k qm sm, cell16_ k qm sm, cell11_ k qm sm, cell10_ k qm sm, cell9_ k qm sm, cell7_ k qm sm]) (g_runVF (ws := [cell22_ qm sm tm, cell5_ k qm sm, cell13_ k qm sm, cell8_ k qm sm, cell6_ k qm sm, cell15_ k qm sm, cell14_ k qm tm, cell12_ k qm tm, cell18_ k qm tm, cell17_ k qm tm, cell19_ k qm tm, cell21_ k qm tm, cell20_ k qm sm, cell16_ k qm sm, cell11_ k qm sm, cell10_ k qm sm, cell9_ k qm sm, cell7_ k qm sm]) (rest := []) cx hP hD hS [.int p1, .int r6, .int 0, .int r2] (c_X12_over l D k b qm sm tm H.size p1 r6 0 r2 (show 0 ≤ p1.toInt ∧ p1.toInt ≤ 4 from by first | decide | omega)) gX12_overBy_X12_over rfl rfl rfl nd_X12_over ⟨Nat.le_of_ble_eq_true rfl, Nat.le_of_ble_eq_true rfl⟩ (ci := 10) (q0 := 0) rfl rfl rfl hl.1 rfl (Nat.le_of_ble_eq_true rfl) ⟨Nat.zero_le _, Nat.zero_le _⟩ dX12_overBy_22) cx.2.2.1 hD hS (fun r10 _ H locs hw9 hP hD hS => ?_)
  have w11 : r10 = J_X12_over sm tm p1 r6 (0 : Int32) r2 := hw9
  clear hw9
  rw [hQ]
  exact x_i cx hr () hP hD hS (show r10 = J_X12_overBy sm tm p0 p1 p2 from (exl_X12_overBy_0 w3 w7 w11)) dX12_overBy_25
theorem fw_X12_shortly_32 : Cond.fieldLink RX12 32 "StillInAugustModel" "likely" "[J" ∈ wsX12_shortly := by decide +kernel
theorem kJ_X12_shortly_221 : Cond.constantLong RX12 221 (-1) ∈ wsX12_shortly := by decide +kernel
theorem nd_X12_layLikely : yX12_layLikely.cls = RX12 ∧ yX12_layLikely.cls ≠ "java/lang/invoke/MethodHandle" ∧ yX12_layLikely.cls ≠ "java/lang/invoke/VarHandle" ∧ (parseMethodDescriptor yX12_layLikely.desc).map (fun d => d.parameters.length) = some 2 := by decide +kernel
theorem nd_X12_overBy : yX12_overBy.cls = RX12 ∧ yX12_overBy.cls ≠ "java/lang/invoke/MethodHandle" ∧ yX12_overBy.cls ≠ "java/lang/invoke/VarHandle" ∧ (parseMethodDescriptor yX12_overBy.desc).map (fun d => d.parameters.length) = some 3 := by decide +kernel
theorem iw_X12_shortly_X12 : ∀ w ∈ u_ws RX12 TX12 33, w ∈ wsX12_shortly := fun _ h => List.mem_cons_of_mem _ (List.mem_append_right _ h)
def B_X12_shortly_31 (sm : Nat → Nat → Int32) (tm : Nat → Nat → Int64) (p0 : Int32) (p1 : Int32) (p2 : Int32) (y6 : Int32) (y13 : Int32) (y20 : (Nat → Int64) × (Nat → Int64)) (z : Int32 × Int64) : Sum (Int32 × Int64) (Int64 × (Nat → Int64) × (Nat → Int64)) := let v32 := (z.1); let v33 := (z.2); if 50 ≤ v32 then LetF (J_X12_parts p1) (fun y40 => LetF (J_X12_told v33 y40 p2) (fun y44 => Sum.inr ((y44, (y20.1), (y20.2))))) else if (lg_cmp ((y20.1) (v32).toNatClampNeg) 0) ≤ 0 then Sum.inl (((v32 + 1), (v33 + (0 : Int64)))) else LetF (J_X12_overBy sm (up2L (up2L tm 8 (y20.1)) 9 (y20.2)) p0 p1 v32) (fun y54 => if 0 ≤ y54 then Sum.inl (((v32 + 1), (v33 + (0 : Int64)))) else Sum.inl (((v32 + 1), (v33 + ((y20.1) (v32).toNatClampNeg)))))
def J_X12_shortly (sm : Nat → Nat → Int32) (tm : Nat → Nat → Int64) (p0 : Int32) (p1 : Int32) (p2 : Int32) : Int64 × (Nat → Int64) × (Nat → Int64) := LetF (J_X12_isRule p0) (fun y6 => if y6 = 0 then (((-1) : Int64), (tm 8), (tm 9)) else LetF (J_X12_isWeek sm tm p1) (fun y13 => if y13 = 0 then (((-1) : Int64), (tm 8), (tm 9)) else LetF (J_X12_layLikely sm tm p0 p1) (fun y20 => LTs default (B_X12_shortly_31 sm tm p0 p1 p2 y6 y13 y20) 51 ((0 : Int32), (0 : Int64)))))
theorem exl_X12_shortly_0 {sm : Nat → Nat → Int32} {tm : Nat → Nat → Int64} {p0 : Int32} {p1 : Int32} {p2 : Int32} {r2 : Int32} (w5 : r2 = J_X12_isRule p0) (c7 : r2 = (0 : Int32)) : (((-1) : Int64), (tm 8), (tm 9)) = J_X12_shortly sm tm p0 p1 p2 := by refine Eq.symm ?_; unfold J_X12_shortly; refine lt_e w5 ?_; refine Eq.trans (if_pos c7) ?_; rfl
theorem exl_X12_shortly_1 {sm : Nat → Nat → Int32} {tm : Nat → Nat → Int64} {p0 : Int32} {p1 : Int32} {p2 : Int32} {r2 : Int32} {r9 : Int32} {m17 : Nat → Int64} {m18 : Nat → Int64} (w5 : r2 = J_X12_isRule p0) (c7 : ¬ (r2 = (0 : Int32))) (w12 : r9 = J_X12_isWeek sm tm p1) (c14 : ¬ (r9 = (0 : Int32))) (w19 : (m17, m18) = J_X12_layLikely sm tm p0 p1) : J_X12_shortly sm tm p0 p1 p2 = LTs (default : Int64 × (Nat → Int64) × (Nat → Int64)) (B_X12_shortly_31 sm tm p0 p1 p2 r2 r9 (m17, m18)) 51 ((0 : Int32), (0 : Int64)) := by unfold J_X12_shortly; refine lt_e w5 ?_; refine Eq.trans (if_neg c7) ?_; refine lt_e w12 ?_; refine Eq.trans (if_neg c14) ?_; refine lt_e w19 ?_; rfl
theorem exl_X12_shortly_2 {sm : Nat → Nat → Int32} {tm : Nat → Nat → Int64} {p0 : Int32} {p1 : Int32} {p2 : Int32} {r2 : Int32} {r9 : Int32} {m17 : Nat → Int64} {m18 : Nat → Int64} {v32 : Int32} {v33 : Int64} {r42 : Int64} {r37 : Int64} (c35 : (50 : Int32) ≤ v32) (w39 : r37 = J_X12_parts p1) (w43 : r42 = J_X12_told v33 r37 p2) : (B_X12_shortly_31 sm tm p0 p1 p2 r2 r9 (m17, m18)) (v32, v33) = Sum.inr ((r42, m17, m18)) := by unfold B_X12_shortly_31; refine Eq.trans (if_pos c35) ?_; refine lt_e w39 ?_; refine lt_e w43 ?_; rfl
theorem exl_X12_shortly_3 {sm : Nat → Nat → Int32} {tm : Nat → Nat → Int64} {p0 : Int32} {p1 : Int32} {p2 : Int32} {r2 : Int32} {r9 : Int32} {m17 : Nat → Int64} {m18 : Nat → Int64} {v32 : Int32} {v33 : Int64} {v50 : Int32} {v49 : Int64} {v46 : Int64} {v47 : Int32} (e46 : v46 = (m17 (v32).toNatClampNeg)) (e47 : v47 = (lg_cmp v46 (0 : Int64))) (e49 : v49 = (v33 + (0 : Int64))) (e50 : v50 = v32 + 1) (c35 : ¬ ((50 : Int32) ≤ v32)) (c48 : v47 ≤ (0 : Int32)) : (B_X12_shortly_31 sm tm p0 p1 p2 r2 r9 (m17, m18)) (v32, v33) = Sum.inl (v50, v49) := by subst e46 e47 e49 e50; unfold B_X12_shortly_31; refine Eq.trans (if_neg c35) ?_; refine Eq.trans (if_pos c48) ?_; rfl
theorem exl_X12_shortly_4 {sm : Nat → Nat → Int32} {tm : Nat → Nat → Int64} {p0 : Int32} {p1 : Int32} {p2 : Int32} {r2 : Int32} {r9 : Int32} {m17 : Nat → Int64} {m18 : Nat → Int64} {v32 : Int32} {v33 : Int64} {v57 : Int32} {v56 : Int64} {v46 : Int64} {v47 : Int32} {r52 : Int32} (e46 : v46 = (m17 (v32).toNatClampNeg)) (e47 : v47 = (lg_cmp v46 (0 : Int64))) (e56 : v56 = (v33 + (0 : Int64))) (e57 : v57 = v32 + 1) (c35 : ¬ ((50 : Int32) ≤ v32)) (c48 : ¬ (v47 ≤ (0 : Int32))) (w53 : r52 = J_X12_overBy sm (up2L (up2L tm 8 m17) 9 m18) p0 p1 v32) (c55 : (0 : Int32) ≤ r52) : (B_X12_shortly_31 sm tm p0 p1 p2 r2 r9 (m17, m18)) (v32, v33) = Sum.inl (v57, v56) := by subst e46 e47 e56 e57; unfold B_X12_shortly_31; refine Eq.trans (if_neg c35) ?_; refine Eq.trans (if_neg c48) ?_; refine lt_e w53 ?_; refine Eq.trans (if_pos c55) ?_; rfl
theorem exl_X12_shortly_5 {sm : Nat → Nat → Int32} {tm : Nat → Nat → Int64} {p0 : Int32} {p1 : Int32} {p2 : Int32} {r2 : Int32} {r9 : Int32} {m17 : Nat → Int64} {m18 : Nat → Int64} {v32 : Int32} {v33 : Int64} {v61 : Int32} {v60 : Int64} {v46 : Int64} {v47 : Int32} {v59 : Int64} {r52 : Int32} (e46 : v46 = (m17 (v32).toNatClampNeg)) (e47 : v47 = (lg_cmp v46 (0 : Int64))) (e59 : v59 = (m17 (v32).toNatClampNeg)) (e60 : v60 = (v33 + v59)) (e61 : v61 = v32 + 1) (c35 : ¬ ((50 : Int32) ≤ v32)) (c48 : ¬ (v47 ≤ (0 : Int32))) (w53 : r52 = J_X12_overBy sm (up2L (up2L tm 8 m17) 9 m18) p0 p1 v32) (c55 : ¬ ((0 : Int32) ≤ r52)) : (B_X12_shortly_31 sm tm p0 p1 p2 r2 r9 (m17, m18)) (v32, v33) = Sum.inl (v61, v60) := by subst e46 e47 e59 e60 e61; unfold B_X12_shortly_31; refine Eq.trans (if_neg c35) ?_; refine Eq.trans (if_neg c48) ?_; refine lt_e w53 ?_; refine Eq.trans (if_neg c55) ?_; rfl
theorem exl_X12_shortly_6 {sm : Nat → Nat → Int32} {tm : Nat → Nat → Int64} {p0 : Int32} {p1 : Int32} {p2 : Int32} {r2 : Int32} {r9 : Int32} (w5 : r2 = J_X12_isRule p0) (c7 : ¬ (r2 = (0 : Int32))) (w12 : r9 = J_X12_isWeek sm tm p1) (c14 : r9 = (0 : Int32)) : (((-1) : Int64), (tm 8), (tm 9)) = J_X12_shortly sm tm p0 p1 p2 := by refine Eq.symm ?_; unfold J_X12_shortly; refine lt_e w5 ?_; refine Eq.trans (if_neg c7) ?_; refine lt_e w12 ?_; refine Eq.trans (if_pos c14) ?_; rfl
set_option maxHeartbeats 4000000 in
set_option maxRecDepth 100000 in
theorem c_X12_shortly (l : Launch) (D : va_G) (k : Nat → ClassId) (b : Nat → Nat) (qm : Nat → Nat) (sm : Nat → Nat → Int32) (tm : Nat → Nat → Int64) (sz : Nat) (p0 : Int32) (p1 : Int32) (p2 : Int32) (h_w0 : 0 ≤ (sm 2 0).toInt ∧ (sm 2 0).toInt ≤ 5) (h_k1 : 0 ≤ (sm 2 1).toInt ∧ (sm 2 1).toInt ≤ 4) : MetL l D k b yX12_shortly wsX12_shortly ({ frames := 4, cells := 0, slots := 0, locals := 101 } : Room) [cell22_ qm sm tm, cell5_ k qm sm, cell13_ k qm sm, cell8_ k qm sm, cell6_ k qm sm, cell15_ k qm sm, cell14_ k qm tm, cell12_ k qm tm, cell18_ k qm tm, cell17_ k qm tm, cell19_ k qm tm, cell21_ k qm tm, cell20_ k qm sm, cell16_ k qm sm, cell11_ k qm sm, cell10_ k qm sm, cell9_ k qm sm, cell7_ k qm sm] sz [.ref (qm 0), .int p0, .int p1, .int p2] (fun (r : Int64) (u : (Nat → Int64) × (Nat → Int64)) => (r, (u.1), (u.2)) = J_X12_shortly sm tm p0 p1 p2) (fun u => [cell22_ qm sm tm, cell5_ k qm sm, cell13_ k qm sm, cell8_ k qm sm, cell6_ k qm sm, cell15_ k qm sm, cell14_ k qm tm, cell12_ k qm tm, cell142_ k qm (u.1), cell143_ k qm (u.2), cell19_ k qm tm, cell21_ k qm tm, cell20_ k qm sm, cell16_ k qm sm, cell11_ k qm sm, cell10_ k qm sm, cell9_ k qm sm, cell7_ k qm sm]) := by
  refine g_enter (cc := cX12_shortly) (maxL := 7) (ret := (some .long)) (by decide) rfl (Nat.le_of_ble_eq_true rfl) ?_
  intro p e s m below meth c A hsz hAe cx hr hP hD hS ls hl
  rw [hAe]
  refine g_q (fun Q hQ => ?_)
  have hx := cx.1.1
  have hb := cx.1.2.1
  have bp0 := i_rng p0
  have bp1 := i_rng p1
  have bp2 := i_rng p2
  have hl : lv_has ls 7 [(0, .ref (qm 0)), (1, .int p0), (2, .int p1), (3, .int p2)] := hl
  obtain ⟨H, eH⟩ : ∃ H : Heap, H = s.heap := ⟨_, rfl⟩
  obtain ⟨locs, el⟩ : ∃ L : List Loc, L = [] := ⟨_, rfl⟩
  have hP : va_P D vwCl [cell22_ qm sm tm, cell5_ k qm sm, cell13_ k qm sm, cell8_ k qm sm, cell6_ k qm sm, cell15_ k qm sm, cell14_ k qm tm, cell12_ k qm tm, cell18_ k qm tm, cell17_ k qm tm, cell19_ k qm tm, cell21_ k qm tm, cell20_ k qm sm, cell16_ k qm sm, cell11_ k qm sm, cell10_ k qm sm, cell9_ k qm sm, cell7_ k qm sm] H := by rw [eH]; exact hP
  have hD : va_D A [cell22_ qm sm tm, cell5_ k qm sm, cell13_ k qm sm, cell8_ k qm sm, cell6_ k qm sm, cell15_ k qm sm, cell14_ k qm tm, cell12_ k qm tm, cell18_ k qm tm, cell17_ k qm tm, cell19_ k qm tm, cell21_ k qm tm, cell20_ k qm sm, cell16_ k qm sm, cell11_ k qm sm, cell10_ k qm sm, cell9_ k qm sm, cell7_ k qm sm] := hD
  have hS : va_S A s.heap H locs := by rw [eH, el]; exact hS
  suffices goal : W p l e ({ frames := 4, cells := 0, slots := 0, locals := 101 } : Room) s m ([.ref (qm 0), .int p0, .int p1, .int p2] : List Value).toArray below meth c H locs 0 0 Q (F0 m 0 ls []) by rw [eH, el] at goal; exact goal
  refine lv_iload_n hx hb dX12_shortly_0 rfl (lv_at hl 1 rfl) ?_
  refine g_ir (g_runS (wc := []) (rest := []) cx hP hD hS [] rfl (by decide) [.int p0] (c_X12_isRule l D k b H.size p0) gX12_shortly_X12_isRule rfl rfl rfl nd_X12_isRule ⟨Nat.le_of_ble_eq_true rfl, Nat.le_of_ble_eq_true rfl⟩ rfl hl.1 rfl (Nat.le_of_ble_eq_true rfl) ⟨Nat.zero_le _, Nat.zero_le _⟩ dX12_shortly_1) cx.2.2.1 hP hD hS [] rfl rfl (fun r2 H locs hw1 hP hS => ?_)
  replace hw1 : (0 ≤ r2.toInt ∧ r2.toInt ≤ 1) ∧ (Imp (r2.toInt = 1) (0 ≤ p0.toInt ∧ p0.toInt ≤ 2)) ∧ (r2 = J_X12_isRule p0) := hw1
  obtain ⟨w3, w4, w5⟩ := hw1
  have zr2 : 0 ≤ r2.toInt ∧ r2.toInt ≤ 1 := w3
  refine lv_if_eq (tgt := 15) hx hb dX12_shortly_4 (by decide) (fun c7 => ?_) (fun c7 => ?_)
  · have f7 : r2.toInt = 0 := f_eq rfl (by decide) c7
    refine lv_ldc2 (v := (-1)) hx hb cx.1.2.2.2.1 (cx.1.2.2.2.2 _ kJ_X12_shortly_221) dX12_shortly_15 ?_
    rw [hQ]
    exact x_l cx hr ((tm 8), (tm 9)) hP hD hS (show (((-1) : Int64), (tm 8), (tm 9)) = J_X12_shortly sm tm p0 p1 p2 from (exl_X12_shortly_0 w5 c7)) dX12_shortly_18
  · have f7 : ¬ r2.toInt = 0 := f_ne rfl (by decide) c7
    have k7 : (0 ≤ p0.toInt ∧ p0.toInt ≤ 2) := w4 (by omega)
    refine lv_aload_n hx hb dX12_shortly_7 rfl (lv_at hl 0 rfl) ?_
    refine lv_iload_n hx hb dX12_shortly_8 rfl (lv_at hl 2 rfl) ?_
    refine g_iF (w1 := fun (_ : Unit) => [cell22_ qm sm tm, cell5_ k qm sm, cell13_ k qm sm, cell8_ k qm sm, cell6_ k qm sm, cell15_ k qm sm, cell14_ k qm tm, cell12_ k qm tm, cell18_ k qm tm, cell17_ k qm tm, cell19_ k qm tm, cell21_ k qm tm, cell20_ k qm sm, cell16_ k qm sm, cell11_ k qm sm, cell10_ k qm sm, cell9_ k qm sm, cell7_ k qm sm]) (g_runVF (ws := [cell22_ qm sm tm, cell5_ k qm sm, cell13_ k qm sm, cell8_ k qm sm, cell6_ k qm sm, cell15_ k qm sm, cell14_ k qm tm, cell12_ k qm tm, cell18_ k qm tm, cell17_ k qm tm, cell19_ k qm tm, cell21_ k qm tm, cell20_ k qm sm, cell16_ k qm sm, cell11_ k qm sm, cell10_ k qm sm, cell9_ k qm sm, cell7_ k qm sm]) (rest := []) cx hP hD hS [.int p1] (c_X12_isWeek l D k b qm sm tm H.size p1 (show 0 ≤ ((sm 2) 0).toInt ∧ ((sm 2) 0).toInt ≤ 5 from by first | decide | omega)) gX12_shortly_X12_isWeek rfl rfl rfl nd_X12_isWeek ⟨Nat.le_of_ble_eq_true rfl, Nat.le_of_ble_eq_true rfl⟩ (ci := 10) (q0 := 0) rfl rfl rfl hl.1 rfl (Nat.le_of_ble_eq_true rfl) ⟨Nat.zero_le _, Nat.zero_le _⟩ dX12_shortly_9) cx.2.2.1 hD hS (fun r9 _ H locs hw8 hP hD hS => ?_)
    replace hw8 : (0 ≤ r9.toInt ∧ r9.toInt ≤ 1) ∧ (Imp (r9.toInt = 1) (0 ≤ p1.toInt ∧ p1.toInt ≤ 4)) ∧ (r9 = J_X12_isWeek sm tm p1) := hw8
    obtain ⟨w10, w11, w12⟩ := hw8
    have zr9 : 0 ≤ r9.toInt ∧ r9.toInt ≤ 1 := w10
    refine lv_if_ne (tgt := 19) hx hb dX12_shortly_12 (by decide) (fun c14 => ?_) (fun c14 => ?_)
    · have f14 : ¬ r9.toInt = 0 := f_ne rfl (by decide) c14
      have k14 : (0 ≤ p1.toInt ∧ p1.toInt ≤ 4) := w11 (by omega)
      refine lv_aload_n hx hb dX12_shortly_19 rfl (lv_at hl 0 rfl) ?_
      refine lv_iload_n hx hb dX12_shortly_20 rfl (lv_at hl 1 rfl) ?_
      refine lv_iload_n hx hb dX12_shortly_21 rfl (lv_at hl 2 rfl) ?_
      refine g_vF (w1 := fun (u : (Nat → Int64) × (Nat → Int64)) => [cell22_ qm sm tm, cell5_ k qm sm, cell13_ k qm sm, cell8_ k qm sm, cell6_ k qm sm, cell15_ k qm sm, cell14_ k qm tm, cell12_ k qm tm, cell142_ k qm (u.1), cell143_ k qm (u.2), cell19_ k qm tm, cell21_ k qm tm, cell20_ k qm sm, cell16_ k qm sm, cell11_ k qm sm, cell10_ k qm sm, cell9_ k qm sm, cell7_ k qm sm]) (g_runVF (ws := [cell22_ qm sm tm, cell5_ k qm sm, cell13_ k qm sm, cell8_ k qm sm, cell6_ k qm sm, cell15_ k qm sm, cell14_ k qm tm, cell12_ k qm tm, cell18_ k qm tm, cell17_ k qm tm, cell19_ k qm tm, cell21_ k qm tm, cell20_ k qm sm, cell16_ k qm sm, cell11_ k qm sm, cell10_ k qm sm, cell9_ k qm sm, cell7_ k qm sm]) (rest := []) cx hP hD hS [.int p0, .int p1] (c_X12_layLikely l D k b qm sm tm H.size p0 p1 (show 0 ≤ ((sm 2) 0).toInt ∧ ((sm 2) 0).toInt ≤ 5 from by first | decide | omega) (show 0 ≤ ((sm 2) 1).toInt ∧ ((sm 2) 1).toInt ≤ 4 from by first | decide | omega) (show 0 ≤ p0.toInt ∧ p0.toInt ≤ 2 from by first | decide | omega) (show 0 ≤ p1.toInt ∧ p1.toInt ≤ 5 from by first | decide | omega)) gX12_shortly_X12_layLikely rfl rfl rfl nd_X12_layLikely ⟨Nat.le_of_ble_eq_true rfl, Nat.le_of_ble_eq_true rfl⟩ (ci := 10) (q0 := 0) rfl rfl rfl hl.1 rfl (Nat.le_of_ble_eq_true rfl) ⟨Nat.zero_le _, Nat.zero_le _⟩ dX12_shortly_22) cx.2.2.1 hD hS (fun u16 H locs hw15 hP hD hS => ?_)
      obtain ⟨m17, m18⟩ := u16
      have hP : va_P D vwCl [cell22_ qm sm tm, cell5_ k qm sm, cell13_ k qm sm, cell8_ k qm sm, cell6_ k qm sm, cell15_ k qm sm, cell14_ k qm tm, cell12_ k qm tm, (qm 8, .inl (k 1, 50, .inr (.inl m17))), (qm 9, .inl (k 1, 50, .inr (.inl m18))), cell19_ k qm tm, cell21_ k qm tm, cell20_ k qm sm, cell16_ k qm sm, cell11_ k qm sm, cell10_ k qm sm, cell9_ k qm sm, cell7_ k qm sm] H := hP
      have hD : va_D A [cell22_ qm sm tm, cell5_ k qm sm, cell13_ k qm sm, cell8_ k qm sm, cell6_ k qm sm, cell15_ k qm sm, cell14_ k qm tm, cell12_ k qm tm, (qm 8, .inl (k 1, 50, .inr (.inl m17))), (qm 9, .inl (k 1, 50, .inr (.inl m18))), cell19_ k qm tm, cell21_ k qm tm, cell20_ k qm sm, cell16_ k qm sm, cell11_ k qm sm, cell10_ k qm sm, cell9_ k qm sm, cell7_ k qm sm] := hD
      have w19 : (m17, m18) = J_X12_layLikely sm tm p0 p1 := hw15
      clear hw15
      refine lv_lconst (v := 0) hx hb dX12_shortly_25 (by decide) ?_
      refine lv_lstore (lv' := [(4, .long 0), (0, .ref (qm 0)), (1, .int p0), (2, .int p1), (3, .int p2)]) hx hb dX12_shortly_26 hl (by decide) rfl (fun ls hl => ?_)
      refine lv_iconst (v := 0) hx hb dX12_shortly_28 (by decide) ?_
      refine lv_istore (lv' := [(6, .int 0), (4, .long 0), (0, .ref (qm 0)), (1, .int p0), (2, .int p1), (3, .int p2)]) hx hb dX12_shortly_29 hl (by decide) rfl (fun ls hl => ?_)
      obtain ⟨rr31_1, err31_1⟩ : ∃ r : Int64 × (Nat → Int64) × (Nat → Int64), LTs (default : Int64 × (Nat → Int64) × (Nat → Int64)) (B_X12_shortly_31 sm tm p0 p1 p2 r2 r9 (m17, m18)) 51 ((0 : Int32), (0 : Int64)) = r := ⟨_, rfl⟩
      have hrr31_1 : J_X12_shortly sm tm p0 p1 p2 = rr31_1 := ((exl_X12_shortly_1 w5 c7 w12 c14 w19)).trans err31_1
      have hL31 : ∀ (n34 : Nat) (v32 : Int32) (v33 : Int64) (H : Heap) (locs : List Loc) (ls : Array Slot), 50 - v32.toInt < (n34 : Int) → (0 ≤ v32.toInt ∧ v32.toInt ≤ 50) → (LTs (default : Int64 × (Nat → Int64) × (Nat → Int64)) (B_X12_shortly_31 sm tm p0 p1 p2 r2 r9 (m17, m18)) n34 (v32, v33) = rr31_1) → va_P D vwCl [cell22_ qm sm tm, cell5_ k qm sm, cell13_ k qm sm, cell8_ k qm sm, cell6_ k qm sm, cell15_ k qm sm, cell14_ k qm tm, cell12_ k qm tm, (qm 8, .inl (k 1, 50, .inr (.inl m17))), (qm 9, .inl (k 1, 50, .inr (.inl m18))), cell19_ k qm tm, cell21_ k qm tm, cell20_ k qm sm, cell16_ k qm sm, cell11_ k qm sm, cell10_ k qm sm, cell9_ k qm sm, cell7_ k qm sm] H → va_D A [cell22_ qm sm tm, cell5_ k qm sm, cell13_ k qm sm, cell8_ k qm sm, cell6_ k qm sm, cell15_ k qm sm, cell14_ k qm tm, cell12_ k qm tm, (qm 8, .inl (k 1, 50, .inr (.inl m17))), (qm 9, .inl (k 1, 50, .inr (.inl m18))), cell19_ k qm tm, cell21_ k qm tm, cell20_ k qm sm, cell16_ k qm sm, cell11_ k qm sm, cell10_ k qm sm, cell9_ k qm sm, cell7_ k qm sm] → va_S A s.heap H locs → lv_has ls 7 [(6, .int v32), (4, .long v33), (0, .ref (qm 0)), (1, .int p0), (2, .int p1), (3, .int p2)] → W p l e ({ frames := 4, cells := 0, slots := 0, locals := 101 } : Room) s m ([.ref (qm 0), .int p0, .int p1, .int p2] : List Value).toArray below meth c H locs 0 0 Q (F0 m 31 ls []) := by
        intro n34
        induction n34 with
        | zero => intro v32 v33 H locs ls hmn34 bv32 hzrr31_1 hP hD hS hl; exact absurd hmn34 (by omega)
        | succ n34 ih31 =>
          intro v32 v33 H locs ls hmn34 bv32 hzrr31_1 hP hD hS hl
          refine lv_iload hx hb dX12_shortly_31 (lv_at hl 0 rfl) ?_
          refine lv_bipush (v := 50) hx hb dX12_shortly_33 (by decide) ?_
          refine lv_icmp_ge (tgt := 83) hx hb dX12_shortly_35 (by decide) (fun c35 => ?_) (fun c35 => ?_)
          · have f35 : 50 ≤ v32.toInt := f_le (by decide) rfl c35
            refine lv_lload hx hb dX12_shortly_83 (lv_at hl 1 rfl) ?_
            refine lv_iload_n hx hb dX12_shortly_85 rfl (lv_at hl 4 rfl) ?_
            refine g_lr (g_runS (wc := []) (rest := [.long v33]) cx hP hD hS [] rfl (by decide) [.int p1] (c_X12_parts l D k b H.size p1) gX12_shortly_X12_parts rfl rfl rfl nd_X12_parts ⟨Nat.le_of_ble_eq_true rfl, Nat.le_of_ble_eq_true rfl⟩ rfl hl.1 rfl (Nat.le_of_ble_eq_true rfl) ⟨Nat.zero_le _, Nat.zero_le _⟩ dX12_shortly_86) cx.2.2.1 hP hD hS [] rfl rfl (fun r37 H locs hw36 hP hS => ?_)
            replace hw36 : (r37.toInt % 2 = 1) ∧ (r37 = J_X12_parts p1) := hw36
            obtain ⟨w38, w39⟩ := hw36
            refine lv_iload_n hx hb dX12_shortly_89 rfl (lv_at hl 5 rfl) ?_
            refine g_lr (g_runS (wc := []) (rest := []) cx hP hD hS [] rfl (by decide) [.long v33, .long r37, .int p2] (c_X12_told l D k b H.size v33 r37 p2 (show ¬ r37.toInt = 0 from by first | decide | omega)) gX12_shortly_X12_told rfl rfl rfl nd_X12_told ⟨Nat.le_of_ble_eq_true rfl, Nat.le_of_ble_eq_true rfl⟩ rfl hl.1 rfl (Nat.le_of_ble_eq_true rfl) ⟨Nat.zero_le _, Nat.zero_le _⟩ dX12_shortly_90) cx.2.2.1 hP hD hS [] rfl rfl (fun r42 H locs hw41 hP hS => ?_)
            have w43 : r42 = J_X12_told v33 r37 p2 := hw41
            clear hw41
            rw [hQ]
            exact x_l cx hr (m17, m18) hP hD hS (show (r42, m17, m18) = J_X12_shortly sm tm p0 p1 p2 from ((hrr31_1.trans (LT_r hzrr31_1 (exl_X12_shortly_2 c35 w39 w43)))).symm) dX12_shortly_93
          · have f35 : v32.toInt < 50 := f_nle (by decide) rfl c35
            refine lv_lload hx hb dX12_shortly_38 (lv_at hl 1 rfl) ?_
            refine lv_aload_n hx hb dX12_shortly_40 rfl (lv_at hl 2 rfl) ?_
            refine g_get cx hP iw_X12_shortly_X12 0 rfl rfl 16 (by decide) rfl fw_X12_shortly_32 rfl dX12_shortly_41 ?_
            refine lv_iload hx hb dX12_shortly_44 (lv_at hl 0 rfl) ?_
            have hn45 : vp_in v32 50 := f_in (a := v32.toInt) rfl (by omega) (by omega)
            refine va_lald hx hb cx.2.1 hP 8 1 rfl rfl hn45 dX12_shortly_46 (lv_topl (fun v46 e46 => ?_))
            refine lv_lconst (v := 0) hx hb dX12_shortly_47 (by decide) ?_
            refine W.lcmp hx hb dX12_shortly_48 (lv_topi (fun v47 e47 => ?_))
            refine lv_if_le (tgt := 73) hx hb dX12_shortly_49 (by decide) (fun c48 => ?_) (fun c48 => ?_)
            · have f48 : v47.toInt ≤ 0 := f_le rfl (by decide) c48
              refine lv_lconst (v := 0) hx hb dX12_shortly_73 (by decide) ?_
              refine lv_ladd hx hb dX12_shortly_74 (lv_topl (fun v49 e49 => ?_))
              refine lv_lstore (lv' := [(4, .long v49), (6, .int v32), (0, .ref (qm 0)), (1, .int p0), (2, .int p1), (3, .int p2)]) hx hb dX12_shortly_75 hl (by decide) rfl (fun ls hl => ?_)
              obtain ⟨v50, e50⟩ : ∃ z : Int32, z = v32 + 1 := ⟨_, rfl⟩
              refine lv_iinc (v := v50) (lv' := [(6, .int v50), (4, .long v49), (0, .ref (qm 0)), (1, .int p0), (2, .int p1), (3, .int p2)]) hx hb dX12_shortly_77 hl (k := 1) rfl (by rw [e50]; rfl) (by decide) rfl (fun ls hl => ?_)
              have t50 : v50.toInt = v32.toInt + 1 := by rw [e50]; exact i_add rfl (by decide) (by omega) (by omega)
              refine lv_goto (tgt := 31) hx hb dX12_shortly_80 (by decide) ?_
              exact ih31 v50 v49 _ _ _ (by omega) (by first | decide | omega) (LT_g hzrr31_1 (exl_X12_shortly_3 e46 e47 e49 e50 c35 c48)) hP hD hS (lv_sub hl [0, 1, 2, 3, 4, 5] rfl)
            · have f48 : 0 < v47.toInt := f_nle rfl (by decide) c48
              refine lv_aload_n hx hb dX12_shortly_52 rfl (lv_at hl 2 rfl) ?_
              refine lv_iload_n hx hb dX12_shortly_53 rfl (lv_at hl 3 rfl) ?_
              refine lv_iload_n hx hb dX12_shortly_54 rfl (lv_at hl 4 rfl) ?_
              refine lv_iload hx hb dX12_shortly_55 (lv_at hl 0 rfl) ?_
              refine g_iF (w1 := fun (_ : Unit) => [cell22_ qm sm tm, cell5_ k qm sm, cell13_ k qm sm, cell8_ k qm sm, cell6_ k qm sm, cell15_ k qm sm, cell14_ k qm tm, cell12_ k qm tm, (qm 8, .inl (k 1, 50, .inr (.inl m17))), (qm 9, .inl (k 1, 50, .inr (.inl m18))), cell19_ k qm tm, cell21_ k qm tm, cell20_ k qm sm, cell16_ k qm sm, cell11_ k qm sm, cell10_ k qm sm, cell9_ k qm sm, cell7_ k qm sm]) (g_runVF (ws := [cell22_ qm sm tm, cell5_ k qm sm, cell13_ k qm sm, cell8_ k qm sm, cell6_ k qm sm, cell15_ k qm sm, cell14_ k qm tm, cell12_ k qm tm, (qm 8, .inl (k 1, 50, .inr (.inl m17))), (qm 9, .inl (k 1, 50, .inr (.inl m18))), cell19_ k qm tm, cell21_ k qm tm, cell20_ k qm sm, cell16_ k qm sm, cell11_ k qm sm, cell10_ k qm sm, cell9_ k qm sm, cell7_ k qm sm]) (rest := [.long v33]) cx hP hD hS [.int p0, .int p1, .int v32] (c_X12_overBy l D k b qm sm (up2L (up2L tm 8 m17) 9 m18) H.size p0 p1 v32 (show 0 ≤ ((sm 2) 0).toInt ∧ ((sm 2) 0).toInt ≤ 5 from by first | decide | omega) (show 0 ≤ p0.toInt ∧ p0.toInt ≤ 2 from by first | decide | omega) (show 0 ≤ p1.toInt ∧ p1.toInt ≤ 4 from by first | decide | omega)) gX12_shortly_X12_overBy rfl rfl rfl nd_X12_overBy ⟨Nat.le_of_ble_eq_true rfl, Nat.le_of_ble_eq_true rfl⟩ (ci := 10) (q0 := 0) rfl rfl rfl hl.1 rfl (Nat.le_of_ble_eq_true rfl) ⟨Nat.zero_le _, Nat.zero_le _⟩ dX12_shortly_57) cx.2.2.1 hD hS (fun r52 _ H locs hw51 hP hD hS => ?_)
              have w53 : r52 = J_X12_overBy sm (up2L (up2L tm 8 m17) 9 m18) p0 p1 v32 := hw51
              clear hw51
              refine lv_if_ge (tgt := 73) hx hb dX12_shortly_60 (by decide) (fun c55 => ?_) (fun c55 => ?_)
              · have f55 : 0 ≤ r52.toInt := f_le (by decide) rfl c55
                refine lv_lconst (v := 0) hx hb dX12_shortly_73 (by decide) ?_
                refine lv_ladd hx hb dX12_shortly_74 (lv_topl (fun v56 e56 => ?_))
                refine lv_lstore (lv' := [(4, .long v56), (6, .int v32), (0, .ref (qm 0)), (1, .int p0), (2, .int p1), (3, .int p2)]) hx hb dX12_shortly_75 hl (by decide) rfl (fun ls hl => ?_)
                obtain ⟨v57, e57⟩ : ∃ z : Int32, z = v32 + 1 := ⟨_, rfl⟩
                refine lv_iinc (v := v57) (lv' := [(6, .int v57), (4, .long v56), (0, .ref (qm 0)), (1, .int p0), (2, .int p1), (3, .int p2)]) hx hb dX12_shortly_77 hl (k := 1) rfl (by rw [e57]; rfl) (by decide) rfl (fun ls hl => ?_)
                have t57 : v57.toInt = v32.toInt + 1 := by rw [e57]; exact i_add rfl (by decide) (by omega) (by omega)
                refine lv_goto (tgt := 31) hx hb dX12_shortly_80 (by decide) ?_
                exact ih31 v57 v56 _ _ _ (by omega) (by first | decide | omega) (LT_g hzrr31_1 (exl_X12_shortly_4 e46 e47 e56 e57 c35 c48 w53 c55)) hP hD hS (lv_sub hl [0, 1, 2, 3, 4, 5] rfl)
              · have f55 : r52.toInt < 0 := f_nle (by decide) rfl c55
                refine lv_aload_n hx hb dX12_shortly_63 rfl (lv_at hl 2 rfl) ?_
                refine g_get cx hP iw_X12_shortly_X12 0 rfl rfl 16 (by decide) rfl fw_X12_shortly_32 rfl dX12_shortly_64 ?_
                refine lv_iload hx hb dX12_shortly_67 (lv_at hl 0 rfl) ?_
                have hn58 : vp_in v32 50 := f_in (a := v32.toInt) rfl (by omega) (by omega)
                refine va_lald hx hb cx.2.1 hP 8 1 rfl rfl hn58 dX12_shortly_69 (lv_topl (fun v59 e59 => ?_))
                have qv59_ : v59.toInt = v46.toInt := congrArg Int64.toInt (e59.trans e46.symm)
                refine lv_goto (tgt := 74) hx hb dX12_shortly_70 (by decide) ?_
                refine lv_ladd hx hb dX12_shortly_74 (lv_topl (fun v60 e60 => ?_))
                refine lv_lstore (lv' := [(4, .long v60), (6, .int v32), (0, .ref (qm 0)), (1, .int p0), (2, .int p1), (3, .int p2)]) hx hb dX12_shortly_75 hl (by decide) rfl (fun ls hl => ?_)
                obtain ⟨v61, e61⟩ : ∃ z : Int32, z = v32 + 1 := ⟨_, rfl⟩
                refine lv_iinc (v := v61) (lv' := [(6, .int v61), (4, .long v60), (0, .ref (qm 0)), (1, .int p0), (2, .int p1), (3, .int p2)]) hx hb dX12_shortly_77 hl (k := 1) rfl (by rw [e61]; rfl) (by decide) rfl (fun ls hl => ?_)
                have t61 : v61.toInt = v32.toInt + 1 := by rw [e61]; exact i_add rfl (by decide) (by omega) (by omega)
                refine lv_goto (tgt := 31) hx hb dX12_shortly_80 (by decide) ?_
                exact ih31 v61 v60 _ _ _ (by omega) (by first | decide | omega) (LT_g hzrr31_1 (exl_X12_shortly_5 e46 e47 e59 e60 e61 c35 c48 w53 c55)) hP hD hS (lv_sub hl [0, 1, 2, 3, 4, 5] rfl)
      have hlit62 : (0 : Int32).toInt = 0 := by decide
      have hlit63 : (0 : Int32).toInt = 0 := by decide
      exact hL31 (51) 0 0 _ _ _ (by omega) (by first | decide | omega) err31_1 hP hD hS (lv_sub hl [0, 1, 2, 3, 4, 5] rfl)
    · have f14 : r9.toInt = 0 := f_eq rfl (by decide) c14
      refine lv_ldc2 (v := (-1)) hx hb cx.1.2.2.2.1 (cx.1.2.2.2.2 _ kJ_X12_shortly_221) dX12_shortly_15 ?_
      rw [hQ]
      exact x_l cx hr ((tm 8), (tm 9)) hP hD hS (show (((-1) : Int64), (tm 8), (tm 9)) = J_X12_shortly sm tm p0 p1 p2 from (exl_X12_shortly_6 w5 c7 w12 c14)) dX12_shortly_18
theorem fw_X12_idle_32 : Cond.fieldLink RX12 32 "StillInAugustModel" "likely" "[J" ∈ wsX12_idle := by decide +kernel
theorem kJ_X12_idle_221 : Cond.constantLong RX12 221 (-1) ∈ wsX12_idle := by decide +kernel
theorem iw_X12_idle_X12 : ∀ w ∈ u_ws RX12 TX12 33, w ∈ wsX12_idle := fun _ h => List.mem_cons_of_mem _ (List.mem_append_right _ h)
def B_X12_idle_31 (sm : Nat → Nat → Int32) (tm : Nat → Nat → Int64) (p0 : Int32) (p1 : Int32) (p2 : Int32) (y6 : Int32) (y13 : Int32) (y20 : (Nat → Int64) × (Nat → Int64)) (z : Int32 × Int64) : Sum (Int32 × Int64) (Int64 × (Nat → Int64) × (Nat → Int64)) := let v34 := (z.1); let v35 := (z.2); if 50 ≤ v34 then LetF (J_X12_parts p1) (fun y42 => LetF (J_X12_told v35 y42 p2) (fun y46 => Sum.inr ((y46, (y20.1), (y20.2))))) else if (lg_cmp ((y20.1) (v34).toNatClampNeg) 0) ≤ 0 then Sum.inl (((v34 + 1), (v35 + (0 : Int64)))) else LetF (J_X12_overBy sm (up2L (up2L tm 8 (y20.1)) 9 (y20.2)) p0 p1 v34) (fun y57 => if y57 ≤ 0 then Sum.inl (((v34 + 1), (v35 + (0 : Int64)))) else Sum.inl (((v34 + 1), (v35 + ((y57.toInt64) * ((y20.1) (v34).toNatClampNeg))))))
def J_X12_idle (sm : Nat → Nat → Int32) (tm : Nat → Nat → Int64) (p0 : Int32) (p1 : Int32) (p2 : Int32) : Int64 × (Nat → Int64) × (Nat → Int64) := LetF (J_X12_isRule p0) (fun y6 => if y6 = 0 then (((-1) : Int64), (tm 8), (tm 9)) else LetF (J_X12_isWeek sm tm p1) (fun y13 => if y13 = 0 then (((-1) : Int64), (tm 8), (tm 9)) else LetF (J_X12_layLikely sm tm p0 p1) (fun y20 => LTs default (B_X12_idle_31 sm tm p0 p1 p2 y6 y13 y20) 51 ((0 : Int32), (0 : Int64)))))
theorem exl_X12_idle_0 {sm : Nat → Nat → Int32} {tm : Nat → Nat → Int64} {p0 : Int32} {p1 : Int32} {p2 : Int32} {r2 : Int32} (w5 : r2 = J_X12_isRule p0) (c7 : r2 = (0 : Int32)) : (((-1) : Int64), (tm 8), (tm 9)) = J_X12_idle sm tm p0 p1 p2 := by refine Eq.symm ?_; unfold J_X12_idle; refine lt_e w5 ?_; refine Eq.trans (if_pos c7) ?_; rfl
theorem exl_X12_idle_1 {sm : Nat → Nat → Int32} {tm : Nat → Nat → Int64} {p0 : Int32} {p1 : Int32} {p2 : Int32} {r2 : Int32} {r9 : Int32} {m17 : Nat → Int64} {m18 : Nat → Int64} (w5 : r2 = J_X12_isRule p0) (c7 : ¬ (r2 = (0 : Int32))) (w12 : r9 = J_X12_isWeek sm tm p1) (c14 : ¬ (r9 = (0 : Int32))) (w19 : (m17, m18) = J_X12_layLikely sm tm p0 p1) : J_X12_idle sm tm p0 p1 p2 = LTs (default : Int64 × (Nat → Int64) × (Nat → Int64)) (B_X12_idle_31 sm tm p0 p1 p2 r2 r9 (m17, m18)) 51 ((0 : Int32), (0 : Int64)) := by unfold J_X12_idle; refine lt_e w5 ?_; refine Eq.trans (if_neg c7) ?_; refine lt_e w12 ?_; refine Eq.trans (if_neg c14) ?_; refine lt_e w19 ?_; rfl
theorem exl_X12_idle_2 {sm : Nat → Nat → Int32} {tm : Nat → Nat → Int64} {p0 : Int32} {p1 : Int32} {p2 : Int32} {r2 : Int32} {r9 : Int32} {m17 : Nat → Int64} {m18 : Nat → Int64} {v34 : Int32} {v35 : Int64} {r44 : Int64} {r39 : Int64} (c37 : (50 : Int32) ≤ v34) (w41 : r39 = J_X12_parts p1) (w45 : r44 = J_X12_told v35 r39 p2) : (B_X12_idle_31 sm tm p0 p1 p2 r2 r9 (m17, m18)) (v34, v35) = Sum.inr ((r44, m17, m18)) := by unfold B_X12_idle_31; refine Eq.trans (if_pos c37) ?_; refine lt_e w41 ?_; refine lt_e w45 ?_; rfl
theorem exl_X12_idle_3 {sm : Nat → Nat → Int32} {tm : Nat → Nat → Int64} {p0 : Int32} {p1 : Int32} {p2 : Int32} {r2 : Int32} {r9 : Int32} {m17 : Nat → Int64} {m18 : Nat → Int64} {v34 : Int32} {v35 : Int64} {v53 : Int32} {v52 : Int64} {v48 : Int64} {v49 : Int32} (e48 : v48 = (m17 (v34).toNatClampNeg)) (e49 : v49 = (lg_cmp v48 (0 : Int64))) (e52 : v52 = (v35 + (0 : Int64))) (e53 : v53 = v34 + 1) (c37 : ¬ ((50 : Int32) ≤ v34)) (c50 : v49 ≤ (0 : Int32)) : (B_X12_idle_31 sm tm p0 p1 p2 r2 r9 (m17, m18)) (v34, v35) = Sum.inl (v53, v52) := by subst e48 e49 e52 e53; unfold B_X12_idle_31; refine Eq.trans (if_neg c37) ?_; refine Eq.trans (if_pos c50) ?_; rfl
theorem exl_X12_idle_4 {sm : Nat → Nat → Int32} {tm : Nat → Nat → Int64} {p0 : Int32} {p1 : Int32} {p2 : Int32} {r2 : Int32} {r9 : Int32} {m17 : Nat → Int64} {m18 : Nat → Int64} {v34 : Int32} {v35 : Int64} {v60 : Int32} {v59 : Int64} {v48 : Int64} {v49 : Int32} {r55 : Int32} (e48 : v48 = (m17 (v34).toNatClampNeg)) (e49 : v49 = (lg_cmp v48 (0 : Int64))) (e59 : v59 = (v35 + (0 : Int64))) (e60 : v60 = v34 + 1) (c37 : ¬ ((50 : Int32) ≤ v34)) (c50 : ¬ (v49 ≤ (0 : Int32))) (w56 : r55 = J_X12_overBy sm (up2L (up2L tm 8 m17) 9 m18) p0 p1 v34) (c58 : r55 ≤ (0 : Int32)) : (B_X12_idle_31 sm tm p0 p1 p2 r2 r9 (m17, m18)) (v34, v35) = Sum.inl (v60, v59) := by subst e48 e49 e59 e60; unfold B_X12_idle_31; refine Eq.trans (if_neg c37) ?_; refine Eq.trans (if_neg c50) ?_; refine lt_e w56 ?_; refine Eq.trans (if_pos c58) ?_; rfl
theorem exl_X12_idle_5 {sm : Nat → Nat → Int32} {tm : Nat → Nat → Int64} {p0 : Int32} {p1 : Int32} {p2 : Int32} {r2 : Int32} {r9 : Int32} {m17 : Nat → Int64} {m18 : Nat → Int64} {v34 : Int32} {v35 : Int64} {v66 : Int32} {v65 : Int64} {v48 : Int64} {v49 : Int32} {v61 : Int64} {r55 : Int32} {v63 : Int64} {v64 : Int64} (e48 : v48 = (m17 (v34).toNatClampNeg)) (e49 : v49 = (lg_cmp v48 (0 : Int64))) (e61 : v61 = (r55 : Int32).toInt64) (e63 : v63 = (m17 (v34).toNatClampNeg)) (e64 : v64 = (v61 * v63)) (e65 : v65 = (v35 + v64)) (e66 : v66 = v34 + 1) (c37 : ¬ ((50 : Int32) ≤ v34)) (c50 : ¬ (v49 ≤ (0 : Int32))) (w56 : r55 = J_X12_overBy sm (up2L (up2L tm 8 m17) 9 m18) p0 p1 v34) (c58 : ¬ (r55 ≤ (0 : Int32))) : (B_X12_idle_31 sm tm p0 p1 p2 r2 r9 (m17, m18)) (v34, v35) = Sum.inl (v66, v65) := by subst e48 e49 e61 e63 e64 e65 e66; unfold B_X12_idle_31; refine Eq.trans (if_neg c37) ?_; refine Eq.trans (if_neg c50) ?_; refine lt_e w56 ?_; refine Eq.trans (if_neg c58) ?_; rfl
theorem exl_X12_idle_6 {sm : Nat → Nat → Int32} {tm : Nat → Nat → Int64} {p0 : Int32} {p1 : Int32} {p2 : Int32} {r2 : Int32} {r9 : Int32} (w5 : r2 = J_X12_isRule p0) (c7 : ¬ (r2 = (0 : Int32))) (w12 : r9 = J_X12_isWeek sm tm p1) (c14 : r9 = (0 : Int32)) : (((-1) : Int64), (tm 8), (tm 9)) = J_X12_idle sm tm p0 p1 p2 := by refine Eq.symm ?_; unfold J_X12_idle; refine lt_e w5 ?_; refine Eq.trans (if_neg c7) ?_; refine lt_e w12 ?_; refine Eq.trans (if_pos c14) ?_; rfl
set_option maxHeartbeats 4000000 in
set_option maxRecDepth 100000 in
theorem c_X12_idle (l : Launch) (D : va_G) (k : Nat → ClassId) (b : Nat → Nat) (qm : Nat → Nat) (sm : Nat → Nat → Int32) (tm : Nat → Nat → Int64) (sz : Nat) (p0 : Int32) (p1 : Int32) (p2 : Int32) (h_w0 : 0 ≤ (sm 2 0).toInt ∧ (sm 2 0).toInt ≤ 5) (h_k1 : 0 ≤ (sm 2 1).toInt ∧ (sm 2 1).toInt ≤ 4) : MetL l D k b yX12_idle wsX12_idle ({ frames := 4, cells := 0, slots := 0, locals := 101 } : Room) [cell22_ qm sm tm, cell5_ k qm sm, cell13_ k qm sm, cell8_ k qm sm, cell6_ k qm sm, cell15_ k qm sm, cell14_ k qm tm, cell12_ k qm tm, cell18_ k qm tm, cell17_ k qm tm, cell19_ k qm tm, cell21_ k qm tm, cell20_ k qm sm, cell16_ k qm sm, cell11_ k qm sm, cell10_ k qm sm, cell9_ k qm sm, cell7_ k qm sm] sz [.ref (qm 0), .int p0, .int p1, .int p2] (fun (r : Int64) (u : (Nat → Int64) × (Nat → Int64)) => (r, (u.1), (u.2)) = J_X12_idle sm tm p0 p1 p2) (fun u => [cell22_ qm sm tm, cell5_ k qm sm, cell13_ k qm sm, cell8_ k qm sm, cell6_ k qm sm, cell15_ k qm sm, cell14_ k qm tm, cell12_ k qm tm, cell142_ k qm (u.1), cell143_ k qm (u.2), cell19_ k qm tm, cell21_ k qm tm, cell20_ k qm sm, cell16_ k qm sm, cell11_ k qm sm, cell10_ k qm sm, cell9_ k qm sm, cell7_ k qm sm]) := by
  refine g_enter (cc := cX12_idle) (maxL := 8) (ret := (some .long)) (by decide) rfl (Nat.le_of_ble_eq_true rfl) ?_
  intro p e s m below meth c A hsz hAe cx hr hP hD hS ls hl
  rw [hAe]
  refine g_q (fun Q hQ => ?_)
  have hx := cx.1.1
  have hb := cx.1.2.1
  have bp0 := i_rng p0
  have bp1 := i_rng p1
  have bp2 := i_rng p2
  have hl : lv_has ls 8 [(0, .ref (qm 0)), (1, .int p0), (2, .int p1), (3, .int p2)] := hl
  obtain ⟨H, eH⟩ : ∃ H : Heap, H = s.heap := ⟨_, rfl⟩
  obtain ⟨locs, el⟩ : ∃ L : List Loc, L = [] := ⟨_, rfl⟩
  have hP : va_P D vwCl [cell22_ qm sm tm, cell5_ k qm sm, cell13_ k qm sm, cell8_ k qm sm, cell6_ k qm sm, cell15_ k qm sm, cell14_ k qm tm, cell12_ k qm tm, cell18_ k qm tm, cell17_ k qm tm, cell19_ k qm tm, cell21_ k qm tm, cell20_ k qm sm, cell16_ k qm sm, cell11_ k qm sm, cell10_ k qm sm, cell9_ k qm sm, cell7_ k qm sm] H := by rw [eH]; exact hP
  have hD : va_D A [cell22_ qm sm tm, cell5_ k qm sm, cell13_ k qm sm, cell8_ k qm sm, cell6_ k qm sm, cell15_ k qm sm, cell14_ k qm tm, cell12_ k qm tm, cell18_ k qm tm, cell17_ k qm tm, cell19_ k qm tm, cell21_ k qm tm, cell20_ k qm sm, cell16_ k qm sm, cell11_ k qm sm, cell10_ k qm sm, cell9_ k qm sm, cell7_ k qm sm] := hD
  have hS : va_S A s.heap H locs := by rw [eH, el]; exact hS
  suffices goal : W p l e ({ frames := 4, cells := 0, slots := 0, locals := 101 } : Room) s m ([.ref (qm 0), .int p0, .int p1, .int p2] : List Value).toArray below meth c H locs 0 0 Q (F0 m 0 ls []) by rw [eH, el] at goal; exact goal
  refine lv_iload_n hx hb dX12_idle_0 rfl (lv_at hl 1 rfl) ?_
  refine g_ir (g_runS (wc := []) (rest := []) cx hP hD hS [] rfl (by decide) [.int p0] (c_X12_isRule l D k b H.size p0) gX12_idle_X12_isRule rfl rfl rfl nd_X12_isRule ⟨Nat.le_of_ble_eq_true rfl, Nat.le_of_ble_eq_true rfl⟩ rfl hl.1 rfl (Nat.le_of_ble_eq_true rfl) ⟨Nat.zero_le _, Nat.zero_le _⟩ dX12_idle_1) cx.2.2.1 hP hD hS [] rfl rfl (fun r2 H locs hw1 hP hS => ?_)
  replace hw1 : (0 ≤ r2.toInt ∧ r2.toInt ≤ 1) ∧ (Imp (r2.toInt = 1) (0 ≤ p0.toInt ∧ p0.toInt ≤ 2)) ∧ (r2 = J_X12_isRule p0) := hw1
  obtain ⟨w3, w4, w5⟩ := hw1
  have zr2 : 0 ≤ r2.toInt ∧ r2.toInt ≤ 1 := w3
  refine lv_if_eq (tgt := 15) hx hb dX12_idle_4 (by decide) (fun c7 => ?_) (fun c7 => ?_)
  · have f7 : r2.toInt = 0 := f_eq rfl (by decide) c7
    refine lv_ldc2 (v := (-1)) hx hb cx.1.2.2.2.1 (cx.1.2.2.2.2 _ kJ_X12_idle_221) dX12_idle_15 ?_
    rw [hQ]
    exact x_l cx hr ((tm 8), (tm 9)) hP hD hS (show (((-1) : Int64), (tm 8), (tm 9)) = J_X12_idle sm tm p0 p1 p2 from (exl_X12_idle_0 w5 c7)) dX12_idle_18
  · have f7 : ¬ r2.toInt = 0 := f_ne rfl (by decide) c7
    have k7 : (0 ≤ p0.toInt ∧ p0.toInt ≤ 2) := w4 (by omega)
    refine lv_aload_n hx hb dX12_idle_7 rfl (lv_at hl 0 rfl) ?_
    refine lv_iload_n hx hb dX12_idle_8 rfl (lv_at hl 2 rfl) ?_
    refine g_iF (w1 := fun (_ : Unit) => [cell22_ qm sm tm, cell5_ k qm sm, cell13_ k qm sm, cell8_ k qm sm, cell6_ k qm sm, cell15_ k qm sm, cell14_ k qm tm, cell12_ k qm tm, cell18_ k qm tm, cell17_ k qm tm, cell19_ k qm tm, cell21_ k qm tm, cell20_ k qm sm, cell16_ k qm sm, cell11_ k qm sm, cell10_ k qm sm, cell9_ k qm sm, cell7_ k qm sm]) (g_runVF (ws := [cell22_ qm sm tm, cell5_ k qm sm, cell13_ k qm sm, cell8_ k qm sm, cell6_ k qm sm, cell15_ k qm sm, cell14_ k qm tm, cell12_ k qm tm, cell18_ k qm tm, cell17_ k qm tm, cell19_ k qm tm, cell21_ k qm tm, cell20_ k qm sm, cell16_ k qm sm, cell11_ k qm sm, cell10_ k qm sm, cell9_ k qm sm, cell7_ k qm sm]) (rest := []) cx hP hD hS [.int p1] (c_X12_isWeek l D k b qm sm tm H.size p1 (show 0 ≤ ((sm 2) 0).toInt ∧ ((sm 2) 0).toInt ≤ 5 from by first | decide | omega)) gX12_idle_X12_isWeek rfl rfl rfl nd_X12_isWeek ⟨Nat.le_of_ble_eq_true rfl, Nat.le_of_ble_eq_true rfl⟩ (ci := 10) (q0 := 0) rfl rfl rfl hl.1 rfl (Nat.le_of_ble_eq_true rfl) ⟨Nat.zero_le _, Nat.zero_le _⟩ dX12_idle_9) cx.2.2.1 hD hS (fun r9 _ H locs hw8 hP hD hS => ?_)
    replace hw8 : (0 ≤ r9.toInt ∧ r9.toInt ≤ 1) ∧ (Imp (r9.toInt = 1) (0 ≤ p1.toInt ∧ p1.toInt ≤ 4)) ∧ (r9 = J_X12_isWeek sm tm p1) := hw8
    obtain ⟨w10, w11, w12⟩ := hw8
    have zr9 : 0 ≤ r9.toInt ∧ r9.toInt ≤ 1 := w10
    refine lv_if_ne (tgt := 19) hx hb dX12_idle_12 (by decide) (fun c14 => ?_) (fun c14 => ?_)
    · have f14 : ¬ r9.toInt = 0 := f_ne rfl (by decide) c14
      have k14 : (0 ≤ p1.toInt ∧ p1.toInt ≤ 4) := w11 (by omega)
      refine lv_aload_n hx hb dX12_idle_19 rfl (lv_at hl 0 rfl) ?_
      refine lv_iload_n hx hb dX12_idle_20 rfl (lv_at hl 1 rfl) ?_
      refine lv_iload_n hx hb dX12_idle_21 rfl (lv_at hl 2 rfl) ?_
      refine g_vF (w1 := fun (u : (Nat → Int64) × (Nat → Int64)) => [cell22_ qm sm tm, cell5_ k qm sm, cell13_ k qm sm, cell8_ k qm sm, cell6_ k qm sm, cell15_ k qm sm, cell14_ k qm tm, cell12_ k qm tm, cell142_ k qm (u.1), cell143_ k qm (u.2), cell19_ k qm tm, cell21_ k qm tm, cell20_ k qm sm, cell16_ k qm sm, cell11_ k qm sm, cell10_ k qm sm, cell9_ k qm sm, cell7_ k qm sm]) (g_runVF (ws := [cell22_ qm sm tm, cell5_ k qm sm, cell13_ k qm sm, cell8_ k qm sm, cell6_ k qm sm, cell15_ k qm sm, cell14_ k qm tm, cell12_ k qm tm, cell18_ k qm tm, cell17_ k qm tm, cell19_ k qm tm, cell21_ k qm tm, cell20_ k qm sm, cell16_ k qm sm, cell11_ k qm sm, cell10_ k qm sm, cell9_ k qm sm, cell7_ k qm sm]) (rest := []) cx hP hD hS [.int p0, .int p1] (c_X12_layLikely l D k b qm sm tm H.size p0 p1 (show 0 ≤ ((sm 2) 0).toInt ∧ ((sm 2) 0).toInt ≤ 5 from by first | decide | omega) (show 0 ≤ ((sm 2) 1).toInt ∧ ((sm 2) 1).toInt ≤ 4 from by first | decide | omega) (show 0 ≤ p0.toInt ∧ p0.toInt ≤ 2 from by first | decide | omega) (show 0 ≤ p1.toInt ∧ p1.toInt ≤ 5 from by first | decide | omega)) gX12_idle_X12_layLikely rfl rfl rfl nd_X12_layLikely ⟨Nat.le_of_ble_eq_true rfl, Nat.le_of_ble_eq_true rfl⟩ (ci := 10) (q0 := 0) rfl rfl rfl hl.1 rfl (Nat.le_of_ble_eq_true rfl) ⟨Nat.zero_le _, Nat.zero_le _⟩ dX12_idle_22) cx.2.2.1 hD hS (fun u16 H locs hw15 hP hD hS => ?_)
      obtain ⟨m17, m18⟩ := u16
      have hP : va_P D vwCl [cell22_ qm sm tm, cell5_ k qm sm, cell13_ k qm sm, cell8_ k qm sm, cell6_ k qm sm, cell15_ k qm sm, cell14_ k qm tm, cell12_ k qm tm, (qm 8, .inl (k 1, 50, .inr (.inl m17))), (qm 9, .inl (k 1, 50, .inr (.inl m18))), cell19_ k qm tm, cell21_ k qm tm, cell20_ k qm sm, cell16_ k qm sm, cell11_ k qm sm, cell10_ k qm sm, cell9_ k qm sm, cell7_ k qm sm] H := hP
      have hD : va_D A [cell22_ qm sm tm, cell5_ k qm sm, cell13_ k qm sm, cell8_ k qm sm, cell6_ k qm sm, cell15_ k qm sm, cell14_ k qm tm, cell12_ k qm tm, (qm 8, .inl (k 1, 50, .inr (.inl m17))), (qm 9, .inl (k 1, 50, .inr (.inl m18))), cell19_ k qm tm, cell21_ k qm tm, cell20_ k qm sm, cell16_ k qm sm, cell11_ k qm sm, cell10_ k qm sm, cell9_ k qm sm, cell7_ k qm sm] := hD
      have w19 : (m17, m18) = J_X12_layLikely sm tm p0 p1 := hw15
      clear hw15
      refine lv_lconst (v := 0) hx hb dX12_idle_25 (by decide) ?_
      refine lv_lstore (lv' := [(4, .long 0), (0, .ref (qm 0)), (1, .int p0), (2, .int p1), (3, .int p2)]) hx hb dX12_idle_26 hl (by decide) rfl (fun ls hl => ?_)
      refine lv_iconst (v := 0) hx hb dX12_idle_28 (by decide) ?_
      refine lv_istore (lv' := [(6, .int 0), (4, .long 0), (0, .ref (qm 0)), (1, .int p0), (2, .int p1), (3, .int p2)]) hx hb dX12_idle_29 hl (by decide) rfl (fun ls hl => ?_)
      obtain ⟨rr31_1, err31_1⟩ : ∃ r : Int64 × (Nat → Int64) × (Nat → Int64), LTs (default : Int64 × (Nat → Int64) × (Nat → Int64)) (B_X12_idle_31 sm tm p0 p1 p2 r2 r9 (m17, m18)) 51 ((0 : Int32), (0 : Int64)) = r := ⟨_, rfl⟩
      have hrr31_1 : J_X12_idle sm tm p0 p1 p2 = rr31_1 := ((exl_X12_idle_1 w5 c7 w12 c14 w19)).trans err31_1
      have hL31 : ∀ (n36 : Nat) (v34 : Int32) (v35 : Int64) (H : Heap) (locs : List Loc) (ls : Array Slot), 50 - v34.toInt < (n36 : Int) → (0 ≤ v34.toInt ∧ v34.toInt ≤ 50) → (LTs (default : Int64 × (Nat → Int64) × (Nat → Int64)) (B_X12_idle_31 sm tm p0 p1 p2 r2 r9 (m17, m18)) n36 (v34, v35) = rr31_1) → va_P D vwCl [cell22_ qm sm tm, cell5_ k qm sm, cell13_ k qm sm, cell8_ k qm sm, cell6_ k qm sm, cell15_ k qm sm, cell14_ k qm tm, cell12_ k qm tm, (qm 8, .inl (k 1, 50, .inr (.inl m17))), (qm 9, .inl (k 1, 50, .inr (.inl m18))), cell19_ k qm tm, cell21_ k qm tm, cell20_ k qm sm, cell16_ k qm sm, cell11_ k qm sm, cell10_ k qm sm, cell9_ k qm sm, cell7_ k qm sm] H → va_D A [cell22_ qm sm tm, cell5_ k qm sm, cell13_ k qm sm, cell8_ k qm sm, cell6_ k qm sm, cell15_ k qm sm, cell14_ k qm tm, cell12_ k qm tm, (qm 8, .inl (k 1, 50, .inr (.inl m17))), (qm 9, .inl (k 1, 50, .inr (.inl m18))), cell19_ k qm tm, cell21_ k qm tm, cell20_ k qm sm, cell16_ k qm sm, cell11_ k qm sm, cell10_ k qm sm, cell9_ k qm sm, cell7_ k qm sm] → va_S A s.heap H locs → lv_has ls 8 [(6, .int v34), (4, .long v35), (0, .ref (qm 0)), (1, .int p0), (2, .int p1), (3, .int p2)] → W p l e ({ frames := 4, cells := 0, slots := 0, locals := 101 } : Room) s m ([.ref (qm 0), .int p0, .int p1, .int p2] : List Value).toArray below meth c H locs 0 0 Q (F0 m 31 ls []) := by
        intro n36
        induction n36 with
        | zero => intro v34 v35 H locs ls hmn36 bv34 hzrr31_1 hP hD hS hl; exact absurd hmn36 (by omega)
        | succ n36 ih31 =>
          intro v34 v35 H locs ls hmn36 bv34 hzrr31_1 hP hD hS hl
          refine lv_iload hx hb dX12_idle_31 (lv_at hl 0 rfl) ?_
          refine lv_bipush (v := 50) hx hb dX12_idle_33 (by decide) ?_
          refine lv_icmp_ge (tgt := 95) hx hb dX12_idle_35 (by decide) (fun c37 => ?_) (fun c37 => ?_)
          · have f37 : 50 ≤ v34.toInt := f_le (by decide) rfl c37
            refine lv_lload hx hb dX12_idle_95 (lv_at hl 1 rfl) ?_
            refine lv_iload_n hx hb dX12_idle_97 rfl (lv_at hl 4 rfl) ?_
            refine g_lr (g_runS (wc := []) (rest := [.long v35]) cx hP hD hS [] rfl (by decide) [.int p1] (c_X12_parts l D k b H.size p1) gX12_idle_X12_parts rfl rfl rfl nd_X12_parts ⟨Nat.le_of_ble_eq_true rfl, Nat.le_of_ble_eq_true rfl⟩ rfl hl.1 rfl (Nat.le_of_ble_eq_true rfl) ⟨Nat.zero_le _, Nat.zero_le _⟩ dX12_idle_98) cx.2.2.1 hP hD hS [] rfl rfl (fun r39 H locs hw38 hP hS => ?_)
            replace hw38 : (r39.toInt % 2 = 1) ∧ (r39 = J_X12_parts p1) := hw38
            obtain ⟨w40, w41⟩ := hw38
            refine lv_iload_n hx hb dX12_idle_101 rfl (lv_at hl 5 rfl) ?_
            refine g_lr (g_runS (wc := []) (rest := []) cx hP hD hS [] rfl (by decide) [.long v35, .long r39, .int p2] (c_X12_told l D k b H.size v35 r39 p2 (show ¬ r39.toInt = 0 from by first | decide | omega)) gX12_idle_X12_told rfl rfl rfl nd_X12_told ⟨Nat.le_of_ble_eq_true rfl, Nat.le_of_ble_eq_true rfl⟩ rfl hl.1 rfl (Nat.le_of_ble_eq_true rfl) ⟨Nat.zero_le _, Nat.zero_le _⟩ dX12_idle_102) cx.2.2.1 hP hD hS [] rfl rfl (fun r44 H locs hw43 hP hS => ?_)
            have w45 : r44 = J_X12_told v35 r39 p2 := hw43
            clear hw43
            rw [hQ]
            exact x_l cx hr (m17, m18) hP hD hS (show (r44, m17, m18) = J_X12_idle sm tm p0 p1 p2 from ((hrr31_1.trans (LT_r hzrr31_1 (exl_X12_idle_2 c37 w41 w45)))).symm) dX12_idle_105
          · have f37 : v34.toInt < 50 := f_nle (by decide) rfl c37
            refine lv_aload_n hx hb dX12_idle_38 rfl (lv_at hl 2 rfl) ?_
            refine g_get cx hP iw_X12_idle_X12 0 rfl rfl 16 (by decide) rfl fw_X12_idle_32 rfl dX12_idle_39 ?_
            refine lv_iload hx hb dX12_idle_42 (lv_at hl 0 rfl) ?_
            have hn47 : vp_in v34 50 := f_in (a := v34.toInt) rfl (by omega) (by omega)
            refine va_lald hx hb cx.2.1 hP 8 1 rfl rfl hn47 dX12_idle_44 (lv_topl (fun v48 e48 => ?_))
            refine lv_lconst (v := 0) hx hb dX12_idle_45 (by decide) ?_
            refine W.lcmp hx hb dX12_idle_46 (lv_topi (fun v49 e49 => ?_))
            refine lv_if_le (tgt := 61) hx hb dX12_idle_47 (by decide) (fun c50 => ?_) (fun c50 => ?_)
            · have f50 : v49.toInt ≤ 0 := f_le rfl (by decide) c50
              refine lv_iconst (v := 0) hx hb dX12_idle_61 (by decide) ?_
              refine lv_istore (lv' := [(7, .int 0), (6, .int v34), (4, .long v35), (0, .ref (qm 0)), (1, .int p0), (2, .int p1), (3, .int p2)]) hx hb dX12_idle_62 hl (by decide) rfl (fun ls hl => ?_)
              refine lv_lload hx hb dX12_idle_64 (lv_at hl 2 rfl) ?_
              refine lv_iload hx hb dX12_idle_66 (lv_at hl 0 rfl) ?_
              refine lv_if_le (tgt := 85) hx hb dX12_idle_68 (by decide) (fun c51 => ?_) (fun c51 => ?_)
              · refine lv_lconst (v := 0) hx hb dX12_idle_85 (by decide) ?_
                refine lv_ladd hx hb dX12_idle_86 (lv_topl (fun v52 e52 => ?_))
                refine lv_lstore (lv' := [(4, .long v52), (7, .int 0), (6, .int v34), (0, .ref (qm 0)), (1, .int p0), (2, .int p1), (3, .int p2)]) hx hb dX12_idle_87 hl (by decide) rfl (fun ls hl => ?_)
                obtain ⟨v53, e53⟩ : ∃ z : Int32, z = v34 + 1 := ⟨_, rfl⟩
                refine lv_iinc (v := v53) (lv' := [(6, .int v53), (4, .long v52), (7, .int 0), (0, .ref (qm 0)), (1, .int p0), (2, .int p1), (3, .int p2)]) hx hb dX12_idle_89 hl (k := 2) rfl (by rw [e53]; rfl) (by decide) rfl (fun ls hl => ?_)
                have t53 : v53.toInt = v34.toInt + 1 := by rw [e53]; exact i_add rfl (by decide) (by omega) (by omega)
                refine lv_goto (tgt := 31) hx hb dX12_idle_92 (by decide) ?_
                exact ih31 v53 v52 _ _ _ (by omega) (by first | decide | omega) (LT_g hzrr31_1 (exl_X12_idle_3 e48 e49 e52 e53 c37 c50)) hP hD hS (lv_sub hl [0, 1, 3, 4, 5, 6] rfl)
              · exact absurd c51 (by decide)
            · have f50 : 0 < v49.toInt := f_nle rfl (by decide) c50
              refine lv_aload_n hx hb dX12_idle_50 rfl (lv_at hl 2 rfl) ?_
              refine lv_iload_n hx hb dX12_idle_51 rfl (lv_at hl 3 rfl) ?_
              refine lv_iload_n hx hb dX12_idle_52 rfl (lv_at hl 4 rfl) ?_
              refine lv_iload hx hb dX12_idle_53 (lv_at hl 0 rfl) ?_
              refine g_iF (w1 := fun (_ : Unit) => [cell22_ qm sm tm, cell5_ k qm sm, cell13_ k qm sm, cell8_ k qm sm, cell6_ k qm sm, cell15_ k qm sm, cell14_ k qm tm, cell12_ k qm tm, (qm 8, .inl (k 1, 50, .inr (.inl m17))), (qm 9, .inl (k 1, 50, .inr (.inl m18))), cell19_ k qm tm, cell21_ k qm tm, cell20_ k qm sm, cell16_ k qm sm, cell11_ k qm sm, cell10_ k qm sm, cell9_ k qm sm, cell7_ k qm sm]) (g_runVF (ws := [cell22_ qm sm tm, cell5_ k qm sm, cell13_ k qm sm, cell8_ k qm sm, cell6_ k qm sm, cell15_ k qm sm, cell14_ k qm tm, cell12_ k qm tm, (qm 8, .inl (k 1, 50, .inr (.inl m17))), (qm 9, .inl (k 1, 50, .inr (.inl m18))), cell19_ k qm tm, cell21_ k qm tm, cell20_ k qm sm, cell16_ k qm sm, cell11_ k qm sm, cell10_ k qm sm, cell9_ k qm sm, cell7_ k qm sm]) (rest := []) cx hP hD hS [.int p0, .int p1, .int v34] (c_X12_overBy l D k b qm sm (up2L (up2L tm 8 m17) 9 m18) H.size p0 p1 v34 (show 0 ≤ ((sm 2) 0).toInt ∧ ((sm 2) 0).toInt ≤ 5 from by first | decide | omega) (show 0 ≤ p0.toInt ∧ p0.toInt ≤ 2 from by first | decide | omega) (show 0 ≤ p1.toInt ∧ p1.toInt ≤ 4 from by first | decide | omega)) gX12_idle_X12_overBy rfl rfl rfl nd_X12_overBy ⟨Nat.le_of_ble_eq_true rfl, Nat.le_of_ble_eq_true rfl⟩ (ci := 10) (q0 := 0) rfl rfl rfl hl.1 rfl (Nat.le_of_ble_eq_true rfl) ⟨Nat.zero_le _, Nat.zero_le _⟩ dX12_idle_55) cx.2.2.1 hD hS (fun r55 _ H locs hw54 hP hD hS => ?_)
              have w56 : r55 = J_X12_overBy sm (up2L (up2L tm 8 m17) 9 m18) p0 p1 v34 := hw54
              clear hw54
              refine lv_goto (tgt := 62) hx hb dX12_idle_58 (by decide) ?_
              refine lv_istore (lv' := [(7, .int r55), (6, .int v34), (4, .long v35), (0, .ref (qm 0)), (1, .int p0), (2, .int p1), (3, .int p2)]) hx hb dX12_idle_62 hl (by decide) rfl (fun ls hl => ?_)
              refine lv_lload hx hb dX12_idle_64 (lv_at hl 2 rfl) ?_
              refine lv_iload hx hb dX12_idle_66 (lv_at hl 0 rfl) ?_
              refine lv_if_le (tgt := 85) hx hb dX12_idle_68 (by decide) (fun c58 => ?_) (fun c58 => ?_)
              · have f58 : r55.toInt ≤ 0 := f_le rfl (by decide) c58
                refine lv_lconst (v := 0) hx hb dX12_idle_85 (by decide) ?_
                refine lv_ladd hx hb dX12_idle_86 (lv_topl (fun v59 e59 => ?_))
                refine lv_lstore (lv' := [(4, .long v59), (7, .int r55), (6, .int v34), (0, .ref (qm 0)), (1, .int p0), (2, .int p1), (3, .int p2)]) hx hb dX12_idle_87 hl (by decide) rfl (fun ls hl => ?_)
                obtain ⟨v60, e60⟩ : ∃ z : Int32, z = v34 + 1 := ⟨_, rfl⟩
                refine lv_iinc (v := v60) (lv' := [(6, .int v60), (4, .long v59), (7, .int r55), (0, .ref (qm 0)), (1, .int p0), (2, .int p1), (3, .int p2)]) hx hb dX12_idle_89 hl (k := 2) rfl (by rw [e60]; rfl) (by decide) rfl (fun ls hl => ?_)
                have t60 : v60.toInt = v34.toInt + 1 := by rw [e60]; exact i_add rfl (by decide) (by omega) (by omega)
                refine lv_goto (tgt := 31) hx hb dX12_idle_92 (by decide) ?_
                exact ih31 v60 v59 _ _ _ (by omega) (by first | decide | omega) (LT_g hzrr31_1 (exl_X12_idle_4 e48 e49 e59 e60 c37 c50 w56 c58)) hP hD hS (lv_sub hl [0, 1, 3, 4, 5, 6] rfl)
              · have f58 : 0 < r55.toInt := f_nle rfl (by decide) c58
                refine lv_iload hx hb dX12_idle_71 (lv_at hl 0 rfl) ?_
                obtain ⟨v61, e61⟩ : ∃ z : Int64, z = (r55 : Int32).toInt64 := ⟨_, rfl⟩
                refine lv_i2l (v := v61) hx hb dX12_idle_73 e61.symm ?_
                refine lv_aload_n hx hb dX12_idle_74 rfl (lv_at hl 3 rfl) ?_
                refine g_get cx hP iw_X12_idle_X12 0 rfl rfl 16 (by decide) rfl fw_X12_idle_32 rfl dX12_idle_75 ?_
                refine lv_iload hx hb dX12_idle_78 (lv_at hl 1 rfl) ?_
                have hn62 : vp_in v34 50 := f_in (a := v34.toInt) rfl (by omega) (by omega)
                refine va_lald hx hb cx.2.1 hP 8 1 rfl rfl hn62 dX12_idle_80 (lv_topl (fun v63 e63 => ?_))
                have qv63_ : v63.toInt = v48.toInt := congrArg Int64.toInt (e63.trans e48.symm)
                refine lv_lmul hx hb dX12_idle_81 (lv_topl (fun v64 e64 => ?_))
                refine lv_goto (tgt := 86) hx hb dX12_idle_82 (by decide) ?_
                refine lv_ladd hx hb dX12_idle_86 (lv_topl (fun v65 e65 => ?_))
                refine lv_lstore (lv' := [(4, .long v65), (7, .int r55), (6, .int v34), (0, .ref (qm 0)), (1, .int p0), (2, .int p1), (3, .int p2)]) hx hb dX12_idle_87 hl (by decide) rfl (fun ls hl => ?_)
                obtain ⟨v66, e66⟩ : ∃ z : Int32, z = v34 + 1 := ⟨_, rfl⟩
                refine lv_iinc (v := v66) (lv' := [(6, .int v66), (4, .long v65), (7, .int r55), (0, .ref (qm 0)), (1, .int p0), (2, .int p1), (3, .int p2)]) hx hb dX12_idle_89 hl (k := 2) rfl (by rw [e66]; rfl) (by decide) rfl (fun ls hl => ?_)
                have t66 : v66.toInt = v34.toInt + 1 := by rw [e66]; exact i_add rfl (by decide) (by omega) (by omega)
                refine lv_goto (tgt := 31) hx hb dX12_idle_92 (by decide) ?_
                exact ih31 v66 v65 _ _ _ (by omega) (by first | decide | omega) (LT_g hzrr31_1 (exl_X12_idle_5 e48 e49 e61 e63 e64 e65 e66 c37 c50 w56 c58)) hP hD hS (lv_sub hl [0, 1, 3, 4, 5, 6] rfl)
      have hlit67 : (0 : Int32).toInt = 0 := by decide
      have hlit68 : (0 : Int32).toInt = 0 := by decide
      exact hL31 (51) 0 0 _ _ _ (by omega) (by first | decide | omega) err31_1 hP hD hS (lv_sub hl [0, 1, 2, 3, 4, 5] rfl)
    · have f14 : r9.toInt = 0 := f_eq rfl (by decide) c14
      refine lv_ldc2 (v := (-1)) hx hb cx.1.2.2.2.1 (cx.1.2.2.2.2 _ kJ_X12_idle_221) dX12_idle_15 ?_
      rw [hQ]
      exact x_l cx hr ((tm 8), (tm 9)) hP hD hS (show (((-1) : Int64), (tm 8), (tm 9)) = J_X12_idle sm tm p0 p1 p2 from (exl_X12_idle_6 w5 c7 w12 c14)) dX12_idle_18
theorem fw_X12_there_13 : Cond.fieldLink RX12 13 "StillInAugustModel" "house" "[I" ∈ wsX12_there := by decide +kernel
theorem fw_X12_there_32 : Cond.fieldLink RX12 32 "StillInAugustModel" "likely" "[J" ∈ wsX12_there := by decide +kernel
theorem kJ_X12_there_206 : Cond.constantLong RX12 206 (-2) ∈ wsX12_there := by decide +kernel
theorem kJ_X12_there_221 : Cond.constantLong RX12 221 (-1) ∈ wsX12_there := by decide +kernel
theorem kJ_X12_there_69 : Cond.constantLong RX12 69 (4) ∈ wsX12_there := by decide +kernel
theorem iw_X12_there_X12 : ∀ w ∈ u_ws RX12 TX12 33, w ∈ wsX12_there := fun _ h => List.mem_cons_of_mem _ (List.mem_append_right _ h)
def B_X12_there_57 (sm : Nat → Nat → Int32) (tm : Nat → Nat → Int64) (p0 : Int32) (p1 : Int32) (p2 : Int32) (p3 : Int32) (y6 : Int32) (y13 : Int32) (y25 : (Nat → Int64) × (Nat → Int64)) (z : Int32 × Int64) : Sum (Int32 × Int64) (Int64 × (Nat → Int64) × (Nat → Int64)) := let v33 := (z.1); let v34 := (z.2); if 50 ≤ v33 then LetF (J_X12_parts p1) (fun y41 => LetF (J_X12_told v34 y41 p3) (fun y45 => Sum.inr ((y45, (y25.1), (y25.2))))) else if (J_X12_all v33) = p2 then Sum.inl (((v33 + 1), (v34 + ((y25.1) (v33).toNatClampNeg)))) else Sum.inl (((v33 + 1), (v34 + (0 : Int64))))
def B_X12_there_57_2 (sm : Nat → Nat → Int32) (tm : Nat → Nat → Int64) (p0 : Int32) (p1 : Int32) (p2 : Int32) (p3 : Int32) (y6 : Int32) (y13 : Int32) (y71 : (Nat → Int64) × (Nat → Int64)) (z : Int32 × Int64) : Sum (Int32 × Int64) (Int64 × (Nat → Int64) × (Nat → Int64)) := let v79 := (z.1); let v80 := (z.2); if 50 ≤ v79 then LetF (J_X12_parts p1) (fun y87 => LetF (J_X12_told v80 y87 p3) (fun y91 => Sum.inr ((y91, (y71.1), (y71.2))))) else if (J_X12_all v79) = p2 then Sum.inl (((v79 + 1), (v80 + ((y71.1) (v79).toNatClampNeg)))) else Sum.inl (((v79 + 1), (v80 + (0 : Int64))))
def J_X12_there (sm : Nat → Nat → Int32) (tm : Nat → Nat → Int64) (p0 : Int32) (p1 : Int32) (p2 : Int32) (p3 : Int32) : Int64 × (Nat → Int64) × (Nat → Int64) := LetF (J_X12_isRule p0) (fun y6 => if y6 = 0 then (((-1) : Int64), (tm 8), (tm 9)) else LetF (J_X12_isWeek sm tm p1) (fun y13 => if y13 = 0 then if p1 = ((sm 2) (0 : Int32).toNatClampNeg) then if (J_X12_in (p2.toInt64) 0 4) = 0 then (((-2) : Int64), (tm 8), (tm 9)) else LetF (J_X12_layLikely sm tm p0 p1) (fun y71 => LTs default (B_X12_there_57_2 sm tm p0 p1 p2 p3 y6 y13 y71) 51 ((0 : Int32), (0 : Int64))) else (((-1) : Int64), (tm 8), (tm 9)) else if (J_X12_in (p2.toInt64) 0 4) = 0 then (((-2) : Int64), (tm 8), (tm 9)) else LetF (J_X12_layLikely sm tm p0 p1) (fun y25 => LTs default (B_X12_there_57 sm tm p0 p1 p2 p3 y6 y13 y25) 51 ((0 : Int32), (0 : Int64)))))
theorem exl_X12_there_0 {sm : Nat → Nat → Int32} {tm : Nat → Nat → Int64} {p0 : Int32} {p1 : Int32} {p2 : Int32} {p3 : Int32} {r2 : Int32} (w5 : r2 = J_X12_isRule p0) (c7 : r2 = (0 : Int32)) : (((-1) : Int64), (tm 8), (tm 9)) = J_X12_there sm tm p0 p1 p2 p3 := by refine Eq.symm ?_; unfold J_X12_there; refine lt_e w5 ?_; refine Eq.trans (if_pos c7) ?_; rfl
theorem exl_X12_there_1 {sm : Nat → Nat → Int32} {tm : Nat → Nat → Int64} {p0 : Int32} {p1 : Int32} {p2 : Int32} {p3 : Int32} {r2 : Int32} {r9 : Int32} {m22 : Nat → Int64} {m23 : Nat → Int64} {v15 : Int64} {r17 : Int32} (e15 : v15 = (p2 : Int32).toInt64) (w18 : r17 = J_X12_in v15 (0 : Int64) (4 : Int64)) (w5 : r2 = J_X12_isRule p0) (c7 : ¬ (r2 = (0 : Int32))) (w12 : r9 = J_X12_isWeek sm tm p1) (c14 : ¬ (r9 = (0 : Int32))) (c19 : ¬ (r17 = (0 : Int32))) (w24 : (m22, m23) = J_X12_layLikely sm tm p0 p1) : J_X12_there sm tm p0 p1 p2 p3 = LTs (default : Int64 × (Nat → Int64) × (Nat → Int64)) (B_X12_there_57 sm tm p0 p1 p2 p3 r2 r9 (m22, m23)) 51 ((0 : Int32), (0 : Int64)) := by subst e15 w18; unfold J_X12_there; refine lt_e w5 ?_; refine Eq.trans (if_neg c7) ?_; refine lt_e w12 ?_; refine Eq.trans (if_neg c14) ?_; refine Eq.trans (if_neg c19) ?_; refine lt_e w24 ?_; rfl
theorem exl_X12_there_2 {sm : Nat → Nat → Int32} {tm : Nat → Nat → Int64} {p0 : Int32} {p1 : Int32} {p2 : Int32} {p3 : Int32} {r2 : Int32} {r9 : Int32} {m22 : Nat → Int64} {m23 : Nat → Int64} {v33 : Int32} {v34 : Int64} {r43 : Int64} {r38 : Int64} (c36 : (50 : Int32) ≤ v33) (w40 : r38 = J_X12_parts p1) (w44 : r43 = J_X12_told v34 r38 p3) : (B_X12_there_57 sm tm p0 p1 p2 p3 r2 r9 (m22, m23)) (v33, v34) = Sum.inr ((r43, m22, m23)) := by unfold B_X12_there_57; refine Eq.trans (if_pos c36) ?_; refine lt_e w40 ?_; refine lt_e w44 ?_; rfl
theorem exl_X12_there_3 {sm : Nat → Nat → Int32} {tm : Nat → Nat → Int64} {p0 : Int32} {p1 : Int32} {p2 : Int32} {p3 : Int32} {r2 : Int32} {r9 : Int32} {m22 : Nat → Int64} {m23 : Nat → Int64} {v33 : Int32} {v34 : Int64} {v51 : Int32} {v50 : Int64} {r47 : Int32} (w48 : r47 = J_X12_all v33) (e50 : v50 = (v34 + (0 : Int64))) (e51 : v51 = v33 + 1) (c36 : ¬ ((50 : Int32) ≤ v33)) (c49 : ¬ (r47 = p2)) : (B_X12_there_57 sm tm p0 p1 p2 p3 r2 r9 (m22, m23)) (v33, v34) = Sum.inl (v51, v50) := by subst w48 e50 e51; unfold B_X12_there_57; refine Eq.trans (if_neg c36) ?_; refine Eq.trans (if_neg c49) ?_; rfl
theorem exl_X12_there_4 {sm : Nat → Nat → Int32} {tm : Nat → Nat → Int64} {p0 : Int32} {p1 : Int32} {p2 : Int32} {p3 : Int32} {r2 : Int32} {r9 : Int32} {m22 : Nat → Int64} {m23 : Nat → Int64} {v33 : Int32} {v34 : Int64} {v55 : Int32} {v54 : Int64} {r47 : Int32} {v53 : Int64} (w48 : r47 = J_X12_all v33) (e53 : v53 = (m22 (v33).toNatClampNeg)) (e54 : v54 = (v34 + v53)) (e55 : v55 = v33 + 1) (c36 : ¬ ((50 : Int32) ≤ v33)) (c49 : r47 = p2) : (B_X12_there_57 sm tm p0 p1 p2 p3 r2 r9 (m22, m23)) (v33, v34) = Sum.inl (v55, v54) := by subst w48 e53 e54 e55; unfold B_X12_there_57; refine Eq.trans (if_neg c36) ?_; refine Eq.trans (if_pos c49) ?_; rfl
theorem exl_X12_there_5 {sm : Nat → Nat → Int32} {tm : Nat → Nat → Int64} {p0 : Int32} {p1 : Int32} {p2 : Int32} {p3 : Int32} {v15 : Int64} {r17 : Int32} {r2 : Int32} {r9 : Int32} (e15 : v15 = (p2 : Int32).toInt64) (w18 : r17 = J_X12_in v15 (0 : Int64) (4 : Int64)) (w5 : r2 = J_X12_isRule p0) (c7 : ¬ (r2 = (0 : Int32))) (w12 : r9 = J_X12_isWeek sm tm p1) (c14 : ¬ (r9 = (0 : Int32))) (c19 : r17 = (0 : Int32)) : (((-2) : Int64), (tm 8), (tm 9)) = J_X12_there sm tm p0 p1 p2 p3 := by subst e15 w18; refine Eq.symm ?_; unfold J_X12_there; refine lt_e w5 ?_; refine Eq.trans (if_neg c7) ?_; refine lt_e w12 ?_; refine Eq.trans (if_neg c14) ?_; refine Eq.trans (if_pos c19) ?_; rfl
theorem exl_X12_there_6 {sm : Nat → Nat → Int32} {tm : Nat → Nat → Int64} {p0 : Int32} {p1 : Int32} {p2 : Int32} {p3 : Int32} {r2 : Int32} {r9 : Int32} {m68 : Nat → Int64} {m69 : Nat → Int64} {v59 : Int32} {v61 : Int64} {r63 : Int32} (e59 : v59 = ((sm 2) ((0 : Int32).toNatClampNeg))) (e61 : v61 = (p2 : Int32).toInt64) (w64 : r63 = J_X12_in v61 (0 : Int64) (4 : Int64)) (w5 : r2 = J_X12_isRule p0) (c7 : ¬ (r2 = (0 : Int32))) (w12 : r9 = J_X12_isWeek sm tm p1) (c14 : r9 = (0 : Int32)) (c60 : p1 = v59) (c65 : ¬ (r63 = (0 : Int32))) (w70 : (m68, m69) = J_X12_layLikely sm tm p0 p1) : J_X12_there sm tm p0 p1 p2 p3 = LTs (default : Int64 × (Nat → Int64) × (Nat → Int64)) (B_X12_there_57_2 sm tm p0 p1 p2 p3 r2 r9 (m68, m69)) 51 ((0 : Int32), (0 : Int64)) := by subst e59 e61 w64; unfold J_X12_there; refine lt_e w5 ?_; refine Eq.trans (if_neg c7) ?_; refine lt_e w12 ?_; refine Eq.trans (if_pos c14) ?_; refine Eq.trans (if_pos c60) ?_; refine Eq.trans (if_neg c65) ?_; refine lt_e w70 ?_; rfl
theorem exl_X12_there_7 {sm : Nat → Nat → Int32} {tm : Nat → Nat → Int64} {p0 : Int32} {p1 : Int32} {p2 : Int32} {p3 : Int32} {r2 : Int32} {r9 : Int32} {m68 : Nat → Int64} {m69 : Nat → Int64} {v79 : Int32} {v80 : Int64} {r89 : Int64} {r84 : Int64} (c82 : (50 : Int32) ≤ v79) (w86 : r84 = J_X12_parts p1) (w90 : r89 = J_X12_told v80 r84 p3) : (B_X12_there_57_2 sm tm p0 p1 p2 p3 r2 r9 (m68, m69)) (v79, v80) = Sum.inr ((r89, m68, m69)) := by unfold B_X12_there_57_2; refine Eq.trans (if_pos c82) ?_; refine lt_e w86 ?_; refine lt_e w90 ?_; rfl
theorem exl_X12_there_8 {sm : Nat → Nat → Int32} {tm : Nat → Nat → Int64} {p0 : Int32} {p1 : Int32} {p2 : Int32} {p3 : Int32} {r2 : Int32} {r9 : Int32} {m68 : Nat → Int64} {m69 : Nat → Int64} {v79 : Int32} {v80 : Int64} {v97 : Int32} {v96 : Int64} {r93 : Int32} (w94 : r93 = J_X12_all v79) (e96 : v96 = (v80 + (0 : Int64))) (e97 : v97 = v79 + 1) (c82 : ¬ ((50 : Int32) ≤ v79)) (c95 : ¬ (r93 = p2)) : (B_X12_there_57_2 sm tm p0 p1 p2 p3 r2 r9 (m68, m69)) (v79, v80) = Sum.inl (v97, v96) := by subst w94 e96 e97; unfold B_X12_there_57_2; refine Eq.trans (if_neg c82) ?_; refine Eq.trans (if_neg c95) ?_; rfl
theorem exl_X12_there_9 {sm : Nat → Nat → Int32} {tm : Nat → Nat → Int64} {p0 : Int32} {p1 : Int32} {p2 : Int32} {p3 : Int32} {r2 : Int32} {r9 : Int32} {m68 : Nat → Int64} {m69 : Nat → Int64} {v79 : Int32} {v80 : Int64} {v101 : Int32} {v100 : Int64} {r93 : Int32} {v99 : Int64} (w94 : r93 = J_X12_all v79) (e99 : v99 = (m68 (v79).toNatClampNeg)) (e100 : v100 = (v80 + v99)) (e101 : v101 = v79 + 1) (c82 : ¬ ((50 : Int32) ≤ v79)) (c95 : r93 = p2) : (B_X12_there_57_2 sm tm p0 p1 p2 p3 r2 r9 (m68, m69)) (v79, v80) = Sum.inl (v101, v100) := by subst w94 e99 e100 e101; unfold B_X12_there_57_2; refine Eq.trans (if_neg c82) ?_; refine Eq.trans (if_pos c95) ?_; rfl
theorem exl_X12_there_10 {sm : Nat → Nat → Int32} {tm : Nat → Nat → Int64} {p0 : Int32} {p1 : Int32} {p2 : Int32} {p3 : Int32} {v59 : Int32} {v61 : Int64} {r63 : Int32} {r2 : Int32} {r9 : Int32} (e59 : v59 = ((sm 2) ((0 : Int32).toNatClampNeg))) (e61 : v61 = (p2 : Int32).toInt64) (w64 : r63 = J_X12_in v61 (0 : Int64) (4 : Int64)) (w5 : r2 = J_X12_isRule p0) (c7 : ¬ (r2 = (0 : Int32))) (w12 : r9 = J_X12_isWeek sm tm p1) (c14 : r9 = (0 : Int32)) (c60 : p1 = v59) (c65 : r63 = (0 : Int32)) : (((-2) : Int64), (tm 8), (tm 9)) = J_X12_there sm tm p0 p1 p2 p3 := by subst e59 e61 w64; refine Eq.symm ?_; unfold J_X12_there; refine lt_e w5 ?_; refine Eq.trans (if_neg c7) ?_; refine lt_e w12 ?_; refine Eq.trans (if_pos c14) ?_; refine Eq.trans (if_pos c60) ?_; refine Eq.trans (if_pos c65) ?_; rfl
theorem exl_X12_there_11 {sm : Nat → Nat → Int32} {tm : Nat → Nat → Int64} {p0 : Int32} {p1 : Int32} {p2 : Int32} {p3 : Int32} {v59 : Int32} {r2 : Int32} {r9 : Int32} (e59 : v59 = ((sm 2) ((0 : Int32).toNatClampNeg))) (w5 : r2 = J_X12_isRule p0) (c7 : ¬ (r2 = (0 : Int32))) (w12 : r9 = J_X12_isWeek sm tm p1) (c14 : r9 = (0 : Int32)) (c60 : ¬ (p1 = v59)) : (((-1) : Int64), (tm 8), (tm 9)) = J_X12_there sm tm p0 p1 p2 p3 := by subst e59; refine Eq.symm ?_; unfold J_X12_there; refine lt_e w5 ?_; refine Eq.trans (if_neg c7) ?_; refine lt_e w12 ?_; refine Eq.trans (if_pos c14) ?_; refine Eq.trans (if_neg c60) ?_; rfl
set_option maxHeartbeats 4000000 in
set_option maxRecDepth 100000 in
theorem c_X12_there (l : Launch) (D : va_G) (k : Nat → ClassId) (b : Nat → Nat) (qm : Nat → Nat) (sm : Nat → Nat → Int32) (tm : Nat → Nat → Int64) (sz : Nat) (p0 : Int32) (p1 : Int32) (p2 : Int32) (p3 : Int32) (h_w0 : 0 ≤ (sm 2 0).toInt ∧ (sm 2 0).toInt ≤ 5) (h_k1 : 0 ≤ (sm 2 1).toInt ∧ (sm 2 1).toInt ≤ 4) : MetL l D k b yX12_there wsX12_there ({ frames := 4, cells := 0, slots := 0, locals := 101 } : Room) [cell22_ qm sm tm, cell5_ k qm sm, cell13_ k qm sm, cell8_ k qm sm, cell6_ k qm sm, cell15_ k qm sm, cell14_ k qm tm, cell12_ k qm tm, cell18_ k qm tm, cell17_ k qm tm, cell19_ k qm tm, cell21_ k qm tm, cell20_ k qm sm, cell16_ k qm sm, cell11_ k qm sm, cell10_ k qm sm, cell9_ k qm sm, cell7_ k qm sm] sz [.ref (qm 0), .int p0, .int p1, .int p2, .int p3] (fun (r : Int64) (u : (Nat → Int64) × (Nat → Int64)) => (r, (u.1), (u.2)) = J_X12_there sm tm p0 p1 p2 p3) (fun u => [cell22_ qm sm tm, cell5_ k qm sm, cell13_ k qm sm, cell8_ k qm sm, cell6_ k qm sm, cell15_ k qm sm, cell14_ k qm tm, cell12_ k qm tm, cell142_ k qm (u.1), cell143_ k qm (u.2), cell19_ k qm tm, cell21_ k qm tm, cell20_ k qm sm, cell16_ k qm sm, cell11_ k qm sm, cell10_ k qm sm, cell9_ k qm sm, cell7_ k qm sm]) := by
  refine g_enter (cc := cX12_there) (maxL := 8) (ret := (some .long)) (by decide) rfl (Nat.le_of_ble_eq_true rfl) ?_
  intro p e s m below meth c A hsz hAe cx hr hP hD hS ls hl
  rw [hAe]
  refine g_q (fun Q hQ => ?_)
  have hx := cx.1.1
  have hb := cx.1.2.1
  have bp0 := i_rng p0
  have bp1 := i_rng p1
  have bp2 := i_rng p2
  have bp3 := i_rng p3
  have hl : lv_has ls 8 [(0, .ref (qm 0)), (1, .int p0), (2, .int p1), (3, .int p2), (4, .int p3)] := hl
  obtain ⟨H, eH⟩ : ∃ H : Heap, H = s.heap := ⟨_, rfl⟩
  obtain ⟨locs, el⟩ : ∃ L : List Loc, L = [] := ⟨_, rfl⟩
  have hP : va_P D vwCl [cell22_ qm sm tm, cell5_ k qm sm, cell13_ k qm sm, cell8_ k qm sm, cell6_ k qm sm, cell15_ k qm sm, cell14_ k qm tm, cell12_ k qm tm, cell18_ k qm tm, cell17_ k qm tm, cell19_ k qm tm, cell21_ k qm tm, cell20_ k qm sm, cell16_ k qm sm, cell11_ k qm sm, cell10_ k qm sm, cell9_ k qm sm, cell7_ k qm sm] H := by rw [eH]; exact hP
  have hD : va_D A [cell22_ qm sm tm, cell5_ k qm sm, cell13_ k qm sm, cell8_ k qm sm, cell6_ k qm sm, cell15_ k qm sm, cell14_ k qm tm, cell12_ k qm tm, cell18_ k qm tm, cell17_ k qm tm, cell19_ k qm tm, cell21_ k qm tm, cell20_ k qm sm, cell16_ k qm sm, cell11_ k qm sm, cell10_ k qm sm, cell9_ k qm sm, cell7_ k qm sm] := hD
  have hS : va_S A s.heap H locs := by rw [eH, el]; exact hS
  suffices goal : W p l e ({ frames := 4, cells := 0, slots := 0, locals := 101 } : Room) s m ([.ref (qm 0), .int p0, .int p1, .int p2, .int p3] : List Value).toArray below meth c H locs 0 0 Q (F0 m 0 ls []) by rw [eH, el] at goal; exact goal
  refine lv_iload_n hx hb dX12_there_0 rfl (lv_at hl 1 rfl) ?_
  refine g_ir (g_runS (wc := []) (rest := []) cx hP hD hS [] rfl (by decide) [.int p0] (c_X12_isRule l D k b H.size p0) gX12_there_X12_isRule rfl rfl rfl nd_X12_isRule ⟨Nat.le_of_ble_eq_true rfl, Nat.le_of_ble_eq_true rfl⟩ rfl hl.1 rfl (Nat.le_of_ble_eq_true rfl) ⟨Nat.zero_le _, Nat.zero_le _⟩ dX12_there_1) cx.2.2.1 hP hD hS [] rfl rfl (fun r2 H locs hw1 hP hS => ?_)
  replace hw1 : (0 ≤ r2.toInt ∧ r2.toInt ≤ 1) ∧ (Imp (r2.toInt = 1) (0 ≤ p0.toInt ∧ p0.toInt ≤ 2)) ∧ (r2 = J_X12_isRule p0) := hw1
  obtain ⟨w3, w4, w5⟩ := hw1
  have zr2 : 0 ≤ r2.toInt ∧ r2.toInt ≤ 1 := w3
  refine lv_if_eq (tgt := 25) hx hb dX12_there_4 (by decide) (fun c7 => ?_) (fun c7 => ?_)
  · have f7 : r2.toInt = 0 := f_eq rfl (by decide) c7
    refine lv_ldc2 (v := (-1)) hx hb cx.1.2.2.2.1 (cx.1.2.2.2.2 _ kJ_X12_there_221) dX12_there_25 ?_
    rw [hQ]
    exact x_l cx hr ((tm 8), (tm 9)) hP hD hS (show (((-1) : Int64), (tm 8), (tm 9)) = J_X12_there sm tm p0 p1 p2 p3 from (exl_X12_there_0 w5 c7)) dX12_there_28
  · have f7 : ¬ r2.toInt = 0 := f_ne rfl (by decide) c7
    have k7 : (0 ≤ p0.toInt ∧ p0.toInt ≤ 2) := w4 (by omega)
    refine lv_aload_n hx hb dX12_there_7 rfl (lv_at hl 0 rfl) ?_
    refine lv_iload_n hx hb dX12_there_8 rfl (lv_at hl 2 rfl) ?_
    refine g_iF (w1 := fun (_ : Unit) => [cell22_ qm sm tm, cell5_ k qm sm, cell13_ k qm sm, cell8_ k qm sm, cell6_ k qm sm, cell15_ k qm sm, cell14_ k qm tm, cell12_ k qm tm, cell18_ k qm tm, cell17_ k qm tm, cell19_ k qm tm, cell21_ k qm tm, cell20_ k qm sm, cell16_ k qm sm, cell11_ k qm sm, cell10_ k qm sm, cell9_ k qm sm, cell7_ k qm sm]) (g_runVF (ws := [cell22_ qm sm tm, cell5_ k qm sm, cell13_ k qm sm, cell8_ k qm sm, cell6_ k qm sm, cell15_ k qm sm, cell14_ k qm tm, cell12_ k qm tm, cell18_ k qm tm, cell17_ k qm tm, cell19_ k qm tm, cell21_ k qm tm, cell20_ k qm sm, cell16_ k qm sm, cell11_ k qm sm, cell10_ k qm sm, cell9_ k qm sm, cell7_ k qm sm]) (rest := []) cx hP hD hS [.int p1] (c_X12_isWeek l D k b qm sm tm H.size p1 (show 0 ≤ ((sm 2) 0).toInt ∧ ((sm 2) 0).toInt ≤ 5 from by first | decide | omega)) gX12_there_X12_isWeek rfl rfl rfl nd_X12_isWeek ⟨Nat.le_of_ble_eq_true rfl, Nat.le_of_ble_eq_true rfl⟩ (ci := 10) (q0 := 0) rfl rfl rfl hl.1 rfl (Nat.le_of_ble_eq_true rfl) ⟨Nat.zero_le _, Nat.zero_le _⟩ dX12_there_9) cx.2.2.1 hD hS (fun r9 _ H locs hw8 hP hD hS => ?_)
    replace hw8 : (0 ≤ r9.toInt ∧ r9.toInt ≤ 1) ∧ (Imp (r9.toInt = 1) (0 ≤ p1.toInt ∧ p1.toInt ≤ 4)) ∧ (r9 = J_X12_isWeek sm tm p1) := hw8
    obtain ⟨w10, w11, w12⟩ := hw8
    have zr9 : 0 ≤ r9.toInt ∧ r9.toInt ≤ 1 := w10
    refine lv_if_ne (tgt := 29) hx hb dX12_there_12 (by decide) (fun c14 => ?_) (fun c14 => ?_)
    · have f14 : ¬ r9.toInt = 0 := f_ne rfl (by decide) c14
      have k14 : (0 ≤ p1.toInt ∧ p1.toInt ≤ 4) := w11 (by omega)
      refine lv_iload_n hx hb dX12_there_29 rfl (lv_at hl 3 rfl) ?_
      obtain ⟨v15, e15⟩ : ∃ z : Int64, z = (p2 : Int32).toInt64 := ⟨_, rfl⟩
      refine lv_i2l (v := v15) hx hb dX12_there_30 e15.symm ?_
      refine lv_lconst (v := 0) hx hb dX12_there_31 (by decide) ?_
      refine lv_ldc2 (v := 4) hx hb cx.1.2.2.2.1 (cx.1.2.2.2.2 _ kJ_X12_there_69) dX12_there_32 ?_
      refine g_ir (g_runS (wc := []) (rest := []) cx hP hD hS [] rfl (by decide) [.long v15, .long 0, .long 4] (c_X12_in l D k b H.size v15 0 4) gX12_there_X12_in rfl rfl rfl nd_X12_in ⟨Nat.le_of_ble_eq_true rfl, Nat.le_of_ble_eq_true rfl⟩ rfl hl.1 rfl (Nat.le_of_ble_eq_true rfl) ⟨Nat.zero_le _, Nat.zero_le _⟩ dX12_there_35) cx.2.2.1 hP hD hS [] rfl rfl (fun r17 H locs hw16 hP hS => ?_)
      have w18 : r17 = J_X12_in v15 (0 : Int64) (4 : Int64) := hw16
      clear hw16
      have zr17 := in_b w18
      refine lv_if_ne (tgt := 45) hx hb dX12_there_38 (by decide) (fun c19 => ?_) (fun c19 => ?_)
      · have f19 : ¬ r17.toInt = 0 := f_ne rfl (by decide) c19
        have k19 : 0 ≤ p2.toInt ∧ p2.toInt ≤ 4 := in_t (i2l_t rfl e15) (by decide) (by decide) w18 c19
        refine lv_aload_n hx hb dX12_there_45 rfl (lv_at hl 0 rfl) ?_
        refine lv_iload_n hx hb dX12_there_46 rfl (lv_at hl 1 rfl) ?_
        refine lv_iload_n hx hb dX12_there_47 rfl (lv_at hl 2 rfl) ?_
        refine g_vF (w1 := fun (u : (Nat → Int64) × (Nat → Int64)) => [cell22_ qm sm tm, cell5_ k qm sm, cell13_ k qm sm, cell8_ k qm sm, cell6_ k qm sm, cell15_ k qm sm, cell14_ k qm tm, cell12_ k qm tm, cell142_ k qm (u.1), cell143_ k qm (u.2), cell19_ k qm tm, cell21_ k qm tm, cell20_ k qm sm, cell16_ k qm sm, cell11_ k qm sm, cell10_ k qm sm, cell9_ k qm sm, cell7_ k qm sm]) (g_runVF (ws := [cell22_ qm sm tm, cell5_ k qm sm, cell13_ k qm sm, cell8_ k qm sm, cell6_ k qm sm, cell15_ k qm sm, cell14_ k qm tm, cell12_ k qm tm, cell18_ k qm tm, cell17_ k qm tm, cell19_ k qm tm, cell21_ k qm tm, cell20_ k qm sm, cell16_ k qm sm, cell11_ k qm sm, cell10_ k qm sm, cell9_ k qm sm, cell7_ k qm sm]) (rest := []) cx hP hD hS [.int p0, .int p1] (c_X12_layLikely l D k b qm sm tm H.size p0 p1 (show 0 ≤ ((sm 2) 0).toInt ∧ ((sm 2) 0).toInt ≤ 5 from by first | decide | omega) (show 0 ≤ ((sm 2) 1).toInt ∧ ((sm 2) 1).toInt ≤ 4 from by first | decide | omega) (show 0 ≤ p0.toInt ∧ p0.toInt ≤ 2 from by first | decide | omega) (show 0 ≤ p1.toInt ∧ p1.toInt ≤ 5 from by first | decide | omega)) gX12_there_X12_layLikely rfl rfl rfl nd_X12_layLikely ⟨Nat.le_of_ble_eq_true rfl, Nat.le_of_ble_eq_true rfl⟩ (ci := 10) (q0 := 0) rfl rfl rfl hl.1 rfl (Nat.le_of_ble_eq_true rfl) ⟨Nat.zero_le _, Nat.zero_le _⟩ dX12_there_48) cx.2.2.1 hD hS (fun u21 H locs hw20 hP hD hS => ?_)
        obtain ⟨m22, m23⟩ := u21
        have hP : va_P D vwCl [cell22_ qm sm tm, cell5_ k qm sm, cell13_ k qm sm, cell8_ k qm sm, cell6_ k qm sm, cell15_ k qm sm, cell14_ k qm tm, cell12_ k qm tm, (qm 8, .inl (k 1, 50, .inr (.inl m22))), (qm 9, .inl (k 1, 50, .inr (.inl m23))), cell19_ k qm tm, cell21_ k qm tm, cell20_ k qm sm, cell16_ k qm sm, cell11_ k qm sm, cell10_ k qm sm, cell9_ k qm sm, cell7_ k qm sm] H := hP
        have hD : va_D A [cell22_ qm sm tm, cell5_ k qm sm, cell13_ k qm sm, cell8_ k qm sm, cell6_ k qm sm, cell15_ k qm sm, cell14_ k qm tm, cell12_ k qm tm, (qm 8, .inl (k 1, 50, .inr (.inl m22))), (qm 9, .inl (k 1, 50, .inr (.inl m23))), cell19_ k qm tm, cell21_ k qm tm, cell20_ k qm sm, cell16_ k qm sm, cell11_ k qm sm, cell10_ k qm sm, cell9_ k qm sm, cell7_ k qm sm] := hD
        have w24 : (m22, m23) = J_X12_layLikely sm tm p0 p1 := hw20
        clear hw20
        refine lv_lconst (v := 0) hx hb dX12_there_51 (by decide) ?_
        refine lv_lstore (lv' := [(5, .long 0), (0, .ref (qm 0)), (1, .int p0), (2, .int p1), (3, .int p2), (4, .int p3)]) hx hb dX12_there_52 hl (by decide) rfl (fun ls hl => ?_)
        refine lv_iconst (v := 0) hx hb dX12_there_54 (by decide) ?_
        refine lv_istore (lv' := [(7, .int 0), (5, .long 0), (0, .ref (qm 0)), (1, .int p0), (2, .int p1), (3, .int p2), (4, .int p3)]) hx hb dX12_there_55 hl (by decide) rfl (fun ls hl => ?_)
        obtain ⟨rr57_1, err57_1⟩ : ∃ r : Int64 × (Nat → Int64) × (Nat → Int64), LTs (default : Int64 × (Nat → Int64) × (Nat → Int64)) (B_X12_there_57 sm tm p0 p1 p2 p3 r2 r9 (m22, m23)) 51 ((0 : Int32), (0 : Int64)) = r := ⟨_, rfl⟩
        have hrr57_1 : J_X12_there sm tm p0 p1 p2 p3 = rr57_1 := ((exl_X12_there_1 e15 w18 w5 c7 w12 c14 c19 w24)).trans err57_1
        have hL57 : ∀ (n35 : Nat) (v33 : Int32) (v34 : Int64) (H : Heap) (locs : List Loc) (ls : Array Slot), 50 - v33.toInt < (n35 : Int) → (0 ≤ v33.toInt ∧ v33.toInt ≤ 50) → (LTs (default : Int64 × (Nat → Int64) × (Nat → Int64)) (B_X12_there_57 sm tm p0 p1 p2 p3 r2 r9 (m22, m23)) n35 (v33, v34) = rr57_1) → va_P D vwCl [cell22_ qm sm tm, cell5_ k qm sm, cell13_ k qm sm, cell8_ k qm sm, cell6_ k qm sm, cell15_ k qm sm, cell14_ k qm tm, cell12_ k qm tm, (qm 8, .inl (k 1, 50, .inr (.inl m22))), (qm 9, .inl (k 1, 50, .inr (.inl m23))), cell19_ k qm tm, cell21_ k qm tm, cell20_ k qm sm, cell16_ k qm sm, cell11_ k qm sm, cell10_ k qm sm, cell9_ k qm sm, cell7_ k qm sm] H → va_D A [cell22_ qm sm tm, cell5_ k qm sm, cell13_ k qm sm, cell8_ k qm sm, cell6_ k qm sm, cell15_ k qm sm, cell14_ k qm tm, cell12_ k qm tm, (qm 8, .inl (k 1, 50, .inr (.inl m22))), (qm 9, .inl (k 1, 50, .inr (.inl m23))), cell19_ k qm tm, cell21_ k qm tm, cell20_ k qm sm, cell16_ k qm sm, cell11_ k qm sm, cell10_ k qm sm, cell9_ k qm sm, cell7_ k qm sm] → va_S A s.heap H locs → lv_has ls 8 [(7, .int v33), (5, .long v34), (0, .ref (qm 0)), (2, .int p1), (3, .int p2), (4, .int p3)] → W p l e ({ frames := 4, cells := 0, slots := 0, locals := 101 } : Room) s m ([.ref (qm 0), .int p0, .int p1, .int p2, .int p3] : List Value).toArray below meth c H locs 0 0 Q (F0 m 57 ls []) := by
          intro n35
          induction n35 with
          | zero => intro v33 v34 H locs ls hmn35 bv33 hzrr57_1 hP hD hS hl; exact absurd hmn35 (by omega)
          | succ n35 ih57 =>
            intro v33 v34 H locs ls hmn35 bv33 hzrr57_1 hP hD hS hl
            refine lv_iload hx hb dX12_there_57 (lv_at hl 0 rfl) ?_
            refine lv_bipush (v := 50) hx hb dX12_there_59 (by decide) ?_
            refine lv_icmp_ge (tgt := 95) hx hb dX12_there_61 (by decide) (fun c36 => ?_) (fun c36 => ?_)
            · have f36 : 50 ≤ v33.toInt := f_le (by decide) rfl c36
              refine lv_lload hx hb dX12_there_95 (lv_at hl 1 rfl) ?_
              refine lv_iload_n hx hb dX12_there_97 rfl (lv_at hl 3 rfl) ?_
              refine g_lr (g_runS (wc := []) (rest := [.long v34]) cx hP hD hS [] rfl (by decide) [.int p1] (c_X12_parts l D k b H.size p1) gX12_there_X12_parts rfl rfl rfl nd_X12_parts ⟨Nat.le_of_ble_eq_true rfl, Nat.le_of_ble_eq_true rfl⟩ rfl hl.1 rfl (Nat.le_of_ble_eq_true rfl) ⟨Nat.zero_le _, Nat.zero_le _⟩ dX12_there_98) cx.2.2.1 hP hD hS [] rfl rfl (fun r38 H locs hw37 hP hS => ?_)
              replace hw37 : (r38.toInt % 2 = 1) ∧ (r38 = J_X12_parts p1) := hw37
              obtain ⟨w39, w40⟩ := hw37
              refine lv_iload hx hb dX12_there_101 (lv_at hl 5 rfl) ?_
              refine g_lr (g_runS (wc := []) (rest := []) cx hP hD hS [] rfl (by decide) [.long v34, .long r38, .int p3] (c_X12_told l D k b H.size v34 r38 p3 (show ¬ r38.toInt = 0 from by first | decide | omega)) gX12_there_X12_told rfl rfl rfl nd_X12_told ⟨Nat.le_of_ble_eq_true rfl, Nat.le_of_ble_eq_true rfl⟩ rfl hl.1 rfl (Nat.le_of_ble_eq_true rfl) ⟨Nat.zero_le _, Nat.zero_le _⟩ dX12_there_103) cx.2.2.1 hP hD hS [] rfl rfl (fun r43 H locs hw42 hP hS => ?_)
              have w44 : r43 = J_X12_told v34 r38 p3 := hw42
              clear hw42
              rw [hQ]
              exact x_l cx hr (m22, m23) hP hD hS (show (r43, m22, m23) = J_X12_there sm tm p0 p1 p2 p3 from ((hrr57_1.trans (LT_r hzrr57_1 (exl_X12_there_2 c36 w40 w44)))).symm) dX12_there_106
            · have f36 : v33.toInt < 50 := f_nle (by decide) rfl c36
              refine lv_lload hx hb dX12_there_64 (lv_at hl 1 rfl) ?_
              refine lv_iload hx hb dX12_there_66 (lv_at hl 0 rfl) ?_
              refine g_ir (g_runS (wc := []) (rest := [.long v34]) cx hP hD hS [] rfl (by decide) [.int v33] (c_X12_all l D k b H.size v33) gX12_there_X12_all rfl rfl rfl nd_X12_all ⟨Nat.le_of_ble_eq_true rfl, Nat.le_of_ble_eq_true rfl⟩ rfl hl.1 rfl (Nat.le_of_ble_eq_true rfl) ⟨Nat.zero_le _, Nat.zero_le _⟩ dX12_there_68) cx.2.2.1 hP hD hS [] rfl rfl (fun r47 H locs hw46 hP hS => ?_)
              have w48 : r47 = J_X12_all v33 := hw46
              clear hw46
              have zr47 := all_t w48 (show 0 ≤ v33.toInt from by omega)
              refine lv_iload_n hx hb dX12_there_71 rfl (lv_at hl 4 rfl) ?_
              refine lv_icmp_ne (tgt := 85) hx hb dX12_there_72 (by decide) (fun c49 => ?_) (fun c49 => ?_)
              · have f49 : ¬ r47.toInt = p2.toInt := f_ne rfl rfl c49
                refine lv_lconst (v := 0) hx hb dX12_there_85 (by decide) ?_
                refine lv_ladd hx hb dX12_there_86 (lv_topl (fun v50 e50 => ?_))
                refine lv_lstore (lv' := [(5, .long v50), (7, .int v33), (0, .ref (qm 0)), (2, .int p1), (3, .int p2), (4, .int p3)]) hx hb dX12_there_87 hl (by decide) rfl (fun ls hl => ?_)
                obtain ⟨v51, e51⟩ : ∃ z : Int32, z = v33 + 1 := ⟨_, rfl⟩
                refine lv_iinc (v := v51) (lv' := [(7, .int v51), (5, .long v50), (0, .ref (qm 0)), (2, .int p1), (3, .int p2), (4, .int p3)]) hx hb dX12_there_89 hl (k := 1) rfl (by rw [e51]; rfl) (by decide) rfl (fun ls hl => ?_)
                have t51 : v51.toInt = v33.toInt + 1 := by rw [e51]; exact i_add rfl (by decide) (by omega) (by omega)
                refine lv_goto (tgt := 57) hx hb dX12_there_92 (by decide) ?_
                exact ih57 v51 v50 _ _ _ (by omega) (by first | decide | omega) (LT_g hzrr57_1 (exl_X12_there_3 w48 e50 e51 c36 c49)) hP hD hS (lv_sub hl [0, 1, 2, 3, 4, 5] rfl)
              · have f49 : r47.toInt = p2.toInt := f_eq rfl rfl c49
                refine lv_aload_n hx hb dX12_there_75 rfl (lv_at hl 2 rfl) ?_
                refine g_get cx hP iw_X12_there_X12 0 rfl rfl 16 (by decide) rfl fw_X12_there_32 rfl dX12_there_76 ?_
                refine lv_iload hx hb dX12_there_79 (lv_at hl 0 rfl) ?_
                have hn52 : vp_in v33 50 := f_in (a := v33.toInt) rfl (by omega) (by omega)
                refine va_lald hx hb cx.2.1 hP 8 1 rfl rfl hn52 dX12_there_81 (lv_topl (fun v53 e53 => ?_))
                refine lv_goto (tgt := 86) hx hb dX12_there_82 (by decide) ?_
                refine lv_ladd hx hb dX12_there_86 (lv_topl (fun v54 e54 => ?_))
                refine lv_lstore (lv' := [(5, .long v54), (7, .int v33), (0, .ref (qm 0)), (2, .int p1), (3, .int p2), (4, .int p3)]) hx hb dX12_there_87 hl (by decide) rfl (fun ls hl => ?_)
                obtain ⟨v55, e55⟩ : ∃ z : Int32, z = v33 + 1 := ⟨_, rfl⟩
                refine lv_iinc (v := v55) (lv' := [(7, .int v55), (5, .long v54), (0, .ref (qm 0)), (2, .int p1), (3, .int p2), (4, .int p3)]) hx hb dX12_there_89 hl (k := 1) rfl (by rw [e55]; rfl) (by decide) rfl (fun ls hl => ?_)
                have t55 : v55.toInt = v33.toInt + 1 := by rw [e55]; exact i_add rfl (by decide) (by omega) (by omega)
                refine lv_goto (tgt := 57) hx hb dX12_there_92 (by decide) ?_
                exact ih57 v55 v54 _ _ _ (by omega) (by first | decide | omega) (LT_g hzrr57_1 (exl_X12_there_4 w48 e53 e54 e55 c36 c49)) hP hD hS (lv_sub hl [0, 1, 2, 3, 4, 5] rfl)
        have hlit56 : (0 : Int32).toInt = 0 := by decide
        have hlit57 : (0 : Int32).toInt = 0 := by decide
        exact hL57 (51) 0 0 _ _ _ (by omega) (by first | decide | omega) err57_1 hP hD hS (lv_sub hl [0, 1, 2, 4, 5, 6] rfl)
      · have f19 : r17.toInt = 0 := f_eq rfl (by decide) c19
        have k19 : p2.toInt < 0 ∨ 4 < p2.toInt := in_f (i2l_t rfl e15) (by decide) (by decide) w18 c19
        refine lv_ldc2 (v := (-2)) hx hb cx.1.2.2.2.1 (cx.1.2.2.2.2 _ kJ_X12_there_206) dX12_there_41 ?_
        rw [hQ]
        exact x_l cx hr ((tm 8), (tm 9)) hP hD hS (show (((-2) : Int64), (tm 8), (tm 9)) = J_X12_there sm tm p0 p1 p2 p3 from (exl_X12_there_5 e15 w18 w5 c7 w12 c14 c19)) dX12_there_44
    · have f14 : r9.toInt = 0 := f_eq rfl (by decide) c14
      refine lv_iload_n hx hb dX12_there_15 rfl (lv_at hl 2 rfl) ?_
      refine lv_aload_n hx hb dX12_there_16 rfl (lv_at hl 0 rfl) ?_
      refine g_get cx hP iw_X12_there_X12 0 rfl rfl 1 (by decide) rfl fw_X12_there_13 rfl dX12_there_17 ?_
      refine lv_iconst (v := 0) hx hb dX12_there_20 (by decide) ?_
      have hn58 : vp_in 0 26 := f_in (a := 0) (by decide) (by omega) (by omega)
      refine va_iald hx hb cx.2.1 hP 2 0 rfl rfl hn58 dX12_there_21 (lv_topi (fun v59 e59 => ?_))
      have uv59 : v59.toInt = ((sm 2) 0).toInt := congrArg Int32.toInt e59
      have t59 : 0 ≤ v59.toInt ∧ v59.toInt ≤ 5 := by rw [e59]; exact h_w0
      refine lv_icmp_eq (tgt := 29) hx hb dX12_there_22 (by decide) (fun c60 => ?_) (fun c60 => ?_)
      · have f60 : p1.toInt = v59.toInt := f_eq rfl rfl c60
        refine lv_iload_n hx hb dX12_there_29 rfl (lv_at hl 3 rfl) ?_
        obtain ⟨v61, e61⟩ : ∃ z : Int64, z = (p2 : Int32).toInt64 := ⟨_, rfl⟩
        refine lv_i2l (v := v61) hx hb dX12_there_30 e61.symm ?_
        refine lv_lconst (v := 0) hx hb dX12_there_31 (by decide) ?_
        refine lv_ldc2 (v := 4) hx hb cx.1.2.2.2.1 (cx.1.2.2.2.2 _ kJ_X12_there_69) dX12_there_32 ?_
        refine g_ir (g_runS (wc := []) (rest := []) cx hP hD hS [] rfl (by decide) [.long v61, .long 0, .long 4] (c_X12_in l D k b H.size v61 0 4) gX12_there_X12_in rfl rfl rfl nd_X12_in ⟨Nat.le_of_ble_eq_true rfl, Nat.le_of_ble_eq_true rfl⟩ rfl hl.1 rfl (Nat.le_of_ble_eq_true rfl) ⟨Nat.zero_le _, Nat.zero_le _⟩ dX12_there_35) cx.2.2.1 hP hD hS [] rfl rfl (fun r63 H locs hw62 hP hS => ?_)
        have w64 : r63 = J_X12_in v61 (0 : Int64) (4 : Int64) := hw62
        clear hw62
        have zr63 := in_b w64
        refine lv_if_ne (tgt := 45) hx hb dX12_there_38 (by decide) (fun c65 => ?_) (fun c65 => ?_)
        · have f65 : ¬ r63.toInt = 0 := f_ne rfl (by decide) c65
          have k65 : 0 ≤ p2.toInt ∧ p2.toInt ≤ 4 := in_t (i2l_t rfl e61) (by decide) (by decide) w64 c65
          refine lv_aload_n hx hb dX12_there_45 rfl (lv_at hl 0 rfl) ?_
          refine lv_iload_n hx hb dX12_there_46 rfl (lv_at hl 1 rfl) ?_
          refine lv_iload_n hx hb dX12_there_47 rfl (lv_at hl 2 rfl) ?_
          refine g_vF (w1 := fun (u : (Nat → Int64) × (Nat → Int64)) => [cell22_ qm sm tm, cell5_ k qm sm, cell13_ k qm sm, cell8_ k qm sm, cell6_ k qm sm, cell15_ k qm sm, cell14_ k qm tm, cell12_ k qm tm, cell142_ k qm (u.1), cell143_ k qm (u.2), cell19_ k qm tm, cell21_ k qm tm, cell20_ k qm sm, cell16_ k qm sm, cell11_ k qm sm, cell10_ k qm sm, cell9_ k qm sm, cell7_ k qm sm]) (g_runVF (ws := [cell22_ qm sm tm, cell5_ k qm sm, cell13_ k qm sm, cell8_ k qm sm, cell6_ k qm sm, cell15_ k qm sm, cell14_ k qm tm, cell12_ k qm tm, cell18_ k qm tm, cell17_ k qm tm, cell19_ k qm tm, cell21_ k qm tm, cell20_ k qm sm, cell16_ k qm sm, cell11_ k qm sm, cell10_ k qm sm, cell9_ k qm sm, cell7_ k qm sm]) (rest := []) cx hP hD hS [.int p0, .int p1] (c_X12_layLikely l D k b qm sm tm H.size p0 p1 (show 0 ≤ ((sm 2) 0).toInt ∧ ((sm 2) 0).toInt ≤ 5 from by first | decide | omega) (show 0 ≤ ((sm 2) 1).toInt ∧ ((sm 2) 1).toInt ≤ 4 from by first | decide | omega) (show 0 ≤ p0.toInt ∧ p0.toInt ≤ 2 from by first | decide | omega) (show 0 ≤ p1.toInt ∧ p1.toInt ≤ 5 from by first | decide | omega)) gX12_there_X12_layLikely rfl rfl rfl nd_X12_layLikely ⟨Nat.le_of_ble_eq_true rfl, Nat.le_of_ble_eq_true rfl⟩ (ci := 10) (q0 := 0) rfl rfl rfl hl.1 rfl (Nat.le_of_ble_eq_true rfl) ⟨Nat.zero_le _, Nat.zero_le _⟩ dX12_there_48) cx.2.2.1 hD hS (fun u67 H locs hw66 hP hD hS => ?_)
          obtain ⟨m68, m69⟩ := u67
          have hP : va_P D vwCl [cell22_ qm sm tm, cell5_ k qm sm, cell13_ k qm sm, cell8_ k qm sm, cell6_ k qm sm, cell15_ k qm sm, cell14_ k qm tm, cell12_ k qm tm, (qm 8, .inl (k 1, 50, .inr (.inl m68))), (qm 9, .inl (k 1, 50, .inr (.inl m69))), cell19_ k qm tm, cell21_ k qm tm, cell20_ k qm sm, cell16_ k qm sm, cell11_ k qm sm, cell10_ k qm sm, cell9_ k qm sm, cell7_ k qm sm] H := hP
          have hD : va_D A [cell22_ qm sm tm, cell5_ k qm sm, cell13_ k qm sm, cell8_ k qm sm, cell6_ k qm sm, cell15_ k qm sm, cell14_ k qm tm, cell12_ k qm tm, (qm 8, .inl (k 1, 50, .inr (.inl m68))), (qm 9, .inl (k 1, 50, .inr (.inl m69))), cell19_ k qm tm, cell21_ k qm tm, cell20_ k qm sm, cell16_ k qm sm, cell11_ k qm sm, cell10_ k qm sm, cell9_ k qm sm, cell7_ k qm sm] := hD
          have w70 : (m68, m69) = J_X12_layLikely sm tm p0 p1 := hw66
          clear hw66
          refine lv_lconst (v := 0) hx hb dX12_there_51 (by decide) ?_
          refine lv_lstore (lv' := [(5, .long 0), (0, .ref (qm 0)), (1, .int p0), (2, .int p1), (3, .int p2), (4, .int p3)]) hx hb dX12_there_52 hl (by decide) rfl (fun ls hl => ?_)
          refine lv_iconst (v := 0) hx hb dX12_there_54 (by decide) ?_
          refine lv_istore (lv' := [(7, .int 0), (5, .long 0), (0, .ref (qm 0)), (1, .int p0), (2, .int p1), (3, .int p2), (4, .int p3)]) hx hb dX12_there_55 hl (by decide) rfl (fun ls hl => ?_)
          obtain ⟨rr57_2, err57_2⟩ : ∃ r : Int64 × (Nat → Int64) × (Nat → Int64), LTs (default : Int64 × (Nat → Int64) × (Nat → Int64)) (B_X12_there_57_2 sm tm p0 p1 p2 p3 r2 r9 (m68, m69)) 51 ((0 : Int32), (0 : Int64)) = r := ⟨_, rfl⟩
          have hrr57_2 : J_X12_there sm tm p0 p1 p2 p3 = rr57_2 := ((exl_X12_there_6 e59 e61 w64 w5 c7 w12 c14 c60 c65 w70)).trans err57_2
          have hL57 : ∀ (n81 : Nat) (v79 : Int32) (v80 : Int64) (H : Heap) (locs : List Loc) (ls : Array Slot), 50 - v79.toInt < (n81 : Int) → (0 ≤ v79.toInt ∧ v79.toInt ≤ 50) → (LTs (default : Int64 × (Nat → Int64) × (Nat → Int64)) (B_X12_there_57_2 sm tm p0 p1 p2 p3 r2 r9 (m68, m69)) n81 (v79, v80) = rr57_2) → va_P D vwCl [cell22_ qm sm tm, cell5_ k qm sm, cell13_ k qm sm, cell8_ k qm sm, cell6_ k qm sm, cell15_ k qm sm, cell14_ k qm tm, cell12_ k qm tm, (qm 8, .inl (k 1, 50, .inr (.inl m68))), (qm 9, .inl (k 1, 50, .inr (.inl m69))), cell19_ k qm tm, cell21_ k qm tm, cell20_ k qm sm, cell16_ k qm sm, cell11_ k qm sm, cell10_ k qm sm, cell9_ k qm sm, cell7_ k qm sm] H → va_D A [cell22_ qm sm tm, cell5_ k qm sm, cell13_ k qm sm, cell8_ k qm sm, cell6_ k qm sm, cell15_ k qm sm, cell14_ k qm tm, cell12_ k qm tm, (qm 8, .inl (k 1, 50, .inr (.inl m68))), (qm 9, .inl (k 1, 50, .inr (.inl m69))), cell19_ k qm tm, cell21_ k qm tm, cell20_ k qm sm, cell16_ k qm sm, cell11_ k qm sm, cell10_ k qm sm, cell9_ k qm sm, cell7_ k qm sm] → va_S A s.heap H locs → lv_has ls 8 [(7, .int v79), (5, .long v80), (0, .ref (qm 0)), (2, .int p1), (3, .int p2), (4, .int p3)] → W p l e ({ frames := 4, cells := 0, slots := 0, locals := 101 } : Room) s m ([.ref (qm 0), .int p0, .int p1, .int p2, .int p3] : List Value).toArray below meth c H locs 0 0 Q (F0 m 57 ls []) := by
            intro n81
            induction n81 with
            | zero => intro v79 v80 H locs ls hmn81 bv79 hzrr57_2 hP hD hS hl; exact absurd hmn81 (by omega)
            | succ n81 ih57 =>
              intro v79 v80 H locs ls hmn81 bv79 hzrr57_2 hP hD hS hl
              refine lv_iload hx hb dX12_there_57 (lv_at hl 0 rfl) ?_
              refine lv_bipush (v := 50) hx hb dX12_there_59 (by decide) ?_
              refine lv_icmp_ge (tgt := 95) hx hb dX12_there_61 (by decide) (fun c82 => ?_) (fun c82 => ?_)
              · have f82 : 50 ≤ v79.toInt := f_le (by decide) rfl c82
                refine lv_lload hx hb dX12_there_95 (lv_at hl 1 rfl) ?_
                refine lv_iload_n hx hb dX12_there_97 rfl (lv_at hl 3 rfl) ?_
                refine g_lr (g_runS (wc := []) (rest := [.long v80]) cx hP hD hS [] rfl (by decide) [.int p1] (c_X12_parts l D k b H.size p1) gX12_there_X12_parts rfl rfl rfl nd_X12_parts ⟨Nat.le_of_ble_eq_true rfl, Nat.le_of_ble_eq_true rfl⟩ rfl hl.1 rfl (Nat.le_of_ble_eq_true rfl) ⟨Nat.zero_le _, Nat.zero_le _⟩ dX12_there_98) cx.2.2.1 hP hD hS [] rfl rfl (fun r84 H locs hw83 hP hS => ?_)
                replace hw83 : (r84.toInt % 2 = 1) ∧ (r84 = J_X12_parts p1) := hw83
                obtain ⟨w85, w86⟩ := hw83
                refine lv_iload hx hb dX12_there_101 (lv_at hl 5 rfl) ?_
                refine g_lr (g_runS (wc := []) (rest := []) cx hP hD hS [] rfl (by decide) [.long v80, .long r84, .int p3] (c_X12_told l D k b H.size v80 r84 p3 (show ¬ r84.toInt = 0 from by first | decide | omega)) gX12_there_X12_told rfl rfl rfl nd_X12_told ⟨Nat.le_of_ble_eq_true rfl, Nat.le_of_ble_eq_true rfl⟩ rfl hl.1 rfl (Nat.le_of_ble_eq_true rfl) ⟨Nat.zero_le _, Nat.zero_le _⟩ dX12_there_103) cx.2.2.1 hP hD hS [] rfl rfl (fun r89 H locs hw88 hP hS => ?_)
                have w90 : r89 = J_X12_told v80 r84 p3 := hw88
                clear hw88
                rw [hQ]
                exact x_l cx hr (m68, m69) hP hD hS (show (r89, m68, m69) = J_X12_there sm tm p0 p1 p2 p3 from ((hrr57_2.trans (LT_r hzrr57_2 (exl_X12_there_7 c82 w86 w90)))).symm) dX12_there_106
              · have f82 : v79.toInt < 50 := f_nle (by decide) rfl c82
                refine lv_lload hx hb dX12_there_64 (lv_at hl 1 rfl) ?_
                refine lv_iload hx hb dX12_there_66 (lv_at hl 0 rfl) ?_
                refine g_ir (g_runS (wc := []) (rest := [.long v80]) cx hP hD hS [] rfl (by decide) [.int v79] (c_X12_all l D k b H.size v79) gX12_there_X12_all rfl rfl rfl nd_X12_all ⟨Nat.le_of_ble_eq_true rfl, Nat.le_of_ble_eq_true rfl⟩ rfl hl.1 rfl (Nat.le_of_ble_eq_true rfl) ⟨Nat.zero_le _, Nat.zero_le _⟩ dX12_there_68) cx.2.2.1 hP hD hS [] rfl rfl (fun r93 H locs hw92 hP hS => ?_)
                have w94 : r93 = J_X12_all v79 := hw92
                clear hw92
                have zr93 := all_t w94 (show 0 ≤ v79.toInt from by omega)
                refine lv_iload_n hx hb dX12_there_71 rfl (lv_at hl 4 rfl) ?_
                refine lv_icmp_ne (tgt := 85) hx hb dX12_there_72 (by decide) (fun c95 => ?_) (fun c95 => ?_)
                · have f95 : ¬ r93.toInt = p2.toInt := f_ne rfl rfl c95
                  refine lv_lconst (v := 0) hx hb dX12_there_85 (by decide) ?_
                  refine lv_ladd hx hb dX12_there_86 (lv_topl (fun v96 e96 => ?_))
                  refine lv_lstore (lv' := [(5, .long v96), (7, .int v79), (0, .ref (qm 0)), (2, .int p1), (3, .int p2), (4, .int p3)]) hx hb dX12_there_87 hl (by decide) rfl (fun ls hl => ?_)
                  obtain ⟨v97, e97⟩ : ∃ z : Int32, z = v79 + 1 := ⟨_, rfl⟩
                  refine lv_iinc (v := v97) (lv' := [(7, .int v97), (5, .long v96), (0, .ref (qm 0)), (2, .int p1), (3, .int p2), (4, .int p3)]) hx hb dX12_there_89 hl (k := 1) rfl (by rw [e97]; rfl) (by decide) rfl (fun ls hl => ?_)
                  have t97 : v97.toInt = v79.toInt + 1 := by rw [e97]; exact i_add rfl (by decide) (by omega) (by omega)
                  refine lv_goto (tgt := 57) hx hb dX12_there_92 (by decide) ?_
                  exact ih57 v97 v96 _ _ _ (by omega) (by first | decide | omega) (LT_g hzrr57_2 (exl_X12_there_8 w94 e96 e97 c82 c95)) hP hD hS (lv_sub hl [0, 1, 2, 3, 4, 5] rfl)
                · have f95 : r93.toInt = p2.toInt := f_eq rfl rfl c95
                  refine lv_aload_n hx hb dX12_there_75 rfl (lv_at hl 2 rfl) ?_
                  refine g_get cx hP iw_X12_there_X12 0 rfl rfl 16 (by decide) rfl fw_X12_there_32 rfl dX12_there_76 ?_
                  refine lv_iload hx hb dX12_there_79 (lv_at hl 0 rfl) ?_
                  have hn98 : vp_in v79 50 := f_in (a := v79.toInt) rfl (by omega) (by omega)
                  refine va_lald hx hb cx.2.1 hP 8 1 rfl rfl hn98 dX12_there_81 (lv_topl (fun v99 e99 => ?_))
                  refine lv_goto (tgt := 86) hx hb dX12_there_82 (by decide) ?_
                  refine lv_ladd hx hb dX12_there_86 (lv_topl (fun v100 e100 => ?_))
                  refine lv_lstore (lv' := [(5, .long v100), (7, .int v79), (0, .ref (qm 0)), (2, .int p1), (3, .int p2), (4, .int p3)]) hx hb dX12_there_87 hl (by decide) rfl (fun ls hl => ?_)
                  obtain ⟨v101, e101⟩ : ∃ z : Int32, z = v79 + 1 := ⟨_, rfl⟩
                  refine lv_iinc (v := v101) (lv' := [(7, .int v101), (5, .long v100), (0, .ref (qm 0)), (2, .int p1), (3, .int p2), (4, .int p3)]) hx hb dX12_there_89 hl (k := 1) rfl (by rw [e101]; rfl) (by decide) rfl (fun ls hl => ?_)
                  have t101 : v101.toInt = v79.toInt + 1 := by rw [e101]; exact i_add rfl (by decide) (by omega) (by omega)
                  refine lv_goto (tgt := 57) hx hb dX12_there_92 (by decide) ?_
                  exact ih57 v101 v100 _ _ _ (by omega) (by first | decide | omega) (LT_g hzrr57_2 (exl_X12_there_9 w94 e99 e100 e101 c82 c95)) hP hD hS (lv_sub hl [0, 1, 2, 3, 4, 5] rfl)
          have hlit102 : (0 : Int32).toInt = 0 := by decide
          have hlit103 : (0 : Int32).toInt = 0 := by decide
          exact hL57 (51) 0 0 _ _ _ (by omega) (by first | decide | omega) err57_2 hP hD hS (lv_sub hl [0, 1, 2, 4, 5, 6] rfl)
        · have f65 : r63.toInt = 0 := f_eq rfl (by decide) c65
          have k65 : p2.toInt < 0 ∨ 4 < p2.toInt := in_f (i2l_t rfl e61) (by decide) (by decide) w64 c65
          refine lv_ldc2 (v := (-2)) hx hb cx.1.2.2.2.1 (cx.1.2.2.2.2 _ kJ_X12_there_206) dX12_there_41 ?_
          rw [hQ]
          exact x_l cx hr ((tm 8), (tm 9)) hP hD hS (show (((-2) : Int64), (tm 8), (tm 9)) = J_X12_there sm tm p0 p1 p2 p3 from (exl_X12_there_10 e59 e61 w64 w5 c7 w12 c14 c60 c65)) dX12_there_44
      · have f60 : ¬ p1.toInt = v59.toInt := f_ne rfl rfl c60
        refine lv_ldc2 (v := (-1)) hx hb cx.1.2.2.2.1 (cx.1.2.2.2.2 _ kJ_X12_there_221) dX12_there_25 ?_
        rw [hQ]
        exact x_l cx hr ((tm 8), (tm 9)) hP hD hS (show (((-1) : Int64), (tm 8), (tm 9)) = J_X12_there sm tm p0 p1 p2 p3 from (exl_X12_there_11 e59 w5 c7 w12 c14 c60)) dX12_there_28
def B_X12_cheapest_14 (sm : Nat → Nat → Int32) (tm : Nat → Nat → Int64) (y7 : Int64 × (Nat → Int64) × (Nat → Int64)) (z : Int32 × Int64 × Int32 × (Nat → Int64) × (Nat → Int64)) : Sum (Int32 × Int64 × Int32 × (Nat → Int64) × (Nat → Int64)) (Int32 × (Nat → Int64) × (Nat → Int64)) := let v18 := (z.1); let v19 := (z.2.1); let v20 := (z.2.2.1); let g21 := (z.2.2.2.1); let g22 := (z.2.2.2.2); if 3 ≤ v18 then Sum.inr ((v20, g21, g22)) else LetF (J_X12_layMean sm (up2L (up2L tm 6 g21) 7 g22) v18 0 0 0) (fun y31 => if 0 ≤ (lg_cmp (y31.1) v19) then if 0 ≤ (lg_cmp (y31.1) v19) then Sum.inl (((v18 + 1), v19, v20, (y31.2.1), (y31.2.2))) else Sum.inl (((v18 + 1), (y31.1), v20, (y31.2.1), (y31.2.2))) else if 0 ≤ (lg_cmp (y31.1) v19) then Sum.inl (((v18 + 1), v19, v18, (y31.2.1), (y31.2.2))) else Sum.inl (((v18 + 1), (y31.1), v18, (y31.2.1), (y31.2.2))))
def J_X12_cheapest (sm : Nat → Nat → Int32) (tm : Nat → Nat → Int64) : Int32 × (Nat → Int64) × (Nat → Int64) := LetF (J_X12_layMean sm tm 0 0 0 0) (fun y7 => LTs default (B_X12_cheapest_14 sm tm y7) 4 ((1 : Int32), (y7.1), (0 : Int32), (y7.2.1), (y7.2.2)))
theorem exl_X12_cheapest_0 {sm : Nat → Nat → Int32} {tm : Nat → Nat → Int64} {r3 : Int64} {m4 : Nat → Int64} {m5 : Nat → Int64} (w6 : (r3, m4, m5) = J_X12_layMean sm tm (0 : Int32) (0 : Int32) (0 : Int32) (0 : Int32)) : J_X12_cheapest sm tm = LTs (default : Int32 × (Nat → Int64) × (Nat → Int64)) (B_X12_cheapest_14 sm tm (r3, m4, m5)) 4 ((1 : Int32), r3, (0 : Int32), m4, m5) := by unfold J_X12_cheapest; refine lt_e w6 ?_; rfl
theorem exl_X12_cheapest_1 {sm : Nat → Nat → Int32} {tm : Nat → Nat → Int64} {r3 : Int64} {m4 : Nat → Int64} {m5 : Nat → Int64} {v18 : Int32} {v19 : Int64} {v20 : Int32} {g21 : Nat → Int64} {g22 : Nat → Int64} (c24 : (3 : Int32) ≤ v18) : (B_X12_cheapest_14 sm tm (r3, m4, m5)) (v18, v19, v20, g21, g22) = Sum.inr ((v20, g21, g22)) := by unfold B_X12_cheapest_14; refine Eq.trans (if_pos c24) ?_; rfl
theorem exl_X12_cheapest_2 {sm : Nat → Nat → Int32} {tm : Nat → Nat → Int64} {r3 : Int64} {m4 : Nat → Int64} {m5 : Nat → Int64} {v18 : Int32} {v19 : Int64} {v20 : Int32} {g21 : Nat → Int64} {g22 : Nat → Int64} {v36 : Int32} {m28 : Nat → Int64} {m29 : Nat → Int64} {v32 : Int32} {r27 : Int64} {v34 : Int32} (e32 : v32 = (lg_cmp r27 v19)) (e34 : v34 = (lg_cmp r27 v19)) (e36 : v36 = v18 + 1) (c24 : ¬ ((3 : Int32) ≤ v18)) (w30 : (r27, m28, m29) = J_X12_layMean sm (up2L (up2L tm 6 g21) 7 g22) v18 (0 : Int32) (0 : Int32) (0 : Int32)) (c33 : (0 : Int32) ≤ v32) (c35 : (0 : Int32) ≤ v34) : (B_X12_cheapest_14 sm tm (r3, m4, m5)) (v18, v19, v20, g21, g22) = Sum.inl (v36, v19, v20, m28, m29) := by subst e32 e34 e36; unfold B_X12_cheapest_14; refine Eq.trans (if_neg c24) ?_; refine lt_e w30 ?_; refine Eq.trans (if_pos c33) ?_; refine Eq.trans (if_pos c35) ?_; rfl
theorem exl_X12_cheapest_3 {sm : Nat → Nat → Int32} {tm : Nat → Nat → Int64} {r3 : Int64} {m4 : Nat → Int64} {m5 : Nat → Int64} {v18 : Int32} {v19 : Int64} {v20 : Int32} {g21 : Nat → Int64} {g22 : Nat → Int64} {v37 : Int32} {r27 : Int64} {m28 : Nat → Int64} {m29 : Nat → Int64} {v32 : Int32} {v34 : Int32} (e32 : v32 = (lg_cmp r27 v19)) (e34 : v34 = (lg_cmp r27 v19)) (e37 : v37 = v18 + 1) (c24 : ¬ ((3 : Int32) ≤ v18)) (w30 : (r27, m28, m29) = J_X12_layMean sm (up2L (up2L tm 6 g21) 7 g22) v18 (0 : Int32) (0 : Int32) (0 : Int32)) (c33 : (0 : Int32) ≤ v32) (c35 : ¬ ((0 : Int32) ≤ v34)) : (B_X12_cheapest_14 sm tm (r3, m4, m5)) (v18, v19, v20, g21, g22) = Sum.inl (v37, r27, v20, m28, m29) := by subst e32 e34 e37; unfold B_X12_cheapest_14; refine Eq.trans (if_neg c24) ?_; refine lt_e w30 ?_; refine Eq.trans (if_pos c33) ?_; refine Eq.trans (if_neg c35) ?_; rfl
theorem exl_X12_cheapest_4 {sm : Nat → Nat → Int32} {tm : Nat → Nat → Int64} {r3 : Int64} {m4 : Nat → Int64} {m5 : Nat → Int64} {v18 : Int32} {v19 : Int64} {v20 : Int32} {g21 : Nat → Int64} {g22 : Nat → Int64} {v40 : Int32} {m28 : Nat → Int64} {m29 : Nat → Int64} {v32 : Int32} {r27 : Int64} {v38 : Int32} (e32 : v32 = (lg_cmp r27 v19)) (e38 : v38 = (lg_cmp r27 v19)) (e40 : v40 = v18 + 1) (c24 : ¬ ((3 : Int32) ≤ v18)) (w30 : (r27, m28, m29) = J_X12_layMean sm (up2L (up2L tm 6 g21) 7 g22) v18 (0 : Int32) (0 : Int32) (0 : Int32)) (c33 : ¬ ((0 : Int32) ≤ v32)) (c39 : (0 : Int32) ≤ v38) : (B_X12_cheapest_14 sm tm (r3, m4, m5)) (v18, v19, v20, g21, g22) = Sum.inl (v40, v19, v18, m28, m29) := by subst e32 e38 e40; unfold B_X12_cheapest_14; refine Eq.trans (if_neg c24) ?_; refine lt_e w30 ?_; refine Eq.trans (if_neg c33) ?_; refine Eq.trans (if_pos c39) ?_; rfl
theorem exl_X12_cheapest_5 {sm : Nat → Nat → Int32} {tm : Nat → Nat → Int64} {r3 : Int64} {m4 : Nat → Int64} {m5 : Nat → Int64} {v18 : Int32} {v19 : Int64} {v20 : Int32} {g21 : Nat → Int64} {g22 : Nat → Int64} {v41 : Int32} {r27 : Int64} {m28 : Nat → Int64} {m29 : Nat → Int64} {v32 : Int32} {v38 : Int32} (e32 : v32 = (lg_cmp r27 v19)) (e38 : v38 = (lg_cmp r27 v19)) (e41 : v41 = v18 + 1) (c24 : ¬ ((3 : Int32) ≤ v18)) (w30 : (r27, m28, m29) = J_X12_layMean sm (up2L (up2L tm 6 g21) 7 g22) v18 (0 : Int32) (0 : Int32) (0 : Int32)) (c33 : ¬ ((0 : Int32) ≤ v32)) (c39 : ¬ ((0 : Int32) ≤ v38)) : (B_X12_cheapest_14 sm tm (r3, m4, m5)) (v18, v19, v20, g21, g22) = Sum.inl (v41, r27, v18, m28, m29) := by subst e32 e38 e41; unfold B_X12_cheapest_14; refine Eq.trans (if_neg c24) ?_; refine lt_e w30 ?_; refine Eq.trans (if_neg c33) ?_; refine Eq.trans (if_neg c39) ?_; rfl
set_option maxHeartbeats 4000000 in
set_option maxRecDepth 100000 in
theorem c_X12_cheapest (l : Launch) (D : va_G) (k : Nat → ClassId) (b : Nat → Nat) (qm : Nat → Nat) (sm : Nat → Nat → Int32) (tm : Nat → Nat → Int64) (sz : Nat) (h_w0 : 0 ≤ (sm 2 0).toInt ∧ (sm 2 0).toInt ≤ 5) (h_k1 : 0 ≤ (sm 2 1).toInt ∧ (sm 2 1).toInt ≤ 4) : MetI l D k b yX12_cheapest wsX12_cheapest ({ frames := 5, cells := 0, slots := 0, locals := 127 } : Room) [cell22_ qm sm tm, cell5_ k qm sm, cell13_ k qm sm, cell8_ k qm sm, cell6_ k qm sm, cell15_ k qm sm, cell14_ k qm tm, cell12_ k qm tm, cell18_ k qm tm, cell17_ k qm tm, cell19_ k qm tm, cell21_ k qm tm, cell20_ k qm sm, cell16_ k qm sm, cell11_ k qm sm, cell10_ k qm sm, cell9_ k qm sm, cell7_ k qm sm] sz [.ref (qm 0)] (fun (r : Int32) (u : (Nat → Int64) × (Nat → Int64)) => (r, (u.1), (u.2)) = J_X12_cheapest sm tm) (fun u => [cell22_ qm sm tm, cell5_ k qm sm, cell13_ k qm sm, cell8_ k qm sm, cell6_ k qm sm, cell15_ k qm sm, cell154_ k qm (u.1), cell155_ k qm (u.2), cell18_ k qm tm, cell17_ k qm tm, cell19_ k qm tm, cell21_ k qm tm, cell20_ k qm sm, cell16_ k qm sm, cell11_ k qm sm, cell10_ k qm sm, cell9_ k qm sm, cell7_ k qm sm]) := by
  refine g_enter (cc := cX12_cheapest) (maxL := 7) (ret := (some .int)) (by decide) rfl (Nat.le_of_ble_eq_true rfl) ?_
  intro p e s m below meth c A hsz hAe cx hr hP hD hS ls hl
  rw [hAe]
  refine g_q (fun Q hQ => ?_)
  have hx := cx.1.1
  have hb := cx.1.2.1
  have hl : lv_has ls 7 [(0, .ref (qm 0))] := hl
  obtain ⟨H, eH⟩ : ∃ H : Heap, H = s.heap := ⟨_, rfl⟩
  obtain ⟨locs, el⟩ : ∃ L : List Loc, L = [] := ⟨_, rfl⟩
  have hP : va_P D vwCl [cell22_ qm sm tm, cell5_ k qm sm, cell13_ k qm sm, cell8_ k qm sm, cell6_ k qm sm, cell15_ k qm sm, cell14_ k qm tm, cell12_ k qm tm, cell18_ k qm tm, cell17_ k qm tm, cell19_ k qm tm, cell21_ k qm tm, cell20_ k qm sm, cell16_ k qm sm, cell11_ k qm sm, cell10_ k qm sm, cell9_ k qm sm, cell7_ k qm sm] H := by rw [eH]; exact hP
  have hD : va_D A [cell22_ qm sm tm, cell5_ k qm sm, cell13_ k qm sm, cell8_ k qm sm, cell6_ k qm sm, cell15_ k qm sm, cell14_ k qm tm, cell12_ k qm tm, cell18_ k qm tm, cell17_ k qm tm, cell19_ k qm tm, cell21_ k qm tm, cell20_ k qm sm, cell16_ k qm sm, cell11_ k qm sm, cell10_ k qm sm, cell9_ k qm sm, cell7_ k qm sm] := hD
  have hS : va_S A s.heap H locs := by rw [eH, el]; exact hS
  suffices goal : W p l e ({ frames := 5, cells := 0, slots := 0, locals := 127 } : Room) s m ([.ref (qm 0)] : List Value).toArray below meth c H locs 0 0 Q (F0 m 0 ls []) by rw [eH, el] at goal; exact goal
  refine lv_iconst (v := 0) hx hb dX12_cheapest_0 (by decide) ?_
  refine lv_istore_n (lv' := [(1, .int 0), (0, .ref (qm 0))]) hx hb dX12_cheapest_1 rfl hl (by decide) rfl (fun ls hl => ?_)
  refine lv_aload_n hx hb dX12_cheapest_2 rfl (lv_at hl 1 rfl) ?_
  refine lv_iconst (v := 0) hx hb dX12_cheapest_3 (by decide) ?_
  refine lv_iconst (v := 0) hx hb dX12_cheapest_4 (by decide) ?_
  refine lv_iconst (v := 0) hx hb dX12_cheapest_5 (by decide) ?_
  refine lv_iconst (v := 0) hx hb dX12_cheapest_6 (by decide) ?_
  refine g_lF (w1 := fun (u : (Nat → Int64) × (Nat → Int64)) => [cell22_ qm sm tm, cell5_ k qm sm, cell13_ k qm sm, cell8_ k qm sm, cell6_ k qm sm, cell15_ k qm sm, cell154_ k qm (u.1), cell155_ k qm (u.2), cell18_ k qm tm, cell17_ k qm tm, cell19_ k qm tm, cell21_ k qm tm, cell20_ k qm sm, cell16_ k qm sm, cell11_ k qm sm, cell10_ k qm sm, cell9_ k qm sm, cell7_ k qm sm]) (g_runVF (ws := [cell22_ qm sm tm, cell5_ k qm sm, cell13_ k qm sm, cell8_ k qm sm, cell6_ k qm sm, cell15_ k qm sm, cell14_ k qm tm, cell12_ k qm tm, cell18_ k qm tm, cell17_ k qm tm, cell19_ k qm tm, cell21_ k qm tm, cell20_ k qm sm, cell16_ k qm sm, cell11_ k qm sm, cell10_ k qm sm, cell9_ k qm sm, cell7_ k qm sm]) (rest := []) cx hP hD hS [.int 0, .int 0, .int 0, .int 0] (c_X12_layMean l D k b qm sm tm H.size 0 0 0 0 (show 0 ≤ ((sm 2) 0).toInt ∧ ((sm 2) 0).toInt ≤ 5 from by first | decide | omega) (show 0 ≤ ((sm 2) 1).toInt ∧ ((sm 2) 1).toInt ≤ 4 from by first | decide | omega) (show 0 ≤ (0 : Int32).toInt ∧ (0 : Int32).toInt ≤ 2 from by first | decide | omega) (show 0 ≤ (0 : Int32).toInt ∧ (0 : Int32).toInt ≤ 4 from by first | decide | omega) (show 0 ≤ (0 : Int32).toInt ∧ (0 : Int32).toInt ≤ 999 from by first | decide | omega)) gX12_cheapest_X12_layMean rfl rfl rfl nd_X12_layMean ⟨Nat.le_of_ble_eq_true rfl, Nat.le_of_ble_eq_true rfl⟩ (ci := 10) (q0 := 0) rfl rfl rfl hl.1 rfl (Nat.le_of_ble_eq_true rfl) ⟨Nat.zero_le _, Nat.zero_le _⟩ dX12_cheapest_7) cx.2.2.1 hD hS (fun r3 u2 H locs hw1 hP hD hS => ?_)
  obtain ⟨m4, m5⟩ := u2
  have hP : va_P D vwCl [cell22_ qm sm tm, cell5_ k qm sm, cell13_ k qm sm, cell8_ k qm sm, cell6_ k qm sm, cell15_ k qm sm, (qm 6, .inl (k 1, 1000, .inr (.inl m4))), (qm 7, .inl (k 1, 1000, .inr (.inl m5))), cell18_ k qm tm, cell17_ k qm tm, cell19_ k qm tm, cell21_ k qm tm, cell20_ k qm sm, cell16_ k qm sm, cell11_ k qm sm, cell10_ k qm sm, cell9_ k qm sm, cell7_ k qm sm] H := hP
  have hD : va_D A [cell22_ qm sm tm, cell5_ k qm sm, cell13_ k qm sm, cell8_ k qm sm, cell6_ k qm sm, cell15_ k qm sm, (qm 6, .inl (k 1, 1000, .inr (.inl m4))), (qm 7, .inl (k 1, 1000, .inr (.inl m5))), cell18_ k qm tm, cell17_ k qm tm, cell19_ k qm tm, cell21_ k qm tm, cell20_ k qm sm, cell16_ k qm sm, cell11_ k qm sm, cell10_ k qm sm, cell9_ k qm sm, cell7_ k qm sm] := hD
  have w6 : (r3, m4, m5) = J_X12_layMean sm tm (0 : Int32) (0 : Int32) (0 : Int32) (0 : Int32) := hw1
  clear hw1
  refine lv_lstore_n (lv' := [(2, .long r3), (1, .int 0), (0, .ref (qm 0))]) hx hb dX12_cheapest_10 rfl hl (by decide) rfl (fun ls hl => ?_)
  refine lv_iconst (v := 1) hx hb dX12_cheapest_11 (by decide) ?_
  refine lv_istore (lv' := [(4, .int 1), (2, .long r3), (1, .int 0), (0, .ref (qm 0))]) hx hb dX12_cheapest_12 hl (by decide) rfl (fun ls hl => ?_)
  obtain ⟨rr14_1, err14_1⟩ : ∃ r : Int32 × (Nat → Int64) × (Nat → Int64), LTs (default : Int32 × (Nat → Int64) × (Nat → Int64)) (B_X12_cheapest_14 sm tm (r3, m4, m5)) 4 ((1 : Int32), r3, (0 : Int32), m4, m5) = r := ⟨_, rfl⟩
  have hrr14_1 : J_X12_cheapest sm tm = rr14_1 := ((exl_X12_cheapest_0 w6)).trans err14_1
  have hL14 : ∀ (n23 : Nat) (v18 : Int32) (v19 : Int64) (v20 : Int32) (g21 : Nat → Int64) (g22 : Nat → Int64) (H : Heap) (locs : List Loc) (ls : Array Slot), 3 - v18.toInt < (n23 : Int) → (1 ≤ v18.toInt ∧ v18.toInt ≤ 3) → (LTs (default : Int32 × (Nat → Int64) × (Nat → Int64)) (B_X12_cheapest_14 sm tm (r3, m4, m5)) n23 (v18, v19, v20, g21, g22) = rr14_1) → va_P D vwCl [cell22_ qm sm tm, cell5_ k qm sm, cell13_ k qm sm, cell8_ k qm sm, cell6_ k qm sm, cell15_ k qm sm, (qm 6, .inl (k 1, 1000, .inr (.inl g21))), (qm 7, .inl (k 1, 1000, .inr (.inl g22))), cell18_ k qm tm, cell17_ k qm tm, cell19_ k qm tm, cell21_ k qm tm, cell20_ k qm sm, cell16_ k qm sm, cell11_ k qm sm, cell10_ k qm sm, cell9_ k qm sm, cell7_ k qm sm] H → va_D A [cell22_ qm sm tm, cell5_ k qm sm, cell13_ k qm sm, cell8_ k qm sm, cell6_ k qm sm, cell15_ k qm sm, (qm 6, .inl (k 1, 1000, .inr (.inl g21))), (qm 7, .inl (k 1, 1000, .inr (.inl g22))), cell18_ k qm tm, cell17_ k qm tm, cell19_ k qm tm, cell21_ k qm tm, cell20_ k qm sm, cell16_ k qm sm, cell11_ k qm sm, cell10_ k qm sm, cell9_ k qm sm, cell7_ k qm sm] → va_S A s.heap H locs → lv_has ls 7 [(4, .int v18), (2, .long v19), (1, .int v20), (0, .ref (qm 0))] → W p l e ({ frames := 5, cells := 0, slots := 0, locals := 127 } : Room) s m ([.ref (qm 0)] : List Value).toArray below meth c H locs 0 0 Q (F0 m 14 ls []) := by
    intro n23
    induction n23 with
    | zero => intro v18 v19 v20 g21 g22 H locs ls hmn23 bv18 hzrr14_1 hP hD hS hl; exact absurd hmn23 (by omega)
    | succ n23 ih14 =>
      intro v18 v19 v20 g21 g22 H locs ls hmn23 bv18 hzrr14_1 hP hD hS hl
      refine lv_iload hx hb dX12_cheapest_14 (lv_at hl 0 rfl) ?_
      refine lv_iconst (v := 3) hx hb dX12_cheapest_16 (by decide) ?_
      refine lv_icmp_ge (tgt := 65) hx hb dX12_cheapest_17 (by decide) (fun c24 => ?_) (fun c24 => ?_)
      · have f24 : 3 ≤ v18.toInt := f_le (by decide) rfl c24
        refine lv_iload_n hx hb dX12_cheapest_65 rfl (lv_at hl 2 rfl) ?_
        rw [hQ]
        exact x_i cx hr (g21, g22) hP hD hS (show (v20, g21, g22) = J_X12_cheapest sm tm from ((hrr14_1.trans (LT_r hzrr14_1 (exl_X12_cheapest_1 c24)))).symm) dX12_cheapest_66
      · have f24 : v18.toInt < 3 := f_nle (by decide) rfl c24
        refine lv_aload_n hx hb dX12_cheapest_20 rfl (lv_at hl 3 rfl) ?_
        refine lv_iload hx hb dX12_cheapest_21 (lv_at hl 0 rfl) ?_
        refine lv_iconst (v := 0) hx hb dX12_cheapest_23 (by decide) ?_
        refine lv_iconst (v := 0) hx hb dX12_cheapest_24 (by decide) ?_
        refine lv_iconst (v := 0) hx hb dX12_cheapest_25 (by decide) ?_
        refine g_lF (w1 := fun (u : (Nat → Int64) × (Nat → Int64)) => [cell22_ qm sm tm, cell5_ k qm sm, cell13_ k qm sm, cell8_ k qm sm, cell6_ k qm sm, cell15_ k qm sm, cell154_ k qm (u.1), cell155_ k qm (u.2), cell18_ k qm tm, cell17_ k qm tm, cell19_ k qm tm, cell21_ k qm tm, cell20_ k qm sm, cell16_ k qm sm, cell11_ k qm sm, cell10_ k qm sm, cell9_ k qm sm, cell7_ k qm sm]) (g_runVF (ws := [cell22_ qm sm tm, cell5_ k qm sm, cell13_ k qm sm, cell8_ k qm sm, cell6_ k qm sm, cell15_ k qm sm, (qm 6, .inl (k 1, 1000, .inr (.inl g21))), (qm 7, .inl (k 1, 1000, .inr (.inl g22))), cell18_ k qm tm, cell17_ k qm tm, cell19_ k qm tm, cell21_ k qm tm, cell20_ k qm sm, cell16_ k qm sm, cell11_ k qm sm, cell10_ k qm sm, cell9_ k qm sm, cell7_ k qm sm]) (rest := []) cx hP hD hS [.int v18, .int 0, .int 0, .int 0] (c_X12_layMean l D k b qm sm (up2L (up2L tm 6 g21) 7 g22) H.size v18 0 0 0 (show 0 ≤ ((sm 2) 0).toInt ∧ ((sm 2) 0).toInt ≤ 5 from by first | decide | omega) (show 0 ≤ ((sm 2) 1).toInt ∧ ((sm 2) 1).toInt ≤ 4 from by first | decide | omega) (show 0 ≤ v18.toInt ∧ v18.toInt ≤ 2 from by first | decide | omega) (show 0 ≤ (0 : Int32).toInt ∧ (0 : Int32).toInt ≤ 4 from by first | decide | omega) (show 0 ≤ (0 : Int32).toInt ∧ (0 : Int32).toInt ≤ 999 from by first | decide | omega)) gX12_cheapest_X12_layMean rfl rfl rfl nd_X12_layMean ⟨Nat.le_of_ble_eq_true rfl, Nat.le_of_ble_eq_true rfl⟩ (ci := 10) (q0 := 0) rfl rfl rfl hl.1 rfl (Nat.le_of_ble_eq_true rfl) ⟨Nat.zero_le _, Nat.zero_le _⟩ dX12_cheapest_26) cx.2.2.1 hD hS (fun r27 u26 H locs hw25 hP hD hS => ?_)
        obtain ⟨m28, m29⟩ := u26
        have hP : va_P D vwCl [cell22_ qm sm tm, cell5_ k qm sm, cell13_ k qm sm, cell8_ k qm sm, cell6_ k qm sm, cell15_ k qm sm, (qm 6, .inl (k 1, 1000, .inr (.inl m28))), (qm 7, .inl (k 1, 1000, .inr (.inl m29))), cell18_ k qm tm, cell17_ k qm tm, cell19_ k qm tm, cell21_ k qm tm, cell20_ k qm sm, cell16_ k qm sm, cell11_ k qm sm, cell10_ k qm sm, cell9_ k qm sm, cell7_ k qm sm] H := hP
        have hD : va_D A [cell22_ qm sm tm, cell5_ k qm sm, cell13_ k qm sm, cell8_ k qm sm, cell6_ k qm sm, cell15_ k qm sm, (qm 6, .inl (k 1, 1000, .inr (.inl m28))), (qm 7, .inl (k 1, 1000, .inr (.inl m29))), cell18_ k qm tm, cell17_ k qm tm, cell19_ k qm tm, cell21_ k qm tm, cell20_ k qm sm, cell16_ k qm sm, cell11_ k qm sm, cell10_ k qm sm, cell9_ k qm sm, cell7_ k qm sm] := hD
        have w30 : (r27, m28, m29) = J_X12_layMean sm (up2L (up2L tm 6 g21) 7 g22) v18 (0 : Int32) (0 : Int32) (0 : Int32) := hw25
        clear hw25
        refine lv_lstore (lv' := [(5, .long r27), (4, .int v18), (2, .long v19), (1, .int v20), (0, .ref (qm 0))]) hx hb dX12_cheapest_29 hl (by decide) rfl (fun ls hl => ?_)
        refine lv_lload hx hb dX12_cheapest_31 (lv_at hl 0 rfl) ?_
        refine lv_lload_n hx hb dX12_cheapest_33 rfl (lv_at hl 2 rfl) ?_
        refine W.lcmp hx hb dX12_cheapest_34 (lv_topi (fun v32 e32 => ?_))
        refine lv_if_ge (tgt := 43) hx hb dX12_cheapest_35 (by decide) (fun c33 => ?_) (fun c33 => ?_)
        · have f33 : 0 ≤ v32.toInt := f_le (by decide) rfl c33
          refine lv_iload_n hx hb dX12_cheapest_43 rfl (lv_at hl 3 rfl) ?_
          refine lv_istore_n (lv' := [(1, .int v20), (5, .long r27), (4, .int v18), (2, .long v19), (0, .ref (qm 0))]) hx hb dX12_cheapest_44 rfl hl (by decide) rfl (fun ls hl => ?_)
          refine lv_lload hx hb dX12_cheapest_45 (lv_at hl 1 rfl) ?_
          refine lv_lload_n hx hb dX12_cheapest_47 rfl (lv_at hl 3 rfl) ?_
          refine W.lcmp hx hb dX12_cheapest_48 (lv_topi (fun v34 e34 => ?_))
          refine lv_if_ge (tgt := 57) hx hb dX12_cheapest_49 (by decide) (fun c35 => ?_) (fun c35 => ?_)
          · have f35 : 0 ≤ v34.toInt := f_le (by decide) rfl c35
            refine lv_lload_n hx hb dX12_cheapest_57 rfl (lv_at hl 3 rfl) ?_
            refine lv_lstore_n (lv' := [(2, .long v19), (1, .int v20), (5, .long r27), (4, .int v18), (0, .ref (qm 0))]) hx hb dX12_cheapest_58 rfl hl (by decide) rfl (fun ls hl => ?_)
            obtain ⟨v36, e36⟩ : ∃ z : Int32, z = v18 + 1 := ⟨_, rfl⟩
            refine lv_iinc (v := v36) (lv' := [(4, .int v36), (2, .long v19), (1, .int v20), (5, .long r27), (0, .ref (qm 0))]) hx hb dX12_cheapest_59 hl (k := 3) rfl (by rw [e36]; rfl) (by decide) rfl (fun ls hl => ?_)
            have t36 : v36.toInt = v18.toInt + 1 := by rw [e36]; exact i_add rfl (by decide) (by omega) (by omega)
            refine lv_goto (tgt := 14) hx hb dX12_cheapest_62 (by decide) ?_
            exact ih14 v36 v19 v20 m28 m29 _ _ _ (by omega) (by first | decide | omega) (LT_g hzrr14_1 (exl_X12_cheapest_2 e32 e34 e36 c24 w30 c33 c35)) hP hD hS (lv_sub hl [0, 1, 2, 4] rfl)
          · have f35 : v34.toInt < 0 := f_nle (by decide) rfl c35
            refine lv_lload hx hb dX12_cheapest_52 (lv_at hl 1 rfl) ?_
            refine lv_goto (tgt := 58) hx hb dX12_cheapest_54 (by decide) ?_
            refine lv_lstore_n (lv' := [(2, .long r27), (1, .int v20), (5, .long r27), (4, .int v18), (0, .ref (qm 0))]) hx hb dX12_cheapest_58 rfl hl (by decide) rfl (fun ls hl => ?_)
            obtain ⟨v37, e37⟩ : ∃ z : Int32, z = v18 + 1 := ⟨_, rfl⟩
            refine lv_iinc (v := v37) (lv' := [(4, .int v37), (2, .long r27), (1, .int v20), (5, .long r27), (0, .ref (qm 0))]) hx hb dX12_cheapest_59 hl (k := 3) rfl (by rw [e37]; rfl) (by decide) rfl (fun ls hl => ?_)
            have t37 : v37.toInt = v18.toInt + 1 := by rw [e37]; exact i_add rfl (by decide) (by omega) (by omega)
            refine lv_goto (tgt := 14) hx hb dX12_cheapest_62 (by decide) ?_
            exact ih14 v37 r27 v20 m28 m29 _ _ _ (by omega) (by first | decide | omega) (LT_g hzrr14_1 (exl_X12_cheapest_3 e32 e34 e37 c24 w30 c33 c35)) hP hD hS (lv_sub hl [0, 1, 2, 4] rfl)
        · have f33 : v32.toInt < 0 := f_nle (by decide) rfl c33
          refine lv_iload hx hb dX12_cheapest_38 (lv_at hl 1 rfl) ?_
          refine lv_goto (tgt := 44) hx hb dX12_cheapest_40 (by decide) ?_
          refine lv_istore_n (lv' := [(1, .int v18), (5, .long r27), (4, .int v18), (2, .long v19), (0, .ref (qm 0))]) hx hb dX12_cheapest_44 rfl hl (by decide) rfl (fun ls hl => ?_)
          refine lv_lload hx hb dX12_cheapest_45 (lv_at hl 1 rfl) ?_
          refine lv_lload_n hx hb dX12_cheapest_47 rfl (lv_at hl 3 rfl) ?_
          refine W.lcmp hx hb dX12_cheapest_48 (lv_topi (fun v38 e38 => ?_))
          refine lv_if_ge (tgt := 57) hx hb dX12_cheapest_49 (by decide) (fun c39 => ?_) (fun c39 => ?_)
          · have f39 : 0 ≤ v38.toInt := f_le (by decide) rfl c39
            refine lv_lload_n hx hb dX12_cheapest_57 rfl (lv_at hl 3 rfl) ?_
            refine lv_lstore_n (lv' := [(2, .long v19), (1, .int v18), (5, .long r27), (4, .int v18), (0, .ref (qm 0))]) hx hb dX12_cheapest_58 rfl hl (by decide) rfl (fun ls hl => ?_)
            obtain ⟨v40, e40⟩ : ∃ z : Int32, z = v18 + 1 := ⟨_, rfl⟩
            refine lv_iinc (v := v40) (lv' := [(4, .int v40), (2, .long v19), (1, .int v18), (5, .long r27), (0, .ref (qm 0))]) hx hb dX12_cheapest_59 hl (k := 3) rfl (by rw [e40]; rfl) (by decide) rfl (fun ls hl => ?_)
            have t40 : v40.toInt = v18.toInt + 1 := by rw [e40]; exact i_add rfl (by decide) (by omega) (by omega)
            refine lv_goto (tgt := 14) hx hb dX12_cheapest_62 (by decide) ?_
            exact ih14 v40 v19 v18 m28 m29 _ _ _ (by omega) (by first | decide | omega) (LT_g hzrr14_1 (exl_X12_cheapest_4 e32 e38 e40 c24 w30 c33 c39)) hP hD hS (lv_sub hl [0, 1, 2, 4] rfl)
          · have f39 : v38.toInt < 0 := f_nle (by decide) rfl c39
            refine lv_lload hx hb dX12_cheapest_52 (lv_at hl 1 rfl) ?_
            refine lv_goto (tgt := 58) hx hb dX12_cheapest_54 (by decide) ?_
            refine lv_lstore_n (lv' := [(2, .long r27), (1, .int v18), (5, .long r27), (4, .int v18), (0, .ref (qm 0))]) hx hb dX12_cheapest_58 rfl hl (by decide) rfl (fun ls hl => ?_)
            obtain ⟨v41, e41⟩ : ∃ z : Int32, z = v18 + 1 := ⟨_, rfl⟩
            refine lv_iinc (v := v41) (lv' := [(4, .int v41), (2, .long r27), (1, .int v18), (5, .long r27), (0, .ref (qm 0))]) hx hb dX12_cheapest_59 hl (k := 3) rfl (by rw [e41]; rfl) (by decide) rfl (fun ls hl => ?_)
            have t41 : v41.toInt = v18.toInt + 1 := by rw [e41]; exact i_add rfl (by decide) (by omega) (by omega)
            refine lv_goto (tgt := 14) hx hb dX12_cheapest_62 (by decide) ?_
            exact ih14 v41 r27 v18 m28 m29 _ _ _ (by omega) (by first | decide | omega) (LT_g hzrr14_1 (exl_X12_cheapest_5 e32 e38 e41 c24 w30 c33 c39)) hP hD hS (lv_sub hl [0, 1, 2, 4] rfl)
  have hlit42 : (1 : Int32).toInt = 1 := by decide
  have hlit43 : (0 : Int32).toInt = 0 := by decide
  exact hL14 (4) 1 r3 0 m4 m5 _ _ _ (by omega) (by first | decide | omega) err14_1 hP hD hS (lv_sub hl [0, 1, 2, 3] rfl)
