theorem nd_X12_stays : yX12_stays.cls = RX12 ∧ yX12_stays.cls ≠ "java/lang/invoke/MethodHandle" ∧ yX12_stays.cls ≠ "java/lang/invoke/VarHandle" ∧ (parseMethodDescriptor yX12_stays.desc).map (fun d => d.parameters.length) = some 3 := by decide +kernel
set_option maxHeartbeats 4000000 in
set_option maxRecDepth 100000 in
theorem c_X12_sundayOf (l : Launch) (D : va_G) (k : Nat → ClassId) (b : Nat → Nat) (qm : Nat → Nat) (sm : Nat → Nat → Int32) (tm : Nat → Nat → Int64) (sz : Nat) (p0 : Int32) (p1 : Int32) : MetI l D k b yX12_sundayOf wsX12_sundayOf ({ frames := 2, cells := 0, slots := 0, locals := 48 } : Room) [cell22_ qm sm tm, cell5_ k qm sm, cell13_ k qm sm, cell8_ k qm sm, cell6_ k qm sm, cell14_ k qm sm, cell15_ k qm tm, cell12_ k qm tm, cell18_ k qm tm, cell17_ k qm tm, cell19_ k qm tm, cell21_ k qm tm, cell20_ k qm sm, cell16_ k qm sm, cell11_ k qm sm, cell10_ k qm sm, cell9_ k qm sm, cell7_ k qm sm] sz [.ref (qm 0), .int p0, .int p1] (fun (r : Int32) (u : Unit) => True) (fun u => [cell22_ qm sm tm, cell5_ k qm sm, cell13_ k qm sm, cell8_ k qm sm, cell6_ k qm sm, cell14_ k qm sm, cell15_ k qm tm, cell12_ k qm tm, cell18_ k qm tm, cell17_ k qm tm, cell19_ k qm tm, cell21_ k qm tm, cell20_ k qm sm, cell16_ k qm sm, cell11_ k qm sm, cell10_ k qm sm, cell9_ k qm sm, cell7_ k qm sm]) := by
  refine g_enter (cc := cX12_sundayOf) (maxL := 8) (ret := (some .int)) (by decide) rfl (Nat.le_of_ble_eq_true rfl) ?_
  intro p e s m below meth c A hsz hAe cx hr hP hD hS ls hl
  rw [hAe]
  refine g_q (fun Q hQ => ?_)
  have hx := cx.1.1
  have hb := cx.1.2.1
  have bp0 := i_rng p0
  have bp1 := i_rng p1
  have hl : lv_has ls 8 [(0, .ref (qm 0)), (1, .int p0), (2, .int p1)] := hl
  obtain ⟨H, eH⟩ : ∃ H : Heap, H = s.heap := ⟨_, rfl⟩
  obtain ⟨locs, el⟩ : ∃ L : List Loc, L = [] := ⟨_, rfl⟩
  have hP : va_P D vwCl [cell22_ qm sm tm, cell5_ k qm sm, cell13_ k qm sm, cell8_ k qm sm, cell6_ k qm sm, cell14_ k qm sm, cell15_ k qm tm, cell12_ k qm tm, cell18_ k qm tm, cell17_ k qm tm, cell19_ k qm tm, cell21_ k qm tm, cell20_ k qm sm, cell16_ k qm sm, cell11_ k qm sm, cell10_ k qm sm, cell9_ k qm sm, cell7_ k qm sm] H := by rw [eH]; exact hP
  have hD : va_D A [cell22_ qm sm tm, cell5_ k qm sm, cell13_ k qm sm, cell8_ k qm sm, cell6_ k qm sm, cell14_ k qm sm, cell15_ k qm tm, cell12_ k qm tm, cell18_ k qm tm, cell17_ k qm tm, cell19_ k qm tm, cell21_ k qm tm, cell20_ k qm sm, cell16_ k qm sm, cell11_ k qm sm, cell10_ k qm sm, cell9_ k qm sm, cell7_ k qm sm] := hD
  have hS : va_S A s.heap H locs := by rw [eH, el]; exact hS
  suffices goal : W p l e ({ frames := 2, cells := 0, slots := 0, locals := 48 } : Room) s m ([.ref (qm 0), .int p0, .int p1] : List Value).toArray below meth c H locs 0 0 Q (F0 m 0 ls []) by rw [eH, el] at goal; exact goal
  refine lv_iconst (v := 0) hx hb dX12_sundayOf_0 (by decide) ?_
  refine lv_istore_n (lv' := [(3, .int 0), (0, .ref (qm 0)), (1, .int p0), (2, .int p1)]) hx hb dX12_sundayOf_1 rfl hl (by decide) rfl (fun ls hl => ?_)
  refine lv_iload_n hx hb dX12_sundayOf_2 rfl (lv_at hl 2 rfl) ?_
  refine lv_bipush (v := 100) hx hb dX12_sundayOf_3 (by decide) ?_
  refine lv_idiv hx hb dX12_sundayOf_5 (by decide) (lv_topi (fun v1 e1 => ?_))
  refine lv_istore (lv' := [(4, .int v1), (3, .int 0), (0, .ref (qm 0)), (1, .int p0), (2, .int p1)]) hx hb dX12_sundayOf_6 hl (by decide) rfl (fun ls hl => ?_)
  refine lv_iload_n hx hb dX12_sundayOf_8 rfl (lv_at hl 3 rfl) ?_
  refine lv_bipush (v := 10) hx hb dX12_sundayOf_9 (by decide) ?_
  refine lv_idiv hx hb dX12_sundayOf_11 (by decide) (lv_topi (fun v2 e2 => ?_))
  refine lv_bipush (v := 10) hx hb dX12_sundayOf_12 (by decide) ?_
  refine lv_irem hx hb dX12_sundayOf_14 (by decide) (lv_topi (fun v3 e3 => ?_))
  have t3 : -10 < v3.toInt ∧ v3.toInt < 10 := by rw [e3]; exact i_remb (by decide) (by decide)
  refine lv_istore (lv' := [(5, .int v3), (4, .int v1), (3, .int 0), (0, .ref (qm 0)), (1, .int p0), (2, .int p1)]) hx hb dX12_sundayOf_15 hl (by decide) rfl (fun ls hl => ?_)
  refine lv_iload_n hx hb dX12_sundayOf_17 rfl (lv_at hl 4 rfl) ?_
  refine lv_bipush (v := 10) hx hb dX12_sundayOf_18 (by decide) ?_
  refine lv_irem hx hb dX12_sundayOf_20 (by decide) (lv_topi (fun v4 e4 => ?_))
  have t4 : -10 < v4.toInt ∧ v4.toInt < 10 := by rw [e4]; exact i_remb (by decide) (by decide)
  refine lv_istore (lv' := [(6, .int v4), (5, .int v3), (4, .int v1), (3, .int 0), (0, .ref (qm 0)), (1, .int p0), (2, .int p1)]) hx hb dX12_sundayOf_21 hl (by decide) rfl (fun ls hl => ?_)
  refine lv_iconst (v := 0) hx hb dX12_sundayOf_23 (by decide) ?_
  refine lv_istore (lv' := [(7, .int 0), (6, .int v4), (5, .int v3), (4, .int v1), (3, .int 0), (0, .ref (qm 0)), (1, .int p0), (2, .int p1)]) hx hb dX12_sundayOf_24 hl (by decide) rfl (fun ls hl => ?_)
  have hL26 : ∀ (n21 : Nat) (v19 : Int32) (v20 : Int32) (H : Heap) (locs : List Loc) (ls : Array Slot), 10 - v19.toInt < (n21 : Int) → (0 ≤ v19.toInt ∧ v19.toInt ≤ 10) → va_P D vwCl [cell22_ qm sm tm, cell5_ k qm sm, cell13_ k qm sm, cell8_ k qm sm, cell6_ k qm sm, cell14_ k qm sm, cell15_ k qm tm, cell12_ k qm tm, cell18_ k qm tm, cell17_ k qm tm, cell19_ k qm tm, cell21_ k qm tm, cell20_ k qm sm, cell16_ k qm sm, cell11_ k qm sm, cell10_ k qm sm, cell9_ k qm sm, cell7_ k qm sm] H → va_D A [cell22_ qm sm tm, cell5_ k qm sm, cell13_ k qm sm, cell8_ k qm sm, cell6_ k qm sm, cell14_ k qm sm, cell15_ k qm tm, cell12_ k qm tm, cell18_ k qm tm, cell17_ k qm tm, cell19_ k qm tm, cell21_ k qm tm, cell20_ k qm sm, cell16_ k qm sm, cell11_ k qm sm, cell10_ k qm sm, cell9_ k qm sm, cell7_ k qm sm] → va_S A s.heap H locs → lv_has ls 8 [(7, .int v19), (6, .int v4), (5, .int v3), (4, .int v1), (3, .int v20), (0, .ref (qm 0)), (1, .int p0), (2, .int p1)] → W p l e ({ frames := 2, cells := 0, slots := 0, locals := 48 } : Room) s m ([.ref (qm 0), .int p0, .int p1] : List Value).toArray below meth c H locs 0 0 Q (F0 m 26 ls []) := by
    intro n21
    induction n21 with
    | zero => intro v19 v20 H locs ls hmn21 bv19 hP hD hS hl; exact absurd hmn21 (by omega)
    | succ n21 ih26 =>
      intro v19 v20 H locs ls hmn21 bv19 hP hD hS hl
      refine lv_iload hx hb dX12_sundayOf_26 (lv_at hl 0 rfl) ?_
      refine lv_iload hx hb dX12_sundayOf_28 (lv_at hl 2 rfl) ?_
      have hJ87 : ∀  (H : Heap) (locs : List Loc) (ls : Array Slot), va_P D vwCl [cell22_ qm sm tm, cell5_ k qm sm, cell13_ k qm sm, cell8_ k qm sm, cell6_ k qm sm, cell14_ k qm sm, cell15_ k qm tm, cell12_ k qm tm, cell18_ k qm tm, cell17_ k qm tm, cell19_ k qm tm, cell21_ k qm tm, cell20_ k qm sm, cell16_ k qm sm, cell11_ k qm sm, cell10_ k qm sm, cell9_ k qm sm, cell7_ k qm sm] H → va_D A [cell22_ qm sm tm, cell5_ k qm sm, cell13_ k qm sm, cell8_ k qm sm, cell6_ k qm sm, cell14_ k qm sm, cell15_ k qm tm, cell12_ k qm tm, cell18_ k qm tm, cell17_ k qm tm, cell19_ k qm tm, cell21_ k qm tm, cell20_ k qm sm, cell16_ k qm sm, cell11_ k qm sm, cell10_ k qm sm, cell9_ k qm sm, cell7_ k qm sm] → va_S A s.heap H locs → lv_has ls 8 [(3, .int v20), (1, .int p0)] → W p l e ({ frames := 2, cells := 0, slots := 0, locals := 48 } : Room) s m ([.ref (qm 0), .int p0, .int p1] : List Value).toArray below meth c H locs 0 0 Q (F0 m 87 ls []) := by
        intro  H locs ls  hP hD hS hl
        refine lv_iload_n hx hb dX12_sundayOf_87 rfl (lv_at hl 0 rfl) ?_
        refine lv_iconst (v := 5) hx hb dX12_sundayOf_88 (by decide) ?_
        refine lv_iconst (v := 4) hx hb dX12_sundayOf_89 (by decide) ?_
        refine lv_iload_n hx hb dX12_sundayOf_90 rfl (lv_at hl 1 rfl) ?_
        refine g_ir (g_runS (wc := []) (rest := [.int 4, .int 5, .int v20]) cx hP hD hS [] rfl (by decide) [.int p0] (c_X12_all l D k b H.size p0) gX12_sundayOf_X12_all rfl rfl rfl nd_X12_all ⟨Nat.le_of_ble_eq_true rfl, Nat.le_of_ble_eq_true rfl⟩ rfl hl.1 rfl (Nat.le_of_ble_eq_true rfl) ⟨Nat.zero_le _, Nat.zero_le _⟩ dX12_sundayOf_91) cx.2.2.1 hP hD hS [] rfl rfl (fun r37 H locs hw36 hP hS => ?_)
        have w38 : r37 = J_X12_all p0 := hw36
        clear hw36
        refine lv_isub hx hb dX12_sundayOf_94 (lv_topi (fun v39 e39 => ?_))
        refine g_ir (g_runS (wc := []) (rest := [.int v20]) cx hP hD hS [] rfl (by decide) [.int 5, .int v39] (c_X12_power l D k b H.size 5 v39) gX12_sundayOf_X12_power rfl rfl rfl nd_X12_power ⟨Nat.le_of_ble_eq_true rfl, Nat.le_of_ble_eq_true rfl⟩ rfl hl.1 rfl (Nat.le_of_ble_eq_true rfl) ⟨Nat.zero_le _, Nat.zero_le _⟩ dX12_sundayOf_95) cx.2.2.1 hP hD hS [] rfl rfl (fun r41 H locs hw40 hP hS => ?_)
        have w42 : Imp ((5 : Int32).toInt % 2 = 1) (r41.toInt % 2 = 1) := hw40
        clear hw40
        have or41 : r41.toInt % 2 = 1 := w42 (by decide)
        refine lv_imul hx hb dX12_sundayOf_98 (lv_topi (fun v43 e43 => ?_))
        rw [hQ]
        exact x_i cx hr () hP hD hS trivial dX12_sundayOf_99
      refine lv_icmp_gt (tgt := 87) hx hb dX12_sundayOf_30 (by decide) (fun c44 => ?_) (fun c44 => ?_)
      · have f44 : v3.toInt < v19.toInt := f_lt rfl rfl c44
        exact hJ87  _ _ _  hP hD hS (lv_sub hl [4, 6] rfl)
      · have f44 : v19.toInt ≤ v3.toInt := f_nlt rfl rfl c44
        refine lv_iload_n hx hb dX12_sundayOf_33 rfl (lv_at hl 7 rfl) ?_
        refine lv_bipush (v := 100) hx hb dX12_sundayOf_34 (by decide) ?_
        refine lv_icmp_ge (tgt := 87) hx hb dX12_sundayOf_36 (by decide) (fun c45 => ?_) (fun c45 => ?_)
        · have f45 : 100 ≤ p1.toInt := f_le (by decide) rfl c45
          exact hJ87  _ _ _  hP hD hS (lv_sub hl [4, 6] rfl)
        · have f45 : p1.toInt < 100 := f_nle (by decide) rfl c45
          refine lv_iload_n hx hb dX12_sundayOf_39 rfl (lv_at hl 4 rfl) ?_
          refine lv_aload_n hx hb dX12_sundayOf_40 rfl (lv_at hl 5 rfl) ?_
          refine lv_iconst (v := 0) hx hb dX12_sundayOf_41 (by decide) ?_
          refine lv_iload hx hb dX12_sundayOf_42 (lv_at hl 3 rfl) ?_
          refine lv_iload_n hx hb dX12_sundayOf_44 rfl (lv_at hl 7 rfl) ?_
          refine lv_bipush (v := 10) hx hb dX12_sundayOf_45 (by decide) ?_
          refine lv_idiv hx hb dX12_sundayOf_47 (by decide) (lv_topi (fun v46 e46 => ?_))
          refine lv_bipush (v := 10) hx hb dX12_sundayOf_48 (by decide) ?_
          refine lv_irem hx hb dX12_sundayOf_50 (by decide) (lv_topi (fun v47 e47 => ?_))
          have t47 : -10 < v47.toInt ∧ v47.toInt < 10 := by rw [e47]; exact i_remb (by decide) (by decide)
          refine g_iF (w1 := fun (_ : Unit) => [cell22_ qm sm tm, cell5_ k qm sm, cell13_ k qm sm, cell8_ k qm sm, cell6_ k qm sm, cell14_ k qm sm, cell15_ k qm tm, cell12_ k qm tm, cell18_ k qm tm, cell17_ k qm tm, cell19_ k qm tm, cell21_ k qm tm, cell20_ k qm sm, cell16_ k qm sm, cell11_ k qm sm, cell10_ k qm sm, cell9_ k qm sm, cell7_ k qm sm]) (g_runVF (ws := [cell22_ qm sm tm, cell5_ k qm sm, cell13_ k qm sm, cell8_ k qm sm, cell6_ k qm sm, cell14_ k qm sm, cell15_ k qm tm, cell12_ k qm tm, cell18_ k qm tm, cell17_ k qm tm, cell19_ k qm tm, cell21_ k qm tm, cell20_ k qm sm, cell16_ k qm sm, cell11_ k qm sm, cell10_ k qm sm, cell9_ k qm sm, cell7_ k qm sm]) (rest := [.int v20]) cx hP hD hS [.int 0, .int v1, .int v47] (c_X12_stays l D k b qm sm tm H.size 0 v1 v47 (show 0 ≤ (0 : Int32).toInt ∧ (0 : Int32).toInt ≤ 2 from by first | decide | omega)) gX12_sundayOf_X12_stays rfl rfl rfl nd_X12_stays ⟨Nat.le_of_ble_eq_true rfl, Nat.le_of_ble_eq_true rfl⟩ (ci := 10) (q0 := 0) rfl rfl rfl hl.1 rfl (Nat.le_of_ble_eq_true rfl) ⟨Nat.zero_le _, Nat.zero_le _⟩ dX12_sundayOf_51) cx.2.2.1 hD hS (fun r49 _ H locs hw48 hP hD hS => ?_)
          refine lv_aload_n hx hb dX12_sundayOf_54 rfl (lv_at hl 5 rfl) ?_
          refine lv_iconst (v := 1) hx hb dX12_sundayOf_55 (by decide) ?_
          refine lv_iload hx hb dX12_sundayOf_56 (lv_at hl 2 rfl) ?_
          refine lv_iload hx hb dX12_sundayOf_58 (lv_at hl 0 rfl) ?_
          refine g_iF (w1 := fun (_ : Unit) => [cell22_ qm sm tm, cell5_ k qm sm, cell13_ k qm sm, cell8_ k qm sm, cell6_ k qm sm, cell14_ k qm sm, cell15_ k qm tm, cell12_ k qm tm, cell18_ k qm tm, cell17_ k qm tm, cell19_ k qm tm, cell21_ k qm tm, cell20_ k qm sm, cell16_ k qm sm, cell11_ k qm sm, cell10_ k qm sm, cell9_ k qm sm, cell7_ k qm sm]) (g_runVF (ws := [cell22_ qm sm tm, cell5_ k qm sm, cell13_ k qm sm, cell8_ k qm sm, cell6_ k qm sm, cell14_ k qm sm, cell15_ k qm tm, cell12_ k qm tm, cell18_ k qm tm, cell17_ k qm tm, cell19_ k qm tm, cell21_ k qm tm, cell20_ k qm sm, cell16_ k qm sm, cell11_ k qm sm, cell10_ k qm sm, cell9_ k qm sm, cell7_ k qm sm]) (rest := [.int r49, .int v20]) cx hP hD hS [.int 1, .int v3, .int v19] (c_X12_stays l D k b qm sm tm H.size 1 v3 v19 (show 0 ≤ (1 : Int32).toInt ∧ (1 : Int32).toInt ≤ 2 from by first | decide | omega)) gX12_sundayOf_X12_stays rfl rfl rfl nd_X12_stays ⟨Nat.le_of_ble_eq_true rfl, Nat.le_of_ble_eq_true rfl⟩ (ci := 10) (q0 := 0) rfl rfl rfl hl.1 rfl (Nat.le_of_ble_eq_true rfl) ⟨Nat.zero_le _, Nat.zero_le _⟩ dX12_sundayOf_60) cx.2.2.1 hD hS (fun r51 _ H locs hw50 hP hD hS => ?_)
          refine lv_imul hx hb dX12_sundayOf_63 (lv_topi (fun v52 e52 => ?_))
          refine lv_aload_n hx hb dX12_sundayOf_64 rfl (lv_at hl 5 rfl) ?_
          refine lv_iconst (v := 2) hx hb dX12_sundayOf_65 (by decide) ?_
          refine lv_iload hx hb dX12_sundayOf_66 (lv_at hl 1 rfl) ?_
          refine lv_iload_n hx hb dX12_sundayOf_68 rfl (lv_at hl 7 rfl) ?_
          refine lv_bipush (v := 10) hx hb dX12_sundayOf_69 (by decide) ?_
          refine lv_irem hx hb dX12_sundayOf_71 (by decide) (lv_topi (fun v53 e53 => ?_))
          have t53 : -10 < v53.toInt ∧ v53.toInt < 10 := by rw [e53]; exact i_remb (by decide) (by decide)
          refine lv_iload hx hb dX12_sundayOf_72 (lv_at hl 0 rfl) ?_
          refine lv_isub hx hb dX12_sundayOf_74 (lv_topi (fun v54 e54 => ?_))
          have t54 : v54.toInt = v53.toInt - v19.toInt := by rw [e54]; exact i_sub rfl rfl (by omega) (by omega)
          refine g_iF (w1 := fun (_ : Unit) => [cell22_ qm sm tm, cell5_ k qm sm, cell13_ k qm sm, cell8_ k qm sm, cell6_ k qm sm, cell14_ k qm sm, cell15_ k qm tm, cell12_ k qm tm, cell18_ k qm tm, cell17_ k qm tm, cell19_ k qm tm, cell21_ k qm tm, cell20_ k qm sm, cell16_ k qm sm, cell11_ k qm sm, cell10_ k qm sm, cell9_ k qm sm, cell7_ k qm sm]) (g_runVF (ws := [cell22_ qm sm tm, cell5_ k qm sm, cell13_ k qm sm, cell8_ k qm sm, cell6_ k qm sm, cell14_ k qm sm, cell15_ k qm tm, cell12_ k qm tm, cell18_ k qm tm, cell17_ k qm tm, cell19_ k qm tm, cell21_ k qm tm, cell20_ k qm sm, cell16_ k qm sm, cell11_ k qm sm, cell10_ k qm sm, cell9_ k qm sm, cell7_ k qm sm]) (rest := [.int v52, .int v20]) cx hP hD hS [.int 2, .int v4, .int v54] (c_X12_stays l D k b qm sm tm H.size 2 v4 v54 (show 0 ≤ (2 : Int32).toInt ∧ (2 : Int32).toInt ≤ 2 from by first | decide | omega)) gX12_sundayOf_X12_stays rfl rfl rfl nd_X12_stays ⟨Nat.le_of_ble_eq_true rfl, Nat.le_of_ble_eq_true rfl⟩ (ci := 10) (q0 := 0) rfl rfl rfl hl.1 rfl (Nat.le_of_ble_eq_true rfl) ⟨Nat.zero_le _, Nat.zero_le _⟩ dX12_sundayOf_75) cx.2.2.1 hD hS (fun r56 _ H locs hw55 hP hD hS => ?_)
          refine lv_imul hx hb dX12_sundayOf_78 (lv_topi (fun v57 e57 => ?_))
          refine lv_iadd hx hb dX12_sundayOf_79 (lv_topi (fun v58 e58 => ?_))
          refine lv_istore_n (lv' := [(3, .int v58), (7, .int v19), (6, .int v4), (5, .int v3), (4, .int v1), (0, .ref (qm 0)), (1, .int p0), (2, .int p1)]) hx hb dX12_sundayOf_80 rfl hl (by decide) rfl (fun ls hl => ?_)
          obtain ⟨v59, e59⟩ : ∃ z : Int32, z = v19 + 1 := ⟨_, rfl⟩
          refine lv_iinc (v := v59) (lv' := [(7, .int v59), (3, .int v58), (6, .int v4), (5, .int v3), (4, .int v1), (0, .ref (qm 0)), (1, .int p0), (2, .int p1)]) hx hb dX12_sundayOf_81 hl (k := 1) rfl (by rw [e59]; rfl) (by decide) rfl (fun ls hl => ?_)
          have t59 : v59.toInt = v19.toInt + 1 := by rw [e59]; exact i_add rfl (by decide) (by omega) (by omega)
          refine lv_goto (tgt := 26) hx hb dX12_sundayOf_84 (by decide) ?_
          exact ih26 v59 v58 _ _ _ (by omega) (by first | decide | omega) hP hD hS (lv_sub hl [0, 2, 3, 4, 1, 5, 6, 7] rfl)
  have hlit60 : (0 : Int32).toInt = 0 := by decide
  have hlit61 : (0 : Int32).toInt = 0 := by decide
  exact hL26 (Int.toNat (10 - 0) + 1) 0 0 _ _ _ (by omega) (by first | decide | omega) hP hD hS (lv_sub hl [0, 1, 2, 3, 4, 5, 6, 7] rfl)
