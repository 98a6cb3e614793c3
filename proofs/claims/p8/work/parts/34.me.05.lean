theorem fw_X12_shortly_32 : Cond.fieldLink RX12 32 "StillInAugustModel" "likely" "[J" ∈ wsX12_shortly := by decide +kernel
theorem kJ_X12_shortly_221 : Cond.constantLong RX12 221 (-1) ∈ wsX12_shortly := by decide +kernel
theorem nd_X12_layLikely : yX12_layLikely.cls = RX12 ∧ yX12_layLikely.cls ≠ "java/lang/invoke/MethodHandle" ∧ yX12_layLikely.cls ≠ "java/lang/invoke/VarHandle" ∧ (parseMethodDescriptor yX12_layLikely.desc).map (fun d => d.parameters.length) = some 2 := by decide +kernel
theorem nd_X12_overBy : yX12_overBy.cls = RX12 ∧ yX12_overBy.cls ≠ "java/lang/invoke/MethodHandle" ∧ yX12_overBy.cls ≠ "java/lang/invoke/VarHandle" ∧ (parseMethodDescriptor yX12_overBy.desc).map (fun d => d.parameters.length) = some 3 := by decide +kernel
theorem iw_X12_shortly_X12 : ∀ w ∈ u_ws RX12 TX12 33, w ∈ wsX12_shortly := fun _ h => List.mem_cons_of_mem _ (List.mem_append_right _ h)
set_option maxHeartbeats 4000000 in
set_option maxRecDepth 100000 in
theorem c_X12_shortly (l : Launch) (D : va_G) (k : Nat → ClassId) (b : Nat → Nat) (qm : Nat → Nat) (sm : Nat → Nat → Int32) (tm : Nat → Nat → Int64) (sz : Nat) (p0 : Int32) (p1 : Int32) (p2 : Int32) (h_w0 : 0 ≤ (sm 2 0).toInt ∧ (sm 2 0).toInt ≤ 5) (h_k1 : 0 ≤ (sm 2 1).toInt ∧ (sm 2 1).toInt ≤ 4) : MetL l D k b yX12_shortly wsX12_shortly ({ frames := 4, cells := 0, slots := 0, locals := 101 } : Room) [cell22_ qm sm tm, cell5_ k qm sm, cell13_ k qm sm, cell8_ k qm sm, cell6_ k qm sm, cell14_ k qm sm, cell15_ k qm tm, cell12_ k qm tm, cell18_ k qm tm, cell17_ k qm tm, cell19_ k qm tm, cell21_ k qm tm, cell20_ k qm sm, cell16_ k qm sm, cell11_ k qm sm, cell10_ k qm sm, cell9_ k qm sm, cell7_ k qm sm] sz [.ref (qm 0), .int p0, .int p1, .int p2] (fun (r : Int64) (u : (Nat → Int64) × (Nat → Int64)) => True) (fun u => [cell22_ qm sm tm, cell5_ k qm sm, cell13_ k qm sm, cell8_ k qm sm, cell6_ k qm sm, cell14_ k qm sm, cell15_ k qm tm, cell12_ k qm tm, cell147_ k qm (u.1), cell148_ k qm (u.2), cell19_ k qm tm, cell21_ k qm tm, cell20_ k qm sm, cell16_ k qm sm, cell11_ k qm sm, cell10_ k qm sm, cell9_ k qm sm, cell7_ k qm sm]) := by
  refine g_enter (cc := cX12_shortly) (maxL := 7) (ret := (some .long)) (by decide) rfl (Nat.le_of_ble_eq_true rfl) ?_
  intro p e s m below meth c A hsz hAe cx hr hP hD hS ls hl
  rw [hAe]
  refine g_q (fun Q hQ => ?_)
  have hx := cx.1.1
  have hb := cx.1.2.1
  have bp0 := i_rng p0
  have bp1 := i_rng p1
  have bp2 := i_rng p2
  have hl : lv_has ls 7 [(0, .ref (qm 0)), (1, .int p0), (2, .int p1), (3, .int p2)] := hl
  obtain ⟨H, eH⟩ : ∃ H : Heap, H = s.heap := ⟨_, rfl⟩
  obtain ⟨locs, el⟩ : ∃ L : List Loc, L = [] := ⟨_, rfl⟩
  have hP : va_P D vwCl [cell22_ qm sm tm, cell5_ k qm sm, cell13_ k qm sm, cell8_ k qm sm, cell6_ k qm sm, cell14_ k qm sm, cell15_ k qm tm, cell12_ k qm tm, cell18_ k qm tm, cell17_ k qm tm, cell19_ k qm tm, cell21_ k qm tm, cell20_ k qm sm, cell16_ k qm sm, cell11_ k qm sm, cell10_ k qm sm, cell9_ k qm sm, cell7_ k qm sm] H := by rw [eH]; exact hP
  have hD : va_D A [cell22_ qm sm tm, cell5_ k qm sm, cell13_ k qm sm, cell8_ k qm sm, cell6_ k qm sm, cell14_ k qm sm, cell15_ k qm tm, cell12_ k qm tm, cell18_ k qm tm, cell17_ k qm tm, cell19_ k qm tm, cell21_ k qm tm, cell20_ k qm sm, cell16_ k qm sm, cell11_ k qm sm, cell10_ k qm sm, cell9_ k qm sm, cell7_ k qm sm] := hD
  have hS : va_S A s.heap H locs := by rw [eH, el]; exact hS
  suffices goal : W p l e ({ frames := 4, cells := 0, slots := 0, locals := 101 } : Room) s m ([.ref (qm 0), .int p0, .int p1, .int p2] : List Value).toArray below meth c H locs 0 0 Q (F0 m 0 ls []) by rw [eH, el] at goal; exact goal
  refine lv_iload_n hx hb dX12_shortly_0 rfl (lv_at hl 1 rfl) ?_
  refine g_ir (g_runS (wc := []) (rest := []) cx hP hD hS [] rfl (by decide) [.int p0] (c_X12_isRule l D k b H.size p0) gX12_shortly_X12_isRule rfl rfl rfl nd_X12_isRule ⟨Nat.le_of_ble_eq_true rfl, Nat.le_of_ble_eq_true rfl⟩ rfl hl.1 rfl (Nat.le_of_ble_eq_true rfl) ⟨Nat.zero_le _, Nat.zero_le _⟩ dX12_shortly_1) cx.2.2.1 hP hD hS [] rfl rfl (fun r2 H locs hw1 hP hS => ?_)
  replace hw1 : (0 ≤ r2.toInt ∧ r2.toInt ≤ 1) ∧ (Imp (r2.toInt = 1) (0 ≤ p0.toInt ∧ p0.toInt ≤ 2)) ∧ (r2 = J_X12_isRule p0) := hw1
  obtain ⟨w3, w4, w5⟩ := hw1
  have k7 : r2 = (J_X12_isRule p0) := congrArg (fun z => z) w5
  have zr2 : 0 ≤ r2.toInt ∧ r2.toInt ≤ 1 := w3
  refine lv_if_eq (tgt := 15) hx hb dX12_shortly_4 (by decide) (fun c8 => ?_) (fun c8 => ?_)
  · have f8 : r2.toInt = 0 := f_eq rfl (by decide) c8
    refine lv_ldc2 (v := (-1)) hx hb cx.1.2.2.2.1 (cx.1.2.2.2.2 _ kJ_X12_shortly_221) dX12_shortly_15 ?_
    rw [hQ]
    exact x_l cx hr ((tm 8), (tm 9)) hP hD hS trivial dX12_shortly_18
  · have f8 : ¬ r2.toInt = 0 := f_ne rfl (by decide) c8
    have k8 : (0 ≤ p0.toInt ∧ p0.toInt ≤ 2) := w4 (by omega)
    refine lv_aload_n hx hb dX12_shortly_7 rfl (lv_at hl 0 rfl) ?_
    refine lv_iload_n hx hb dX12_shortly_8 rfl (lv_at hl 2 rfl) ?_
    refine g_iF (w1 := fun (_ : Unit) => [cell22_ qm sm tm, cell5_ k qm sm, cell13_ k qm sm, cell8_ k qm sm, cell6_ k qm sm, cell14_ k qm sm, cell15_ k qm tm, cell12_ k qm tm, cell18_ k qm tm, cell17_ k qm tm, cell19_ k qm tm, cell21_ k qm tm, cell20_ k qm sm, cell16_ k qm sm, cell11_ k qm sm, cell10_ k qm sm, cell9_ k qm sm, cell7_ k qm sm]) (g_runVF (ws := [cell22_ qm sm tm, cell5_ k qm sm, cell13_ k qm sm, cell8_ k qm sm, cell6_ k qm sm, cell14_ k qm sm, cell15_ k qm tm, cell12_ k qm tm, cell18_ k qm tm, cell17_ k qm tm, cell19_ k qm tm, cell21_ k qm tm, cell20_ k qm sm, cell16_ k qm sm, cell11_ k qm sm, cell10_ k qm sm, cell9_ k qm sm, cell7_ k qm sm]) (rest := []) cx hP hD hS [.int p1] (c_X12_isWeek l D k b qm sm tm H.size p1 (show 0 ≤ ((sm 2) 0).toInt ∧ ((sm 2) 0).toInt ≤ 5 from by first | decide | omega)) gX12_shortly_X12_isWeek rfl rfl rfl nd_X12_isWeek ⟨Nat.le_of_ble_eq_true rfl, Nat.le_of_ble_eq_true rfl⟩ (ci := 10) (q0 := 0) rfl rfl rfl hl.1 rfl (Nat.le_of_ble_eq_true rfl) ⟨Nat.zero_le _, Nat.zero_le _⟩ dX12_shortly_9) cx.2.2.1 hD hS (fun r10 _ H locs hw9 hP hD hS => ?_)
    replace hw9 : (0 ≤ r10.toInt ∧ r10.toInt ≤ 1) ∧ (Imp (r10.toInt = 1) (0 ≤ p1.toInt ∧ p1.toInt ≤ 4)) ∧ (r10 = J_X12_isWeek sm tm p1) := hw9
    obtain ⟨w11, w12, w13⟩ := hw9
    have k15 : r10 = (J_X12_isWeek sm tm p1) := congrArg (fun z => z) w13
    have zr10 : 0 ≤ r10.toInt ∧ r10.toInt ≤ 1 := w11
    refine lv_if_ne (tgt := 19) hx hb dX12_shortly_12 (by decide) (fun c16 => ?_) (fun c16 => ?_)
    · have f16 : ¬ r10.toInt = 0 := f_ne rfl (by decide) c16
      have k16 : (0 ≤ p1.toInt ∧ p1.toInt ≤ 4) := w12 (by omega)
      refine lv_aload_n hx hb dX12_shortly_19 rfl (lv_at hl 0 rfl) ?_
      refine lv_iload_n hx hb dX12_shortly_20 rfl (lv_at hl 1 rfl) ?_
      refine lv_iload_n hx hb dX12_shortly_21 rfl (lv_at hl 2 rfl) ?_
      refine g_vF (w1 := fun (u : (Nat → Int64) × (Nat → Int64)) => [cell22_ qm sm tm, cell5_ k qm sm, cell13_ k qm sm, cell8_ k qm sm, cell6_ k qm sm, cell14_ k qm sm, cell15_ k qm tm, cell12_ k qm tm, cell147_ k qm (u.1), cell148_ k qm (u.2), cell19_ k qm tm, cell21_ k qm tm, cell20_ k qm sm, cell16_ k qm sm, cell11_ k qm sm, cell10_ k qm sm, cell9_ k qm sm, cell7_ k qm sm]) (g_runVF (ws := [cell22_ qm sm tm, cell5_ k qm sm, cell13_ k qm sm, cell8_ k qm sm, cell6_ k qm sm, cell14_ k qm sm, cell15_ k qm tm, cell12_ k qm tm, cell18_ k qm tm, cell17_ k qm tm, cell19_ k qm tm, cell21_ k qm tm, cell20_ k qm sm, cell16_ k qm sm, cell11_ k qm sm, cell10_ k qm sm, cell9_ k qm sm, cell7_ k qm sm]) (rest := []) cx hP hD hS [.int p0, .int p1] (c_X12_layLikely l D k b qm sm tm H.size p0 p1 (show 0 ≤ ((sm 2) 0).toInt ∧ ((sm 2) 0).toInt ≤ 5 from by first | decide | omega) (show 0 ≤ ((sm 2) 1).toInt ∧ ((sm 2) 1).toInt ≤ 4 from by first | decide | omega) (show 0 ≤ p0.toInt ∧ p0.toInt ≤ 2 from by first | decide | omega) (show 0 ≤ p1.toInt ∧ p1.toInt ≤ 5 from by first | decide | omega)) gX12_shortly_X12_layLikely rfl rfl rfl nd_X12_layLikely ⟨Nat.le_of_ble_eq_true rfl, Nat.le_of_ble_eq_true rfl⟩ (ci := 10) (q0 := 0) rfl rfl rfl hl.1 rfl (Nat.le_of_ble_eq_true rfl) ⟨Nat.zero_le _, Nat.zero_le _⟩ dX12_shortly_22) cx.2.2.1 hD hS (fun u18 H locs hw17 hP hD hS => ?_)
      obtain ⟨m19, m20⟩ := u18
      have hP : va_P D vwCl [cell22_ qm sm tm, cell5_ k qm sm, cell13_ k qm sm, cell8_ k qm sm, cell6_ k qm sm, cell14_ k qm sm, cell15_ k qm tm, cell12_ k qm tm, (qm 8, .inl (k 1, 50, .inr (.inl m19))), (qm 9, .inl (k 1, 50, .inr (.inl m20))), cell19_ k qm tm, cell21_ k qm tm, cell20_ k qm sm, cell16_ k qm sm, cell11_ k qm sm, cell10_ k qm sm, cell9_ k qm sm, cell7_ k qm sm] H := hP
      have hD : va_D A [cell22_ qm sm tm, cell5_ k qm sm, cell13_ k qm sm, cell8_ k qm sm, cell6_ k qm sm, cell14_ k qm sm, cell15_ k qm tm, cell12_ k qm tm, (qm 8, .inl (k 1, 50, .inr (.inl m19))), (qm 9, .inl (k 1, 50, .inr (.inl m20))), cell19_ k qm tm, cell21_ k qm tm, cell20_ k qm sm, cell16_ k qm sm, cell11_ k qm sm, cell10_ k qm sm, cell9_ k qm sm, cell7_ k qm sm] := hD
      refine lv_lconst (v := 0) hx hb dX12_shortly_25 (by decide) ?_
      refine lv_lstore (lv' := [(4, .long 0), (0, .ref (qm 0)), (1, .int p0), (2, .int p1), (3, .int p2)]) hx hb dX12_shortly_26 hl (by decide) rfl (fun ls hl => ?_)
      refine lv_iconst (v := 0) hx hb dX12_shortly_28 (by decide) ?_
      refine lv_istore (lv' := [(6, .int 0), (4, .long 0), (0, .ref (qm 0)), (1, .int p0), (2, .int p1), (3, .int p2)]) hx hb dX12_shortly_29 hl (by decide) rfl (fun ls hl => ?_)
      have hL31 : ∀ (n32 : Nat) (v30 : Int32) (v31 : Int64) (H : Heap) (locs : List Loc) (ls : Array Slot), 50 - v30.toInt < (n32 : Int) → (0 ≤ v30.toInt ∧ v30.toInt ≤ 50) → va_P D vwCl [cell22_ qm sm tm, cell5_ k qm sm, cell13_ k qm sm, cell8_ k qm sm, cell6_ k qm sm, cell14_ k qm sm, cell15_ k qm tm, cell12_ k qm tm, (qm 8, .inl (k 1, 50, .inr (.inl m19))), (qm 9, .inl (k 1, 50, .inr (.inl m20))), cell19_ k qm tm, cell21_ k qm tm, cell20_ k qm sm, cell16_ k qm sm, cell11_ k qm sm, cell10_ k qm sm, cell9_ k qm sm, cell7_ k qm sm] H → va_D A [cell22_ qm sm tm, cell5_ k qm sm, cell13_ k qm sm, cell8_ k qm sm, cell6_ k qm sm, cell14_ k qm sm, cell15_ k qm tm, cell12_ k qm tm, (qm 8, .inl (k 1, 50, .inr (.inl m19))), (qm 9, .inl (k 1, 50, .inr (.inl m20))), cell19_ k qm tm, cell21_ k qm tm, cell20_ k qm sm, cell16_ k qm sm, cell11_ k qm sm, cell10_ k qm sm, cell9_ k qm sm, cell7_ k qm sm] → va_S A s.heap H locs → lv_has ls 7 [(6, .int v30), (4, .long v31), (0, .ref (qm 0)), (1, .int p0), (2, .int p1), (3, .int p2)] → W p l e ({ frames := 4, cells := 0, slots := 0, locals := 101 } : Room) s m ([.ref (qm 0), .int p0, .int p1, .int p2] : List Value).toArray below meth c H locs 0 0 Q (F0 m 31 ls []) := by
        intro n32
        induction n32 with
        | zero => intro v30 v31 H locs ls hmn32 bv30 hP hD hS hl; exact absurd hmn32 (by omega)
        | succ n32 ih31 =>
          intro v30 v31 H locs ls hmn32 bv30 hP hD hS hl
          refine lv_iload hx hb dX12_shortly_31 (lv_at hl 0 rfl) ?_
          refine lv_bipush (v := 50) hx hb dX12_shortly_33 (by decide) ?_
          refine lv_icmp_ge (tgt := 83) hx hb dX12_shortly_35 (by decide) (fun c33 => ?_) (fun c33 => ?_)
          · have f33 : 50 ≤ v30.toInt := f_le (by decide) rfl c33
            refine lv_lload hx hb dX12_shortly_83 (lv_at hl 1 rfl) ?_
            refine lv_iload_n hx hb dX12_shortly_85 rfl (lv_at hl 4 rfl) ?_
            refine g_lr (g_runS (wc := []) (rest := [.long v31]) cx hP hD hS [] rfl (by decide) [.int p1] (c_X12_parts l D k b H.size p1) gX12_shortly_X12_parts rfl rfl rfl nd_X12_parts ⟨Nat.le_of_ble_eq_true rfl, Nat.le_of_ble_eq_true rfl⟩ rfl hl.1 rfl (Nat.le_of_ble_eq_true rfl) ⟨Nat.zero_le _, Nat.zero_le _⟩ dX12_shortly_86) cx.2.2.1 hP hD hS [] rfl rfl (fun r35 H locs hw34 hP hS => ?_)
            have w36 : r35.toInt % 2 = 1 := hw34
            clear hw34
            refine lv_iload_n hx hb dX12_shortly_89 rfl (lv_at hl 5 rfl) ?_
            refine g_lr (g_runS (wc := []) (rest := []) cx hP hD hS [] rfl (by decide) [.long v31, .long r35, .int p2] (c_X12_told l D k b H.size v31 r35 p2 (show ¬ r35.toInt = 0 from by first | decide | omega)) gX12_shortly_X12_told rfl rfl rfl nd_X12_told ⟨Nat.le_of_ble_eq_true rfl, Nat.le_of_ble_eq_true rfl⟩ rfl hl.1 rfl (Nat.le_of_ble_eq_true rfl) ⟨Nat.zero_le _, Nat.zero_le _⟩ dX12_shortly_90) cx.2.2.1 hP hD hS [] rfl rfl (fun r38 H locs hw37 hP hS => ?_)
            rw [hQ]
            exact x_l cx hr (m19, m20) hP hD hS trivial dX12_shortly_93
          · have f33 : v30.toInt < 50 := f_nle (by decide) rfl c33
            refine lv_lload hx hb dX12_shortly_38 (lv_at hl 1 rfl) ?_
            refine lv_aload_n hx hb dX12_shortly_40 rfl (lv_at hl 2 rfl) ?_
            refine g_get cx hP iw_X12_shortly_X12 0 rfl rfl 16 (by decide) rfl fw_X12_shortly_32 rfl dX12_shortly_41 ?_
            refine lv_iload hx hb dX12_shortly_44 (lv_at hl 0 rfl) ?_
            have hn39 : vp_in v30 50 := f_in (a := v30.toInt) rfl (by omega) (by omega)
            refine va_lald hx hb cx.2.1 hP 8 1 rfl rfl hn39 dX12_shortly_46 (lv_topl (fun v40 e40 => ?_))
            refine lv_lconst (v := 0) hx hb dX12_shortly_47 (by decide) ?_
            refine W.lcmp hx hb dX12_shortly_48 (lv_topi (fun v41 e41 => ?_))
            have hJ74 : ∀ (v46 : Int64) (H : Heap) (locs : List Loc) (ls : Array Slot), va_P D vwCl [cell22_ qm sm tm, cell5_ k qm sm, cell13_ k qm sm, cell8_ k qm sm, cell6_ k qm sm, cell14_ k qm sm, cell15_ k qm tm, cell12_ k qm tm, (qm 8, .inl (k 1, 50, .inr (.inl m19))), (qm 9, .inl (k 1, 50, .inr (.inl m20))), cell19_ k qm tm, cell21_ k qm tm, cell20_ k qm sm, cell16_ k qm sm, cell11_ k qm sm, cell10_ k qm sm, cell9_ k qm sm, cell7_ k qm sm] H → va_D A [cell22_ qm sm tm, cell5_ k qm sm, cell13_ k qm sm, cell8_ k qm sm, cell6_ k qm sm, cell14_ k qm sm, cell15_ k qm tm, cell12_ k qm tm, (qm 8, .inl (k 1, 50, .inr (.inl m19))), (qm 9, .inl (k 1, 50, .inr (.inl m20))), cell19_ k qm tm, cell21_ k qm tm, cell20_ k qm sm, cell16_ k qm sm, cell11_ k qm sm, cell10_ k qm sm, cell9_ k qm sm, cell7_ k qm sm] → va_S A s.heap H locs → lv_has ls 7 [(6, .int v30), (0, .ref (qm 0)), (1, .int p0), (2, .int p1), (3, .int p2)] → W p l e ({ frames := 4, cells := 0, slots := 0, locals := 101 } : Room) s m ([.ref (qm 0), .int p0, .int p1, .int p2] : List Value).toArray below meth c H locs 0 0 Q (F0 m 74 ls [.long v46, .long v31]) := by
              intro v46 H locs ls  hP hD hS hl
              refine lv_ladd hx hb dX12_shortly_74 (lv_topl (fun v47 e47 => ?_))
              refine lv_lstore (lv' := [(4, .long v47), (6, .int v30), (0, .ref (qm 0)), (1, .int p0), (2, .int p1), (3, .int p2)]) hx hb dX12_shortly_75 hl (by decide) rfl (fun ls hl => ?_)
              obtain ⟨v48, e48⟩ : ∃ z : Int32, z = v30 + 1 := ⟨_, rfl⟩
              refine lv_iinc (v := v48) (lv' := [(6, .int v48), (4, .long v47), (0, .ref (qm 0)), (1, .int p0), (2, .int p1), (3, .int p2)]) hx hb dX12_shortly_77 hl (k := 1) rfl (by rw [e48]; rfl) (by decide) rfl (fun ls hl => ?_)
              have t48 : v48.toInt = v30.toInt + 1 := by rw [e48]; exact i_add rfl (by decide) (by omega) (by omega)
              refine lv_goto (tgt := 31) hx hb dX12_shortly_80 (by decide) ?_
              exact ih31 v48 v47 _ _ _ (by omega) (by first | decide | omega) hP hD hS (lv_sub hl [0, 1, 2, 3, 4, 5] rfl)
            have hJ73 : ∀  (H : Heap) (locs : List Loc) (ls : Array Slot), va_P D vwCl [cell22_ qm sm tm, cell5_ k qm sm, cell13_ k qm sm, cell8_ k qm sm, cell6_ k qm sm, cell14_ k qm sm, cell15_ k qm tm, cell12_ k qm tm, (qm 8, .inl (k 1, 50, .inr (.inl m19))), (qm 9, .inl (k 1, 50, .inr (.inl m20))), cell19_ k qm tm, cell21_ k qm tm, cell20_ k qm sm, cell16_ k qm sm, cell11_ k qm sm, cell10_ k qm sm, cell9_ k qm sm, cell7_ k qm sm] H → va_D A [cell22_ qm sm tm, cell5_ k qm sm, cell13_ k qm sm, cell8_ k qm sm, cell6_ k qm sm, cell14_ k qm sm, cell15_ k qm tm, cell12_ k qm tm, (qm 8, .inl (k 1, 50, .inr (.inl m19))), (qm 9, .inl (k 1, 50, .inr (.inl m20))), cell19_ k qm tm, cell21_ k qm tm, cell20_ k qm sm, cell16_ k qm sm, cell11_ k qm sm, cell10_ k qm sm, cell9_ k qm sm, cell7_ k qm sm] → va_S A s.heap H locs → lv_has ls 7 [(6, .int v30), (0, .ref (qm 0)), (1, .int p0), (2, .int p1), (3, .int p2)] → W p l e ({ frames := 4, cells := 0, slots := 0, locals := 101 } : Room) s m ([.ref (qm 0), .int p0, .int p1, .int p2] : List Value).toArray below meth c H locs 0 0 Q (F0 m 73 ls [.long v31]) := by
              intro  H locs ls  hP hD hS hl
              refine lv_lconst (v := 0) hx hb dX12_shortly_73 (by decide) ?_
              have hlit53 : (0 : Int32).toInt = 0 := by decide
              exact hJ74 0 _ _ _  hP hD hS (lv_sub hl [0, 1, 2, 3, 4] rfl)
            refine lv_if_le (tgt := 73) hx hb dX12_shortly_49 (by decide) (fun c54 => ?_) (fun c54 => ?_)
            · have f54 : v41.toInt ≤ 0 := f_le rfl (by decide) c54
              exact hJ73  _ _ _  hP hD hS (lv_sub hl [0, 2, 3, 4, 5] rfl)
            · have f54 : 0 < v41.toInt := f_nle rfl (by decide) c54
              refine lv_aload_n hx hb dX12_shortly_52 rfl (lv_at hl 2 rfl) ?_
              refine lv_iload_n hx hb dX12_shortly_53 rfl (lv_at hl 3 rfl) ?_
              refine lv_iload_n hx hb dX12_shortly_54 rfl (lv_at hl 4 rfl) ?_
              refine lv_iload hx hb dX12_shortly_55 (lv_at hl 0 rfl) ?_
              refine g_iF (w1 := fun (_ : Unit) => [cell22_ qm sm tm, cell5_ k qm sm, cell13_ k qm sm, cell8_ k qm sm, cell6_ k qm sm, cell14_ k qm sm, cell15_ k qm tm, cell12_ k qm tm, (qm 8, .inl (k 1, 50, .inr (.inl m19))), (qm 9, .inl (k 1, 50, .inr (.inl m20))), cell19_ k qm tm, cell21_ k qm tm, cell20_ k qm sm, cell16_ k qm sm, cell11_ k qm sm, cell10_ k qm sm, cell9_ k qm sm, cell7_ k qm sm]) (g_runVF (ws := [cell22_ qm sm tm, cell5_ k qm sm, cell13_ k qm sm, cell8_ k qm sm, cell6_ k qm sm, cell14_ k qm sm, cell15_ k qm tm, cell12_ k qm tm, (qm 8, .inl (k 1, 50, .inr (.inl m19))), (qm 9, .inl (k 1, 50, .inr (.inl m20))), cell19_ k qm tm, cell21_ k qm tm, cell20_ k qm sm, cell16_ k qm sm, cell11_ k qm sm, cell10_ k qm sm, cell9_ k qm sm, cell7_ k qm sm]) (rest := [.long v31]) cx hP hD hS [.int p0, .int p1, .int v30] (c_X12_overBy l D k b qm sm (up2L (up2L tm 8 m19) 9 m20) H.size p0 p1 v30 (show 0 ≤ ((sm 2) 0).toInt ∧ ((sm 2) 0).toInt ≤ 5 from by first | decide | omega) (show 0 ≤ p0.toInt ∧ p0.toInt ≤ 2 from by first | decide | omega) (show 0 ≤ p1.toInt ∧ p1.toInt ≤ 4 from by first | decide | omega)) gX12_shortly_X12_overBy rfl rfl rfl nd_X12_overBy ⟨Nat.le_of_ble_eq_true rfl, Nat.le_of_ble_eq_true rfl⟩ (ci := 10) (q0 := 0) rfl rfl rfl hl.1 rfl (Nat.le_of_ble_eq_true rfl) ⟨Nat.zero_le _, Nat.zero_le _⟩ dX12_shortly_57) cx.2.2.1 hD hS (fun r56 _ H locs hw55 hP hD hS => ?_)
              refine lv_if_ge (tgt := 73) hx hb dX12_shortly_60 (by decide) (fun c57 => ?_) (fun c57 => ?_)
              · have f57 : 0 ≤ r56.toInt := f_le (by decide) rfl c57
                exact hJ73  _ _ _  hP hD hS (lv_sub hl [0, 2, 3, 4, 5] rfl)
              · have f57 : r56.toInt < 0 := f_nle (by decide) rfl c57
                refine lv_aload_n hx hb dX12_shortly_63 rfl (lv_at hl 2 rfl) ?_
                refine g_get cx hP iw_X12_shortly_X12 0 rfl rfl 16 (by decide) rfl fw_X12_shortly_32 rfl dX12_shortly_64 ?_
                refine lv_iload hx hb dX12_shortly_67 (lv_at hl 0 rfl) ?_
                have hn58 : vp_in v30 50 := f_in (a := v30.toInt) rfl (by omega) (by omega)
                refine va_lald hx hb cx.2.1 hP 8 1 rfl rfl hn58 dX12_shortly_69 (lv_topl (fun v59 e59 => ?_))
                obtain rfl : v40 = v59 := e40.trans e59.symm
                refine lv_goto (tgt := 74) hx hb dX12_shortly_70 (by decide) ?_
                exact hJ74 v40 _ _ _  hP hD hS (lv_sub hl [0, 2, 3, 4, 5] rfl)
      have hlit60 : (0 : Int32).toInt = 0 := by decide
      have hlit61 : (0 : Int32).toInt = 0 := by decide
      exact hL31 (Int.toNat (50 - 0) + 1) 0 0 _ _ _ (by omega) (by first | decide | omega) hP hD hS (lv_sub hl [0, 1, 2, 3, 4, 5] rfl)
    · have f16 : r10.toInt = 0 := f_eq rfl (by decide) c16
      refine lv_ldc2 (v := (-1)) hx hb cx.1.2.2.2.1 (cx.1.2.2.2.2 _ kJ_X12_shortly_221) dX12_shortly_15 ?_
      rw [hQ]
      exact x_l cx hr ((tm 8), (tm 9)) hP hD hS trivial dX12_shortly_18
