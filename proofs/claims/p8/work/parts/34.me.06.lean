theorem fw_X12_idle_32 : Cond.fieldLink RX12 32 "StillInAugustModel" "likely" "[J" ∈ wsX12_idle := by decide +kernel
theorem kJ_X12_idle_221 : Cond.constantLong RX12 221 (-1) ∈ wsX12_idle := by decide +kernel
theorem iw_X12_idle_X12 : ∀ w ∈ u_ws RX12 TX12 33, w ∈ wsX12_idle := fun _ h => List.mem_cons_of_mem _ (List.mem_append_right _ h)
set_option maxHeartbeats 4000000 in
set_option maxRecDepth 100000 in
theorem c_X12_idle (l : Launch) (D : va_G) (k : Nat → ClassId) (b : Nat → Nat) (qm : Nat → Nat) (sm : Nat → Nat → Int32) (tm : Nat → Nat → Int64) (sz : Nat) (p0 : Int32) (p1 : Int32) (p2 : Int32) (h_w0 : 0 ≤ (sm 2 0).toInt ∧ (sm 2 0).toInt ≤ 5) (h_k1 : 0 ≤ (sm 2 1).toInt ∧ (sm 2 1).toInt ≤ 4) : MetL l D k b yX12_idle wsX12_idle ({ frames := 4, cells := 0, slots := 0, locals := 101 } : Room) [cell22_ qm sm tm, cell5_ k qm sm, cell13_ k qm sm, cell8_ k qm sm, cell6_ k qm sm, cell14_ k qm sm, cell15_ k qm tm, cell12_ k qm tm, cell18_ k qm tm, cell17_ k qm tm, cell19_ k qm tm, cell21_ k qm tm, cell20_ k qm sm, cell16_ k qm sm, cell11_ k qm sm, cell10_ k qm sm, cell9_ k qm sm, cell7_ k qm sm] sz [.ref (qm 0), .int p0, .int p1, .int p2] (fun (r : Int64) (u : (Nat → Int64) × (Nat → Int64)) => True) (fun u => [cell22_ qm sm tm, cell5_ k qm sm, cell13_ k qm sm, cell8_ k qm sm, cell6_ k qm sm, cell14_ k qm sm, cell15_ k qm tm, cell12_ k qm tm, cell147_ k qm (u.1), cell148_ k qm (u.2), cell19_ k qm tm, cell21_ k qm tm, cell20_ k qm sm, cell16_ k qm sm, cell11_ k qm sm, cell10_ k qm sm, cell9_ k qm sm, cell7_ k qm sm]) := by
  refine g_enter (cc := cX12_idle) (maxL := 8) (ret := (some .long)) (by decide) rfl (Nat.le_of_ble_eq_true rfl) ?_
  intro p e s m below meth c A hsz hAe cx hr hP hD hS ls hl
  rw [hAe]
  refine g_q (fun Q hQ => ?_)
  have hx := cx.1.1
  have hb := cx.1.2.1
  have bp0 := i_rng p0
  have bp1 := i_rng p1
  have bp2 := i_rng p2
  have hl : lv_has ls 8 [(0, .ref (qm 0)), (1, .int p0), (2, .int p1), (3, .int p2)] := hl
  obtain ⟨H, eH⟩ : ∃ H : Heap, H = s.heap := ⟨_, rfl⟩
  obtain ⟨locs, el⟩ : ∃ L : List Loc, L = [] := ⟨_, rfl⟩
  have hP : va_P D vwCl [cell22_ qm sm tm, cell5_ k qm sm, cell13_ k qm sm, cell8_ k qm sm, cell6_ k qm sm, cell14_ k qm sm, cell15_ k qm tm, cell12_ k qm tm, cell18_ k qm tm, cell17_ k qm tm, cell19_ k qm tm, cell21_ k qm tm, cell20_ k qm sm, cell16_ k qm sm, cell11_ k qm sm, cell10_ k qm sm, cell9_ k qm sm, cell7_ k qm sm] H := by rw [eH]; exact hP
  have hD : va_D A [cell22_ qm sm tm, cell5_ k qm sm, cell13_ k qm sm, cell8_ k qm sm, cell6_ k qm sm, cell14_ k qm sm, cell15_ k qm tm, cell12_ k qm tm, cell18_ k qm tm, cell17_ k qm tm, cell19_ k qm tm, cell21_ k qm tm, cell20_ k qm sm, cell16_ k qm sm, cell11_ k qm sm, cell10_ k qm sm, cell9_ k qm sm, cell7_ k qm sm] := hD
  have hS : va_S A s.heap H locs := by rw [eH, el]; exact hS
  suffices goal : W p l e ({ frames := 4, cells := 0, slots := 0, locals := 101 } : Room) s m ([.ref (qm 0), .int p0, .int p1, .int p2] : List Value).toArray below meth c H locs 0 0 Q (F0 m 0 ls []) by rw [eH, el] at goal; exact goal
  refine lv_iload_n hx hb dX12_idle_0 rfl (lv_at hl 1 rfl) ?_
  refine g_ir (g_runS (wc := []) (rest := []) cx hP hD hS [] rfl (by decide) [.int p0] (c_X12_isRule l D k b H.size p0) gX12_idle_X12_isRule rfl rfl rfl nd_X12_isRule ⟨Nat.le_of_ble_eq_true rfl, Nat.le_of_ble_eq_true rfl⟩ rfl hl.1 rfl (Nat.le_of_ble_eq_true rfl) ⟨Nat.zero_le _, Nat.zero_le _⟩ dX12_idle_1) cx.2.2.1 hP hD hS [] rfl rfl (fun r2 H locs hw1 hP hS => ?_)
  replace hw1 : (0 ≤ r2.toInt ∧ r2.toInt ≤ 1) ∧ (Imp (r2.toInt = 1) (0 ≤ p0.toInt ∧ p0.toInt ≤ 2)) ∧ (r2 = J_X12_isRule p0) := hw1
  obtain ⟨w3, w4, w5⟩ := hw1
  have k7 : r2 = (J_X12_isRule p0) := congrArg (fun z => z) w5
  have zr2 : 0 ≤ r2.toInt ∧ r2.toInt ≤ 1 := w3
  refine lv_if_eq (tgt := 15) hx hb dX12_idle_4 (by decide) (fun c8 => ?_) (fun c8 => ?_)
  · have f8 : r2.toInt = 0 := f_eq rfl (by decide) c8
    refine lv_ldc2 (v := (-1)) hx hb cx.1.2.2.2.1 (cx.1.2.2.2.2 _ kJ_X12_idle_221) dX12_idle_15 ?_
    rw [hQ]
    exact x_l cx hr ((tm 8), (tm 9)) hP hD hS trivial dX12_idle_18
  · have f8 : ¬ r2.toInt = 0 := f_ne rfl (by decide) c8
    have k8 : (0 ≤ p0.toInt ∧ p0.toInt ≤ 2) := w4 (by omega)
    refine lv_aload_n hx hb dX12_idle_7 rfl (lv_at hl 0 rfl) ?_
    refine lv_iload_n hx hb dX12_idle_8 rfl (lv_at hl 2 rfl) ?_
    refine g_iF (w1 := fun (_ : Unit) => [cell22_ qm sm tm, cell5_ k qm sm, cell13_ k qm sm, cell8_ k qm sm, cell6_ k qm sm, cell14_ k qm sm, cell15_ k qm tm, cell12_ k qm tm, cell18_ k qm tm, cell17_ k qm tm, cell19_ k qm tm, cell21_ k qm tm, cell20_ k qm sm, cell16_ k qm sm, cell11_ k qm sm, cell10_ k qm sm, cell9_ k qm sm, cell7_ k qm sm]) (g_runVF (ws := [cell22_ qm sm tm, cell5_ k qm sm, cell13_ k qm sm, cell8_ k qm sm, cell6_ k qm sm, cell14_ k qm sm, cell15_ k qm tm, cell12_ k qm tm, cell18_ k qm tm, cell17_ k qm tm, cell19_ k qm tm, cell21_ k qm tm, cell20_ k qm sm, cell16_ k qm sm, cell11_ k qm sm, cell10_ k qm sm, cell9_ k qm sm, cell7_ k qm sm]) (rest := []) cx hP hD hS [.int p1] (c_X12_isWeek l D k b qm sm tm H.size p1 (show 0 ≤ ((sm 2) 0).toInt ∧ ((sm 2) 0).toInt ≤ 5 from by first | decide | omega)) gX12_idle_X12_isWeek rfl rfl rfl nd_X12_isWeek ⟨Nat.le_of_ble_eq_true rfl, Nat.le_of_ble_eq_true rfl⟩ (ci := 10) (q0 := 0) rfl rfl rfl hl.1 rfl (Nat.le_of_ble_eq_true rfl) ⟨Nat.zero_le _, Nat.zero_le _⟩ dX12_idle_9) cx.2.2.1 hD hS (fun r10 _ H locs hw9 hP hD hS => ?_)
    replace hw9 : (0 ≤ r10.toInt ∧ r10.toInt ≤ 1) ∧ (Imp (r10.toInt = 1) (0 ≤ p1.toInt ∧ p1.toInt ≤ 4)) ∧ (r10 = J_X12_isWeek sm tm p1) := hw9
    obtain ⟨w11, w12, w13⟩ := hw9
    have k15 : r10 = (J_X12_isWeek sm tm p1) := congrArg (fun z => z) w13
    have zr10 : 0 ≤ r10.toInt ∧ r10.toInt ≤ 1 := w11
    refine lv_if_ne (tgt := 19) hx hb dX12_idle_12 (by decide) (fun c16 => ?_) (fun c16 => ?_)
    · have f16 : ¬ r10.toInt = 0 := f_ne rfl (by decide) c16
      have k16 : (0 ≤ p1.toInt ∧ p1.toInt ≤ 4) := w12 (by omega)
      refine lv_aload_n hx hb dX12_idle_19 rfl (lv_at hl 0 rfl) ?_
      refine lv_iload_n hx hb dX12_idle_20 rfl (lv_at hl 1 rfl) ?_
      refine lv_iload_n hx hb dX12_idle_21 rfl (lv_at hl 2 rfl) ?_
      refine g_vF (w1 := fun (u : (Nat → Int64) × (Nat → Int64)) => [cell22_ qm sm tm, cell5_ k qm sm, cell13_ k qm sm, cell8_ k qm sm, cell6_ k qm sm, cell14_ k qm sm, cell15_ k qm tm, cell12_ k qm tm, cell147_ k qm (u.1), cell148_ k qm (u.2), cell19_ k qm tm, cell21_ k qm tm, cell20_ k qm sm, cell16_ k qm sm, cell11_ k qm sm, cell10_ k qm sm, cell9_ k qm sm, cell7_ k qm sm]) (g_runVF (ws := [cell22_ qm sm tm, cell5_ k qm sm, cell13_ k qm sm, cell8_ k qm sm, cell6_ k qm sm, cell14_ k qm sm, cell15_ k qm tm, cell12_ k qm tm, cell18_ k qm tm, cell17_ k qm tm, cell19_ k qm tm, cell21_ k qm tm, cell20_ k qm sm, cell16_ k qm sm, cell11_ k qm sm, cell10_ k qm sm, cell9_ k qm sm, cell7_ k qm sm]) (rest := []) cx hP hD hS [.int p0, .int p1] (c_X12_layLikely l D k b qm sm tm H.size p0 p1 (show 0 ≤ ((sm 2) 0).toInt ∧ ((sm 2) 0).toInt ≤ 5 from by first | decide | omega) (show 0 ≤ ((sm 2) 1).toInt ∧ ((sm 2) 1).toInt ≤ 4 from by first | decide | omega) (show 0 ≤ p0.toInt ∧ p0.toInt ≤ 2 from by first | decide | omega) (show 0 ≤ p1.toInt ∧ p1.toInt ≤ 5 from by first | decide | omega)) gX12_idle_X12_layLikely rfl rfl rfl nd_X12_layLikely ⟨Nat.le_of_ble_eq_true rfl, Nat.le_of_ble_eq_true rfl⟩ (ci := 10) (q0 := 0) rfl rfl rfl hl.1 rfl (Nat.le_of_ble_eq_true rfl) ⟨Nat.zero_le _, Nat.zero_le _⟩ dX12_idle_22) cx.2.2.1 hD hS (fun u18 H locs hw17 hP hD hS => ?_)
      obtain ⟨m19, m20⟩ := u18
      have hP : va_P D vwCl [cell22_ qm sm tm, cell5_ k qm sm, cell13_ k qm sm, cell8_ k qm sm, cell6_ k qm sm, cell14_ k qm sm, cell15_ k qm tm, cell12_ k qm tm, (qm 8, .inl (k 1, 50, .inr (.inl m19))), (qm 9, .inl (k 1, 50, .inr (.inl m20))), cell19_ k qm tm, cell21_ k qm tm, cell20_ k qm sm, cell16_ k qm sm, cell11_ k qm sm, cell10_ k qm sm, cell9_ k qm sm, cell7_ k qm sm] H := hP
      have hD : va_D A [cell22_ qm sm tm, cell5_ k qm sm, cell13_ k qm sm, cell8_ k qm sm, cell6_ k qm sm, cell14_ k qm sm, cell15_ k qm tm, cell12_ k qm tm, (qm 8, .inl (k 1, 50, .inr (.inl m19))), (qm 9, .inl (k 1, 50, .inr (.inl m20))), cell19_ k qm tm, cell21_ k qm tm, cell20_ k qm sm, cell16_ k qm sm, cell11_ k qm sm, cell10_ k qm sm, cell9_ k qm sm, cell7_ k qm sm] := hD
      refine lv_lconst (v := 0) hx hb dX12_idle_25 (by decide) ?_
      refine lv_lstore (lv' := [(4, .long 0), (0, .ref (qm 0)), (1, .int p0), (2, .int p1), (3, .int p2)]) hx hb dX12_idle_26 hl (by decide) rfl (fun ls hl => ?_)
      refine lv_iconst (v := 0) hx hb dX12_idle_28 (by decide) ?_
      refine lv_istore (lv' := [(6, .int 0), (4, .long 0), (0, .ref (qm 0)), (1, .int p0), (2, .int p1), (3, .int p2)]) hx hb dX12_idle_29 hl (by decide) rfl (fun ls hl => ?_)
      have hL31 : ∀ (n34 : Nat) (v32 : Int32) (v33 : Int64) (H : Heap) (locs : List Loc) (ls : Array Slot), 50 - v32.toInt < (n34 : Int) → (0 ≤ v32.toInt ∧ v32.toInt ≤ 50) → va_P D vwCl [cell22_ qm sm tm, cell5_ k qm sm, cell13_ k qm sm, cell8_ k qm sm, cell6_ k qm sm, cell14_ k qm sm, cell15_ k qm tm, cell12_ k qm tm, (qm 8, .inl (k 1, 50, .inr (.inl m19))), (qm 9, .inl (k 1, 50, .inr (.inl m20))), cell19_ k qm tm, cell21_ k qm tm, cell20_ k qm sm, cell16_ k qm sm, cell11_ k qm sm, cell10_ k qm sm, cell9_ k qm sm, cell7_ k qm sm] H → va_D A [cell22_ qm sm tm, cell5_ k qm sm, cell13_ k qm sm, cell8_ k qm sm, cell6_ k qm sm, cell14_ k qm sm, cell15_ k qm tm, cell12_ k qm tm, (qm 8, .inl (k 1, 50, .inr (.inl m19))), (qm 9, .inl (k 1, 50, .inr (.inl m20))), cell19_ k qm tm, cell21_ k qm tm, cell20_ k qm sm, cell16_ k qm sm, cell11_ k qm sm, cell10_ k qm sm, cell9_ k qm sm, cell7_ k qm sm] → va_S A s.heap H locs → lv_has ls 8 [(6, .int v32), (4, .long v33), (0, .ref (qm 0)), (1, .int p0), (2, .int p1), (3, .int p2)] → W p l e ({ frames := 4, cells := 0, slots := 0, locals := 101 } : Room) s m ([.ref (qm 0), .int p0, .int p1, .int p2] : List Value).toArray below meth c H locs 0 0 Q (F0 m 31 ls []) := by
        intro n34
        induction n34 with
        | zero => intro v32 v33 H locs ls hmn34 bv32 hP hD hS hl; exact absurd hmn34 (by omega)
        | succ n34 ih31 =>
          intro v32 v33 H locs ls hmn34 bv32 hP hD hS hl
          refine lv_iload hx hb dX12_idle_31 (lv_at hl 0 rfl) ?_
          refine lv_bipush (v := 50) hx hb dX12_idle_33 (by decide) ?_
          refine lv_icmp_ge (tgt := 95) hx hb dX12_idle_35 (by decide) (fun c35 => ?_) (fun c35 => ?_)
          · have f35 : 50 ≤ v32.toInt := f_le (by decide) rfl c35
            refine lv_lload hx hb dX12_idle_95 (lv_at hl 1 rfl) ?_
            refine lv_iload_n hx hb dX12_idle_97 rfl (lv_at hl 4 rfl) ?_
            refine g_lr (g_runS (wc := []) (rest := [.long v33]) cx hP hD hS [] rfl (by decide) [.int p1] (c_X12_parts l D k b H.size p1) gX12_idle_X12_parts rfl rfl rfl nd_X12_parts ⟨Nat.le_of_ble_eq_true rfl, Nat.le_of_ble_eq_true rfl⟩ rfl hl.1 rfl (Nat.le_of_ble_eq_true rfl) ⟨Nat.zero_le _, Nat.zero_le _⟩ dX12_idle_98) cx.2.2.1 hP hD hS [] rfl rfl (fun r37 H locs hw36 hP hS => ?_)
            have w38 : r37.toInt % 2 = 1 := hw36
            clear hw36
            refine lv_iload_n hx hb dX12_idle_101 rfl (lv_at hl 5 rfl) ?_
            refine g_lr (g_runS (wc := []) (rest := []) cx hP hD hS [] rfl (by decide) [.long v33, .long r37, .int p2] (c_X12_told l D k b H.size v33 r37 p2 (show ¬ r37.toInt = 0 from by first | decide | omega)) gX12_idle_X12_told rfl rfl rfl nd_X12_told ⟨Nat.le_of_ble_eq_true rfl, Nat.le_of_ble_eq_true rfl⟩ rfl hl.1 rfl (Nat.le_of_ble_eq_true rfl) ⟨Nat.zero_le _, Nat.zero_le _⟩ dX12_idle_102) cx.2.2.1 hP hD hS [] rfl rfl (fun r40 H locs hw39 hP hS => ?_)
            rw [hQ]
            exact x_l cx hr (m19, m20) hP hD hS trivial dX12_idle_105
          · have f35 : v32.toInt < 50 := f_nle (by decide) rfl c35
            refine lv_aload_n hx hb dX12_idle_38 rfl (lv_at hl 2 rfl) ?_
            refine g_get cx hP iw_X12_idle_X12 0 rfl rfl 16 (by decide) rfl fw_X12_idle_32 rfl dX12_idle_39 ?_
            refine lv_iload hx hb dX12_idle_42 (lv_at hl 0 rfl) ?_
            have hn41 : vp_in v32 50 := f_in (a := v32.toInt) rfl (by omega) (by omega)
            refine va_lald hx hb cx.2.1 hP 8 1 rfl rfl hn41 dX12_idle_44 (lv_topl (fun v42 e42 => ?_))
            refine lv_lconst (v := 0) hx hb dX12_idle_45 (by decide) ?_
            refine W.lcmp hx hb dX12_idle_46 (lv_topi (fun v43 e43 => ?_))
            have hJ62 : ∀ (v46 : Int32) (H : Heap) (locs : List Loc) (ls : Array Slot), va_P D vwCl [cell22_ qm sm tm, cell5_ k qm sm, cell13_ k qm sm, cell8_ k qm sm, cell6_ k qm sm, cell14_ k qm sm, cell15_ k qm tm, cell12_ k qm tm, (qm 8, .inl (k 1, 50, .inr (.inl m19))), (qm 9, .inl (k 1, 50, .inr (.inl m20))), cell19_ k qm tm, cell21_ k qm tm, cell20_ k qm sm, cell16_ k qm sm, cell11_ k qm sm, cell10_ k qm sm, cell9_ k qm sm, cell7_ k qm sm] H → va_D A [cell22_ qm sm tm, cell5_ k qm sm, cell13_ k qm sm, cell8_ k qm sm, cell6_ k qm sm, cell14_ k qm sm, cell15_ k qm tm, cell12_ k qm tm, (qm 8, .inl (k 1, 50, .inr (.inl m19))), (qm 9, .inl (k 1, 50, .inr (.inl m20))), cell19_ k qm tm, cell21_ k qm tm, cell20_ k qm sm, cell16_ k qm sm, cell11_ k qm sm, cell10_ k qm sm, cell9_ k qm sm, cell7_ k qm sm] → va_S A s.heap H locs → lv_has ls 8 [(6, .int v32), (4, .long v33), (0, .ref (qm 0)), (1, .int p0), (2, .int p1), (3, .int p2)] → W p l e ({ frames := 4, cells := 0, slots := 0, locals := 101 } : Room) s m ([.ref (qm 0), .int p0, .int p1, .int p2] : List Value).toArray below meth c H locs 0 0 Q (F0 m 62 ls [.int v46]) := by
              intro v46 H locs ls  hP hD hS hl
              refine lv_istore (lv' := [(7, .int v46), (6, .int v32), (4, .long v33), (0, .ref (qm 0)), (1, .int p0), (2, .int p1), (3, .int p2)]) hx hb dX12_idle_62 hl (by decide) rfl (fun ls hl => ?_)
              refine lv_lload hx hb dX12_idle_64 (lv_at hl 2 rfl) ?_
              refine lv_iload hx hb dX12_idle_66 (lv_at hl 0 rfl) ?_
              have hJ86 : ∀ (v51 : Int64) (H : Heap) (locs : List Loc) (ls : Array Slot), va_P D vwCl [cell22_ qm sm tm, cell5_ k qm sm, cell13_ k qm sm, cell8_ k qm sm, cell6_ k qm sm, cell14_ k qm sm, cell15_ k qm tm, cell12_ k qm tm, (qm 8, .inl (k 1, 50, .inr (.inl m19))), (qm 9, .inl (k 1, 50, .inr (.inl m20))), cell19_ k qm tm, cell21_ k qm tm, cell20_ k qm sm, cell16_ k qm sm, cell11_ k qm sm, cell10_ k qm sm, cell9_ k qm sm, cell7_ k qm sm] H → va_D A [cell22_ qm sm tm, cell5_ k qm sm, cell13_ k qm sm, cell8_ k qm sm, cell6_ k qm sm, cell14_ k qm sm, cell15_ k qm tm, cell12_ k qm tm, (qm 8, .inl (k 1, 50, .inr (.inl m19))), (qm 9, .inl (k 1, 50, .inr (.inl m20))), cell19_ k qm tm, cell21_ k qm tm, cell20_ k qm sm, cell16_ k qm sm, cell11_ k qm sm, cell10_ k qm sm, cell9_ k qm sm, cell7_ k qm sm] → va_S A s.heap H locs → lv_has ls 8 [(6, .int v32), (0, .ref (qm 0)), (1, .int p0), (2, .int p1), (3, .int p2)] → W p l e ({ frames := 4, cells := 0, slots := 0, locals := 101 } : Room) s m ([.ref (qm 0), .int p0, .int p1, .int p2] : List Value).toArray below meth c H locs 0 0 Q (F0 m 86 ls [.long v51, .long v33]) := by
                intro v51 H locs ls  hP hD hS hl
                refine lv_ladd hx hb dX12_idle_86 (lv_topl (fun v52 e52 => ?_))
                refine lv_lstore (lv' := [(4, .long v52), (6, .int v32), (0, .ref (qm 0)), (1, .int p0), (2, .int p1), (3, .int p2)]) hx hb dX12_idle_87 hl (by decide) rfl (fun ls hl => ?_)
                obtain ⟨v53, e53⟩ : ∃ z : Int32, z = v32 + 1 := ⟨_, rfl⟩
                refine lv_iinc (v := v53) (lv' := [(6, .int v53), (4, .long v52), (0, .ref (qm 0)), (1, .int p0), (2, .int p1), (3, .int p2)]) hx hb dX12_idle_89 hl (k := 1) rfl (by rw [e53]; rfl) (by decide) rfl (fun ls hl => ?_)
                have t53 : v53.toInt = v32.toInt + 1 := by rw [e53]; exact i_add rfl (by decide) (by omega) (by omega)
                refine lv_goto (tgt := 31) hx hb dX12_idle_92 (by decide) ?_
                exact ih31 v53 v52 _ _ _ (by omega) (by first | decide | omega) hP hD hS (lv_sub hl [0, 1, 2, 3, 4, 5] rfl)
              refine lv_if_le (tgt := 85) hx hb dX12_idle_68 (by decide) (fun c54 => ?_) (fun c54 => ?_)
              · have f54 : v46.toInt ≤ 0 := f_le rfl (by decide) c54
                refine lv_lconst (v := 0) hx hb dX12_idle_85 (by decide) ?_
                have hlit55 : (0 : Int32).toInt = 0 := by decide
                exact hJ86 0 _ _ _  hP hD hS (lv_sub hl [1, 3, 4, 5, 6] rfl)
              · have f54 : 0 < v46.toInt := f_nle rfl (by decide) c54
                refine lv_iload hx hb dX12_idle_71 (lv_at hl 0 rfl) ?_
                obtain ⟨v56, e56⟩ : ∃ z : Int64, z = (v46 : Int32).toInt64 := ⟨_, rfl⟩
                refine lv_i2l (v := v56) hx hb dX12_idle_73 e56.symm ?_
                refine lv_aload_n hx hb dX12_idle_74 rfl (lv_at hl 3 rfl) ?_
                refine g_get cx hP iw_X12_idle_X12 0 rfl rfl 16 (by decide) rfl fw_X12_idle_32 rfl dX12_idle_75 ?_
                refine lv_iload hx hb dX12_idle_78 (lv_at hl 1 rfl) ?_
                have hn57 : vp_in v32 50 := f_in (a := v32.toInt) rfl (by omega) (by omega)
                refine va_lald hx hb cx.2.1 hP 8 1 rfl rfl hn57 dX12_idle_80 (lv_topl (fun v58 e58 => ?_))
                obtain rfl : v42 = v58 := e42.trans e58.symm
                refine lv_lmul hx hb dX12_idle_81 (lv_topl (fun v59 e59 => ?_))
                refine lv_goto (tgt := 86) hx hb dX12_idle_82 (by decide) ?_
                exact hJ86 v59 _ _ _  hP hD hS (lv_sub hl [1, 3, 4, 5, 6] rfl)
            refine lv_if_le (tgt := 61) hx hb dX12_idle_47 (by decide) (fun c60 => ?_) (fun c60 => ?_)
            · have f60 : v43.toInt ≤ 0 := f_le rfl (by decide) c60
              refine lv_iconst (v := 0) hx hb dX12_idle_61 (by decide) ?_
              have hlit61 : (0 : Int32).toInt = 0 := by decide
              exact hJ62 0 _ _ _  hP hD hS (lv_sub hl [0, 1, 2, 3, 4, 5] rfl)
            · have f60 : 0 < v43.toInt := f_nle rfl (by decide) c60
              refine lv_aload_n hx hb dX12_idle_50 rfl (lv_at hl 2 rfl) ?_
              refine lv_iload_n hx hb dX12_idle_51 rfl (lv_at hl 3 rfl) ?_
              refine lv_iload_n hx hb dX12_idle_52 rfl (lv_at hl 4 rfl) ?_
              refine lv_iload hx hb dX12_idle_53 (lv_at hl 0 rfl) ?_
              refine g_iF (w1 := fun (_ : Unit) => [cell22_ qm sm tm, cell5_ k qm sm, cell13_ k qm sm, cell8_ k qm sm, cell6_ k qm sm, cell14_ k qm sm, cell15_ k qm tm, cell12_ k qm tm, (qm 8, .inl (k 1, 50, .inr (.inl m19))), (qm 9, .inl (k 1, 50, .inr (.inl m20))), cell19_ k qm tm, cell21_ k qm tm, cell20_ k qm sm, cell16_ k qm sm, cell11_ k qm sm, cell10_ k qm sm, cell9_ k qm sm, cell7_ k qm sm]) (g_runVF (ws := [cell22_ qm sm tm, cell5_ k qm sm, cell13_ k qm sm, cell8_ k qm sm, cell6_ k qm sm, cell14_ k qm sm, cell15_ k qm tm, cell12_ k qm tm, (qm 8, .inl (k 1, 50, .inr (.inl m19))), (qm 9, .inl (k 1, 50, .inr (.inl m20))), cell19_ k qm tm, cell21_ k qm tm, cell20_ k qm sm, cell16_ k qm sm, cell11_ k qm sm, cell10_ k qm sm, cell9_ k qm sm, cell7_ k qm sm]) (rest := []) cx hP hD hS [.int p0, .int p1, .int v32] (c_X12_overBy l D k b qm sm (up2L (up2L tm 8 m19) 9 m20) H.size p0 p1 v32 (show 0 ≤ ((sm 2) 0).toInt ∧ ((sm 2) 0).toInt ≤ 5 from by first | decide | omega) (show 0 ≤ p0.toInt ∧ p0.toInt ≤ 2 from by first | decide | omega) (show 0 ≤ p1.toInt ∧ p1.toInt ≤ 4 from by first | decide | omega)) gX12_idle_X12_overBy rfl rfl rfl nd_X12_overBy ⟨Nat.le_of_ble_eq_true rfl, Nat.le_of_ble_eq_true rfl⟩ (ci := 10) (q0 := 0) rfl rfl rfl hl.1 rfl (Nat.le_of_ble_eq_true rfl) ⟨Nat.zero_le _, Nat.zero_le _⟩ dX12_idle_55) cx.2.2.1 hD hS (fun r63 _ H locs hw62 hP hD hS => ?_)
              refine lv_goto (tgt := 62) hx hb dX12_idle_58 (by decide) ?_
              exact hJ62 r63 _ _ _  hP hD hS (lv_sub hl [0, 1, 2, 3, 4, 5] rfl)
      have hlit64 : (0 : Int32).toInt = 0 := by decide
      have hlit65 : (0 : Int32).toInt = 0 := by decide
      exact hL31 (Int.toNat (50 - 0) + 1) 0 0 _ _ _ (by omega) (by first | decide | omega) hP hD hS (lv_sub hl [0, 1, 2, 3, 4, 5] rfl)
    · have f16 : r10.toInt = 0 := f_eq rfl (by decide) c16
      refine lv_ldc2 (v := (-1)) hx hb cx.1.2.2.2.1 (cx.1.2.2.2.2 _ kJ_X12_idle_221) dX12_idle_15 ?_
      rw [hQ]
      exact x_l cx hr ((tm 8), (tm 9)) hP hD hS trivial dX12_idle_18
