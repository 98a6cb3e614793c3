theorem fw_X12_there_13 : Cond.fieldLink RX12 13 "StillInAugustModel" "house" "[I" ∈ wsX12_there := by decide +kernel
theorem fw_X12_there_32 : Cond.fieldLink RX12 32 "StillInAugustModel" "likely" "[J" ∈ wsX12_there := by decide +kernel
theorem kJ_X12_there_206 : Cond.constantLong RX12 206 (-2) ∈ wsX12_there := by decide +kernel
theorem kJ_X12_there_221 : Cond.constantLong RX12 221 (-1) ∈ wsX12_there := by decide +kernel
theorem kJ_X12_there_69 : Cond.constantLong RX12 69 (4) ∈ wsX12_there := by decide +kernel
theorem iw_X12_there_X12 : ∀ w ∈ u_ws RX12 TX12 33, w ∈ wsX12_there := fun _ h => List.mem_cons_of_mem _ (List.mem_append_right _ h)
set_option maxHeartbeats 4000000 in
set_option maxRecDepth 100000 in
theorem c_X12_there (l : Launch) (D : va_G) (k : Nat → ClassId) (b : Nat → Nat) (qm : Nat → Nat) (sm : Nat → Nat → Int32) (tm : Nat → Nat → Int64) (sz : Nat) (p0 : Int32) (p1 : Int32) (p2 : Int32) (p3 : Int32) (h_w0 : 0 ≤ (sm 2 0).toInt ∧ (sm 2 0).toInt ≤ 5) (h_k1 : 0 ≤ (sm 2 1).toInt ∧ (sm 2 1).toInt ≤ 4) : MetL l D k b yX12_there wsX12_there ({ frames := 4, cells := 0, slots := 0, locals := 101 } : Room) [cell22_ qm sm tm, cell5_ k qm sm, cell13_ k qm sm, cell8_ k qm sm, cell6_ k qm sm, cell14_ k qm sm, cell15_ k qm tm, cell12_ k qm tm, cell18_ k qm tm, cell17_ k qm tm, cell19_ k qm tm, cell21_ k qm tm, cell20_ k qm sm, cell16_ k qm sm, cell11_ k qm sm, cell10_ k qm sm, cell9_ k qm sm, cell7_ k qm sm] sz [.ref (qm 0), .int p0, .int p1, .int p2, .int p3] (fun (r : Int64) (u : (Nat → Int64) × (Nat → Int64)) => True) (fun u => [cell22_ qm sm tm, cell5_ k qm sm, cell13_ k qm sm, cell8_ k qm sm, cell6_ k qm sm, cell14_ k qm sm, cell15_ k qm tm, cell12_ k qm tm, cell147_ k qm (u.1), cell148_ k qm (u.2), cell19_ k qm tm, cell21_ k qm tm, cell20_ k qm sm, cell16_ k qm sm, cell11_ k qm sm, cell10_ k qm sm, cell9_ k qm sm, cell7_ k qm sm]) := by
  refine g_enter (cc := cX12_there) (maxL := 8) (ret := (some .long)) (by decide) rfl (Nat.le_of_ble_eq_true rfl) ?_
  intro p e s m below meth c A hsz hAe cx hr hP hD hS ls hl
  rw [hAe]
  refine g_q (fun Q hQ => ?_)
  have hx := cx.1.1
  have hb := cx.1.2.1
  have bp0 := i_rng p0
  have bp1 := i_rng p1
  have bp2 := i_rng p2
  have bp3 := i_rng p3
  have hl : lv_has ls 8 [(0, .ref (qm 0)), (1, .int p0), (2, .int p1), (3, .int p2), (4, .int p3)] := hl
  obtain ⟨H, eH⟩ : ∃ H : Heap, H = s.heap := ⟨_, rfl⟩
  obtain ⟨locs, el⟩ : ∃ L : List Loc, L = [] := ⟨_, rfl⟩
  have hP : va_P D vwCl [cell22_ qm sm tm, cell5_ k qm sm, cell13_ k qm sm, cell8_ k qm sm, cell6_ k qm sm, cell14_ k qm sm, cell15_ k qm tm, cell12_ k qm tm, cell18_ k qm tm, cell17_ k qm tm, cell19_ k qm tm, cell21_ k qm tm, cell20_ k qm sm, cell16_ k qm sm, cell11_ k qm sm, cell10_ k qm sm, cell9_ k qm sm, cell7_ k qm sm] H := by rw [eH]; exact hP
  have hD : va_D A [cell22_ qm sm tm, cell5_ k qm sm, cell13_ k qm sm, cell8_ k qm sm, cell6_ k qm sm, cell14_ k qm sm, cell15_ k qm tm, cell12_ k qm tm, cell18_ k qm tm, cell17_ k qm tm, cell19_ k qm tm, cell21_ k qm tm, cell20_ k qm sm, cell16_ k qm sm, cell11_ k qm sm, cell10_ k qm sm, cell9_ k qm sm, cell7_ k qm sm] := hD
  have hS : va_S A s.heap H locs := by rw [eH, el]; exact hS
  suffices goal : W p l e ({ frames := 4, cells := 0, slots := 0, locals := 101 } : Room) s m ([.ref (qm 0), .int p0, .int p1, .int p2, .int p3] : List Value).toArray below meth c H locs 0 0 Q (F0 m 0 ls []) by rw [eH, el] at goal; exact goal
  refine lv_iload_n hx hb dX12_there_0 rfl (lv_at hl 1 rfl) ?_
  refine g_ir (g_runS (wc := []) (rest := []) cx hP hD hS [] rfl (by decide) [.int p0] (c_X12_isRule l D k b H.size p0) gX12_there_X12_isRule rfl rfl rfl nd_X12_isRule ⟨Nat.le_of_ble_eq_true rfl, Nat.le_of_ble_eq_true rfl⟩ rfl hl.1 rfl (Nat.le_of_ble_eq_true rfl) ⟨Nat.zero_le _, Nat.zero_le _⟩ dX12_there_1) cx.2.2.1 hP hD hS [] rfl rfl (fun r2 H locs hw1 hP hS => ?_)
  replace hw1 : (0 ≤ r2.toInt ∧ r2.toInt ≤ 1) ∧ (Imp (r2.toInt = 1) (0 ≤ p0.toInt ∧ p0.toInt ≤ 2)) ∧ (r2 = J_X12_isRule p0) := hw1
  obtain ⟨w3, w4, w5⟩ := hw1
  have k7 : r2 = (J_X12_isRule p0) := congrArg (fun z => z) w5
  have zr2 : 0 ≤ r2.toInt ∧ r2.toInt ≤ 1 := w3
  refine lv_if_eq (tgt := 25) hx hb dX12_there_4 (by decide) (fun c8 => ?_) (fun c8 => ?_)
  · have f8 : r2.toInt = 0 := f_eq rfl (by decide) c8
    refine lv_ldc2 (v := (-1)) hx hb cx.1.2.2.2.1 (cx.1.2.2.2.2 _ kJ_X12_there_221) dX12_there_25 ?_
    rw [hQ]
    exact x_l cx hr ((tm 8), (tm 9)) hP hD hS trivial dX12_there_28
  · have f8 : ¬ r2.toInt = 0 := f_ne rfl (by decide) c8
    have k8 : (0 ≤ p0.toInt ∧ p0.toInt ≤ 2) := w4 (by omega)
    refine lv_aload_n hx hb dX12_there_7 rfl (lv_at hl 0 rfl) ?_
    refine lv_iload_n hx hb dX12_there_8 rfl (lv_at hl 2 rfl) ?_
    refine g_iF (w1 := fun (_ : Unit) => [cell22_ qm sm tm, cell5_ k qm sm, cell13_ k qm sm, cell8_ k qm sm, cell6_ k qm sm, cell14_ k qm sm, cell15_ k qm tm, cell12_ k qm tm, cell18_ k qm tm, cell17_ k qm tm, cell19_ k qm tm, cell21_ k qm tm, cell20_ k qm sm, cell16_ k qm sm, cell11_ k qm sm, cell10_ k qm sm, cell9_ k qm sm, cell7_ k qm sm]) (g_runVF (ws := [cell22_ qm sm tm, cell5_ k qm sm, cell13_ k qm sm, cell8_ k qm sm, cell6_ k qm sm, cell14_ k qm sm, cell15_ k qm tm, cell12_ k qm tm, cell18_ k qm tm, cell17_ k qm tm, cell19_ k qm tm, cell21_ k qm tm, cell20_ k qm sm, cell16_ k qm sm, cell11_ k qm sm, cell10_ k qm sm, cell9_ k qm sm, cell7_ k qm sm]) (rest := []) cx hP hD hS [.int p1] (c_X12_isWeek l D k b qm sm tm H.size p1 (show 0 ≤ ((sm 2) 0).toInt ∧ ((sm 2) 0).toInt ≤ 5 from by first | decide | omega)) gX12_there_X12_isWeek rfl rfl rfl nd_X12_isWeek ⟨Nat.le_of_ble_eq_true rfl, Nat.le_of_ble_eq_true rfl⟩ (ci := 10) (q0 := 0) rfl rfl rfl hl.1 rfl (Nat.le_of_ble_eq_true rfl) ⟨Nat.zero_le _, Nat.zero_le _⟩ dX12_there_9) cx.2.2.1 hD hS (fun r10 _ H locs hw9 hP hD hS => ?_)
    replace hw9 : (0 ≤ r10.toInt ∧ r10.toInt ≤ 1) ∧ (Imp (r10.toInt = 1) (0 ≤ p1.toInt ∧ p1.toInt ≤ 4)) ∧ (r10 = J_X12_isWeek sm tm p1) := hw9
    obtain ⟨w11, w12, w13⟩ := hw9
    have k15 : r10 = (J_X12_isWeek sm tm p1) := congrArg (fun z => z) w13
    have zr10 : 0 ≤ r10.toInt ∧ r10.toInt ≤ 1 := w11
    have hJ29 : ∀  (H : Heap) (locs : List Loc) (ls : Array Slot), (0 ≤ p1.toInt ∧ p1.toInt ≤ 5) → va_P D vwCl [cell22_ qm sm tm, cell5_ k qm sm, cell13_ k qm sm, cell8_ k qm sm, cell6_ k qm sm, cell14_ k qm sm, cell15_ k qm tm, cell12_ k qm tm, cell18_ k qm tm, cell17_ k qm tm, cell19_ k qm tm, cell21_ k qm tm, cell20_ k qm sm, cell16_ k qm sm, cell11_ k qm sm, cell10_ k qm sm, cell9_ k qm sm, cell7_ k qm sm] H → va_D A [cell22_ qm sm tm, cell5_ k qm sm, cell13_ k qm sm, cell8_ k qm sm, cell6_ k qm sm, cell14_ k qm sm, cell15_ k qm tm, cell12_ k qm tm, cell18_ k qm tm, cell17_ k qm tm, cell19_ k qm tm, cell21_ k qm tm, cell20_ k qm sm, cell16_ k qm sm, cell11_ k qm sm, cell10_ k qm sm, cell9_ k qm sm, cell7_ k qm sm] → va_S A s.heap H locs → lv_has ls 8 [(0, .ref (qm 0)), (1, .int p0), (2, .int p1), (3, .int p2), (4, .int p3)] → W p l e ({ frames := 4, cells := 0, slots := 0, locals := 101 } : Room) s m ([.ref (qm 0), .int p0, .int p1, .int p2, .int p3] : List Value).toArray below meth c H locs 0 0 Q (F0 m 29 ls []) := by
      intro  H locs ls q hP hD hS hl
      refine lv_iload_n hx hb dX12_there_29 rfl (lv_at hl 3 rfl) ?_
      obtain ⟨v18, e18⟩ : ∃ z : Int64, z = (p2 : Int32).toInt64 := ⟨_, rfl⟩
      refine lv_i2l (v := v18) hx hb dX12_there_30 e18.symm ?_
      refine lv_lconst (v := 0) hx hb dX12_there_31 (by decide) ?_
      refine lv_ldc2 (v := 4) hx hb cx.1.2.2.2.1 (cx.1.2.2.2.2 _ kJ_X12_there_69) dX12_there_32 ?_
      refine g_ir (g_runS (wc := []) (rest := []) cx hP hD hS [] rfl (by decide) [.long v18, .long 0, .long 4] (c_X12_in l D k b H.size v18 0 4) gX12_there_X12_in rfl rfl rfl nd_X12_in ⟨Nat.le_of_ble_eq_true rfl, Nat.le_of_ble_eq_true rfl⟩ rfl hl.1 rfl (Nat.le_of_ble_eq_true rfl) ⟨Nat.zero_le _, Nat.zero_le _⟩ dX12_there_35) cx.2.2.1 hP hD hS [] rfl rfl (fun r20 H locs hw19 hP hS => ?_)
      have w21 : r20 = J_X12_in v18 (0 : Int64) (4 : Int64) := hw19
      clear hw19
      have zr20 := in_b w21
      refine lv_if_ne (tgt := 45) hx hb dX12_there_38 (by decide) (fun c22 => ?_) (fun c22 => ?_)
      · have f22 : ¬ r20.toInt = 0 := f_ne rfl (by decide) c22
        have k22 : 0 ≤ p2.toInt ∧ p2.toInt ≤ 4 := in_t (i2l_t rfl e18) (by decide) (by decide) w21 c22
        refine lv_aload_n hx hb dX12_there_45 rfl (lv_at hl 0 rfl) ?_
        refine lv_iload_n hx hb dX12_there_46 rfl (lv_at hl 1 rfl) ?_
        refine lv_iload_n hx hb dX12_there_47 rfl (lv_at hl 2 rfl) ?_
        refine g_vF (w1 := fun (u : (Nat → Int64) × (Nat → Int64)) => [cell22_ qm sm tm, cell5_ k qm sm, cell13_ k qm sm, cell8_ k qm sm, cell6_ k qm sm, cell14_ k qm sm, cell15_ k qm tm, cell12_ k qm tm, cell147_ k qm (u.1), cell148_ k qm (u.2), cell19_ k qm tm, cell21_ k qm tm, cell20_ k qm sm, cell16_ k qm sm, cell11_ k qm sm, cell10_ k qm sm, cell9_ k qm sm, cell7_ k qm sm]) (g_runVF (ws := [cell22_ qm sm tm, cell5_ k qm sm, cell13_ k qm sm, cell8_ k qm sm, cell6_ k qm sm, cell14_ k qm sm, cell15_ k qm tm, cell12_ k qm tm, cell18_ k qm tm, cell17_ k qm tm, cell19_ k qm tm, cell21_ k qm tm, cell20_ k qm sm, cell16_ k qm sm, cell11_ k qm sm, cell10_ k qm sm, cell9_ k qm sm, cell7_ k qm sm]) (rest := []) cx hP hD hS [.int p0, .int p1] (c_X12_layLikely l D k b qm sm tm H.size p0 p1 (show 0 ≤ ((sm 2) 0).toInt ∧ ((sm 2) 0).toInt ≤ 5 from by first | decide | omega) (show 0 ≤ ((sm 2) 1).toInt ∧ ((sm 2) 1).toInt ≤ 4 from by first | decide | omega) (show 0 ≤ p0.toInt ∧ p0.toInt ≤ 2 from by first | decide | omega) (show 0 ≤ p1.toInt ∧ p1.toInt ≤ 5 from by first | decide | omega)) gX12_there_X12_layLikely rfl rfl rfl nd_X12_layLikely ⟨Nat.le_of_ble_eq_true rfl, Nat.le_of_ble_eq_true rfl⟩ (ci := 10) (q0 := 0) rfl rfl rfl hl.1 rfl (Nat.le_of_ble_eq_true rfl) ⟨Nat.zero_le _, Nat.zero_le _⟩ dX12_there_48) cx.2.2.1 hD hS (fun u24 H locs hw23 hP hD hS => ?_)
        obtain ⟨m25, m26⟩ := u24
        have hP : va_P D vwCl [cell22_ qm sm tm, cell5_ k qm sm, cell13_ k qm sm, cell8_ k qm sm, cell6_ k qm sm, cell14_ k qm sm, cell15_ k qm tm, cell12_ k qm tm, (qm 8, .inl (k 1, 50, .inr (.inl m25))), (qm 9, .inl (k 1, 50, .inr (.inl m26))), cell19_ k qm tm, cell21_ k qm tm, cell20_ k qm sm, cell16_ k qm sm, cell11_ k qm sm, cell10_ k qm sm, cell9_ k qm sm, cell7_ k qm sm] H := hP
        have hD : va_D A [cell22_ qm sm tm, cell5_ k qm sm, cell13_ k qm sm, cell8_ k qm sm, cell6_ k qm sm, cell14_ k qm sm, cell15_ k qm tm, cell12_ k qm tm, (qm 8, .inl (k 1, 50, .inr (.inl m25))), (qm 9, .inl (k 1, 50, .inr (.inl m26))), cell19_ k qm tm, cell21_ k qm tm, cell20_ k qm sm, cell16_ k qm sm, cell11_ k qm sm, cell10_ k qm sm, cell9_ k qm sm, cell7_ k qm sm] := hD
        refine lv_lconst (v := 0) hx hb dX12_there_51 (by decide) ?_
        refine lv_lstore (lv' := [(5, .long 0), (0, .ref (qm 0)), (1, .int p0), (2, .int p1), (3, .int p2), (4, .int p3)]) hx hb dX12_there_52 hl (by decide) rfl (fun ls hl => ?_)
        refine lv_iconst (v := 0) hx hb dX12_there_54 (by decide) ?_
        refine lv_istore (lv' := [(7, .int 0), (5, .long 0), (0, .ref (qm 0)), (1, .int p0), (2, .int p1), (3, .int p2), (4, .int p3)]) hx hb dX12_there_55 hl (by decide) rfl (fun ls hl => ?_)
        have hL57 : ∀ (n36 : Nat) (v34 : Int32) (v35 : Int64) (H : Heap) (locs : List Loc) (ls : Array Slot), 50 - v34.toInt < (n36 : Int) → (0 ≤ v34.toInt ∧ v34.toInt ≤ 50) → va_P D vwCl [cell22_ qm sm tm, cell5_ k qm sm, cell13_ k qm sm, cell8_ k qm sm, cell6_ k qm sm, cell14_ k qm sm, cell15_ k qm tm, cell12_ k qm tm, (qm 8, .inl (k 1, 50, .inr (.inl m25))), (qm 9, .inl (k 1, 50, .inr (.inl m26))), cell19_ k qm tm, cell21_ k qm tm, cell20_ k qm sm, cell16_ k qm sm, cell11_ k qm sm, cell10_ k qm sm, cell9_ k qm sm, cell7_ k qm sm] H → va_D A [cell22_ qm sm tm, cell5_ k qm sm, cell13_ k qm sm, cell8_ k qm sm, cell6_ k qm sm, cell14_ k qm sm, cell15_ k qm tm, cell12_ k qm tm, (qm 8, .inl (k 1, 50, .inr (.inl m25))), (qm 9, .inl (k 1, 50, .inr (.inl m26))), cell19_ k qm tm, cell21_ k qm tm, cell20_ k qm sm, cell16_ k qm sm, cell11_ k qm sm, cell10_ k qm sm, cell9_ k qm sm, cell7_ k qm sm] → va_S A s.heap H locs → lv_has ls 8 [(7, .int v34), (5, .long v35), (0, .ref (qm 0)), (2, .int p1), (3, .int p2), (4, .int p3)] → W p l e ({ frames := 4, cells := 0, slots := 0, locals := 101 } : Room) s m ([.ref (qm 0), .int p0, .int p1, .int p2, .int p3] : List Value).toArray below meth c H locs 0 0 Q (F0 m 57 ls []) := by
          intro n36
          induction n36 with
          | zero => intro v34 v35 H locs ls hmn36 bv34 hP hD hS hl; exact absurd hmn36 (by omega)
          | succ n36 ih57 =>
            intro v34 v35 H locs ls hmn36 bv34 hP hD hS hl
            refine lv_iload hx hb dX12_there_57 (lv_at hl 0 rfl) ?_
            refine lv_bipush (v := 50) hx hb dX12_there_59 (by decide) ?_
            refine lv_icmp_ge (tgt := 95) hx hb dX12_there_61 (by decide) (fun c37 => ?_) (fun c37 => ?_)
            · have f37 : 50 ≤ v34.toInt := f_le (by decide) rfl c37
              refine lv_lload hx hb dX12_there_95 (lv_at hl 1 rfl) ?_
              refine lv_iload_n hx hb dX12_there_97 rfl (lv_at hl 3 rfl) ?_
              refine g_lr (g_runS (wc := []) (rest := [.long v35]) cx hP hD hS [] rfl (by decide) [.int p1] (c_X12_parts l D k b H.size p1) gX12_there_X12_parts rfl rfl rfl nd_X12_parts ⟨Nat.le_of_ble_eq_true rfl, Nat.le_of_ble_eq_true rfl⟩ rfl hl.1 rfl (Nat.le_of_ble_eq_true rfl) ⟨Nat.zero_le _, Nat.zero_le _⟩ dX12_there_98) cx.2.2.1 hP hD hS [] rfl rfl (fun r39 H locs hw38 hP hS => ?_)
              have w40 : r39.toInt % 2 = 1 := hw38
              clear hw38
              refine lv_iload hx hb dX12_there_101 (lv_at hl 5 rfl) ?_
              refine g_lr (g_runS (wc := []) (rest := []) cx hP hD hS [] rfl (by decide) [.long v35, .long r39, .int p3] (c_X12_told l D k b H.size v35 r39 p3 (show ¬ r39.toInt = 0 from by first | decide | omega)) gX12_there_X12_told rfl rfl rfl nd_X12_told ⟨Nat.le_of_ble_eq_true rfl, Nat.le_of_ble_eq_true rfl⟩ rfl hl.1 rfl (Nat.le_of_ble_eq_true rfl) ⟨Nat.zero_le _, Nat.zero_le _⟩ dX12_there_103) cx.2.2.1 hP hD hS [] rfl rfl (fun r42 H locs hw41 hP hS => ?_)
              rw [hQ]
              exact x_l cx hr (m25, m26) hP hD hS trivial dX12_there_106
            · have f37 : v34.toInt < 50 := f_nle (by decide) rfl c37
              refine lv_lload hx hb dX12_there_64 (lv_at hl 1 rfl) ?_
              refine lv_iload hx hb dX12_there_66 (lv_at hl 0 rfl) ?_
              refine g_ir (g_runS (wc := []) (rest := [.long v35]) cx hP hD hS [] rfl (by decide) [.int v34] (c_X12_all l D k b H.size v34) gX12_there_X12_all rfl rfl rfl nd_X12_all ⟨Nat.le_of_ble_eq_true rfl, Nat.le_of_ble_eq_true rfl⟩ rfl hl.1 rfl (Nat.le_of_ble_eq_true rfl) ⟨Nat.zero_le _, Nat.zero_le _⟩ dX12_there_68) cx.2.2.1 hP hD hS [] rfl rfl (fun r44 H locs hw43 hP hS => ?_)
              have w45 : r44 = J_X12_all v34 := hw43
              clear hw43
              have zr44 := all_t w45 (show 0 ≤ v34.toInt from by omega)
              refine lv_iload_n hx hb dX12_there_71 rfl (lv_at hl 4 rfl) ?_
              have hJ86 : ∀ (v48 : Int64) (H : Heap) (locs : List Loc) (ls : Array Slot), va_P D vwCl [cell22_ qm sm tm, cell5_ k qm sm, cell13_ k qm sm, cell8_ k qm sm, cell6_ k qm sm, cell14_ k qm sm, cell15_ k qm tm, cell12_ k qm tm, (qm 8, .inl (k 1, 50, .inr (.inl m25))), (qm 9, .inl (k 1, 50, .inr (.inl m26))), cell19_ k qm tm, cell21_ k qm tm, cell20_ k qm sm, cell16_ k qm sm, cell11_ k qm sm, cell10_ k qm sm, cell9_ k qm sm, cell7_ k qm sm] H → va_D A [cell22_ qm sm tm, cell5_ k qm sm, cell13_ k qm sm, cell8_ k qm sm, cell6_ k qm sm, cell14_ k qm sm, cell15_ k qm tm, cell12_ k qm tm, (qm 8, .inl (k 1, 50, .inr (.inl m25))), (qm 9, .inl (k 1, 50, .inr (.inl m26))), cell19_ k qm tm, cell21_ k qm tm, cell20_ k qm sm, cell16_ k qm sm, cell11_ k qm sm, cell10_ k qm sm, cell9_ k qm sm, cell7_ k qm sm] → va_S A s.heap H locs → lv_has ls 8 [(7, .int v34), (0, .ref (qm 0)), (2, .int p1), (3, .int p2), (4, .int p3)] → W p l e ({ frames := 4, cells := 0, slots := 0, locals := 101 } : Room) s m ([.ref (qm 0), .int p0, .int p1, .int p2, .int p3] : List Value).toArray below meth c H locs 0 0 Q (F0 m 86 ls [.long v48, .long v35]) := by
                intro v48 H locs ls  hP hD hS hl
                refine lv_ladd hx hb dX12_there_86 (lv_topl (fun v49 e49 => ?_))
                refine lv_lstore (lv' := [(5, .long v49), (7, .int v34), (0, .ref (qm 0)), (2, .int p1), (3, .int p2), (4, .int p3)]) hx hb dX12_there_87 hl (by decide) rfl (fun ls hl => ?_)
                obtain ⟨v50, e50⟩ : ∃ z : Int32, z = v34 + 1 := ⟨_, rfl⟩
                refine lv_iinc (v := v50) (lv' := [(7, .int v50), (5, .long v49), (0, .ref (qm 0)), (2, .int p1), (3, .int p2), (4, .int p3)]) hx hb dX12_there_89 hl (k := 1) rfl (by rw [e50]; rfl) (by decide) rfl (fun ls hl => ?_)
                have t50 : v50.toInt = v34.toInt + 1 := by rw [e50]; exact i_add rfl (by decide) (by omega) (by omega)
                refine lv_goto (tgt := 57) hx hb dX12_there_92 (by decide) ?_
                exact ih57 v50 v49 _ _ _ (by omega) (by first | decide | omega) hP hD hS (lv_sub hl [0, 1, 2, 3, 4, 5] rfl)
              refine lv_icmp_ne (tgt := 85) hx hb dX12_there_72 (by decide) (fun c51 => ?_) (fun c51 => ?_)
              · have f51 : ¬ r44.toInt = p2.toInt := f_ne rfl rfl c51
                refine lv_lconst (v := 0) hx hb dX12_there_85 (by decide) ?_
                have hlit52 : (0 : Int32).toInt = 0 := by decide
                exact hJ86 0 _ _ _  hP hD hS (lv_sub hl [0, 2, 3, 4, 5] rfl)
              · have f51 : r44.toInt = p2.toInt := f_eq rfl rfl c51
                refine lv_aload_n hx hb dX12_there_75 rfl (lv_at hl 2 rfl) ?_
                refine g_get cx hP iw_X12_there_X12 0 rfl rfl 16 (by decide) rfl fw_X12_there_32 rfl dX12_there_76 ?_
                refine lv_iload hx hb dX12_there_79 (lv_at hl 0 rfl) ?_
                have hn53 : vp_in v34 50 := f_in (a := v34.toInt) rfl (by omega) (by omega)
                refine va_lald hx hb cx.2.1 hP 8 1 rfl rfl hn53 dX12_there_81 (lv_topl (fun v54 e54 => ?_))
                refine lv_goto (tgt := 86) hx hb dX12_there_82 (by decide) ?_
                exact hJ86 v54 _ _ _  hP hD hS (lv_sub hl [0, 2, 3, 4, 5] rfl)
        have hlit55 : (0 : Int32).toInt = 0 := by decide
        have hlit56 : (0 : Int32).toInt = 0 := by decide
        exact hL57 (Int.toNat (50 - 0) + 1) 0 0 _ _ _ (by omega) (by first | decide | omega) hP hD hS (lv_sub hl [0, 1, 2, 4, 5, 6] rfl)
      · have f22 : r20.toInt = 0 := f_eq rfl (by decide) c22
        have k22 : p2.toInt < 0 ∨ 4 < p2.toInt := in_f (i2l_t rfl e18) (by decide) (by decide) w21 c22
        refine lv_ldc2 (v := (-2)) hx hb cx.1.2.2.2.1 (cx.1.2.2.2.2 _ kJ_X12_there_206) dX12_there_41 ?_
        rw [hQ]
        exact x_l cx hr ((tm 8), (tm 9)) hP hD hS trivial dX12_there_44
    refine lv_if_ne (tgt := 29) hx hb dX12_there_12 (by decide) (fun c57 => ?_) (fun c57 => ?_)
    · have f57 : ¬ r10.toInt = 0 := f_ne rfl (by decide) c57
      have k57 : (0 ≤ p1.toInt ∧ p1.toInt ≤ 4) := w12 (by omega)
      exact hJ29  _ _ _ (by first | decide | omega) hP hD hS (lv_sub hl [0, 1, 2, 3, 4] rfl)
    · have f57 : r10.toInt = 0 := f_eq rfl (by decide) c57
      refine lv_iload_n hx hb dX12_there_15 rfl (lv_at hl 2 rfl) ?_
      refine lv_aload_n hx hb dX12_there_16 rfl (lv_at hl 0 rfl) ?_
      refine g_get cx hP iw_X12_there_X12 0 rfl rfl 1 (by decide) rfl fw_X12_there_13 rfl dX12_there_17 ?_
      refine lv_iconst (v := 0) hx hb dX12_there_20 (by decide) ?_
      have hn58 : vp_in 0 26 := f_in (a := 0) (by decide) (by omega) (by omega)
      refine va_iald hx hb cx.2.1 hP 2 0 rfl rfl hn58 dX12_there_21 (lv_topi (fun v59 e59 => ?_))
      have uv59 : v59.toInt = ((sm 2) 0).toInt := congrArg Int32.toInt e59
      have t59 : 0 ≤ v59.toInt ∧ v59.toInt ≤ 5 := by rw [e59]; exact h_w0
      refine lv_icmp_eq (tgt := 29) hx hb dX12_there_22 (by decide) (fun c60 => ?_) (fun c60 => ?_)
      · have f60 : p1.toInt = v59.toInt := f_eq rfl rfl c60
        exact hJ29  _ _ _ (by first | decide | omega) hP hD hS (lv_sub hl [0, 1, 2, 3, 4] rfl)
      · have f60 : ¬ p1.toInt = v59.toInt := f_ne rfl rfl c60
        refine lv_ldc2 (v := (-1)) hx hb cx.1.2.2.2.1 (cx.1.2.2.2.2 _ kJ_X12_there_221) dX12_there_25 ?_
        rw [hQ]
        exact x_l cx hr ((tm 8), (tm 9)) hP hD hS trivial dX12_there_28
