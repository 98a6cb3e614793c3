/-- four places changed and laid back -/
theorem rest8 {f g1 g2 g3 g4 g5 g6 g7 g8 : Nat → Int32} {a b c d x y z w : Int32} (e1 : g1 = upd f (4 : Int32).toNatClampNeg a) (e2 : g2 = upd g1 (5 : Int32).toNatClampNeg b) (e3 : g3 = upd g2 (6 : Int32).toNatClampNeg c) (e4 : g4 = upd g3 (7 : Int32).toNatClampNeg d) (e5 : g5 = upd g4 (4 : Int32).toNatClampNeg x) (e6 : g6 = upd g5 (5 : Int32).toNatClampNeg y) (e7 : g7 = upd g6 (6 : Int32).toNatClampNeg z) (e8 : g8 = upd g7 (7 : Int32).toNatClampNeg w) (hx : x = f (4 : Int32).toNatClampNeg) (hy : y = f (5 : Int32).toNatClampNeg) (hz : z = f (6 : Int32).toNatClampNeg) (hw : w = f (7 : Int32).toNatClampNeg) : g8 = f := by
  have n4 : (4 : Int32).toNatClampNeg = 4 := by decide
  have n5 : (5 : Int32).toNatClampNeg = 5 := by decide
  have n6 : (6 : Int32).toNatClampNeg = 6 := by decide
  have n7 : (7 : Int32).toNatClampNeg = 7 := by decide
  rw [n4] at e1 e5 hx
  rw [n5] at e2 e6 hy
  rw [n6] at e3 e7 hz
  rw [n7] at e4 e8 hw
  funext j
  by_cases q7 : j = 7
  · rw [e8, q7, pk_us, hw]
  · by_cases q6 : j = 6
    · rw [e8, pk_un q7, e7, q6, pk_us, hz]
    · by_cases q5 : j = 5
      · rw [e8, pk_un q7, e7, pk_un q6, e6, q5, pk_us, hy]
      · by_cases q4 : j = 4
        · rw [e8, pk_un q7, e7, pk_un q6, e6, pk_un q5, e5, q4, pk_us, hx]
        · rw [e8, pk_un q7, e7, pk_un q6, e6, pk_un q5, e5, pk_un q4, e4, pk_un q7, e3, pk_un q6, e2, pk_un q5, e1, pk_un q4]
theorem fw_X12_without_13 : Cond.fieldLink RX12 13 "StillInAugustModel" "house" "[I" ∈ wsX12_without := by decide +kernel
theorem fw_X12_without_38 : Cond.fieldLink RX12 38 "StillInAugustModel" "bests" "[J" ∈ wsX12_without := by decide +kernel
theorem kJ_X12_without_206 : Cond.constantLong RX12 206 (-2) ∈ wsX12_without := by decide +kernel
theorem kJ_X12_without_77 : Cond.constantLong RX12 77 (15) ∈ wsX12_without := by decide +kernel
theorem iw_X12_without_X12 : ∀ w ∈ u_ws RX12 TX12 33, w ∈ wsX12_without := fun _ h => List.mem_cons_of_mem _ (List.mem_append_right _ h)
set_option maxHeartbeats 4000000 in
set_option maxRecDepth 100000 in
theorem c_X12_without (l : Launch) (D : va_G) (k : Nat → ClassId) (b : Nat → Nat) (qm : Nat → Nat) (sm : Nat → Nat → Int32) (tm : Nat → Nat → Int64) (sz : Nat) (p0 : Int32) (p1 : Int32) (h_w0 : 0 ≤ (sm 2 0).toInt ∧ (sm 2 0).toInt ≤ 5) (h_k1 : 0 ≤ (sm 2 1).toInt ∧ (sm 2 1).toInt ≤ 4) : MetL l D k b yX12_without wsX12_without ({ frames := 6, cells := 0, slots := 0, locals := 157 } : Room) [cell22_ qm sm tm, cell5_ k qm sm, cell13_ k qm sm, cell8_ k qm sm, cell6_ k qm sm, cell14_ k qm sm, cell15_ k qm tm, cell12_ k qm tm, cell18_ k qm tm, cell17_ k qm tm, cell19_ k qm tm, cell21_ k qm tm, cell20_ k qm sm, cell16_ k qm sm, cell11_ k qm sm, cell10_ k qm sm, cell9_ k qm sm, cell7_ k qm sm] sz [.ref (qm 0), .int p0, .int p1] (fun (r : Int64) (u : (Nat → Int64) × (Nat → Int64) × (Nat → Int32) × (Nat → Int32)) => (0 ≤ ((u.2.2.2) 0).toInt ∧ ((u.2.2.2) 0).toInt ≤ 5) ∧ (0 ≤ ((u.2.2.2) 1).toInt ∧ ((u.2.2.2) 1).toInt ≤ 4) ∧ ((u.2.2.2) = (sm 2))) (fun u => [cell22_ qm sm tm, cell5_ k qm sm, cell199_ k qm (u.2.2.2), cell8_ k qm sm, cell6_ k qm sm, cell14_ k qm sm, cell15_ k qm tm, cell12_ k qm tm, cell18_ k qm tm, cell17_ k qm tm, cell130_ k qm (u.1), cell122_ k qm (u.2.1), cell123_ k qm (u.2.2.1), cell16_ k qm sm, cell11_ k qm sm, cell10_ k qm sm, cell9_ k qm sm, cell7_ k qm sm]) := by
  refine g_enter (cc := cX12_without) (maxL := 7) (ret := (some .long)) (by decide) rfl (Nat.le_of_ble_eq_true rfl) ?_
  intro p e s m below meth c A hsz hAe cx hr hP hD hS ls hl
  rw [hAe]
  refine g_q (fun Q hQ => ?_)
  have hx := cx.1.1
  have hb := cx.1.2.1
  have bp0 := i_rng p0
  have bp1 := i_rng p1
  have hl : lv_has ls 7 [(0, .ref (qm 0)), (1, .int p0), (2, .int p1)] := hl
  obtain ⟨H, eH⟩ : ∃ H : Heap, H = s.heap := ⟨_, rfl⟩
  obtain ⟨locs, el⟩ : ∃ L : List Loc, L = [] := ⟨_, rfl⟩
  have hP : va_P D vwCl [cell22_ qm sm tm, cell5_ k qm sm, cell13_ k qm sm, cell8_ k qm sm, cell6_ k qm sm, cell14_ k qm sm, cell15_ k qm tm, cell12_ k qm tm, cell18_ k qm tm, cell17_ k qm tm, cell19_ k qm tm, cell21_ k qm tm, cell20_ k qm sm, cell16_ k qm sm, cell11_ k qm sm, cell10_ k qm sm, cell9_ k qm sm, cell7_ k qm sm] H := by rw [eH]; exact hP
  have hD : va_D A [cell22_ qm sm tm, cell5_ k qm sm, cell13_ k qm sm, cell8_ k qm sm, cell6_ k qm sm, cell14_ k qm sm, cell15_ k qm tm, cell12_ k qm tm, cell18_ k qm tm, cell17_ k qm tm, cell19_ k qm tm, cell21_ k qm tm, cell20_ k qm sm, cell16_ k qm sm, cell11_ k qm sm, cell10_ k qm sm, cell9_ k qm sm, cell7_ k qm sm] := hD
  have hS : va_S A s.heap H locs := by rw [eH, el]; exact hS
  suffices goal : W p l e ({ frames := 6, cells := 0, slots := 0, locals := 157 } : Room) s m ([.ref (qm 0), .int p0, .int p1] : List Value).toArray below meth c H locs 0 0 Q (F0 m 0 ls []) by rw [eH, el] at goal; exact goal
  refine lv_iload_n hx hb dX12_without_0 rfl (lv_at hl 1 rfl) ?_
  obtain ⟨v1, e1⟩ : ∃ z : Int64, z = (p0 : Int32).toInt64 := ⟨_, rfl⟩
  refine lv_i2l (v := v1) hx hb dX12_without_1 e1.symm ?_
  refine lv_lconst (v := 0) hx hb dX12_without_2 (by decide) ?_
  refine lv_ldc2 (v := 15) hx hb cx.1.2.2.2.1 (cx.1.2.2.2.2 _ kJ_X12_without_77) dX12_without_3 ?_
  refine g_ir (g_runS (wc := []) (rest := []) cx hP hD hS [] rfl (by decide) [.long v1, .long 0, .long 15] (c_X12_in l D k b H.size v1 0 15) gX12_without_X12_in rfl rfl rfl nd_X12_in ⟨Nat.le_of_ble_eq_true rfl, Nat.le_of_ble_eq_true rfl⟩ rfl hl.1 rfl (Nat.le_of_ble_eq_true rfl) ⟨Nat.zero_le _, Nat.zero_le _⟩ dX12_without_6) cx.2.2.1 hP hD hS [] rfl rfl (fun r3 H locs hw2 hP hS => ?_)
  have w4 : r3 = J_X12_in v1 (0 : Int64) (15 : Int64) := hw2
  clear hw2
  have zr3 := in_b w4
  refine lv_if_ne (tgt := 16) hx hb dX12_without_9 (by decide) (fun c5 => ?_) (fun c5 => ?_)
  · have f5 : ¬ r3.toInt = 0 := f_ne rfl (by decide) c5
    have k5 : 0 ≤ p0.toInt ∧ p0.toInt ≤ 15 := in_t (i2l_t rfl e1) (by decide) (by decide) w4 c5
    refine lv_aload_n hx hb dX12_without_16 rfl (lv_at hl 0 rfl) ?_
    refine g_get cx hP iw_X12_without_X12 0 rfl rfl 1 (by decide) rfl fw_X12_without_13 rfl dX12_without_17 ?_
    refine lv_iconst (v := 4) hx hb dX12_without_20 (by decide) ?_
    have hn6 : vp_in 4 26 := f_in (a := 4) (by decide) (by omega) (by omega)
    refine va_iald hx hb cx.2.1 hP 2 0 rfl rfl hn6 dX12_without_21 (lv_topi (fun v7 e7 => ?_))
    have uv7 : v7.toInt = ((sm 2) 4).toInt := congrArg Int32.toInt e7
    refine lv_istore_n (lv' := [(3, .int v7), (0, .ref (qm 0)), (1, .int p0), (2, .int p1)]) hx hb dX12_without_22 rfl hl (by decide) rfl (fun ls hl => ?_)
    refine lv_aload_n hx hb dX12_without_23 rfl (lv_at hl 1 rfl) ?_
    refine g_get cx hP iw_X12_without_X12 0 rfl rfl 1 (by decide) rfl fw_X12_without_13 rfl dX12_without_24 ?_
    refine lv_iconst (v := 5) hx hb dX12_without_27 (by decide) ?_
    have hn8 : vp_in 5 26 := f_in (a := 5) (by decide) (by omega) (by omega)
    refine va_iald hx hb cx.2.1 hP 2 0 rfl rfl hn8 dX12_without_28 (lv_topi (fun v9 e9 => ?_))
    have uv9 : v9.toInt = ((sm 2) 5).toInt := congrArg Int32.toInt e9
    refine lv_istore (lv' := [(4, .int v9), (3, .int v7), (0, .ref (qm 0)), (1, .int p0), (2, .int p1)]) hx hb dX12_without_29 hl (by decide) rfl (fun ls hl => ?_)
    refine lv_aload_n hx hb dX12_without_31 rfl (lv_at hl 2 rfl) ?_
    refine g_get cx hP iw_X12_without_X12 0 rfl rfl 1 (by decide) rfl fw_X12_without_13 rfl dX12_without_32 ?_
    refine lv_bipush (v := 6) hx hb dX12_without_35 (by decide) ?_
    have hn10 : vp_in 6 26 := f_in (a := 6) (by decide) (by omega) (by omega)
    refine va_iald hx hb cx.2.1 hP 2 0 rfl rfl hn10 dX12_without_37 (lv_topi (fun v11 e11 => ?_))
    have uv11 : v11.toInt = ((sm 2) 6).toInt := congrArg Int32.toInt e11
    refine lv_istore (lv' := [(5, .int v11), (4, .int v9), (3, .int v7), (0, .ref (qm 0)), (1, .int p0), (2, .int p1)]) hx hb dX12_without_38 hl (by decide) rfl (fun ls hl => ?_)
    refine lv_aload_n hx hb dX12_without_40 rfl (lv_at hl 3 rfl) ?_
    refine g_get cx hP iw_X12_without_X12 0 rfl rfl 1 (by decide) rfl fw_X12_without_13 rfl dX12_without_41 ?_
    refine lv_bipush (v := 7) hx hb dX12_without_44 (by decide) ?_
    have hn12 : vp_in 7 26 := f_in (a := 7) (by decide) (by omega) (by omega)
    refine va_iald hx hb cx.2.1 hP 2 0 rfl rfl hn12 dX12_without_46 (lv_topi (fun v13 e13 => ?_))
    have uv13 : v13.toInt = ((sm 2) 7).toInt := congrArg Int32.toInt e13
    refine lv_istore (lv' := [(6, .int v13), (5, .int v11), (4, .int v9), (3, .int v7), (0, .ref (qm 0)), (1, .int p0), (2, .int p1)]) hx hb dX12_without_47 hl (by decide) rfl (fun ls hl => ?_)
    refine lv_aload_n hx hb dX12_without_49 rfl (lv_at hl 4 rfl) ?_
    refine g_get cx hP iw_X12_without_X12 0 rfl rfl 1 (by decide) rfl fw_X12_without_13 rfl dX12_without_50 ?_
    refine lv_iconst (v := 4) hx hb dX12_without_53 (by decide) ?_
    refine lv_iload_n hx hb dX12_without_54 rfl (lv_at hl 5 rfl) ?_
    refine lv_iconst (v := 1) hx hb dX12_without_55 (by decide) ?_
    refine lv_iand hx hb dX12_without_56 (lv_topi (fun v14 e14 => ?_))
    have t14 : 0 ≤ v14.toInt ∧ v14.toInt ≤ p0.toInt := by rw [e14]; exact and_l rfl (by omega)
    refine lv_iconst (v := 1) hx hb dX12_without_57 (by decide) ?_
    have hJ67 : ∀ (v15 : Int32) (H : Heap) (locs : List Loc) (ls : Array Slot), va_P D vwCl [cell22_ qm sm tm, cell5_ k qm sm, cell13_ k qm sm, cell8_ k qm sm, cell6_ k qm sm, cell14_ k qm sm, cell15_ k qm tm, cell12_ k qm tm, cell18_ k qm tm, cell17_ k qm tm, cell19_ k qm tm, cell21_ k qm tm, cell20_ k qm sm, cell16_ k qm sm, cell11_ k qm sm, cell10_ k qm sm, cell9_ k qm sm, cell7_ k qm sm] H → va_D A [cell22_ qm sm tm, cell5_ k qm sm, cell13_ k qm sm, cell8_ k qm sm, cell6_ k qm sm, cell14_ k qm sm, cell15_ k qm tm, cell12_ k qm tm, cell18_ k qm tm, cell17_ k qm tm, cell19_ k qm tm, cell21_ k qm tm, cell20_ k qm sm, cell16_ k qm sm, cell11_ k qm sm, cell10_ k qm sm, cell9_ k qm sm, cell7_ k qm sm] → va_S A s.heap H locs → lv_has ls 7 [(6, .int v13), (5, .int v11), (4, .int v9), (3, .int v7), (0, .ref (qm 0)), (1, .int p0), (2, .int p1)] → W p l e ({ frames := 6, cells := 0, slots := 0, locals := 157 } : Room) s m ([.ref (qm 0), .int p0, .int p1] : List Value).toArray below meth c H locs 0 0 Q (F0 m 67 ls [.int v15, .int 4, .ref (qm 2)]) := by
      intro v15 H locs ls  hP hD hS hl
      have hn16 : vp_in 4 26 := f_in (a := 4) (by decide) (by omega) (by omega)
      refine va_iast hx hb cx.2.1 hP hD hS 2 0 rfl rfl hn16 dX12_without_67 (fun H locs hP hD hS => ?_)
      obtain ⟨g17, eg17⟩ : ∃ g : Nat → Int32, g = upd (sm 2) ((4 : Int32).toNatClampNeg) v15 := ⟨_, rfl⟩
      rw [← eg17] at hP hD
      have hP : va_P D vwCl [cell22_ qm sm tm, cell5_ k qm sm, (qm 2, .inl (k 0, 26, .inl g17)), cell8_ k qm sm, cell6_ k qm sm, cell14_ k qm sm, cell15_ k qm tm, cell12_ k qm tm, cell18_ k qm tm, cell17_ k qm tm, cell19_ k qm tm, cell21_ k qm tm, cell20_ k qm sm, cell16_ k qm sm, cell11_ k qm sm, cell10_ k qm sm, cell9_ k qm sm, cell7_ k qm sm] H := hP
      have hD : va_D A [cell22_ qm sm tm, cell5_ k qm sm, (qm 2, .inl (k 0, 26, .inl g17)), cell8_ k qm sm, cell6_ k qm sm, cell14_ k qm sm, cell15_ k qm tm, cell12_ k qm tm, cell18_ k qm tm, cell17_ k qm tm, cell19_ k qm tm, cell21_ k qm tm, cell20_ k qm sm, cell16_ k qm sm, cell11_ k qm sm, cell10_ k qm sm, cell9_ k qm sm, cell7_ k qm sm] := hD
      have s18 := updI eg17 (by decide) (show 0 ≤ 4 from by omega) 0
      have s19 := updI eg17 (by decide) (show 0 ≤ 4 from by omega) 1
      have el20 : 0 ≤ (g17 0).toInt ∧ (g17 0).toInt ≤ 5 := by omega
      have el21 : 0 ≤ (g17 1).toInt ∧ (g17 1).toInt ≤ 4 := by omega
      refine lv_aload_n hx hb dX12_without_68 rfl (lv_at hl 4 rfl) ?_
      refine g_get cx hP iw_X12_without_X12 0 rfl rfl 1 (by decide) rfl fw_X12_without_13 rfl dX12_without_69 ?_
      refine lv_iconst (v := 5) hx hb dX12_without_72 (by decide) ?_
      refine lv_iload_n hx hb dX12_without_73 rfl (lv_at hl 5 rfl) ?_
      refine lv_iconst (v := 2) hx hb dX12_without_74 (by decide) ?_
      refine lv_iand hx hb dX12_without_75 (lv_topi (fun v22 e22 => ?_))
      have t22 : 0 ≤ v22.toInt ∧ v22.toInt ≤ p0.toInt := by rw [e22]; exact and_l rfl (by omega)
      refine lv_iconst (v := 2) hx hb dX12_without_76 (by decide) ?_
      have hJ87 : ∀ (v23 : Int32) (H : Heap) (locs : List Loc) (ls : Array Slot), va_P D vwCl [cell22_ qm sm tm, cell5_ k qm sm, (qm 2, .inl (k 0, 26, .inl g17)), cell8_ k qm sm, cell6_ k qm sm, cell14_ k qm sm, cell15_ k qm tm, cell12_ k qm tm, cell18_ k qm tm, cell17_ k qm tm, cell19_ k qm tm, cell21_ k qm tm, cell20_ k qm sm, cell16_ k qm sm, cell11_ k qm sm, cell10_ k qm sm, cell9_ k qm sm, cell7_ k qm sm] H → va_D A [cell22_ qm sm tm, cell5_ k qm sm, (qm 2, .inl (k 0, 26, .inl g17)), cell8_ k qm sm, cell6_ k qm sm, cell14_ k qm sm, cell15_ k qm tm, cell12_ k qm tm, cell18_ k qm tm, cell17_ k qm tm, cell19_ k qm tm, cell21_ k qm tm, cell20_ k qm sm, cell16_ k qm sm, cell11_ k qm sm, cell10_ k qm sm, cell9_ k qm sm, cell7_ k qm sm] → va_S A s.heap H locs → lv_has ls 7 [(6, .int v13), (5, .int v11), (4, .int v9), (3, .int v7), (0, .ref (qm 0)), (1, .int p0), (2, .int p1)] → W p l e ({ frames := 6, cells := 0, slots := 0, locals := 157 } : Room) s m ([.ref (qm 0), .int p0, .int p1] : List Value).toArray below meth c H locs 0 0 Q (F0 m 87 ls [.int v23, .int 5, .ref (qm 2)]) := by
        intro v23 H locs ls  hP hD hS hl
        have hn24 : vp_in 5 26 := f_in (a := 5) (by decide) (by omega) (by omega)
        refine va_iast hx hb cx.2.1 hP hD hS 2 0 rfl rfl hn24 dX12_without_87 (fun H locs hP hD hS => ?_)
        obtain ⟨g25, eg25⟩ : ∃ g : Nat → Int32, g = upd g17 ((5 : Int32).toNatClampNeg) v23 := ⟨_, rfl⟩
        rw [← eg25] at hP hD
        have hP : va_P D vwCl [cell22_ qm sm tm, cell5_ k qm sm, (qm 2, .inl (k 0, 26, .inl g25)), cell8_ k qm sm, cell6_ k qm sm, cell14_ k qm sm, cell15_ k qm tm, cell12_ k qm tm, cell18_ k qm tm, cell17_ k qm tm, cell19_ k qm tm, cell21_ k qm tm, cell20_ k qm sm, cell16_ k qm sm, cell11_ k qm sm, cell10_ k qm sm, cell9_ k qm sm, cell7_ k qm sm] H := hP
        have hD : va_D A [cell22_ qm sm tm, cell5_ k qm sm, (qm 2, .inl (k 0, 26, .inl g25)), cell8_ k qm sm, cell6_ k qm sm, cell14_ k qm sm, cell15_ k qm tm, cell12_ k qm tm, cell18_ k qm tm, cell17_ k qm tm, cell19_ k qm tm, cell21_ k qm tm, cell20_ k qm sm, cell16_ k qm sm, cell11_ k qm sm, cell10_ k qm sm, cell9_ k qm sm, cell7_ k qm sm] := hD
        have s26 := updI eg25 (by decide) (show 0 ≤ 5 from by omega) 0
        have s27 := updI eg25 (by decide) (show 0 ≤ 5 from by omega) 1
        have el28 : 0 ≤ (g25 0).toInt ∧ (g25 0).toInt ≤ 5 := by omega
        have el29 : 0 ≤ (g25 1).toInt ∧ (g25 1).toInt ≤ 4 := by omega
        refine lv_aload_n hx hb dX12_without_88 rfl (lv_at hl 4 rfl) ?_
        refine g_get cx hP iw_X12_without_X12 0 rfl rfl 1 (by decide) rfl fw_X12_without_13 rfl dX12_without_89 ?_
        refine lv_bipush (v := 6) hx hb dX12_without_92 (by decide) ?_
        refine lv_iload_n hx hb dX12_without_94 rfl (lv_at hl 5 rfl) ?_
        refine lv_iconst (v := 4) hx hb dX12_without_95 (by decide) ?_
        refine lv_iand hx hb dX12_without_96 (lv_topi (fun v30 e30 => ?_))
        have t30 : 0 ≤ v30.toInt ∧ v30.toInt ≤ p0.toInt := by rw [e30]; exact and_l rfl (by omega)
        refine lv_iconst (v := 4) hx hb dX12_without_97 (by decide) ?_
        have hJ108 : ∀ (v31 : Int32) (H : Heap) (locs : List Loc) (ls : Array Slot), va_P D vwCl [cell22_ qm sm tm, cell5_ k qm sm, (qm 2, .inl (k 0, 26, .inl g25)), cell8_ k qm sm, cell6_ k qm sm, cell14_ k qm sm, cell15_ k qm tm, cell12_ k qm tm, cell18_ k qm tm, cell17_ k qm tm, cell19_ k qm tm, cell21_ k qm tm, cell20_ k qm sm, cell16_ k qm sm, cell11_ k qm sm, cell10_ k qm sm, cell9_ k qm sm, cell7_ k qm sm] H → va_D A [cell22_ qm sm tm, cell5_ k qm sm, (qm 2, .inl (k 0, 26, .inl g25)), cell8_ k qm sm, cell6_ k qm sm, cell14_ k qm sm, cell15_ k qm tm, cell12_ k qm tm, cell18_ k qm tm, cell17_ k qm tm, cell19_ k qm tm, cell21_ k qm tm, cell20_ k qm sm, cell16_ k qm sm, cell11_ k qm sm, cell10_ k qm sm, cell9_ k qm sm, cell7_ k qm sm] → va_S A s.heap H locs → lv_has ls 7 [(6, .int v13), (5, .int v11), (4, .int v9), (3, .int v7), (0, .ref (qm 0)), (1, .int p0), (2, .int p1)] → W p l e ({ frames := 6, cells := 0, slots := 0, locals := 157 } : Room) s m ([.ref (qm 0), .int p0, .int p1] : List Value).toArray below meth c H locs 0 0 Q (F0 m 108 ls [.int v31, .int 6, .ref (qm 2)]) := by
          intro v31 H locs ls  hP hD hS hl
          have hn32 : vp_in 6 26 := f_in (a := 6) (by decide) (by omega) (by omega)
          refine va_iast hx hb cx.2.1 hP hD hS 2 0 rfl rfl hn32 dX12_without_108 (fun H locs hP hD hS => ?_)
          obtain ⟨g33, eg33⟩ : ∃ g : Nat → Int32, g = upd g25 ((6 : Int32).toNatClampNeg) v31 := ⟨_, rfl⟩
          rw [← eg33] at hP hD
          have hP : va_P D vwCl [cell22_ qm sm tm, cell5_ k qm sm, (qm 2, .inl (k 0, 26, .inl g33)), cell8_ k qm sm, cell6_ k qm sm, cell14_ k qm sm, cell15_ k qm tm, cell12_ k qm tm, cell18_ k qm tm, cell17_ k qm tm, cell19_ k qm tm, cell21_ k qm tm, cell20_ k qm sm, cell16_ k qm sm, cell11_ k qm sm, cell10_ k qm sm, cell9_ k qm sm, cell7_ k qm sm] H := hP
          have hD : va_D A [cell22_ qm sm tm, cell5_ k qm sm, (qm 2, .inl (k 0, 26, .inl g33)), cell8_ k qm sm, cell6_ k qm sm, cell14_ k qm sm, cell15_ k qm tm, cell12_ k qm tm, cell18_ k qm tm, cell17_ k qm tm, cell19_ k qm tm, cell21_ k qm tm, cell20_ k qm sm, cell16_ k qm sm, cell11_ k qm sm, cell10_ k qm sm, cell9_ k qm sm, cell7_ k qm sm] := hD
          have s34 := updI eg33 (by decide) (show 0 ≤ 6 from by omega) 0
          have s35 := updI eg33 (by decide) (show 0 ≤ 6 from by omega) 1
          have el36 : 0 ≤ (g33 0).toInt ∧ (g33 0).toInt ≤ 5 := by omega
          have el37 : 0 ≤ (g33 1).toInt ∧ (g33 1).toInt ≤ 4 := by omega
          refine lv_aload_n hx hb dX12_without_109 rfl (lv_at hl 4 rfl) ?_
          refine g_get cx hP iw_X12_without_X12 0 rfl rfl 1 (by decide) rfl fw_X12_without_13 rfl dX12_without_110 ?_
          refine lv_bipush (v := 7) hx hb dX12_without_113 (by decide) ?_
          refine lv_iload_n hx hb dX12_without_115 rfl (lv_at hl 5 rfl) ?_
          refine lv_bipush (v := 8) hx hb dX12_without_116 (by decide) ?_
          refine lv_iand hx hb dX12_without_118 (lv_topi (fun v38 e38 => ?_))
          have t38 : 0 ≤ v38.toInt ∧ v38.toInt ≤ p0.toInt := by rw [e38]; exact and_l rfl (by omega)
          refine lv_bipush (v := 8) hx hb dX12_without_119 (by decide) ?_
          have hJ131 : ∀ (v39 : Int32) (H : Heap) (locs : List Loc) (ls : Array Slot), va_P D vwCl [cell22_ qm sm tm, cell5_ k qm sm, (qm 2, .inl (k 0, 26, .inl g33)), cell8_ k qm sm, cell6_ k qm sm, cell14_ k qm sm, cell15_ k qm tm, cell12_ k qm tm, cell18_ k qm tm, cell17_ k qm tm, cell19_ k qm tm, cell21_ k qm tm, cell20_ k qm sm, cell16_ k qm sm, cell11_ k qm sm, cell10_ k qm sm, cell9_ k qm sm, cell7_ k qm sm] H → va_D A [cell22_ qm sm tm, cell5_ k qm sm, (qm 2, .inl (k 0, 26, .inl g33)), cell8_ k qm sm, cell6_ k qm sm, cell14_ k qm sm, cell15_ k qm tm, cell12_ k qm tm, cell18_ k qm tm, cell17_ k qm tm, cell19_ k qm tm, cell21_ k qm tm, cell20_ k qm sm, cell16_ k qm sm, cell11_ k qm sm, cell10_ k qm sm, cell9_ k qm sm, cell7_ k qm sm] → va_S A s.heap H locs → lv_has ls 7 [(6, .int v13), (5, .int v11), (4, .int v9), (3, .int v7), (0, .ref (qm 0)), (2, .int p1)] → W p l e ({ frames := 6, cells := 0, slots := 0, locals := 157 } : Room) s m ([.ref (qm 0), .int p0, .int p1] : List Value).toArray below meth c H locs 0 0 Q (F0 m 131 ls [.int v39, .int 7, .ref (qm 2)]) := by
            intro v39 H locs ls  hP hD hS hl
            have hn40 : vp_in 7 26 := f_in (a := 7) (by decide) (by omega) (by omega)
            refine va_iast hx hb cx.2.1 hP hD hS 2 0 rfl rfl hn40 dX12_without_131 (fun H locs hP hD hS => ?_)
            obtain ⟨g41, eg41⟩ : ∃ g : Nat → Int32, g = upd g33 ((7 : Int32).toNatClampNeg) v39 := ⟨_, rfl⟩
            rw [← eg41] at hP hD
            have hP : va_P D vwCl [cell22_ qm sm tm, cell5_ k qm sm, (qm 2, .inl (k 0, 26, .inl g41)), cell8_ k qm sm, cell6_ k qm sm, cell14_ k qm sm, cell15_ k qm tm, cell12_ k qm tm, cell18_ k qm tm, cell17_ k qm tm, cell19_ k qm tm, cell21_ k qm tm, cell20_ k qm sm, cell16_ k qm sm, cell11_ k qm sm, cell10_ k qm sm, cell9_ k qm sm, cell7_ k qm sm] H := hP
            have hD : va_D A [cell22_ qm sm tm, cell5_ k qm sm, (qm 2, .inl (k 0, 26, .inl g41)), cell8_ k qm sm, cell6_ k qm sm, cell14_ k qm sm, cell15_ k qm tm, cell12_ k qm tm, cell18_ k qm tm, cell17_ k qm tm, cell19_ k qm tm, cell21_ k qm tm, cell20_ k qm sm, cell16_ k qm sm, cell11_ k qm sm, cell10_ k qm sm, cell9_ k qm sm, cell7_ k qm sm] := hD
            have s42 := updI eg41 (by decide) (show 0 ≤ 7 from by omega) 0
            have s43 := updI eg41 (by decide) (show 0 ≤ 7 from by omega) 1
            have el44 : 0 ≤ (g41 0).toInt ∧ (g41 0).toInt ≤ 5 := by omega
            have el45 : 0 ≤ (g41 1).toInt ∧ (g41 1).toInt ≤ 4 := by omega
            refine lv_aload_n hx hb dX12_without_132 rfl (lv_at hl 4 rfl) ?_
            refine lv_iconst (v := 0) hx hb dX12_without_133 (by decide) ?_
            refine g_vF (w1 := fun (u : (Nat → Int64) × (Nat → Int64) × (Nat → Int32)) => [cell22_ qm sm tm, cell5_ k qm sm, (qm 2, .inl (k 0, 26, .inl g41)), cell8_ k qm sm, cell6_ k qm sm, cell14_ k qm sm, cell15_ k qm tm, cell12_ k qm tm, cell18_ k qm tm, cell17_ k qm tm, cell130_ k qm (u.1), cell122_ k qm (u.2.1), cell123_ k qm (u.2.2), cell16_ k qm sm, cell11_ k qm sm, cell10_ k qm sm, cell9_ k qm sm, cell7_ k qm sm]) (g_runVF (ws := [cell22_ qm sm tm, cell5_ k qm sm, (qm 2, .inl (k 0, 26, .inl g41)), cell8_ k qm sm, cell6_ k qm sm, cell14_ k qm sm, cell15_ k qm tm, cell12_ k qm tm, cell18_ k qm tm, cell17_ k qm tm, cell19_ k qm tm, cell21_ k qm tm, cell20_ k qm sm, cell16_ k qm sm, cell11_ k qm sm, cell10_ k qm sm, cell9_ k qm sm, cell7_ k qm sm]) (rest := []) cx hP hD hS [.int 0] (c_X12_layBest l D k b qm (up2 sm 2 g41) tm H.size 0 (show 0 ≤ (g41 0).toInt ∧ (g41 0).toInt ≤ 5 from by first | decide | omega) (show 0 ≤ (g41 1).toInt ∧ (g41 1).toInt ≤ 4 from by first | decide | omega) (show 0 ≤ (0 : Int32).toInt ∧ (0 : Int32).toInt ≤ 4 from by first | decide | omega)) gX12_without_X12_layBest rfl rfl rfl nd_X12_layBest ⟨Nat.le_of_ble_eq_true rfl, Nat.le_of_ble_eq_true rfl⟩ (ci := 10) (q0 := 0) rfl rfl rfl hl.1 rfl (Nat.le_of_ble_eq_true rfl) ⟨Nat.zero_le _, Nat.zero_le _⟩ dX12_without_134) cx.2.2.1 hD hS (fun u47 H locs hw46 hP hD hS => ?_)
            obtain ⟨m48, m49, m50⟩ := u47
            have hP : va_P D vwCl [cell22_ qm sm tm, cell5_ k qm sm, (qm 2, .inl (k 0, 26, .inl g41)), cell8_ k qm sm, cell6_ k qm sm, cell14_ k qm sm, cell15_ k qm tm, cell12_ k qm tm, cell18_ k qm tm, cell17_ k qm tm, (qm 10, .inl (k 1, 1500, .inr (.inl m48))), (qm 11, .inl (k 1, 1500, .inr (.inl m49))), (qm 12, .inl (k 0, 1500, .inl m50)), cell16_ k qm sm, cell11_ k qm sm, cell10_ k qm sm, cell9_ k qm sm, cell7_ k qm sm] H := hP
            have hD : va_D A [cell22_ qm sm tm, cell5_ k qm sm, (qm 2, .inl (k 0, 26, .inl g41)), cell8_ k qm sm, cell6_ k qm sm, cell14_ k qm sm, cell15_ k qm tm, cell12_ k qm tm, cell18_ k qm tm, cell17_ k qm tm, (qm 10, .inl (k 1, 1500, .inr (.inl m48))), (qm 11, .inl (k 1, 1500, .inr (.inl m49))), (qm 12, .inl (k 0, 1500, .inl m50)), cell16_ k qm sm, cell11_ k qm sm, cell10_ k qm sm, cell9_ k qm sm, cell7_ k qm sm] := hD
            refine lv_aload_n hx hb dX12_without_137 rfl (lv_at hl 4 rfl) ?_
            refine g_get cx hP iw_X12_without_X12 0 rfl rfl 1 (by decide) rfl fw_X12_without_13 rfl dX12_without_138 ?_
            refine lv_iconst (v := 4) hx hb dX12_without_141 (by decide) ?_
            refine lv_iload_n hx hb dX12_without_142 rfl (lv_at hl 3 rfl) ?_
            have hn51 : vp_in 4 26 := f_in (a := 4) (by decide) (by omega) (by omega)
            refine va_iast hx hb cx.2.1 hP hD hS 2 0 rfl rfl hn51 dX12_without_143 (fun H locs hP hD hS => ?_)
            obtain ⟨g52, eg52⟩ : ∃ g : Nat → Int32, g = upd g41 ((4 : Int32).toNatClampNeg) v7 := ⟨_, rfl⟩
            rw [← eg52] at hP hD
            have hP : va_P D vwCl [cell22_ qm sm tm, cell5_ k qm sm, (qm 2, .inl (k 0, 26, .inl g52)), cell8_ k qm sm, cell6_ k qm sm, cell14_ k qm sm, cell15_ k qm tm, cell12_ k qm tm, cell18_ k qm tm, cell17_ k qm tm, (qm 10, .inl (k 1, 1500, .inr (.inl m48))), (qm 11, .inl (k 1, 1500, .inr (.inl m49))), (qm 12, .inl (k 0, 1500, .inl m50)), cell16_ k qm sm, cell11_ k qm sm, cell10_ k qm sm, cell9_ k qm sm, cell7_ k qm sm] H := hP
            have hD : va_D A [cell22_ qm sm tm, cell5_ k qm sm, (qm 2, .inl (k 0, 26, .inl g52)), cell8_ k qm sm, cell6_ k qm sm, cell14_ k qm sm, cell15_ k qm tm, cell12_ k qm tm, cell18_ k qm tm, cell17_ k qm tm, (qm 10, .inl (k 1, 1500, .inr (.inl m48))), (qm 11, .inl (k 1, 1500, .inr (.inl m49))), (qm 12, .inl (k 0, 1500, .inl m50)), cell16_ k qm sm, cell11_ k qm sm, cell10_ k qm sm, cell9_ k qm sm, cell7_ k qm sm] := hD
            have s53 := updI eg52 (by decide) (show 0 ≤ 4 from by omega) 0
            have s54 := updI eg52 (by decide) (show 0 ≤ 4 from by omega) 1
            have el55 : 0 ≤ (g52 0).toInt ∧ (g52 0).toInt ≤ 5 := by omega
            have el56 : 0 ≤ (g52 1).toInt ∧ (g52 1).toInt ≤ 4 := by omega
            refine lv_aload_n hx hb dX12_without_144 rfl (lv_at hl 4 rfl) ?_
            refine g_get cx hP iw_X12_without_X12 0 rfl rfl 1 (by decide) rfl fw_X12_without_13 rfl dX12_without_145 ?_
            refine lv_iconst (v := 5) hx hb dX12_without_148 (by decide) ?_
            refine lv_iload hx hb dX12_without_149 (lv_at hl 2 rfl) ?_
            have hn57 : vp_in 5 26 := f_in (a := 5) (by decide) (by omega) (by omega)
            refine va_iast hx hb cx.2.1 hP hD hS 2 0 rfl rfl hn57 dX12_without_151 (fun H locs hP hD hS => ?_)
            obtain ⟨g58, eg58⟩ : ∃ g : Nat → Int32, g = upd g52 ((5 : Int32).toNatClampNeg) v9 := ⟨_, rfl⟩
            rw [← eg58] at hP hD
            have hP : va_P D vwCl [cell22_ qm sm tm, cell5_ k qm sm, (qm 2, .inl (k 0, 26, .inl g58)), cell8_ k qm sm, cell6_ k qm sm, cell14_ k qm sm, cell15_ k qm tm, cell12_ k qm tm, cell18_ k qm tm, cell17_ k qm tm, (qm 10, .inl (k 1, 1500, .inr (.inl m48))), (qm 11, .inl (k 1, 1500, .inr (.inl m49))), (qm 12, .inl (k 0, 1500, .inl m50)), cell16_ k qm sm, cell11_ k qm sm, cell10_ k qm sm, cell9_ k qm sm, cell7_ k qm sm] H := hP
            have hD : va_D A [cell22_ qm sm tm, cell5_ k qm sm, (qm 2, .inl (k 0, 26, .inl g58)), cell8_ k qm sm, cell6_ k qm sm, cell14_ k qm sm, cell15_ k qm tm, cell12_ k qm tm, cell18_ k qm tm, cell17_ k qm tm, (qm 10, .inl (k 1, 1500, .inr (.inl m48))), (qm 11, .inl (k 1, 1500, .inr (.inl m49))), (qm 12, .inl (k 0, 1500, .inl m50)), cell16_ k qm sm, cell11_ k qm sm, cell10_ k qm sm, cell9_ k qm sm, cell7_ k qm sm] := hD
            have s59 := updI eg58 (by decide) (show 0 ≤ 5 from by omega) 0
            have s60 := updI eg58 (by decide) (show 0 ≤ 5 from by omega) 1
            have el61 : 0 ≤ (g58 0).toInt ∧ (g58 0).toInt ≤ 5 := by omega
            have el62 : 0 ≤ (g58 1).toInt ∧ (g58 1).toInt ≤ 4 := by omega
            refine lv_aload_n hx hb dX12_without_152 rfl (lv_at hl 4 rfl) ?_
            refine g_get cx hP iw_X12_without_X12 0 rfl rfl 1 (by decide) rfl fw_X12_without_13 rfl dX12_without_153 ?_
            refine lv_bipush (v := 6) hx hb dX12_without_156 (by decide) ?_
            refine lv_iload hx hb dX12_without_158 (lv_at hl 1 rfl) ?_
            have hn63 : vp_in 6 26 := f_in (a := 6) (by decide) (by omega) (by omega)
            refine va_iast hx hb cx.2.1 hP hD hS 2 0 rfl rfl hn63 dX12_without_160 (fun H locs hP hD hS => ?_)
            obtain ⟨g64, eg64⟩ : ∃ g : Nat → Int32, g = upd g58 ((6 : Int32).toNatClampNeg) v11 := ⟨_, rfl⟩
            rw [← eg64] at hP hD
            have hP : va_P D vwCl [cell22_ qm sm tm, cell5_ k qm sm, (qm 2, .inl (k 0, 26, .inl g64)), cell8_ k qm sm, cell6_ k qm sm, cell14_ k qm sm, cell15_ k qm tm, cell12_ k qm tm, cell18_ k qm tm, cell17_ k qm tm, (qm 10, .inl (k 1, 1500, .inr (.inl m48))), (qm 11, .inl (k 1, 1500, .inr (.inl m49))), (qm 12, .inl (k 0, 1500, .inl m50)), cell16_ k qm sm, cell11_ k qm sm, cell10_ k qm sm, cell9_ k qm sm, cell7_ k qm sm] H := hP
            have hD : va_D A [cell22_ qm sm tm, cell5_ k qm sm, (qm 2, .inl (k 0, 26, .inl g64)), cell8_ k qm sm, cell6_ k qm sm, cell14_ k qm sm, cell15_ k qm tm, cell12_ k qm tm, cell18_ k qm tm, cell17_ k qm tm, (qm 10, .inl (k 1, 1500, .inr (.inl m48))), (qm 11, .inl (k 1, 1500, .inr (.inl m49))), (qm 12, .inl (k 0, 1500, .inl m50)), cell16_ k qm sm, cell11_ k qm sm, cell10_ k qm sm, cell9_ k qm sm, cell7_ k qm sm] := hD
            have s65 := updI eg64 (by decide) (show 0 ≤ 6 from by omega) 0
            have s66 := updI eg64 (by decide) (show 0 ≤ 6 from by omega) 1
            have el67 : 0 ≤ (g64 0).toInt ∧ (g64 0).toInt ≤ 5 := by omega
            have el68 : 0 ≤ (g64 1).toInt ∧ (g64 1).toInt ≤ 4 := by omega
            refine lv_aload_n hx hb dX12_without_161 rfl (lv_at hl 4 rfl) ?_
            refine g_get cx hP iw_X12_without_X12 0 rfl rfl 1 (by decide) rfl fw_X12_without_13 rfl dX12_without_162 ?_
            refine lv_bipush (v := 7) hx hb dX12_without_165 (by decide) ?_
            refine lv_iload hx hb dX12_without_167 (lv_at hl 0 rfl) ?_
            have hn69 : vp_in 7 26 := f_in (a := 7) (by decide) (by omega) (by omega)
            refine va_iast hx hb cx.2.1 hP hD hS 2 0 rfl rfl hn69 dX12_without_169 (fun H locs hP hD hS => ?_)
            obtain ⟨g70, eg70⟩ : ∃ g : Nat → Int32, g = upd g64 ((7 : Int32).toNatClampNeg) v13 := ⟨_, rfl⟩
            rw [← eg70] at hP hD
            have hP : va_P D vwCl [cell22_ qm sm tm, cell5_ k qm sm, (qm 2, .inl (k 0, 26, .inl g70)), cell8_ k qm sm, cell6_ k qm sm, cell14_ k qm sm, cell15_ k qm tm, cell12_ k qm tm, cell18_ k qm tm, cell17_ k qm tm, (qm 10, .inl (k 1, 1500, .inr (.inl m48))), (qm 11, .inl (k 1, 1500, .inr (.inl m49))), (qm 12, .inl (k 0, 1500, .inl m50)), cell16_ k qm sm, cell11_ k qm sm, cell10_ k qm sm, cell9_ k qm sm, cell7_ k qm sm] H := hP
            have hD : va_D A [cell22_ qm sm tm, cell5_ k qm sm, (qm 2, .inl (k 0, 26, .inl g70)), cell8_ k qm sm, cell6_ k qm sm, cell14_ k qm sm, cell15_ k qm tm, cell12_ k qm tm, cell18_ k qm tm, cell17_ k qm tm, (qm 10, .inl (k 1, 1500, .inr (.inl m48))), (qm 11, .inl (k 1, 1500, .inr (.inl m49))), (qm 12, .inl (k 0, 1500, .inl m50)), cell16_ k qm sm, cell11_ k qm sm, cell10_ k qm sm, cell9_ k qm sm, cell7_ k qm sm] := hD
            have s71 := updI eg70 (by decide) (show 0 ≤ 7 from by omega) 0
            have s72 := updI eg70 (by decide) (show 0 ≤ 7 from by omega) 1
            have el73 : 0 ≤ (g70 0).toInt ∧ (g70 0).toInt ≤ 5 := by omega
            have el74 : 0 ≤ (g70 1).toInt ∧ (g70 1).toInt ≤ 4 := by omega
            refine lv_aload_n hx hb dX12_without_170 rfl (lv_at hl 4 rfl) ?_
            refine g_get cx hP iw_X12_without_X12 0 rfl rfl 18 (by decide) rfl fw_X12_without_38 rfl dX12_without_171 ?_
            refine lv_iconst (v := 0) hx hb dX12_without_174 (by decide) ?_
            have hn75 : vp_in 0 1500 := f_in (a := 0) (by decide) (by omega) (by omega)
            refine va_lald hx hb cx.2.1 hP 10 1 rfl rfl hn75 dX12_without_175 (lv_topl (fun v76 e76 => ?_))
            refine lv_aload_n hx hb dX12_without_176 rfl (lv_at hl 4 rfl) ?_
            refine g_get cx hP iw_X12_without_X12 0 rfl rfl 1 (by decide) rfl fw_X12_without_13 rfl dX12_without_177 ?_
            refine lv_iconst (v := 0) hx hb dX12_without_180 (by decide) ?_
            have hn77 : vp_in 0 26 := f_in (a := 0) (by decide) (by omega) (by omega)
            refine va_iald hx hb cx.2.1 hP 2 0 rfl rfl hn77 dX12_without_181 (lv_topi (fun v78 e78 => ?_))
            have uv78 : v78.toInt = (g70 0).toInt := congrArg Int32.toInt e78
            have t78 : 0 ≤ v78.toInt ∧ v78.toInt ≤ 5 := by rw [e78]; exact el73
            refine g_lr (g_runS (wc := []) (rest := [.long v76]) cx hP hD hS [] rfl (by decide) [.int v78] (c_X12_parts l D k b H.size v78) gX12_without_X12_parts rfl rfl rfl nd_X12_parts ⟨Nat.le_of_ble_eq_true rfl, Nat.le_of_ble_eq_true rfl⟩ rfl hl.1 rfl (Nat.le_of_ble_eq_true rfl) ⟨Nat.zero_le _, Nat.zero_le _⟩ dX12_without_182) cx.2.2.1 hP hD hS [] rfl rfl (fun r80 H locs hw79 hP hS => ?_)
            have w81 : r80.toInt % 2 = 1 := hw79
            clear hw79
            refine lv_iload_n hx hb dX12_without_185 rfl (lv_at hl 5 rfl) ?_
            refine g_lr (g_runS (wc := []) (rest := []) cx hP hD hS [] rfl (by decide) [.long v76, .long r80, .int p1] (c_X12_told l D k b H.size v76 r80 p1 (show ¬ r80.toInt = 0 from by first | decide | omega)) gX12_without_X12_told rfl rfl rfl nd_X12_told ⟨Nat.le_of_ble_eq_true rfl, Nat.le_of_ble_eq_true rfl⟩ rfl hl.1 rfl (Nat.le_of_ble_eq_true rfl) ⟨Nat.zero_le _, Nat.zero_le _⟩ dX12_without_186) cx.2.2.1 hP hD hS [] rfl rfl (fun r83 H locs hw82 hP hS => ?_)
            rw [hQ]
            exact x_l cx hr (m48, m49, m50, g70) hP hD hS ⟨(show 0 ≤ (g70 0).toInt ∧ (g70 0).toInt ≤ 5 from by omega), (show 0 ≤ (g70 1).toInt ∧ (g70 1).toInt ≤ 4 from by omega), (show g70 = (sm 2) from rest8 eg17 eg25 eg33 eg41 eg52 eg58 eg64 eg70 e7 e9 e11 e13)⟩ dX12_without_189
          refine lv_icmp_ne (tgt := 129) hx hb dX12_without_121 (by decide) (fun c84 => ?_) (fun c84 => ?_)
          · have f84 : ¬ v38.toInt = 8 := f_ne rfl (by decide) c84
            refine lv_iload hx hb dX12_without_129 (lv_at hl 0 rfl) ?_
            exact hJ131 v13 _ _ _  hP hD hS (lv_sub hl [0, 1, 2, 3, 4, 6] rfl)
          · have f84 : v38.toInt = 8 := f_eq rfl (by decide) c84
            refine lv_bipush (v := (-9)) hx hb dX12_without_124 (by decide) ?_
            refine lv_goto (tgt := 131) hx hb dX12_without_126 (by decide) ?_
            have hlit85 : (-9 : Int32).toInt = -9 := by decide
            exact hJ131 (-9) _ _ _  hP hD hS (lv_sub hl [0, 1, 2, 3, 4, 6] rfl)
        refine lv_icmp_ne (tgt := 106) hx hb dX12_without_98 (by decide) (fun c86 => ?_) (fun c86 => ?_)
        · have f86 : ¬ v30.toInt = 4 := f_ne rfl (by decide) c86
          refine lv_iload hx hb dX12_without_106 (lv_at hl 1 rfl) ?_
          exact hJ108 v11 _ _ _  hP hD hS (lv_sub hl [0, 1, 2, 3, 4, 5, 6] rfl)
        · have f86 : v30.toInt = 4 := f_eq rfl (by decide) c86
          refine lv_bipush (v := (-9)) hx hb dX12_without_101 (by decide) ?_
          refine lv_goto (tgt := 108) hx hb dX12_without_103 (by decide) ?_
          have hlit87 : (-9 : Int32).toInt = -9 := by decide
          exact hJ108 (-9) _ _ _  hP hD hS (lv_sub hl [0, 1, 2, 3, 4, 5, 6] rfl)
      refine lv_icmp_ne (tgt := 85) hx hb dX12_without_77 (by decide) (fun c88 => ?_) (fun c88 => ?_)
      · have f88 : ¬ v22.toInt = 2 := f_ne rfl (by decide) c88
        refine lv_iload hx hb dX12_without_85 (lv_at hl 2 rfl) ?_
        exact hJ87 v9 _ _ _  hP hD hS (lv_sub hl [0, 1, 2, 3, 4, 5, 6] rfl)
      · have f88 : v22.toInt = 2 := f_eq rfl (by decide) c88
        refine lv_bipush (v := (-9)) hx hb dX12_without_80 (by decide) ?_
        refine lv_goto (tgt := 87) hx hb dX12_without_82 (by decide) ?_
        have hlit89 : (-9 : Int32).toInt = -9 := by decide
        exact hJ87 (-9) _ _ _  hP hD hS (lv_sub hl [0, 1, 2, 3, 4, 5, 6] rfl)
    refine lv_icmp_ne (tgt := 66) hx hb dX12_without_58 (by decide) (fun c90 => ?_) (fun c90 => ?_)
    · have f90 : ¬ v14.toInt = 1 := f_ne rfl (by decide) c90
      refine lv_iload_n hx hb dX12_without_66 rfl (lv_at hl 3 rfl) ?_
      exact hJ67 v7 _ _ _  hP hD hS (lv_sub hl [0, 1, 2, 3, 4, 5, 6] rfl)
    · have f90 : v14.toInt = 1 := f_eq rfl (by decide) c90
      refine lv_bipush (v := (-9)) hx hb dX12_without_61 (by decide) ?_
      refine lv_goto (tgt := 67) hx hb dX12_without_63 (by decide) ?_
      have hlit91 : (-9 : Int32).toInt = -9 := by decide
      exact hJ67 (-9) _ _ _  hP hD hS (lv_sub hl [0, 1, 2, 3, 4, 5, 6] rfl)
  · have f5 : r3.toInt = 0 := f_eq rfl (by decide) c5
    have k5 : p0.toInt < 0 ∨ 15 < p0.toInt := in_f (i2l_t rfl e1) (by decide) (by decide) w4 c5
    refine lv_ldc2 (v := (-2)) hx hb cx.1.2.2.2.1 (cx.1.2.2.2.2 _ kJ_X12_without_206) dX12_without_12 ?_
    rw [hQ]
    exact x_l cx hr ((tm 10), (tm 11), (sm 12), (sm 2)) hP hD hS ⟨(show 0 ≤ ((sm 2) 0).toInt ∧ ((sm 2) 0).toInt ≤ 5 from by omega), (show 0 ≤ ((sm 2) 1).toInt ∧ ((sm 2) 1).toInt ≤ 4 from by omega), (show (sm 2) = (sm 2) from rfl)⟩ dX12_without_15

