theorem fw_X12_act_140 : Cond.fieldLink RX12 140 "StillInAugustModel" "liveOrder" "I" ∈ wsX12_act := by decide +kernel
theorem fw_X12_act_143 : Cond.fieldLink RX12 143 "StillInAugustModel" "liveDid" "I" ∈ wsX12_act := by decide +kernel
theorem fw_X12_act_47 : Cond.fieldLink RX12 47 "StillInAugustModel" "live" "[I" ∈ wsX12_act := by decide +kernel
theorem iw_X12_act_X12 : ∀ w ∈ u_ws RX12 TX12 33, w ∈ wsX12_act := fun _ h => List.mem_cons_of_mem _ (List.mem_append_right _ h)
def J_X12_act (sm : Nat → Nat → Int32) (tm : Nat → Nat → Int64) (p0 : Int32) : Int32 × (Nat → Int32) × Int32 × Int32 := if 0 ≤ p0 then if ((sm 13) (3 : Int32).toNatClampNeg) = 1 then (((-3) : Int32), (sm 13), (sm 0 22), (sm 0 23)) else let y14 := J_X12_isWeek sm tm (((sm 13) (0 : Int32).toNatClampNeg)); if y14 = 0 then (((-3) : Int32), (sm 13), (sm 0 22), (sm 0 23)) else let y24 := J_X12_after sm tm (((sm 13) (0 : Int32).toNatClampNeg)) (((sm 13) (1 : Int32).toNatClampNeg)) p0; if y24 = (-9) then (((-3) : Int32), (sm 13), (sm 0 22), (sm 0 23)) else let y34 := J_X12_costOf sm tm (((sm 13) (0 : Int32).toNatClampNeg)) y24 (((sm 13) (2 : Int32).toNatClampNeg)) p0; (y34, (upd (upd (upd (sm 13) (1 : Int32).toNatClampNeg y24) (3 : Int32).toNatClampNeg 1) (4 : Int32).toNatClampNeg ((((upd (upd (sm 13) (1 : Int32).toNatClampNeg y24) (3 : Int32).toNatClampNeg 1) (4 : Int32).toNatClampNeg) + y34))), (p0 - p0 / (10 : Int32) * (10 : Int32)), y24) else (((-2) : Int32), (sm 13), (sm 0 22), (sm 0 23))
set_option maxHeartbeats 4000000 in
set_option maxRecDepth 100000 in
theorem c_X12_act (l : Launch) (D : va_G) (k : Nat → ClassId) (b : Nat → Nat) (qm : Nat → Nat) (sm : Nat → Nat → Int32) (tm : Nat → Nat → Int64) (sz : Nat) (p0 : Int32) (h_w0 : 0 ≤ (sm 2 0).toInt ∧ (sm 2 0).toInt ≤ 5) : MetI l D k b yX12_act wsX12_act ({ frames := 2, cells := 0, slots := 0, locals := 55 } : Room) [cell22_ qm sm tm, cell5_ k qm sm, cell13_ k qm sm, cell8_ k qm sm, cell6_ k qm sm, cell15_ k qm sm, cell14_ k qm tm, cell12_ k qm tm, cell18_ k qm tm, cell17_ k qm tm, cell19_ k qm tm, cell21_ k qm tm, cell20_ k qm sm, cell16_ k qm sm, cell11_ k qm sm, cell10_ k qm sm, cell9_ k qm sm, cell7_ k qm sm] sz [.ref (qm 0), .int p0] (fun (r : Int32) (u : (Nat → Int32) × Int32 × Int32) => (r, (u.1), (u.2.1), (u.2.2)) = J_X12_act sm tm p0) (fun u => [cell131_ qm sm tm (u.2.1) (u.2.2), cell5_ k qm sm, cell13_ k qm sm, cell8_ k qm sm, cell6_ k qm sm, cell15_ k qm sm, cell14_ k qm tm, cell12_ k qm tm, cell18_ k qm tm, cell17_ k qm tm, cell19_ k qm tm, cell21_ k qm tm, cell20_ k qm sm, cell168_ k qm (u.1), cell11_ k qm sm, cell10_ k qm sm, cell9_ k qm sm, cell7_ k qm sm]) := by
  refine g_enter (cc := cX12_act) (maxL := 4) (ret := (some .int)) (by decide) rfl (Nat.le_of_ble_eq_true rfl) ?_
  intro p e s m below meth c A hsz hAe cx hr hP hD hS ls hl
  rw [hAe]
  refine g_q (fun Q hQ => ?_)
  have hx := cx.1.1
  have hb := cx.1.2.1
  have bp0 := i_rng p0
  have hl : lv_has ls 4 [(0, .ref (qm 0)), (1, .int p0)] := hl
  obtain ⟨H, eH⟩ : ∃ H : Heap, H = s.heap := ⟨_, rfl⟩
  obtain ⟨locs, el⟩ : ∃ L : List Loc, L = [] := ⟨_, rfl⟩
  have hP : va_P D vwCl [cell22_ qm sm tm, cell5_ k qm sm, cell13_ k qm sm, cell8_ k qm sm, cell6_ k qm sm, cell15_ k qm sm, cell14_ k qm tm, cell12_ k qm tm, cell18_ k qm tm, cell17_ k qm tm, cell19_ k qm tm, cell21_ k qm tm, cell20_ k qm sm, cell16_ k qm sm, cell11_ k qm sm, cell10_ k qm sm, cell9_ k qm sm, cell7_ k qm sm] H := by rw [eH]; exact hP
  have hD : va_D A [cell22_ qm sm tm, cell5_ k qm sm, cell13_ k qm sm, cell8_ k qm sm, cell6_ k qm sm, cell15_ k qm sm, cell14_ k qm tm, cell12_ k qm tm, cell18_ k qm tm, cell17_ k qm tm, cell19_ k qm tm, cell21_ k qm tm, cell20_ k qm sm, cell16_ k qm sm, cell11_ k qm sm, cell10_ k qm sm, cell9_ k qm sm, cell7_ k qm sm] := hD
  have hS : va_S A s.heap H locs := by rw [eH, el]; exact hS
  suffices goal : W p l e ({ frames := 2, cells := 0, slots := 0, locals := 55 } : Room) s m ([.ref (qm 0), .int p0] : List Value).toArray below meth c H locs 0 0 Q (F0 m 0 ls []) by rw [eH, el] at goal; exact goal
  refine lv_iload_n hx hb dX12_act_0 rfl (lv_at hl 1 rfl) ?_
  refine lv_if_ge (tgt := 7) hx hb dX12_act_1 (by decide) (fun c1 => ?_) (fun c1 => ?_)
  · have f1 : 0 ≤ p0.toInt := f_le (by decide) rfl c1
    refine lv_aload_n hx hb dX12_act_7 rfl (lv_at hl 0 rfl) ?_
    refine g_get cx hP iw_X12_act_X12 0 rfl rfl 21 (by decide) rfl fw_X12_act_47 rfl dX12_act_8 ?_
    refine lv_iconst (v := 3) hx hb dX12_act_11 (by decide) ?_
    have hn2 : vp_in 3 5 := f_in (a := 3) (by decide) (by omega) (by omega)
    refine va_iald hx hb cx.2.1 hP 13 0 rfl rfl hn2 dX12_act_12 (lv_topi (fun v3 e3 => ?_))
    have uv3 : v3.toInt = ((sm 13) 3).toInt := congrArg Int32.toInt e3
    refine lv_iconst (v := 1) hx hb dX12_act_13 (by decide) ?_
    refine lv_icmp_eq (tgt := 30) hx hb dX12_act_14 (by decide) (fun c4 => ?_) (fun c4 => ?_)
    · have f4 : v3.toInt = 1 := f_eq rfl (by decide) c4
      refine lv_bipush (v := (-9)) hx hb dX12_act_30 (by decide) ?_
      refine lv_goto (tgt := 52) hx hb dX12_act_32 (by decide) ?_
      refine lv_istore_n (lv' := [(2, .int (-9)), (0, .ref (qm 0)), (1, .int p0)]) hx hb dX12_act_52 rfl hl (by decide) rfl (fun ls hl => ?_)
      refine lv_iload_n hx hb dX12_act_53 rfl (lv_at hl 0 rfl) ?_
      refine lv_bipush (v := (-9)) hx hb dX12_act_54 (by decide) ?_
      refine lv_icmp_ne (tgt := 62) hx hb dX12_act_56 (by decide) (fun c5 => ?_) (fun c5 => ?_)
      · exact absurd c5 (by decide)
      · refine lv_bipush (v := (-3)) hx hb dX12_act_59 (by decide) ?_
        have hlit6 : ((-3) : Int32).toInt = -3 := by decide
        rw [hQ]
        exact x_i cx hr ((sm 13), (sm 0 22), (sm 0 23)) hP hD hS (show (((-3) : Int32), (sm 13), (sm 0 22), (sm 0 23)) = J_X12_act sm tm p0 from by subst e3; first | (refine Eq.symm ?_; refine Eq.trans (if_pos c1) ?_; refine Eq.trans (if_pos c4) ?_; rfl) | (unfold J_X12_act; try dsimp only; rw [if_pos c1, if_pos c4])) dX12_act_61
    · have f4 : ¬ v3.toInt = 1 := f_ne rfl (by decide) c4
      refine lv_aload_n hx hb dX12_act_17 rfl (lv_at hl 0 rfl) ?_
      refine lv_aload_n hx hb dX12_act_18 rfl (lv_at hl 0 rfl) ?_
      refine g_get cx hP iw_X12_act_X12 0 rfl rfl 21 (by decide) rfl fw_X12_act_47 rfl dX12_act_19 ?_
      refine lv_iconst (v := 0) hx hb dX12_act_22 (by decide) ?_
      have hn7 : vp_in 0 5 := f_in (a := 0) (by decide) (by omega) (by omega)
      refine va_iald hx hb cx.2.1 hP 13 0 rfl rfl hn7 dX12_act_23 (lv_topi (fun v8 e8 => ?_))
      have uv8 : v8.toInt = ((sm 13) 0).toInt := congrArg Int32.toInt e8
      refine g_iF (w1 := fun (_ : Unit) => [cell22_ qm sm tm, cell5_ k qm sm, cell13_ k qm sm, cell8_ k qm sm, cell6_ k qm sm, cell15_ k qm sm, cell14_ k qm tm, cell12_ k qm tm, cell18_ k qm tm, cell17_ k qm tm, cell19_ k qm tm, cell21_ k qm tm, cell20_ k qm sm, cell16_ k qm sm, cell11_ k qm sm, cell10_ k qm sm, cell9_ k qm sm, cell7_ k qm sm]) (g_runVF (ws := [cell22_ qm sm tm, cell5_ k qm sm, cell13_ k qm sm, cell8_ k qm sm, cell6_ k qm sm, cell15_ k qm sm, cell14_ k qm tm, cell12_ k qm tm, cell18_ k qm tm, cell17_ k qm tm, cell19_ k qm tm, cell21_ k qm tm, cell20_ k qm sm, cell16_ k qm sm, cell11_ k qm sm, cell10_ k qm sm, cell9_ k qm sm, cell7_ k qm sm]) (rest := []) cx hP hD hS [.int v8] (c_X12_isWeek l D k b qm sm tm H.size v8 (show 0 ≤ ((sm 2) 0).toInt ∧ ((sm 2) 0).toInt ≤ 5 from by first | decide | omega)) gX12_act_X12_isWeek rfl rfl rfl nd_X12_isWeek ⟨Nat.le_of_ble_eq_true rfl, Nat.le_of_ble_eq_true rfl⟩ (ci := 10) (q0 := 0) rfl rfl rfl hl.1 rfl (Nat.le_of_ble_eq_true rfl) ⟨Nat.zero_le _, Nat.zero_le _⟩ dX12_act_24) cx.2.2.1 hD hS (fun r10 _ H locs hw9 hP hD hS => ?_)
      replace hw9 : (0 ≤ r10.toInt ∧ r10.toInt ≤ 1) ∧ (Imp (r10.toInt = 1) (0 ≤ v8.toInt ∧ v8.toInt ≤ 4)) ∧ (r10 = J_X12_isWeek sm tm v8) := hw9
      obtain ⟨w11, w12, w13⟩ := hw9
      have k15 : r10 = (J_X12_isWeek sm tm v8) := congrArg (fun z => z) w13
      have zr10 : 0 ≤ r10.toInt ∧ r10.toInt ≤ 1 := w11
      refine lv_if_ne (tgt := 35) hx hb dX12_act_27 (by decide) (fun c16 => ?_) (fun c16 => ?_)
      · have f16 : ¬ r10.toInt = 0 := f_ne rfl (by decide) c16
        have k16 : (0 ≤ v8.toInt ∧ v8.toInt ≤ 4) := w12 (by omega)
        refine lv_aload_n hx hb dX12_act_35 rfl (lv_at hl 0 rfl) ?_
        refine lv_aload_n hx hb dX12_act_36 rfl (lv_at hl 0 rfl) ?_
        refine g_get cx hP iw_X12_act_X12 0 rfl rfl 21 (by decide) rfl fw_X12_act_47 rfl dX12_act_37 ?_
        refine lv_iconst (v := 0) hx hb dX12_act_40 (by decide) ?_
        have hn17 : vp_in 0 5 := f_in (a := 0) (by decide) (by omega) (by omega)
        refine va_iald hx hb cx.2.1 hP 13 0 rfl rfl hn17 dX12_act_41 (lv_topi (fun v18 e18 => ?_))
        have qv18_ : v18.toInt = v8.toInt := congrArg Int32.toInt (e18.trans e8.symm)
        have uv18 : v18.toInt = ((sm 13) 0).toInt := congrArg Int32.toInt e18
        refine lv_aload_n hx hb dX12_act_42 rfl (lv_at hl 0 rfl) ?_
        refine g_get cx hP iw_X12_act_X12 0 rfl rfl 21 (by decide) rfl fw_X12_act_47 rfl dX12_act_43 ?_
        refine lv_iconst (v := 1) hx hb dX12_act_46 (by decide) ?_
        have hn19 : vp_in 1 5 := f_in (a := 1) (by decide) (by omega) (by omega)
        refine va_iald hx hb cx.2.1 hP 13 0 rfl rfl hn19 dX12_act_47 (lv_topi (fun v20 e20 => ?_))
        have uv20 : v20.toInt = ((sm 13) 1).toInt := congrArg Int32.toInt e20
        refine lv_iload_n hx hb dX12_act_48 rfl (lv_at hl 1 rfl) ?_
        refine g_iF (w1 := fun (_ : Unit) => [cell22_ qm sm tm, cell5_ k qm sm, cell13_ k qm sm, cell8_ k qm sm, cell6_ k qm sm, cell15_ k qm sm, cell14_ k qm tm, cell12_ k qm tm, cell18_ k qm tm, cell17_ k qm tm, cell19_ k qm tm, cell21_ k qm tm, cell20_ k qm sm, cell16_ k qm sm, cell11_ k qm sm, cell10_ k qm sm, cell9_ k qm sm, cell7_ k qm sm]) (g_runVF (ws := [cell22_ qm sm tm, cell5_ k qm sm, cell13_ k qm sm, cell8_ k qm sm, cell6_ k qm sm, cell15_ k qm sm, cell14_ k qm tm, cell12_ k qm tm, cell18_ k qm tm, cell17_ k qm tm, cell19_ k qm tm, cell21_ k qm tm, cell20_ k qm sm, cell16_ k qm sm, cell11_ k qm sm, cell10_ k qm sm, cell9_ k qm sm, cell7_ k qm sm]) (rest := []) cx hP hD hS [.int v18, .int v20, .int p0] (c_X12_after l D k b qm sm tm H.size v18 v20 p0 (show 0 ≤ ((sm 2) 0).toInt ∧ ((sm 2) 0).toInt ≤ 5 from by first | decide | omega) (show 0 ≤ v18.toInt ∧ v18.toInt ≤ 4 from by first | decide | omega)) gX12_act_X12_after rfl rfl rfl nd_X12_after ⟨Nat.le_of_ble_eq_true rfl, Nat.le_of_ble_eq_true rfl⟩ (ci := 10) (q0 := 0) rfl rfl rfl hl.1 rfl (Nat.le_of_ble_eq_true rfl) ⟨Nat.zero_le _, Nat.zero_le _⟩ dX12_act_49) cx.2.2.1 hD hS (fun r22 _ H locs hw21 hP hD hS => ?_)
        have w23 : r22 = J_X12_after sm tm v18 v20 p0 := hw21
        clear hw21
        have k25 : r22 = (J_X12_after sm tm v18 v20 p0) := congrArg (fun z => z) w23
        refine lv_istore_n (lv' := [(2, .int r22), (0, .ref (qm 0)), (1, .int p0)]) hx hb dX12_act_52 rfl hl (by decide) rfl (fun ls hl => ?_)
        refine lv_iload_n hx hb dX12_act_53 rfl (lv_at hl 0 rfl) ?_
        refine lv_bipush (v := (-9)) hx hb dX12_act_54 (by decide) ?_
        refine lv_icmp_ne (tgt := 62) hx hb dX12_act_56 (by decide) (fun c26 => ?_) (fun c26 => ?_)
        · have f26 : ¬ r22.toInt = (-9) := f_ne rfl (by decide) c26
          refine lv_aload_n hx hb dX12_act_62 rfl (lv_at hl 1 rfl) ?_
          refine lv_aload_n hx hb dX12_act_63 rfl (lv_at hl 1 rfl) ?_
          refine g_get cx hP iw_X12_act_X12 0 rfl rfl 21 (by decide) rfl fw_X12_act_47 rfl dX12_act_64 ?_
          refine lv_iconst (v := 0) hx hb dX12_act_67 (by decide) ?_
          have hn27 : vp_in 0 5 := f_in (a := 0) (by decide) (by omega) (by omega)
          refine va_iald hx hb cx.2.1 hP 13 0 rfl rfl hn27 dX12_act_68 (lv_topi (fun v28 e28 => ?_))
          have qv28_ : v28.toInt = v18.toInt := congrArg Int32.toInt (e28.trans e18.symm)
          have uv28 : v28.toInt = ((sm 13) 0).toInt := congrArg Int32.toInt e28
          refine lv_iload_n hx hb dX12_act_69 rfl (lv_at hl 0 rfl) ?_
          refine lv_aload_n hx hb dX12_act_70 rfl (lv_at hl 1 rfl) ?_
          refine g_get cx hP iw_X12_act_X12 0 rfl rfl 21 (by decide) rfl fw_X12_act_47 rfl dX12_act_71 ?_
          refine lv_iconst (v := 2) hx hb dX12_act_74 (by decide) ?_
          have hn29 : vp_in 2 5 := f_in (a := 2) (by decide) (by omega) (by omega)
          refine va_iald hx hb cx.2.1 hP 13 0 rfl rfl hn29 dX12_act_75 (lv_topi (fun v30 e30 => ?_))
          have uv30 : v30.toInt = ((sm 13) 2).toInt := congrArg Int32.toInt e30
          refine lv_iload_n hx hb dX12_act_76 rfl (lv_at hl 2 rfl) ?_
          refine g_iF (w1 := fun (_ : Unit) => [cell22_ qm sm tm, cell5_ k qm sm, cell13_ k qm sm, cell8_ k qm sm, cell6_ k qm sm, cell15_ k qm sm, cell14_ k qm tm, cell12_ k qm tm, cell18_ k qm tm, cell17_ k qm tm, cell19_ k qm tm, cell21_ k qm tm, cell20_ k qm sm, cell16_ k qm sm, cell11_ k qm sm, cell10_ k qm sm, cell9_ k qm sm, cell7_ k qm sm]) (g_runVF (ws := [cell22_ qm sm tm, cell5_ k qm sm, cell13_ k qm sm, cell8_ k qm sm, cell6_ k qm sm, cell15_ k qm sm, cell14_ k qm tm, cell12_ k qm tm, cell18_ k qm tm, cell17_ k qm tm, cell19_ k qm tm, cell21_ k qm tm, cell20_ k qm sm, cell16_ k qm sm, cell11_ k qm sm, cell10_ k qm sm, cell9_ k qm sm, cell7_ k qm sm]) (rest := []) cx hP hD hS [.int v28, .int r22, .int v30, .int p0] (c_X12_costOf l D k b qm sm tm H.size v28 r22 v30 p0 (show 0 ≤ v28.toInt ∧ v28.toInt ≤ 4 from by first | decide | omega)) gX12_act_X12_costOf rfl rfl rfl nd_X12_costOf ⟨Nat.le_of_ble_eq_true rfl, Nat.le_of_ble_eq_true rfl⟩ (ci := 10) (q0 := 0) rfl rfl rfl hl.1 rfl (Nat.le_of_ble_eq_true rfl) ⟨Nat.zero_le _, Nat.zero_le _⟩ dX12_act_77) cx.2.2.1 hD hS (fun r32 _ H locs hw31 hP hD hS => ?_)
          have w33 : r32 = J_X12_costOf sm tm v28 r22 v30 p0 := hw31
          clear hw31
          have k35 : r32 = (J_X12_costOf sm tm v28 r22 v30 p0) := congrArg (fun z => z) w33
          refine lv_istore_n (lv' := [(3, .int r32), (2, .int r22), (0, .ref (qm 0)), (1, .int p0)]) hx hb dX12_act_80 rfl hl (by decide) rfl (fun ls hl => ?_)
          refine lv_aload_n hx hb dX12_act_81 rfl (lv_at hl 2 rfl) ?_
          refine g_get cx hP iw_X12_act_X12 0 rfl rfl 21 (by decide) rfl fw_X12_act_47 rfl dX12_act_82 ?_
          refine lv_iconst (v := 1) hx hb dX12_act_85 (by decide) ?_
          refine lv_iload_n hx hb dX12_act_86 rfl (lv_at hl 1 rfl) ?_
          have hn36 : vp_in 1 5 := f_in (a := 1) (by decide) (by omega) (by omega)
          refine va_iast hx hb cx.2.1 hP hD hS 13 0 rfl rfl hn36 dX12_act_87 (fun H locs hP hD hS => ?_)
          obtain ⟨g37, eg37⟩ : ∃ g : Nat → Int32, g = upd (sm 13) ((1 : Int32).toNatClampNeg) r22 := ⟨_, rfl⟩
          rw [← eg37] at hP hD
          have hP : va_P D vwCl [cell22_ qm sm tm, cell5_ k qm sm, cell13_ k qm sm, cell8_ k qm sm, cell6_ k qm sm, cell15_ k qm sm, cell14_ k qm tm, cell12_ k qm tm, cell18_ k qm tm, cell17_ k qm tm, cell19_ k qm tm, cell21_ k qm tm, cell20_ k qm sm, (qm 13, .inl (k 0, 5, .inl g37)), cell11_ k qm sm, cell10_ k qm sm, cell9_ k qm sm, cell7_ k qm sm] H := hP
          have hD : va_D A [cell22_ qm sm tm, cell5_ k qm sm, cell13_ k qm sm, cell8_ k qm sm, cell6_ k qm sm, cell15_ k qm sm, cell14_ k qm tm, cell12_ k qm tm, cell18_ k qm tm, cell17_ k qm tm, cell19_ k qm tm, cell21_ k qm tm, cell20_ k qm sm, (qm 13, .inl (k 0, 5, .inl g37)), cell11_ k qm sm, cell10_ k qm sm, cell9_ k qm sm, cell7_ k qm sm] := hD
          refine lv_aload_n hx hb dX12_act_88 rfl (lv_at hl 2 rfl) ?_
          refine g_get cx hP iw_X12_act_X12 0 rfl rfl 21 (by decide) rfl fw_X12_act_47 rfl dX12_act_89 ?_
          refine lv_iconst (v := 3) hx hb dX12_act_92 (by decide) ?_
          refine lv_iconst (v := 1) hx hb dX12_act_93 (by decide) ?_
          have hn38 : vp_in 3 5 := f_in (a := 3) (by decide) (by omega) (by omega)
          refine va_iast hx hb cx.2.1 hP hD hS 13 0 rfl rfl hn38 dX12_act_94 (fun H locs hP hD hS => ?_)
          obtain ⟨g39, eg39⟩ : ∃ g : Nat → Int32, g = upd g37 ((3 : Int32).toNatClampNeg) 1 := ⟨_, rfl⟩
          rw [← eg39] at hP hD
          have hP : va_P D vwCl [cell22_ qm sm tm, cell5_ k qm sm, cell13_ k qm sm, cell8_ k qm sm, cell6_ k qm sm, cell15_ k qm sm, cell14_ k qm tm, cell12_ k qm tm, cell18_ k qm tm, cell17_ k qm tm, cell19_ k qm tm, cell21_ k qm tm, cell20_ k qm sm, (qm 13, .inl (k 0, 5, .inl g39)), cell11_ k qm sm, cell10_ k qm sm, cell9_ k qm sm, cell7_ k qm sm] H := hP
          have hD : va_D A [cell22_ qm sm tm, cell5_ k qm sm, cell13_ k qm sm, cell8_ k qm sm, cell6_ k qm sm, cell15_ k qm sm, cell14_ k qm tm, cell12_ k qm tm, cell18_ k qm tm, cell17_ k qm tm, cell19_ k qm tm, cell21_ k qm tm, cell20_ k qm sm, (qm 13, .inl (k 0, 5, .inl g39)), cell11_ k qm sm, cell10_ k qm sm, cell9_ k qm sm, cell7_ k qm sm] := hD
          refine lv_aload_n hx hb dX12_act_95 rfl (lv_at hl 2 rfl) ?_
          refine g_get cx hP iw_X12_act_X12 0 rfl rfl 21 (by decide) rfl fw_X12_act_47 rfl dX12_act_96 ?_
          refine lv_iconst (v := 4) hx hb dX12_act_99 (by decide) ?_
          refine lv_dup2_11 hx hb dX12_act_100 rfl rfl ?_
          have hn40 : vp_in 4 5 := f_in (a := 4) (by decide) (by omega) (by omega)
          refine va_iald hx hb cx.2.1 hP 13 0 rfl rfl hn40 dX12_act_101 (lv_topi (fun v41 e41 => ?_))
          have uv41 : v41.toInt = (g39 4).toInt := congrArg Int32.toInt e41
          refine lv_iload_n hx hb dX12_act_102 rfl (lv_at hl 0 rfl) ?_
          refine lv_iadd hx hb dX12_act_103 (lv_topi (fun v42 e42 => ?_))
          have hn43 : vp_in 4 5 := f_in (a := 4) (by decide) (by omega) (by omega)
          refine va_iast hx hb cx.2.1 hP hD hS 13 0 rfl rfl hn43 dX12_act_104 (fun H locs hP hD hS => ?_)
          obtain ⟨g44, eg44⟩ : ∃ g : Nat → Int32, g = upd g39 ((4 : Int32).toNatClampNeg) v42 := ⟨_, rfl⟩
          rw [← eg44] at hP hD
          have hP : va_P D vwCl [cell22_ qm sm tm, cell5_ k qm sm, cell13_ k qm sm, cell8_ k qm sm, cell6_ k qm sm, cell15_ k qm sm, cell14_ k qm tm, cell12_ k qm tm, cell18_ k qm tm, cell17_ k qm tm, cell19_ k qm tm, cell21_ k qm tm, cell20_ k qm sm, (qm 13, .inl (k 0, 5, .inl g44)), cell11_ k qm sm, cell10_ k qm sm, cell9_ k qm sm, cell7_ k qm sm] H := hP
          have hD : va_D A [cell22_ qm sm tm, cell5_ k qm sm, cell13_ k qm sm, cell8_ k qm sm, cell6_ k qm sm, cell15_ k qm sm, cell14_ k qm tm, cell12_ k qm tm, cell18_ k qm tm, cell17_ k qm tm, cell19_ k qm tm, cell21_ k qm tm, cell20_ k qm sm, (qm 13, .inl (k 0, 5, .inl g44)), cell11_ k qm sm, cell10_ k qm sm, cell9_ k qm sm, cell7_ k qm sm] := hD
          refine lv_aload_n hx hb dX12_act_105 rfl (lv_at hl 2 rfl) ?_
          refine lv_iload_n hx hb dX12_act_106 rfl (lv_at hl 3 rfl) ?_
          refine lv_bipush (v := 10) hx hb dX12_act_107 (by decide) ?_
          refine lv_irem hx hb dX12_act_109 (by decide) (lv_topi (fun v45 e45 => ?_))
          have t45 : v45.toInt = p0.toInt % 10 := by rw [e45]; exact i_rem rfl (by decide) (by omega) (by omega) (by omega) (by omega)
          refine g_pt cx hP hD hS iw_X12_act_X12 tyX12 tyX12_ok nmX12 0 rfl rfl 22 (by decide) rfl fw_X12_act_140 (ty := .int) rfl rfl rfl (Nat.le_of_ble_eq_true rfl) dX12_act_110 (fun H locs hP hD hS => ?_)
          have hP : va_P D vwCl [cell201_ qm sm tm v45, cell5_ k qm sm, cell13_ k qm sm, cell8_ k qm sm, cell6_ k qm sm, cell15_ k qm sm, cell14_ k qm tm, cell12_ k qm tm, cell18_ k qm tm, cell17_ k qm tm, cell19_ k qm tm, cell21_ k qm tm, cell20_ k qm sm, (qm 13, .inl (k 0, 5, .inl g44)), cell11_ k qm sm, cell10_ k qm sm, cell9_ k qm sm, cell7_ k qm sm] H := hP
          have hD : va_D A [cell201_ qm sm tm v45, cell5_ k qm sm, cell13_ k qm sm, cell8_ k qm sm, cell6_ k qm sm, cell15_ k qm sm, cell14_ k qm tm, cell12_ k qm tm, cell18_ k qm tm, cell17_ k qm tm, cell19_ k qm tm, cell21_ k qm tm, cell20_ k qm sm, (qm 13, .inl (k 0, 5, .inl g44)), cell11_ k qm sm, cell10_ k qm sm, cell9_ k qm sm, cell7_ k qm sm] := hD
          refine lv_aload_n hx hb dX12_act_113 rfl (lv_at hl 2 rfl) ?_
          refine lv_iload_n hx hb dX12_act_114 rfl (lv_at hl 1 rfl) ?_
          refine g_pt cx hP hD hS iw_X12_act_X12 tyX12 tyX12_ok nmX12 0 rfl rfl 23 (by decide) rfl fw_X12_act_143 (ty := .int) rfl rfl rfl (Nat.le_of_ble_eq_true rfl) dX12_act_115 (fun H locs hP hD hS => ?_)
          have hP : va_P D vwCl [cell131_ qm sm tm v45 r22, cell5_ k qm sm, cell13_ k qm sm, cell8_ k qm sm, cell6_ k qm sm, cell15_ k qm sm, cell14_ k qm tm, cell12_ k qm tm, cell18_ k qm tm, cell17_ k qm tm, cell19_ k qm tm, cell21_ k qm tm, cell20_ k qm sm, (qm 13, .inl (k 0, 5, .inl g44)), cell11_ k qm sm, cell10_ k qm sm, cell9_ k qm sm, cell7_ k qm sm] H := hP
          have hD : va_D A [cell131_ qm sm tm v45 r22, cell5_ k qm sm, cell13_ k qm sm, cell8_ k qm sm, cell6_ k qm sm, cell15_ k qm sm, cell14_ k qm tm, cell12_ k qm tm, cell18_ k qm tm, cell17_ k qm tm, cell19_ k qm tm, cell21_ k qm tm, cell20_ k qm sm, (qm 13, .inl (k 0, 5, .inl g44)), cell11_ k qm sm, cell10_ k qm sm, cell9_ k qm sm, cell7_ k qm sm] := hD
          refine lv_iload_n hx hb dX12_act_118 rfl (lv_at hl 0 rfl) ?_
          rw [hQ]
          exact x_i cx hr (g44, v45, r22) hP hD hS (show (r32, g44, v45, r22) = J_X12_act sm tm p0 from by subst e3 e8 k15 e18 e20 k25 e28 e30 k35 eg37 eg39 e41 e42 eg44 e45; first | (refine Eq.symm ?_; refine Eq.trans (if_pos c1) ?_; refine Eq.trans (if_neg c4) ?_; refine Eq.trans (if_neg c16) ?_; refine Eq.trans (if_neg c26) ?_; rfl) | (unfold J_X12_act; try dsimp only; rw [if_pos c1, if_neg c4, if_neg c16, if_neg c26])) dX12_act_119
        · have f26 : r22.toInt = (-9) := f_eq rfl (by decide) c26
          refine lv_bipush (v := (-3)) hx hb dX12_act_59 (by decide) ?_
          have hlit46 : ((-3) : Int32).toInt = -3 := by decide
          rw [hQ]
          exact x_i cx hr ((sm 13), (sm 0 22), (sm 0 23)) hP hD hS (show (((-3) : Int32), (sm 13), (sm 0 22), (sm 0 23)) = J_X12_act sm tm p0 from by subst e3 e8 k15 e18 e20 k25; first | (refine Eq.symm ?_; refine Eq.trans (if_pos c1) ?_; refine Eq.trans (if_neg c4) ?_; refine Eq.trans (if_neg c16) ?_; refine Eq.trans (if_pos c26) ?_; rfl) | (unfold J_X12_act; try dsimp only; rw [if_pos c1, if_neg c4, if_neg c16, if_pos c26])) dX12_act_61
      · have f16 : r10.toInt = 0 := f_eq rfl (by decide) c16
        refine lv_bipush (v := (-9)) hx hb dX12_act_30 (by decide) ?_
        refine lv_goto (tgt := 52) hx hb dX12_act_32 (by decide) ?_
        refine lv_istore_n (lv' := [(2, .int (-9)), (0, .ref (qm 0)), (1, .int p0)]) hx hb dX12_act_52 rfl hl (by decide) rfl (fun ls hl => ?_)
        refine lv_iload_n hx hb dX12_act_53 rfl (lv_at hl 0 rfl) ?_
        refine lv_bipush (v := (-9)) hx hb dX12_act_54 (by decide) ?_
        refine lv_icmp_ne (tgt := 62) hx hb dX12_act_56 (by decide) (fun c47 => ?_) (fun c47 => ?_)
        · exact absurd c47 (by decide)
        · refine lv_bipush (v := (-3)) hx hb dX12_act_59 (by decide) ?_
          have hlit48 : ((-3) : Int32).toInt = -3 := by decide
          rw [hQ]
          exact x_i cx hr ((sm 13), (sm 0 22), (sm 0 23)) hP hD hS (show (((-3) : Int32), (sm 13), (sm 0 22), (sm 0 23)) = J_X12_act sm tm p0 from by subst e3 e8 k15; first | (refine Eq.symm ?_; refine Eq.trans (if_pos c1) ?_; refine Eq.trans (if_neg c4) ?_; refine Eq.trans (if_pos c16) ?_; rfl) | (unfold J_X12_act; try dsimp only; rw [if_pos c1, if_neg c4, if_pos c16])) dX12_act_61
  · have f1 : p0.toInt < 0 := f_nle (by decide) rfl c1
    refine lv_bipush (v := (-2)) hx hb dX12_act_4 (by decide) ?_
    have hlit49 : ((-2) : Int32).toInt = -2 := by decide
    rw [hQ]
    exact x_i cx hr ((sm 13), (sm 0 22), (sm 0 23)) hP hD hS (show (((-2) : Int32), (sm 13), (sm 0 22), (sm 0 23)) = J_X12_act sm tm p0 from by first | (refine Eq.symm ?_; refine Eq.trans (if_neg c1) ?_; rfl) | (unfold J_X12_act; try dsimp only; rw [if_neg c1])) dX12_act_6
theorem fw_X12_gone_140 : Cond.fieldLink RX12 140 "StillInAugustModel" "liveOrder" "I" ∈ wsX12_gone := by decide +kernel
theorem fw_X12_gone_143 : Cond.fieldLink RX12 143 "StillInAugustModel" "liveDid" "I" ∈ wsX12_gone := by decide +kernel
theorem fw_X12_gone_47 : Cond.fieldLink RX12 47 "StillInAugustModel" "live" "[I" ∈ wsX12_gone := by decide +kernel
theorem nd_X12_isGone : yX12_isGone.cls ≠ "java/lang/invoke/MethodHandle" ∧ yX12_isGone.cls ≠ "java/lang/invoke/VarHandle" ∧ (parseMethodDescriptor yX12_isGone.desc).map (fun d => d.parameters.length) = some 1 := by decide +kernel
theorem nd_X12_left : yX12_left.cls ≠ "java/lang/invoke/MethodHandle" ∧ yX12_left.cls ≠ "java/lang/invoke/VarHandle" ∧ (parseMethodDescriptor yX12_left.desc).map (fun d => d.parameters.length) = some 2 := by decide +kernel
theorem iw_X12_gone_X12 : ∀ w ∈ u_ws RX12 TX12 33, w ∈ wsX12_gone := fun _ h => List.mem_cons_of_mem _ (List.mem_append_right _ h)
def J_X12_gone (sm : Nat → Nat → Int32) (tm : Nat → Nat → Int64) (p0 : Int32) : Int32 × (Nat → Int32) := if (J_X12_isGone p0) = 0 then (((-2) : Int32), (sm 13)) else if ((sm 13) (3 : Int32).toNatClampNeg) = 0 then (((-3) : Int32), (sm 13)) else if (J_X12_left (sm 0 23) p0) = (-9) then (((-3) : Int32), (sm 13)) else let y36 := J_X12_isWeek (up2 sm 13 (upd (upd (upd (upd (sm 13) (1 : Int32).toNatClampNeg (J_X12_left (sm 0 23) p0)) (0 : Int32).toNatClampNeg ((((upd (sm 13) (1 : Int32).toNatClampNeg (J_X12_left (sm 0 23) p0)) (0 : Int32).toNatClampNeg) + (1 : Int32)))) (2 : Int32).toNatClampNeg (sm 0 22)) (3 : Int32).toNatClampNeg 0)) tm (((upd (upd (upd (upd (sm 13) (1 : Int32).toNatClampNeg (J_X12_left (sm 0 23) p0)) (0 : Int32).toNatClampNeg ((((upd (sm 13) (1 : Int32).toNatClampNeg (J_X12_left (sm 0 23) p0)) (0 : Int32).toNatClampNeg) + (1 : Int32)))) (2 : Int32).toNatClampNeg (sm 0 22)) (3 : Int32).toNatClampNeg 0) (0 : Int32).toNatClampNeg)); if y36 = 0 then let y44 := J_X12_bonus (up2 sm 13 (upd (upd (upd (upd (sm 13) (1 : Int32).toNatClampNeg (J_X12_left (sm 0 23) p0)) (0 : Int32).toNatClampNeg ((((upd (sm 13) (1 : Int32).toNatClampNeg (J_X12_left (sm 0 23) p0)) (0 : Int32).toNatClampNeg) + (1 : Int32)))) (2 : Int32).toNatClampNeg (sm 0 22)) (3 : Int32).toNatClampNeg 0)) tm (((upd (upd (upd (upd (sm 13) (1 : Int32).toNatClampNeg (J_X12_left (sm 0 23) p0)) (0 : Int32).toNatClampNeg ((((upd (sm 13) (1 : Int32).toNatClampNeg (J_X12_left (sm 0 23) p0)) (0 : Int32).toNatClampNeg) + (1 : Int32)))) (2 : Int32).toNatClampNeg (sm 0 22)) (3 : Int32).toNatClampNeg 0) (1 : Int32).toNatClampNeg)); ((J_X12_all (((upd (upd (upd (upd (upd (sm 13) (1 : Int32).toNatClampNeg (J_X12_left (sm 0 23) p0)) (0 : Int32).toNatClampNeg ((((upd (sm 13) (1 : Int32).toNatClampNeg (J_X12_left (sm 0 23) p0)) (0 : Int32).toNatClampNeg) + (1 : Int32)))) (2 : Int32).toNatClampNeg (sm 0 22)) (3 : Int32).toNatClampNeg 0) (4 : Int32).toNatClampNeg ((((upd (upd (upd (upd (sm 13) (1 : Int32).toNatClampNeg (J_X12_left (sm 0 23) p0)) (0 : Int32).toNatClampNeg ((((upd (sm 13) (1 : Int32).toNatClampNeg (J_X12_left (sm 0 23) p0)) (0 : Int32).toNatClampNeg) + (1 : Int32)))) (2 : Int32).toNatClampNeg (sm 0 22)) (3 : Int32).toNatClampNeg 0) (4 : Int32).toNatClampNeg) + y44))) (1 : Int32).toNatClampNeg))), (upd (upd (upd (upd (upd (sm 13) (1 : Int32).toNatClampNeg (J_X12_left (sm 0 23) p0)) (0 : Int32).toNatClampNeg ((((upd (sm 13) (1 : Int32).toNatClampNeg (J_X12_left (sm 0 23) p0)) (0 : Int32).toNatClampNeg) + (1 : Int32)))) (2 : Int32).toNatClampNeg (sm 0 22)) (3 : Int32).toNatClampNeg 0) (4 : Int32).toNatClampNeg ((((upd (upd (upd (upd (sm 13) (1 : Int32).toNatClampNeg (J_X12_left (sm 0 23) p0)) (0 : Int32).toNatClampNeg ((((upd (sm 13) (1 : Int32).toNatClampNeg (J_X12_left (sm 0 23) p0)) (0 : Int32).toNatClampNeg) + (1 : Int32)))) (2 : Int32).toNatClampNeg (sm 0 22)) (3 : Int32).toNatClampNeg 0) (4 : Int32).toNatClampNeg) + y44)))) else ((J_X12_all (((upd (upd (upd (upd (upd (sm 13) (1 : Int32).toNatClampNeg (J_X12_left (sm 0 23) p0)) (0 : Int32).toNatClampNeg ((((upd (sm 13) (1 : Int32).toNatClampNeg (J_X12_left (sm 0 23) p0)) (0 : Int32).toNatClampNeg) + (1 : Int32)))) (2 : Int32).toNatClampNeg (sm 0 22)) (3 : Int32).toNatClampNeg 0) (4 : Int32).toNatClampNeg ((((upd (upd (upd (upd (sm 13) (1 : Int32).toNatClampNeg (J_X12_left (sm 0 23) p0)) (0 : Int32).toNatClampNeg ((((upd (sm 13) (1 : Int32).toNatClampNeg (J_X12_left (sm 0 23) p0)) (0 : Int32).toNatClampNeg) + (1 : Int32)))) (2 : Int32).toNatClampNeg (sm 0 22)) (3 : Int32).toNatClampNeg 0) (4 : Int32).toNatClampNeg) + (0 : Int32)))) (1 : Int32).toNatClampNeg))), (upd (upd (upd (upd (upd (sm 13) (1 : Int32).toNatClampNeg (J_X12_left (sm 0 23) p0)) (0 : Int32).toNatClampNeg ((((upd (sm 13) (1 : Int32).toNatClampNeg (J_X12_left (sm 0 23) p0)) (0 : Int32).toNatClampNeg) + (1 : Int32)))) (2 : Int32).toNatClampNeg (sm 0 22)) (3 : Int32).toNatClampNeg 0) (4 : Int32).toNatClampNeg ((((upd (upd (upd (upd (sm 13) (1 : Int32).toNatClampNeg (J_X12_left (sm 0 23) p0)) (0 : Int32).toNatClampNeg ((((upd (sm 13) (1 : Int32).toNatClampNeg (J_X12_left (sm 0 23) p0)) (0 : Int32).toNatClampNeg) + (1 : Int32)))) (2 : Int32).toNatClampNeg (sm 0 22)) (3 : Int32).toNatClampNeg 0) (4 : Int32).toNatClampNeg) + (0 : Int32)))))
set_option maxHeartbeats 4000000 in
set_option maxRecDepth 100000 in
theorem c_X12_gone (l : Launch) (D : va_G) (k : Nat → ClassId) (b : Nat → Nat) (qm : Nat → Nat) (sm : Nat → Nat → Int32) (tm : Nat → Nat → Int64) (sz : Nat) (p0 : Int32) (h_w0 : 0 ≤ (sm 2 0).toInt ∧ (sm 2 0).toInt ≤ 5) : MetI l D k b yX12_gone wsX12_gone ({ frames := 2, cells := 0, slots := 0, locals := 46 } : Room) [cell22_ qm sm tm, cell5_ k qm sm, cell13_ k qm sm, cell8_ k qm sm, cell6_ k qm sm, cell15_ k qm sm, cell14_ k qm tm, cell12_ k qm tm, cell18_ k qm tm, cell17_ k qm tm, cell19_ k qm tm, cell21_ k qm tm, cell20_ k qm sm, cell16_ k qm sm, cell11_ k qm sm, cell10_ k qm sm, cell9_ k qm sm, cell7_ k qm sm] sz [.ref (qm 0), .int p0] (fun (r : Int32) (u : (Nat → Int32)) => (r, u) = J_X12_gone sm tm p0) (fun u => [cell22_ qm sm tm, cell5_ k qm sm, cell13_ k qm sm, cell8_ k qm sm, cell6_ k qm sm, cell15_ k qm sm, cell14_ k qm tm, cell12_ k qm tm, cell18_ k qm tm, cell17_ k qm tm, cell19_ k qm tm, cell21_ k qm tm, cell20_ k qm sm, (qm 13, .inl (k 0, 5, .inl u)), cell11_ k qm sm, cell10_ k qm sm, cell9_ k qm sm, cell7_ k qm sm]) := by
  refine g_enter (cc := cX12_gone) (maxL := 2) (ret := (some .int)) (by decide) rfl (Nat.le_of_ble_eq_true rfl) ?_
  intro p e s m below meth c A hsz hAe cx hr hP hD hS ls hl
  rw [hAe]
  refine g_q (fun Q hQ => ?_)
  have hx := cx.1.1
  have hb := cx.1.2.1
  have bp0 := i_rng p0
  have hl : lv_has ls 2 [(0, .ref (qm 0)), (1, .int p0)] := hl
  obtain ⟨H, eH⟩ : ∃ H : Heap, H = s.heap := ⟨_, rfl⟩
  obtain ⟨locs, el⟩ : ∃ L : List Loc, L = [] := ⟨_, rfl⟩
  have hP : va_P D vwCl [cell22_ qm sm tm, cell5_ k qm sm, cell13_ k qm sm, cell8_ k qm sm, cell6_ k qm sm, cell15_ k qm sm, cell14_ k qm tm, cell12_ k qm tm, cell18_ k qm tm, cell17_ k qm tm, cell19_ k qm tm, cell21_ k qm tm, cell20_ k qm sm, cell16_ k qm sm, cell11_ k qm sm, cell10_ k qm sm, cell9_ k qm sm, cell7_ k qm sm] H := by rw [eH]; exact hP
  have hD : va_D A [cell22_ qm sm tm, cell5_ k qm sm, cell13_ k qm sm, cell8_ k qm sm, cell6_ k qm sm, cell15_ k qm sm, cell14_ k qm tm, cell12_ k qm tm, cell18_ k qm tm, cell17_ k qm tm, cell19_ k qm tm, cell21_ k qm tm, cell20_ k qm sm, cell16_ k qm sm, cell11_ k qm sm, cell10_ k qm sm, cell9_ k qm sm, cell7_ k qm sm] := hD
  have hS : va_S A s.heap H locs := by rw [eH, el]; exact hS
  suffices goal : W p l e ({ frames := 2, cells := 0, slots := 0, locals := 46 } : Room) s m ([.ref (qm 0), .int p0] : List Value).toArray below meth c H locs 0 0 Q (F0 m 0 ls []) by rw [eH, el] at goal; exact goal
  refine lv_iload_n hx hb dX12_gone_0 rfl (lv_at hl 1 rfl) ?_
  refine g_ir (g_runS (wc := []) (rest := []) cx hP hD hS [] rfl (by decide) [.int p0] (c_X12_isGone l D k b H.size p0) gX12_gone_X12_isGone rfl rfl rfl nd_X12_isGone ⟨Nat.le_of_ble_eq_true rfl, Nat.le_of_ble_eq_true rfl⟩ rfl hl.1 rfl (Nat.le_of_ble_eq_true rfl) ⟨Nat.zero_le _, Nat.zero_le _⟩ dX12_gone_1) cx.2.2.1 hP hD hS [] rfl rfl (fun r2 H locs hw1 hP hS => ?_)
  have w3 : r2 = J_X12_isGone p0 := hw1
  clear hw1
  have zr2 := isg_b w3
  have yr2 : r2.toInt = (J_X12_isGone p0).toInt := congrArg Int32.toInt w3
  refine lv_if_ne (tgt := 10) hx hb dX12_gone_4 (by decide) (fun c4 => ?_) (fun c4 => ?_)
  · have f4 : ¬ r2.toInt = 0 := f_ne rfl (by decide) c4
    refine lv_aload_n hx hb dX12_gone_10 rfl (lv_at hl 0 rfl) ?_
    refine g_get cx hP iw_X12_gone_X12 0 rfl rfl 21 (by decide) rfl fw_X12_gone_47 rfl dX12_gone_11 ?_
    refine lv_iconst (v := 3) hx hb dX12_gone_14 (by decide) ?_
    have hn5 : vp_in 3 5 := f_in (a := 3) (by decide) (by omega) (by omega)
    refine va_iald hx hb cx.2.1 hP 13 0 rfl rfl hn5 dX12_gone_15 (lv_topi (fun v6 e6 => ?_))
    have uv6 : v6.toInt = ((sm 13) 3).toInt := congrArg Int32.toInt e6
    refine lv_if_eq (tgt := 32) hx hb dX12_gone_16 (by decide) (fun c7 => ?_) (fun c7 => ?_)
    · have f7 : v6.toInt = 0 := f_eq rfl (by decide) c7
      refine lv_bipush (v := (-3)) hx hb dX12_gone_32 (by decide) ?_
      have hlit8 : ((-3) : Int32).toInt = -3 := by decide
      rw [hQ]
      exact x_i cx hr (sm 13) hP hD hS (show (((-3) : Int32), (sm 13)) = J_X12_gone sm tm p0 from by subst w3 e6; first | (refine Eq.symm ?_; refine Eq.trans (if_neg c4) ?_; refine Eq.trans (if_pos c7) ?_; rfl) | (unfold J_X12_gone; try dsimp only; rw [if_neg c4, if_pos c7])) dX12_gone_34
    · have f7 : ¬ v6.toInt = 0 := f_ne rfl (by decide) c7
      refine lv_aload_n hx hb dX12_gone_19 rfl (lv_at hl 0 rfl) ?_
      refine g_get cx hP iw_X12_gone_X12 0 rfl rfl 23 (by decide) rfl fw_X12_gone_143 rfl dX12_gone_20 ?_
      refine lv_iload_n hx hb dX12_gone_23 rfl (lv_at hl 1 rfl) ?_
      refine g_ir (g_runS (wc := []) (rest := []) cx hP hD hS [] rfl (by decide) [.int (sm 0 23), .int p0] (c_X12_left l D k b H.size (sm 0 23) p0) gX12_gone_X12_left rfl rfl rfl nd_X12_left ⟨Nat.le_of_ble_eq_true rfl, Nat.le_of_ble_eq_true rfl⟩ rfl hl.1 rfl (Nat.le_of_ble_eq_true rfl) ⟨Nat.zero_le _, Nat.zero_le _⟩ dX12_gone_24) cx.2.2.1 hP hD hS [] rfl rfl (fun r10 H locs hw9 hP hS => ?_)
      have w11 : r10 = J_X12_left (sm 0 23) p0 := hw9
      clear hw9
      refine lv_bipush (v := (-9)) hx hb dX12_gone_27 (by decide) ?_
      refine lv_icmp_ne (tgt := 35) hx hb dX12_gone_29 (by decide) (fun c12 => ?_) (fun c12 => ?_)
      · have f12 : ¬ r10.toInt = (-9) := f_ne rfl (by decide) c12
        refine lv_aload_n hx hb dX12_gone_35 rfl (lv_at hl 0 rfl) ?_
        refine g_get cx hP iw_X12_gone_X12 0 rfl rfl 21 (by decide) rfl fw_X12_gone_47 rfl dX12_gone_36 ?_
        refine lv_iconst (v := 1) hx hb dX12_gone_39 (by decide) ?_
        refine lv_aload_n hx hb dX12_gone_40 rfl (lv_at hl 0 rfl) ?_
        refine g_get cx hP iw_X12_gone_X12 0 rfl rfl 23 (by decide) rfl fw_X12_gone_143 rfl dX12_gone_41 ?_
        refine lv_iload_n hx hb dX12_gone_44 rfl (lv_at hl 1 rfl) ?_
        refine g_ir (g_runS (wc := []) (rest := [.int 1, .ref (qm 13)]) cx hP hD hS [] rfl (by decide) [.int (sm 0 23), .int p0] (c_X12_left l D k b H.size (sm 0 23) p0) gX12_gone_X12_left rfl rfl rfl nd_X12_left ⟨Nat.le_of_ble_eq_true rfl, Nat.le_of_ble_eq_true rfl⟩ rfl hl.1 rfl (Nat.le_of_ble_eq_true rfl) ⟨Nat.zero_le _, Nat.zero_le _⟩ dX12_gone_45) cx.2.2.1 hP hD hS [] rfl rfl (fun r14 H locs hw13 hP hS => ?_)
        have w15 : r14 = J_X12_left (sm 0 23) p0 := hw13
        clear hw13
        have hn16 : vp_in 1 5 := f_in (a := 1) (by decide) (by omega) (by omega)
        refine va_iast hx hb cx.2.1 hP hD hS 13 0 rfl rfl hn16 dX12_gone_48 (fun H locs hP hD hS => ?_)
        obtain ⟨g17, eg17⟩ : ∃ g : Nat → Int32, g = upd (sm 13) ((1 : Int32).toNatClampNeg) r14 := ⟨_, rfl⟩
        rw [← eg17] at hP hD
        have hP : va_P D vwCl [cell22_ qm sm tm, cell5_ k qm sm, cell13_ k qm sm, cell8_ k qm sm, cell6_ k qm sm, cell15_ k qm sm, cell14_ k qm tm, cell12_ k qm tm, cell18_ k qm tm, cell17_ k qm tm, cell19_ k qm tm, cell21_ k qm tm, cell20_ k qm sm, (qm 13, .inl (k 0, 5, .inl g17)), cell11_ k qm sm, cell10_ k qm sm, cell9_ k qm sm, cell7_ k qm sm] H := hP
        have hD : va_D A [cell22_ qm sm tm, cell5_ k qm sm, cell13_ k qm sm, cell8_ k qm sm, cell6_ k qm sm, cell15_ k qm sm, cell14_ k qm tm, cell12_ k qm tm, cell18_ k qm tm, cell17_ k qm tm, cell19_ k qm tm, cell21_ k qm tm, cell20_ k qm sm, (qm 13, .inl (k 0, 5, .inl g17)), cell11_ k qm sm, cell10_ k qm sm, cell9_ k qm sm, cell7_ k qm sm] := hD
        refine lv_aload_n hx hb dX12_gone_49 rfl (lv_at hl 0 rfl) ?_
        refine g_get cx hP iw_X12_gone_X12 0 rfl rfl 21 (by decide) rfl fw_X12_gone_47 rfl dX12_gone_50 ?_
        refine lv_iconst (v := 0) hx hb dX12_gone_53 (by decide) ?_
        refine lv_dup2_11 hx hb dX12_gone_54 rfl rfl ?_
        have hn18 : vp_in 0 5 := f_in (a := 0) (by decide) (by omega) (by omega)
        refine va_iald hx hb cx.2.1 hP 13 0 rfl rfl hn18 dX12_gone_55 (lv_topi (fun v19 e19 => ?_))
        have uv19 : v19.toInt = (g17 0).toInt := congrArg Int32.toInt e19
        refine lv_iconst (v := 1) hx hb dX12_gone_56 (by decide) ?_
        refine lv_iadd hx hb dX12_gone_57 (lv_topi (fun v20 e20 => ?_))
        have hn21 : vp_in 0 5 := f_in (a := 0) (by decide) (by omega) (by omega)
        refine va_iast hx hb cx.2.1 hP hD hS 13 0 rfl rfl hn21 dX12_gone_58 (fun H locs hP hD hS => ?_)
        obtain ⟨g22, eg22⟩ : ∃ g : Nat → Int32, g = upd g17 ((0 : Int32).toNatClampNeg) v20 := ⟨_, rfl⟩
        rw [← eg22] at hP hD
        have hP : va_P D vwCl [cell22_ qm sm tm, cell5_ k qm sm, cell13_ k qm sm, cell8_ k qm sm, cell6_ k qm sm, cell15_ k qm sm, cell14_ k qm tm, cell12_ k qm tm, cell18_ k qm tm, cell17_ k qm tm, cell19_ k qm tm, cell21_ k qm tm, cell20_ k qm sm, (qm 13, .inl (k 0, 5, .inl g22)), cell11_ k qm sm, cell10_ k qm sm, cell9_ k qm sm, cell7_ k qm sm] H := hP
        have hD : va_D A [cell22_ qm sm tm, cell5_ k qm sm, cell13_ k qm sm, cell8_ k qm sm, cell6_ k qm sm, cell15_ k qm sm, cell14_ k qm tm, cell12_ k qm tm, cell18_ k qm tm, cell17_ k qm tm, cell19_ k qm tm, cell21_ k qm tm, cell20_ k qm sm, (qm 13, .inl (k 0, 5, .inl g22)), cell11_ k qm sm, cell10_ k qm sm, cell9_ k qm sm, cell7_ k qm sm] := hD
        refine lv_aload_n hx hb dX12_gone_59 rfl (lv_at hl 0 rfl) ?_
        refine g_get cx hP iw_X12_gone_X12 0 rfl rfl 21 (by decide) rfl fw_X12_gone_47 rfl dX12_gone_60 ?_
        refine lv_iconst (v := 2) hx hb dX12_gone_63 (by decide) ?_
        refine lv_aload_n hx hb dX12_gone_64 rfl (lv_at hl 0 rfl) ?_
        refine g_get cx hP iw_X12_gone_X12 0 rfl rfl 22 (by decide) rfl fw_X12_gone_140 rfl dX12_gone_65 ?_
        have hn23 : vp_in 2 5 := f_in (a := 2) (by decide) (by omega) (by omega)
        refine va_iast hx hb cx.2.1 hP hD hS 13 0 rfl rfl hn23 dX12_gone_68 (fun H locs hP hD hS => ?_)
        obtain ⟨g24, eg24⟩ : ∃ g : Nat → Int32, g = upd g22 ((2 : Int32).toNatClampNeg) (sm 0 22) := ⟨_, rfl⟩
        rw [← eg24] at hP hD
        have hP : va_P D vwCl [cell22_ qm sm tm, cell5_ k qm sm, cell13_ k qm sm, cell8_ k qm sm, cell6_ k qm sm, cell15_ k qm sm, cell14_ k qm tm, cell12_ k qm tm, cell18_ k qm tm, cell17_ k qm tm, cell19_ k qm tm, cell21_ k qm tm, cell20_ k qm sm, (qm 13, .inl (k 0, 5, .inl g24)), cell11_ k qm sm, cell10_ k qm sm, cell9_ k qm sm, cell7_ k qm sm] H := hP
        have hD : va_D A [cell22_ qm sm tm, cell5_ k qm sm, cell13_ k qm sm, cell8_ k qm sm, cell6_ k qm sm, cell15_ k qm sm, cell14_ k qm tm, cell12_ k qm tm, cell18_ k qm tm, cell17_ k qm tm, cell19_ k qm tm, cell21_ k qm tm, cell20_ k qm sm, (qm 13, .inl (k 0, 5, .inl g24)), cell11_ k qm sm, cell10_ k qm sm, cell9_ k qm sm, cell7_ k qm sm] := hD
        refine lv_aload_n hx hb dX12_gone_69 rfl (lv_at hl 0 rfl) ?_
        refine g_get cx hP iw_X12_gone_X12 0 rfl rfl 21 (by decide) rfl fw_X12_gone_47 rfl dX12_gone_70 ?_
        refine lv_iconst (v := 3) hx hb dX12_gone_73 (by decide) ?_
        refine lv_iconst (v := 0) hx hb dX12_gone_74 (by decide) ?_
        have hn25 : vp_in 3 5 := f_in (a := 3) (by decide) (by omega) (by omega)
        refine va_iast hx hb cx.2.1 hP hD hS 13 0 rfl rfl hn25 dX12_gone_75 (fun H locs hP hD hS => ?_)
        obtain ⟨g26, eg26⟩ : ∃ g : Nat → Int32, g = upd g24 ((3 : Int32).toNatClampNeg) 0 := ⟨_, rfl⟩
        rw [← eg26] at hP hD
        have hP : va_P D vwCl [cell22_ qm sm tm, cell5_ k qm sm, cell13_ k qm sm, cell8_ k qm sm, cell6_ k qm sm, cell15_ k qm sm, cell14_ k qm tm, cell12_ k qm tm, cell18_ k qm tm, cell17_ k qm tm, cell19_ k qm tm, cell21_ k qm tm, cell20_ k qm sm, (qm 13, .inl (k 0, 5, .inl g26)), cell11_ k qm sm, cell10_ k qm sm, cell9_ k qm sm, cell7_ k qm sm] H := hP
        have hD : va_D A [cell22_ qm sm tm, cell5_ k qm sm, cell13_ k qm sm, cell8_ k qm sm, cell6_ k qm sm, cell15_ k qm sm, cell14_ k qm tm, cell12_ k qm tm, cell18_ k qm tm, cell17_ k qm tm, cell19_ k qm tm, cell21_ k qm tm, cell20_ k qm sm, (qm 13, .inl (k 0, 5, .inl g26)), cell11_ k qm sm, cell10_ k qm sm, cell9_ k qm sm, cell7_ k qm sm] := hD
        refine lv_aload_n hx hb dX12_gone_76 rfl (lv_at hl 0 rfl) ?_
        refine g_get cx hP iw_X12_gone_X12 0 rfl rfl 21 (by decide) rfl fw_X12_gone_47 rfl dX12_gone_77 ?_
        refine lv_iconst (v := 4) hx hb dX12_gone_80 (by decide) ?_
        refine lv_dup2_11 hx hb dX12_gone_81 rfl rfl ?_
        have hn27 : vp_in 4 5 := f_in (a := 4) (by decide) (by omega) (by omega)
        refine va_iald hx hb cx.2.1 hP 13 0 rfl rfl hn27 dX12_gone_82 (lv_topi (fun v28 e28 => ?_))
        have uv28 : v28.toInt = (g26 4).toInt := congrArg Int32.toInt e28
        refine lv_aload_n hx hb dX12_gone_83 rfl (lv_at hl 0 rfl) ?_
        refine lv_aload_n hx hb dX12_gone_84 rfl (lv_at hl 0 rfl) ?_
        refine g_get cx hP iw_X12_gone_X12 0 rfl rfl 21 (by decide) rfl fw_X12_gone_47 rfl dX12_gone_85 ?_
        refine lv_iconst (v := 0) hx hb dX12_gone_88 (by decide) ?_
        have hn29 : vp_in 0 5 := f_in (a := 0) (by decide) (by omega) (by omega)
        refine va_iald hx hb cx.2.1 hP 13 0 rfl rfl hn29 dX12_gone_89 (lv_topi (fun v30 e30 => ?_))
        have uv30 : v30.toInt = (g26 0).toInt := congrArg Int32.toInt e30
        refine g_iF (w1 := fun (_ : Unit) => [cell22_ qm sm tm, cell5_ k qm sm, cell13_ k qm sm, cell8_ k qm sm, cell6_ k qm sm, cell15_ k qm sm, cell14_ k qm tm, cell12_ k qm tm, cell18_ k qm tm, cell17_ k qm tm, cell19_ k qm tm, cell21_ k qm tm, cell20_ k qm sm, (qm 13, .inl (k 0, 5, .inl g26)), cell11_ k qm sm, cell10_ k qm sm, cell9_ k qm sm, cell7_ k qm sm]) (g_runVF (ws := [cell22_ qm sm tm, cell5_ k qm sm, cell13_ k qm sm, cell8_ k qm sm, cell6_ k qm sm, cell15_ k qm sm, cell14_ k qm tm, cell12_ k qm tm, cell18_ k qm tm, cell17_ k qm tm, cell19_ k qm tm, cell21_ k qm tm, cell20_ k qm sm, (qm 13, .inl (k 0, 5, .inl g26)), cell11_ k qm sm, cell10_ k qm sm, cell9_ k qm sm, cell7_ k qm sm]) (rest := [.int v28, .int 4, .ref (qm 13)]) cx hP hD hS [.int v30] (c_X12_isWeek l D k b qm (up2 sm 13 g26) tm H.size v30 (show 0 ≤ ((sm 2) 0).toInt ∧ ((sm 2) 0).toInt ≤ 5 from by first | decide | omega)) gX12_gone_X12_isWeek rfl rfl rfl nd_X12_isWeek ⟨Nat.le_of_ble_eq_true rfl, Nat.le_of_ble_eq_true rfl⟩ (ci := 10) (q0 := 0) rfl rfl rfl hl.1 rfl (Nat.le_of_ble_eq_true rfl) ⟨Nat.zero_le _, Nat.zero_le _⟩ dX12_gone_90) cx.2.2.1 hD hS (fun r32 _ H locs hw31 hP hD hS => ?_)
        replace hw31 : (0 ≤ r32.toInt ∧ r32.toInt ≤ 1) ∧ (Imp (r32.toInt = 1) (0 ≤ v30.toInt ∧ v30.toInt ≤ 4)) ∧ (r32 = J_X12_isWeek (up2 sm 13 g26) tm v30) := hw31
        obtain ⟨w33, w34, w35⟩ := hw31
        have k37 : r32 = (J_X12_isWeek (up2 sm 13 g26) tm v30) := congrArg (fun z => z) w35
        have zr32 : 0 ≤ r32.toInt ∧ r32.toInt ≤ 1 := w33
        refine lv_if_eq (tgt := 100) hx hb dX12_gone_93 (by decide) (fun c38 => ?_) (fun c38 => ?_)
        · have f38 : r32.toInt = 0 := f_eq rfl (by decide) c38
          refine lv_aload_n hx hb dX12_gone_100 rfl (lv_at hl 0 rfl) ?_
          refine lv_aload_n hx hb dX12_gone_101 rfl (lv_at hl 0 rfl) ?_
          refine g_get cx hP iw_X12_gone_X12 0 rfl rfl 21 (by decide) rfl fw_X12_gone_47 rfl dX12_gone_102 ?_
          refine lv_iconst (v := 1) hx hb dX12_gone_105 (by decide) ?_
          have hn39 : vp_in 1 5 := f_in (a := 1) (by decide) (by omega) (by omega)
          refine va_iald hx hb cx.2.1 hP 13 0 rfl rfl hn39 dX12_gone_106 (lv_topi (fun v40 e40 => ?_))
          have uv40 : v40.toInt = (g26 1).toInt := congrArg Int32.toInt e40
          refine g_iF (w1 := fun (_ : Unit) => [cell22_ qm sm tm, cell5_ k qm sm, cell13_ k qm sm, cell8_ k qm sm, cell6_ k qm sm, cell15_ k qm sm, cell14_ k qm tm, cell12_ k qm tm, cell18_ k qm tm, cell17_ k qm tm, cell19_ k qm tm, cell21_ k qm tm, cell20_ k qm sm, (qm 13, .inl (k 0, 5, .inl g26)), cell11_ k qm sm, cell10_ k qm sm, cell9_ k qm sm, cell7_ k qm sm]) (g_runVF (ws := [cell22_ qm sm tm, cell5_ k qm sm, cell13_ k qm sm, cell8_ k qm sm, cell6_ k qm sm, cell15_ k qm sm, cell14_ k qm tm, cell12_ k qm tm, cell18_ k qm tm, cell17_ k qm tm, cell19_ k qm tm, cell21_ k qm tm, cell20_ k qm sm, (qm 13, .inl (k 0, 5, .inl g26)), cell11_ k qm sm, cell10_ k qm sm, cell9_ k qm sm, cell7_ k qm sm]) (rest := [.int v28, .int 4, .ref (qm 13)]) cx hP hD hS [.int v40] (c_X12_bonus l D k b qm (up2 sm 13 g26) tm H.size v40) gX12_gone_X12_bonus rfl rfl rfl nd_X12_bonus ⟨Nat.le_of_ble_eq_true rfl, Nat.le_of_ble_eq_true rfl⟩ (ci := 10) (q0 := 0) rfl rfl rfl hl.1 rfl (Nat.le_of_ble_eq_true rfl) ⟨Nat.zero_le _, Nat.zero_le _⟩ dX12_gone_107) cx.2.2.1 hD hS (fun r42 _ H locs hw41 hP hD hS => ?_)
          have w43 : r42 = J_X12_bonus (up2 sm 13 g26) tm v40 := hw41
          clear hw41
          have k45 : r42 = (J_X12_bonus (up2 sm 13 g26) tm v40) := congrArg (fun z => z) w43
          refine lv_iadd hx hb dX12_gone_110 (lv_topi (fun v46 e46 => ?_))
          have hn47 : vp_in 4 5 := f_in (a := 4) (by decide) (by omega) (by omega)
          refine va_iast hx hb cx.2.1 hP hD hS 13 0 rfl rfl hn47 dX12_gone_111 (fun H locs hP hD hS => ?_)
          obtain ⟨g48, eg48⟩ : ∃ g : Nat → Int32, g = upd g26 ((4 : Int32).toNatClampNeg) v46 := ⟨_, rfl⟩
          rw [← eg48] at hP hD
          have hP : va_P D vwCl [cell22_ qm sm tm, cell5_ k qm sm, cell13_ k qm sm, cell8_ k qm sm, cell6_ k qm sm, cell15_ k qm sm, cell14_ k qm tm, cell12_ k qm tm, cell18_ k qm tm, cell17_ k qm tm, cell19_ k qm tm, cell21_ k qm tm, cell20_ k qm sm, (qm 13, .inl (k 0, 5, .inl g48)), cell11_ k qm sm, cell10_ k qm sm, cell9_ k qm sm, cell7_ k qm sm] H := hP
          have hD : va_D A [cell22_ qm sm tm, cell5_ k qm sm, cell13_ k qm sm, cell8_ k qm sm, cell6_ k qm sm, cell15_ k qm sm, cell14_ k qm tm, cell12_ k qm tm, cell18_ k qm tm, cell17_ k qm tm, cell19_ k qm tm, cell21_ k qm tm, cell20_ k qm sm, (qm 13, .inl (k 0, 5, .inl g48)), cell11_ k qm sm, cell10_ k qm sm, cell9_ k qm sm, cell7_ k qm sm] := hD
          refine lv_aload_n hx hb dX12_gone_112 rfl (lv_at hl 0 rfl) ?_
          refine g_get cx hP iw_X12_gone_X12 0 rfl rfl 21 (by decide) rfl fw_X12_gone_47 rfl dX12_gone_113 ?_
          refine lv_iconst (v := 1) hx hb dX12_gone_116 (by decide) ?_
          have hn49 : vp_in 1 5 := f_in (a := 1) (by decide) (by omega) (by omega)
          refine va_iald hx hb cx.2.1 hP 13 0 rfl rfl hn49 dX12_gone_117 (lv_topi (fun v50 e50 => ?_))
          have uv50 : v50.toInt = (g48 1).toInt := congrArg Int32.toInt e50
          refine g_ir (g_runS (wc := []) (rest := []) cx hP hD hS [] rfl (by decide) [.int v50] (c_X12_all l D k b H.size v50) gX12_gone_X12_all rfl rfl rfl nd_X12_all ⟨Nat.le_of_ble_eq_true rfl, Nat.le_of_ble_eq_true rfl⟩ rfl hl.1 rfl (Nat.le_of_ble_eq_true rfl) ⟨Nat.zero_le _, Nat.zero_le _⟩ dX12_gone_118) cx.2.2.1 hP hD hS [] rfl rfl (fun r52 H locs hw51 hP hS => ?_)
          have w53 : r52 = J_X12_all v50 := hw51
          clear hw51
          rw [hQ]
          exact x_i cx hr g48 hP hD hS (show (r52, g48) = J_X12_gone sm tm p0 from by subst w3 e6 w11 w15 eg17 e19 e20 eg22 eg24 eg26 e28 e30 k37 e40 k45 e46 eg48 e50 w53; first | (refine Eq.symm ?_; refine Eq.trans (if_neg c4) ?_; refine Eq.trans (if_neg c7) ?_; refine Eq.trans (if_neg c12) ?_; refine Eq.trans (if_pos c38) ?_; rfl) | (unfold J_X12_gone; try dsimp only; rw [if_neg c4, if_neg c7, if_neg c12, if_pos c38])) dX12_gone_121
        · have f38 : ¬ r32.toInt = 0 := f_ne rfl (by decide) c38
          have k38 : (0 ≤ v30.toInt ∧ v30.toInt ≤ 4) := w34 (by omega)
          refine lv_iconst (v := 0) hx hb dX12_gone_96 (by decide) ?_
          refine lv_goto (tgt := 110) hx hb dX12_gone_97 (by decide) ?_
          refine lv_iadd hx hb dX12_gone_110 (lv_topi (fun v54 e54 => ?_))
          have hn55 : vp_in 4 5 := f_in (a := 4) (by decide) (by omega) (by omega)
          refine va_iast hx hb cx.2.1 hP hD hS 13 0 rfl rfl hn55 dX12_gone_111 (fun H locs hP hD hS => ?_)
          obtain ⟨g56, eg56⟩ : ∃ g : Nat → Int32, g = upd g26 ((4 : Int32).toNatClampNeg) v54 := ⟨_, rfl⟩
          rw [← eg56] at hP hD
          have hP : va_P D vwCl [cell22_ qm sm tm, cell5_ k qm sm, cell13_ k qm sm, cell8_ k qm sm, cell6_ k qm sm, cell15_ k qm sm, cell14_ k qm tm, cell12_ k qm tm, cell18_ k qm tm, cell17_ k qm tm, cell19_ k qm tm, cell21_ k qm tm, cell20_ k qm sm, (qm 13, .inl (k 0, 5, .inl g56)), cell11_ k qm sm, cell10_ k qm sm, cell9_ k qm sm, cell7_ k qm sm] H := hP
          have hD : va_D A [cell22_ qm sm tm, cell5_ k qm sm, cell13_ k qm sm, cell8_ k qm sm, cell6_ k qm sm, cell15_ k qm sm, cell14_ k qm tm, cell12_ k qm tm, cell18_ k qm tm, cell17_ k qm tm, cell19_ k qm tm, cell21_ k qm tm, cell20_ k qm sm, (qm 13, .inl (k 0, 5, .inl g56)), cell11_ k qm sm, cell10_ k qm sm, cell9_ k qm sm, cell7_ k qm sm] := hD
          refine lv_aload_n hx hb dX12_gone_112 rfl (lv_at hl 0 rfl) ?_
          refine g_get cx hP iw_X12_gone_X12 0 rfl rfl 21 (by decide) rfl fw_X12_gone_47 rfl dX12_gone_113 ?_
          refine lv_iconst (v := 1) hx hb dX12_gone_116 (by decide) ?_
          have hn57 : vp_in 1 5 := f_in (a := 1) (by decide) (by omega) (by omega)
          refine va_iald hx hb cx.2.1 hP 13 0 rfl rfl hn57 dX12_gone_117 (lv_topi (fun v58 e58 => ?_))
          have uv58 : v58.toInt = (g56 1).toInt := congrArg Int32.toInt e58
          refine g_ir (g_runS (wc := []) (rest := []) cx hP hD hS [] rfl (by decide) [.int v58] (c_X12_all l D k b H.size v58) gX12_gone_X12_all rfl rfl rfl nd_X12_all ⟨Nat.le_of_ble_eq_true rfl, Nat.le_of_ble_eq_true rfl⟩ rfl hl.1 rfl (Nat.le_of_ble_eq_true rfl) ⟨Nat.zero_le _, Nat.zero_le _⟩ dX12_gone_118) cx.2.2.1 hP hD hS [] rfl rfl (fun r60 H locs hw59 hP hS => ?_)
          have w61 : r60 = J_X12_all v58 := hw59
          clear hw59
          rw [hQ]
          exact x_i cx hr g56 hP hD hS (show (r60, g56) = J_X12_gone sm tm p0 from by subst w3 e6 w11 w15 eg17 e19 e20 eg22 eg24 eg26 e28 e30 k37 e54 eg56 e58 w61; first | (refine Eq.symm ?_; refine Eq.trans (if_neg c4) ?_; refine Eq.trans (if_neg c7) ?_; refine Eq.trans (if_neg c12) ?_; refine Eq.trans (if_neg c38) ?_; rfl) | (unfold J_X12_gone; try dsimp only; rw [if_neg c4, if_neg c7, if_neg c12, if_neg c38])) dX12_gone_121
      · have f12 : r10.toInt = (-9) := f_eq rfl (by decide) c12
        refine lv_bipush (v := (-3)) hx hb dX12_gone_32 (by decide) ?_
        have hlit62 : ((-3) : Int32).toInt = -3 := by decide
        rw [hQ]
        exact x_i cx hr (sm 13) hP hD hS (show (((-3) : Int32), (sm 13)) = J_X12_gone sm tm p0 from by subst w3 e6 w11; first | (refine Eq.symm ?_; refine Eq.trans (if_neg c4) ?_; refine Eq.trans (if_neg c7) ?_; refine Eq.trans (if_pos c12) ?_; rfl) | (unfold J_X12_gone; try dsimp only; rw [if_neg c4, if_neg c7, if_pos c12])) dX12_gone_34
  · have f4 : r2.toInt = 0 := f_eq rfl (by decide) c4
    refine lv_bipush (v := (-2)) hx hb dX12_gone_7 (by decide) ?_
    have hlit63 : ((-2) : Int32).toInt = -2 := by decide
    rw [hQ]
    exact x_i cx hr (sm 13) hP hD hS (show (((-2) : Int32), (sm 13)) = J_X12_gone sm tm p0 from by subst w3; first | (refine Eq.symm ?_; refine Eq.trans (if_pos c4) ?_; rfl) | (unfold J_X12_gone; try dsimp only; rw [if_pos c4])) dX12_gone_9
theorem fw_X12_live_47 : Cond.fieldLink RX12 47 "StillInAugustModel" "live" "[I" ∈ wsX12_live := by decide +kernel
theorem kJ_X12_live_69 : Cond.constantLong RX12 69 (4) ∈ wsX12_live := by decide +kernel
theorem iw_X12_live_X12 : ∀ w ∈ u_ws RX12 TX12 33, w ∈ wsX12_live := fun _ h => List.mem_cons_of_mem _ (List.mem_append_right _ h)
def J_X12_live (sm : Nat → Nat → Int32) (tm : Nat → Nat → Int64) (p0 : Int32) : Int32 := if (J_X12_in (p0.toInt64) 0 4) = 0 then ((-2) : Int32) else ((sm 13) (p0).toNatClampNeg)
set_option maxHeartbeats 4000000 in
set_option maxRecDepth 100000 in
theorem c_X12_live (l : Launch) (D : va_G) (k : Nat → ClassId) (b : Nat → Nat) (qm : Nat → Nat) (sm : Nat → Nat → Int32) (tm : Nat → Nat → Int64) (sz : Nat) (p0 : Int32) : MetI l D k b yX12_live wsX12_live ({ frames := 1, cells := 0, slots := 0, locals := 25 } : Room) [cell22_ qm sm tm, cell5_ k qm sm, cell13_ k qm sm, cell8_ k qm sm, cell6_ k qm sm, cell15_ k qm sm, cell14_ k qm tm, cell12_ k qm tm, cell18_ k qm tm, cell17_ k qm tm, cell19_ k qm tm, cell21_ k qm tm, cell20_ k qm sm, cell16_ k qm sm, cell11_ k qm sm, cell10_ k qm sm, cell9_ k qm sm, cell7_ k qm sm] sz [.ref (qm 0), .int p0] (fun (r : Int32) (u : Unit) => r = J_X12_live sm tm p0) (fun u => [cell22_ qm sm tm, cell5_ k qm sm, cell13_ k qm sm, cell8_ k qm sm, cell6_ k qm sm, cell15_ k qm sm, cell14_ k qm tm, cell12_ k qm tm, cell18_ k qm tm, cell17_ k qm tm, cell19_ k qm tm, cell21_ k qm tm, cell20_ k qm sm, cell16_ k qm sm, cell11_ k qm sm, cell10_ k qm sm, cell9_ k qm sm, cell7_ k qm sm]) := by
  refine g_enter (cc := cX12_live) (maxL := 2) (ret := (some .int)) (by decide) rfl (Nat.le_of_ble_eq_true rfl) ?_
  intro p e s m below meth c A hsz hAe cx hr hP hD hS ls hl
  rw [hAe]
  refine g_q (fun Q hQ => ?_)
  have hx := cx.1.1
  have hb := cx.1.2.1
  have bp0 := i_rng p0
  have hl : lv_has ls 2 [(0, .ref (qm 0)), (1, .int p0)] := hl
  obtain ⟨H, eH⟩ : ∃ H : Heap, H = s.heap := ⟨_, rfl⟩
  obtain ⟨locs, el⟩ : ∃ L : List Loc, L = [] := ⟨_, rfl⟩
  have hP : va_P D vwCl [cell22_ qm sm tm, cell5_ k qm sm, cell13_ k qm sm, cell8_ k qm sm, cell6_ k qm sm, cell15_ k qm sm, cell14_ k qm tm, cell12_ k qm tm, cell18_ k qm tm, cell17_ k qm tm, cell19_ k qm tm, cell21_ k qm tm, cell20_ k qm sm, cell16_ k qm sm, cell11_ k qm sm, cell10_ k qm sm, cell9_ k qm sm, cell7_ k qm sm] H := by rw [eH]; exact hP
  have hD : va_D A [cell22_ qm sm tm, cell5_ k qm sm, cell13_ k qm sm, cell8_ k qm sm, cell6_ k qm sm, cell15_ k qm sm, cell14_ k qm tm, cell12_ k qm tm, cell18_ k qm tm, cell17_ k qm tm, cell19_ k qm tm, cell21_ k qm tm, cell20_ k qm sm, cell16_ k qm sm, cell11_ k qm sm, cell10_ k qm sm, cell9_ k qm sm, cell7_ k qm sm] := hD
  have hS : va_S A s.heap H locs := by rw [eH, el]; exact hS
  suffices goal : W p l e ({ frames := 1, cells := 0, slots := 0, locals := 25 } : Room) s m ([.ref (qm 0), .int p0] : List Value).toArray below meth c H locs 0 0 Q (F0 m 0 ls []) by rw [eH, el] at goal; exact goal
  refine lv_iload_n hx hb dX12_live_0 rfl (lv_at hl 1 rfl) ?_
  obtain ⟨v1, e1⟩ : ∃ z : Int64, z = (p0 : Int32).toInt64 := ⟨_, rfl⟩
  refine lv_i2l (v := v1) hx hb dX12_live_1 e1.symm ?_
  refine lv_lconst (v := 0) hx hb dX12_live_2 (by decide) ?_
  refine lv_ldc2 (v := 4) hx hb cx.1.2.2.2.1 (cx.1.2.2.2.2 _ kJ_X12_live_69) dX12_live_3 ?_
  refine g_ir (g_runS (wc := []) (rest := []) cx hP hD hS [] rfl (by decide) [.long v1, .long 0, .long 4] (c_X12_in l D k b H.size v1 0 4) gX12_live_X12_in rfl rfl rfl nd_X12_in ⟨Nat.le_of_ble_eq_true rfl, Nat.le_of_ble_eq_true rfl⟩ rfl hl.1 rfl (Nat.le_of_ble_eq_true rfl) ⟨Nat.zero_le _, Nat.zero_le _⟩ dX12_live_6) cx.2.2.1 hP hD hS [] rfl rfl (fun r3 H locs hw2 hP hS => ?_)
  have w4 : r3 = J_X12_in v1 (0 : Int64) (4 : Int64) := hw2
  clear hw2
  have zr3 := in_b w4
  refine lv_if_eq (tgt := 21) hx hb dX12_live_9 (by decide) (fun c5 => ?_) (fun c5 => ?_)
  · have f5 : r3.toInt = 0 := f_eq rfl (by decide) c5
    have k5 : p0.toInt < 0 ∨ 4 < p0.toInt := in_f (i2l_t rfl e1) (by decide) (by decide) w4 c5
    refine lv_bipush (v := (-2)) hx hb dX12_live_21 (by decide) ?_
    have hlit6 : ((-2) : Int32).toInt = -2 := by decide
    rw [hQ]
    exact x_i cx hr () hP hD hS (show ((-2) : Int32) = J_X12_live sm tm p0 from by subst e1 w4; first | (refine Eq.symm ?_; refine Eq.trans (if_pos c5) ?_; rfl) | (unfold J_X12_live; try dsimp only; rw [if_pos c5])) dX12_live_23
  · have f5 : ¬ r3.toInt = 0 := f_ne rfl (by decide) c5
    have k5 : 0 ≤ p0.toInt ∧ p0.toInt ≤ 4 := in_t (i2l_t rfl e1) (by decide) (by decide) w4 c5
    refine lv_aload_n hx hb dX12_live_12 rfl (lv_at hl 0 rfl) ?_
    refine g_get cx hP iw_X12_live_X12 0 rfl rfl 21 (by decide) rfl fw_X12_live_47 rfl dX12_live_13 ?_
    refine lv_iload_n hx hb dX12_live_16 rfl (lv_at hl 1 rfl) ?_
    have hn7 : vp_in p0 5 := f_in (a := p0.toInt) rfl (by omega) (by omega)
    refine va_iald hx hb cx.2.1 hP 13 0 rfl rfl hn7 dX12_live_17 (lv_topi (fun v8 e8 => ?_))
    refine lv_goto (tgt := 23) hx hb dX12_live_18 (by decide) ?_
    rw [hQ]
    exact x_i cx hr () hP hD hS (show v8 = J_X12_live sm tm p0 from by subst e1 w4 e8; first | (refine Eq.symm ?_; refine Eq.trans (if_neg c5) ?_; rfl) | (unfold J_X12_live; try dsimp only; rw [if_neg c5])) dX12_live_23
theorem fw_X12_keep_140 : Cond.fieldLink RX12 140 "StillInAugustModel" "liveOrder" "I" ∈ wsX12_keep := by decide +kernel
theorem fw_X12_keep_143 : Cond.fieldLink RX12 143 "StillInAugustModel" "liveDid" "I" ∈ wsX12_keep := by decide +kernel
theorem fw_X12_keep_47 : Cond.fieldLink RX12 47 "StillInAugustModel" "live" "[I" ∈ wsX12_keep := by decide +kernel
theorem fw_X12_keep_50 : Cond.fieldLink RX12 50 "StillInAugustModel" "isKept" "[Z" ∈ wsX12_keep := by decide +kernel
theorem fw_X12_keep_54 : Cond.fieldLink RX12 54 "StillInAugustModel" "kept" "[I" ∈ wsX12_keep := by decide +kernel
theorem iw_X12_keep_X12 : ∀ w ∈ u_ws RX12 TX12 33, w ∈ wsX12_keep := fun _ h => List.mem_cons_of_mem _ (List.mem_append_right _ h)
def J_X12_keep (sm : Nat → Nat → Int32) (tm : Nat → Nat → Int64) (p0 : Int32) : Int32 × (Nat → Int32) × (Nat → Int32) := if (J_X12_in (p0.toInt64) 0 1) = 0 then (((-1) : Int32), (sm 14), (sm 15)) else if ((sm 14) (p0).toNatClampNeg) = 0 then ((1 : Int32), (upd (sm 14) (p0).toNatClampNeg (vp_nar .boolean 1)), (upd (upd (PFo (Int.toNat (7 * p0.toInt)) (sm 13) 5 (sm 15)) ((((7 : Int32) * p0) + (5 : Int32))).toNatClampNeg (sm 0 22)) ((((7 : Int32) * p0) + (6 : Int32))).toNatClampNeg (sm 0 23))) else ((0 : Int32), (upd (sm 14) (p0).toNatClampNeg (vp_nar .boolean 1)), (upd (upd (PFo (Int.toNat (7 * p0.toInt)) (sm 13) 5 (sm 15)) ((((7 : Int32) * p0) + (5 : Int32))).toNatClampNeg (sm 0 22)) ((((7 : Int32) * p0) + (6 : Int32))).toNatClampNeg (sm 0 23)))
set_option maxHeartbeats 4000000 in
set_option maxRecDepth 100000 in
theorem c_X12_keep (l : Launch) (D : va_G) (k : Nat → ClassId) (b : Nat → Nat) (qm : Nat → Nat) (sm : Nat → Nat → Int32) (tm : Nat → Nat → Int64) (sz : Nat) (p0 : Int32) : MetI l D k b yX12_keep wsX12_keep ({ frames := 1, cells := 0, slots := 0, locals := 25 } : Room) [cell22_ qm sm tm, cell5_ k qm sm, cell13_ k qm sm, cell8_ k qm sm, cell6_ k qm sm, cell15_ k qm sm, cell14_ k qm tm, cell12_ k qm tm, cell18_ k qm tm, cell17_ k qm tm, cell19_ k qm tm, cell21_ k qm tm, cell20_ k qm sm, cell16_ k qm sm, cell11_ k qm sm, cell10_ k qm sm, cell9_ k qm sm, cell7_ k qm sm] sz [.ref (qm 0), .int p0] (fun (r : Int32) (u : (Nat → Int32) × (Nat → Int32)) => (r, (u.1), (u.2)) = J_X12_keep sm tm p0) (fun u => [cell22_ qm sm tm, cell5_ k qm sm, cell13_ k qm sm, cell8_ k qm sm, cell6_ k qm sm, cell15_ k qm sm, cell14_ k qm tm, cell12_ k qm tm, cell18_ k qm tm, cell17_ k qm tm, cell19_ k qm tm, cell21_ k qm tm, cell20_ k qm sm, cell16_ k qm sm, cell200_ k qm (u.1), (qm 15, .inl (k 0, 14, .inl (u.2))), cell9_ k qm sm, cell7_ k qm sm]) := by
  refine g_enter (cc := cX12_keep) (maxL := 4) (ret := (some .int)) (by decide) rfl (Nat.le_of_ble_eq_true rfl) ?_
  intro p e s m below meth c A hsz hAe cx hr hP hD hS ls hl
  rw [hAe]
  refine g_q (fun Q hQ => ?_)
  have hx := cx.1.1
  have hb := cx.1.2.1
  have bp0 := i_rng p0
  have hl : lv_has ls 4 [(0, .ref (qm 0)), (1, .int p0)] := hl
  obtain ⟨H, eH⟩ : ∃ H : Heap, H = s.heap := ⟨_, rfl⟩
  obtain ⟨locs, el⟩ : ∃ L : List Loc, L = [] := ⟨_, rfl⟩
  have hP : va_P D vwCl [cell22_ qm sm tm, cell5_ k qm sm, cell13_ k qm sm, cell8_ k qm sm, cell6_ k qm sm, cell15_ k qm sm, cell14_ k qm tm, cell12_ k qm tm, cell18_ k qm tm, cell17_ k qm tm, cell19_ k qm tm, cell21_ k qm tm, cell20_ k qm sm, cell16_ k qm sm, cell11_ k qm sm, cell10_ k qm sm, cell9_ k qm sm, cell7_ k qm sm] H := by rw [eH]; exact hP
  have hD : va_D A [cell22_ qm sm tm, cell5_ k qm sm, cell13_ k qm sm, cell8_ k qm sm, cell6_ k qm sm, cell15_ k qm sm, cell14_ k qm tm, cell12_ k qm tm, cell18_ k qm tm, cell17_ k qm tm, cell19_ k qm tm, cell21_ k qm tm, cell20_ k qm sm, cell16_ k qm sm, cell11_ k qm sm, cell10_ k qm sm, cell9_ k qm sm, cell7_ k qm sm] := hD
  have hS : va_S A s.heap H locs := by rw [eH, el]; exact hS
  suffices goal : W p l e ({ frames := 1, cells := 0, slots := 0, locals := 25 } : Room) s m ([.ref (qm 0), .int p0] : List Value).toArray below meth c H locs 0 0 Q (F0 m 0 ls []) by rw [eH, el] at goal; exact goal
  refine lv_iload_n hx hb dX12_keep_0 rfl (lv_at hl 1 rfl) ?_
  obtain ⟨v1, e1⟩ : ∃ z : Int64, z = (p0 : Int32).toInt64 := ⟨_, rfl⟩
  refine lv_i2l (v := v1) hx hb dX12_keep_1 e1.symm ?_
  refine lv_lconst (v := 0) hx hb dX12_keep_2 (by decide) ?_
  refine lv_lconst (v := 1) hx hb dX12_keep_3 (by decide) ?_
  refine g_ir (g_runS (wc := []) (rest := []) cx hP hD hS [] rfl (by decide) [.long v1, .long 0, .long 1] (c_X12_in l D k b H.size v1 0 1) gX12_keep_X12_in rfl rfl rfl nd_X12_in ⟨Nat.le_of_ble_eq_true rfl, Nat.le_of_ble_eq_true rfl⟩ rfl hl.1 rfl (Nat.le_of_ble_eq_true rfl) ⟨Nat.zero_le _, Nat.zero_le _⟩ dX12_keep_4) cx.2.2.1 hP hD hS [] rfl rfl (fun r3 H locs hw2 hP hS => ?_)
  have w4 : r3 = J_X12_in v1 (0 : Int64) (1 : Int64) := hw2
  clear hw2
  have zr3 := in_b w4
  refine lv_if_ne (tgt := 12) hx hb dX12_keep_7 (by decide) (fun c5 => ?_) (fun c5 => ?_)
  · have f5 : ¬ r3.toInt = 0 := f_ne rfl (by decide) c5
    have k5 : 0 ≤ p0.toInt ∧ p0.toInt ≤ 1 := in_t (i2l_t rfl e1) (by decide) (by decide) w4 c5
    refine lv_aload_n hx hb dX12_keep_12 rfl (lv_at hl 0 rfl) ?_
    refine g_get cx hP iw_X12_keep_X12 0 rfl rfl 24 (by decide) rfl fw_X12_keep_50 rfl dX12_keep_13 ?_
    refine lv_iload_n hx hb dX12_keep_16 rfl (lv_at hl 1 rfl) ?_
    have hn6 : vp_in p0 2 := f_in (a := p0.toInt) rfl (by omega) (by omega)
    refine va_zald hx hb cx.2.1 hP 14 3 rfl rfl hn6 dX12_keep_17 (lv_topi (fun v7 e7 => ?_))
    refine lv_if_eq (tgt := 25) hx hb dX12_keep_18 (by decide) (fun c8 => ?_) (fun c8 => ?_)
    · have f8 : v7.toInt = 0 := f_eq rfl (by decide) c8
      refine lv_iconst (v := 1) hx hb dX12_keep_25 (by decide) ?_
      refine lv_istore_n (lv' := [(2, .int 1), (0, .ref (qm 0)), (1, .int p0)]) hx hb dX12_keep_26 rfl hl (by decide) rfl (fun ls hl => ?_)
      refine lv_aload_n hx hb dX12_keep_27 rfl (lv_at hl 1 rfl) ?_
      refine g_get cx hP iw_X12_keep_X12 0 rfl rfl 24 (by decide) rfl fw_X12_keep_50 rfl dX12_keep_28 ?_
      refine lv_iload_n hx hb dX12_keep_31 rfl (lv_at hl 2 rfl) ?_
      refine lv_iconst (v := 1) hx hb dX12_keep_32 (by decide) ?_
      have hn9 : vp_in p0 2 := f_in (a := p0.toInt) rfl (by omega) (by omega)
      refine va_zast hx hb cx.2.1 hP hD hS 14 3 rfl rfl hn9 dX12_keep_33 (fun H locs hP hD hS => ?_)
      obtain ⟨g10, eg10⟩ : ∃ g : Nat → Int32, g = upd (sm 14) (p0).toNatClampNeg (vp_nar .boolean 1) := ⟨_, rfl⟩
      rw [← eg10] at hP hD
      have hP : va_P D vwCl [cell22_ qm sm tm, cell5_ k qm sm, cell13_ k qm sm, cell8_ k qm sm, cell6_ k qm sm, cell15_ k qm sm, cell14_ k qm tm, cell12_ k qm tm, cell18_ k qm tm, cell17_ k qm tm, cell19_ k qm tm, cell21_ k qm tm, cell20_ k qm sm, cell16_ k qm sm, (qm 14, .inl (k 3, 2, .inl g10)), cell10_ k qm sm, cell9_ k qm sm, cell7_ k qm sm] H := hP
      have hD : va_D A [cell22_ qm sm tm, cell5_ k qm sm, cell13_ k qm sm, cell8_ k qm sm, cell6_ k qm sm, cell15_ k qm sm, cell14_ k qm tm, cell12_ k qm tm, cell18_ k qm tm, cell17_ k qm tm, cell19_ k qm tm, cell21_ k qm tm, cell20_ k qm sm, cell16_ k qm sm, (qm 14, .inl (k 3, 2, .inl g10)), cell10_ k qm sm, cell9_ k qm sm, cell7_ k qm sm] := hD
      refine lv_iconst (v := 0) hx hb dX12_keep_34 (by decide) ?_
      refine lv_istore_n (lv' := [(3, .int 0), (2, .int 1), (0, .ref (qm 0)), (1, .int p0)]) hx hb dX12_keep_35 rfl hl (by decide) rfl (fun ls hl => ?_)
      have hL36 : ∀ (n20 : Nat) (v18 : Int32) (g19 : Nat → Int32) (H : Heap) (locs : List Loc) (ls : Array Slot), 5 - v18.toInt < (n20 : Int) → (0 ≤ v18.toInt ∧ v18.toInt ≤ 5) → (g19 = (PFo (Int.toNat (7 * p0.toInt)) (sm 13) (Int.toNat v18.toInt) (sm 15))) → va_P D vwCl [cell22_ qm sm tm, cell5_ k qm sm, cell13_ k qm sm, cell8_ k qm sm, cell6_ k qm sm, cell15_ k qm sm, cell14_ k qm tm, cell12_ k qm tm, cell18_ k qm tm, cell17_ k qm tm, cell19_ k qm tm, cell21_ k qm tm, cell20_ k qm sm, cell16_ k qm sm, (qm 14, .inl (k 3, 2, .inl g10)), (qm 15, .inl (k 0, 14, .inl g19)), cell9_ k qm sm, cell7_ k qm sm] H → va_D A [cell22_ qm sm tm, cell5_ k qm sm, cell13_ k qm sm, cell8_ k qm sm, cell6_ k qm sm, cell15_ k qm sm, cell14_ k qm tm, cell12_ k qm tm, cell18_ k qm tm, cell17_ k qm tm, cell19_ k qm tm, cell21_ k qm tm, cell20_ k qm sm, cell16_ k qm sm, (qm 14, .inl (k 3, 2, .inl g10)), (qm 15, .inl (k 0, 14, .inl g19)), cell9_ k qm sm, cell7_ k qm sm] → va_S A s.heap H locs → lv_has ls 4 [(3, .int v18), (2, .int 1), (0, .ref (qm 0)), (1, .int p0)] → W p l e ({ frames := 1, cells := 0, slots := 0, locals := 25 } : Room) s m ([.ref (qm 0), .int p0] : List Value).toArray below meth c H locs 0 0 Q (F0 m 36 ls []) := by
        intro n20
        induction n20 with
        | zero => intro v18 g19 H locs ls hmn20 bv18 qR hP hD hS hl; exact absurd hmn20 (by omega)
        | succ n20 ih36 =>
          intro v18 g19 H locs ls hmn20 bv18 qR hP hD hS hl
          refine lv_iload_n hx hb dX12_keep_36 rfl (lv_at hl 0 rfl) ?_
          refine lv_iconst (v := 5) hx hb dX12_keep_37 (by decide) ?_
          refine lv_icmp_ge (tgt := 64) hx hb dX12_keep_38 (by decide) (fun c21 => ?_) (fun c21 => ?_)
          · have f21 : 5 ≤ v18.toInt := f_le (by decide) rfl c21
            have qR_e : g19 = (PFo (Int.toNat (7 * p0.toInt)) (sm 13) 5 (sm 15)) := by have q : Int.toNat v18.toInt = 5 := (by omega); rw [q] at qR; exact qR
            refine lv_aload_n hx hb dX12_keep_64 rfl (lv_at hl 2 rfl) ?_
            refine g_get cx hP iw_X12_keep_X12 0 rfl rfl 25 (by decide) rfl fw_X12_keep_54 rfl dX12_keep_65 ?_
            refine lv_bipush (v := 7) hx hb dX12_keep_68 (by decide) ?_
            refine lv_iload_n hx hb dX12_keep_70 rfl (lv_at hl 3 rfl) ?_
            refine lv_imul hx hb dX12_keep_71 (lv_topi (fun v22 e22 => ?_))
            have t22 : v22.toInt = 7 * p0.toInt := by rw [e22]; exact i_mul (by decide) rfl (by omega) (by omega)
            refine lv_iconst (v := 5) hx hb dX12_keep_72 (by decide) ?_
            refine lv_iadd hx hb dX12_keep_73 (lv_topi (fun v23 e23 => ?_))
            have t23 : v23.toInt = v22.toInt + 5 := by rw [e23]; exact i_add rfl (by decide) (by omega) (by omega)
            refine lv_aload_n hx hb dX12_keep_74 rfl (lv_at hl 2 rfl) ?_
            refine g_get cx hP iw_X12_keep_X12 0 rfl rfl 22 (by decide) rfl fw_X12_keep_140 rfl dX12_keep_75 ?_
            have hn24 : vp_in v23 14 := f_in (a := v23.toInt) rfl (by omega) (by omega)
            refine va_iast hx hb cx.2.1 hP hD hS 15 0 rfl rfl hn24 dX12_keep_78 (fun H locs hP hD hS => ?_)
            obtain ⟨g25, eg25⟩ : ∃ g : Nat → Int32, g = upd g19 (v23).toNatClampNeg (sm 0 22) := ⟨_, rfl⟩
            rw [← eg25] at hP hD
            have hP : va_P D vwCl [cell22_ qm sm tm, cell5_ k qm sm, cell13_ k qm sm, cell8_ k qm sm, cell6_ k qm sm, cell15_ k qm sm, cell14_ k qm tm, cell12_ k qm tm, cell18_ k qm tm, cell17_ k qm tm, cell19_ k qm tm, cell21_ k qm tm, cell20_ k qm sm, cell16_ k qm sm, (qm 14, .inl (k 3, 2, .inl g10)), (qm 15, .inl (k 0, 14, .inl g25)), cell9_ k qm sm, cell7_ k qm sm] H := hP
            have hD : va_D A [cell22_ qm sm tm, cell5_ k qm sm, cell13_ k qm sm, cell8_ k qm sm, cell6_ k qm sm, cell15_ k qm sm, cell14_ k qm tm, cell12_ k qm tm, cell18_ k qm tm, cell17_ k qm tm, cell19_ k qm tm, cell21_ k qm tm, cell20_ k qm sm, cell16_ k qm sm, (qm 14, .inl (k 3, 2, .inl g10)), (qm 15, .inl (k 0, 14, .inl g25)), cell9_ k qm sm, cell7_ k qm sm] := hD
            refine lv_aload_n hx hb dX12_keep_79 rfl (lv_at hl 2 rfl) ?_
            refine g_get cx hP iw_X12_keep_X12 0 rfl rfl 25 (by decide) rfl fw_X12_keep_54 rfl dX12_keep_80 ?_
            refine lv_bipush (v := 7) hx hb dX12_keep_83 (by decide) ?_
            refine lv_iload_n hx hb dX12_keep_85 rfl (lv_at hl 3 rfl) ?_
            refine lv_imul hx hb dX12_keep_86 (lv_topi (fun v26 e26 => ?_))
            have t26 : v26.toInt = 7 * p0.toInt := by rw [e26]; exact i_mul (by decide) rfl (by omega) (by omega)
            refine lv_bipush (v := 6) hx hb dX12_keep_87 (by decide) ?_
            refine lv_iadd hx hb dX12_keep_89 (lv_topi (fun v27 e27 => ?_))
            have t27 : v27.toInt = v26.toInt + 6 := by rw [e27]; exact i_add rfl (by decide) (by omega) (by omega)
            refine lv_aload_n hx hb dX12_keep_90 rfl (lv_at hl 2 rfl) ?_
            refine g_get cx hP iw_X12_keep_X12 0 rfl rfl 23 (by decide) rfl fw_X12_keep_143 rfl dX12_keep_91 ?_
            have hn28 : vp_in v27 14 := f_in (a := v27.toInt) rfl (by omega) (by omega)
            refine va_iast hx hb cx.2.1 hP hD hS 15 0 rfl rfl hn28 dX12_keep_94 (fun H locs hP hD hS => ?_)
            obtain ⟨g29, eg29⟩ : ∃ g : Nat → Int32, g = upd g25 (v27).toNatClampNeg (sm 0 23) := ⟨_, rfl⟩
            rw [← eg29] at hP hD
            have hP : va_P D vwCl [cell22_ qm sm tm, cell5_ k qm sm, cell13_ k qm sm, cell8_ k qm sm, cell6_ k qm sm, cell15_ k qm sm, cell14_ k qm tm, cell12_ k qm tm, cell18_ k qm tm, cell17_ k qm tm, cell19_ k qm tm, cell21_ k qm tm, cell20_ k qm sm, cell16_ k qm sm, (qm 14, .inl (k 3, 2, .inl g10)), (qm 15, .inl (k 0, 14, .inl g29)), cell9_ k qm sm, cell7_ k qm sm] H := hP
            have hD : va_D A [cell22_ qm sm tm, cell5_ k qm sm, cell13_ k qm sm, cell8_ k qm sm, cell6_ k qm sm, cell15_ k qm sm, cell14_ k qm tm, cell12_ k qm tm, cell18_ k qm tm, cell17_ k qm tm, cell19_ k qm tm, cell21_ k qm tm, cell20_ k qm sm, cell16_ k qm sm, (qm 14, .inl (k 3, 2, .inl g10)), (qm 15, .inl (k 0, 14, .inl g29)), cell9_ k qm sm, cell7_ k qm sm] := hD
            refine lv_iload_n hx hb dX12_keep_95 rfl (lv_at hl 1 rfl) ?_
            have hlit30 : (1 : Int32).toInt = 1 := by decide
            rw [hQ]
            exact x_i cx hr (g10, g29) hP hD hS (show ((1 : Int32), g10, g29) = J_X12_keep sm tm p0 from by subst e1 w4 e7 eg10 qR_e e22 e23 eg25 e26 e27 eg29; first | (refine Eq.symm ?_; refine Eq.trans (if_neg c5) ?_; refine Eq.trans (if_pos c8) ?_; rfl) | (unfold J_X12_keep; try dsimp only; rw [if_neg c5, if_pos c8])) dX12_keep_96
          · have f21 : v18.toInt < 5 := f_nle (by decide) rfl c21
            refine lv_aload_n hx hb dX12_keep_41 rfl (lv_at hl 2 rfl) ?_
            refine g_get cx hP iw_X12_keep_X12 0 rfl rfl 25 (by decide) rfl fw_X12_keep_54 rfl dX12_keep_42 ?_
            refine lv_bipush (v := 7) hx hb dX12_keep_45 (by decide) ?_
            refine lv_iload_n hx hb dX12_keep_47 rfl (lv_at hl 3 rfl) ?_
            refine lv_imul hx hb dX12_keep_48 (lv_topi (fun v31 e31 => ?_))
            have t31 : v31.toInt = 7 * p0.toInt := by rw [e31]; exact i_mul (by decide) rfl (by omega) (by omega)
            refine lv_iload_n hx hb dX12_keep_49 rfl (lv_at hl 0 rfl) ?_
            refine lv_iadd hx hb dX12_keep_50 (lv_topi (fun v32 e32 => ?_))
            have t32 : v32.toInt = v31.toInt + v18.toInt := by rw [e32]; exact i_add rfl rfl (by omega) (by omega)
            refine lv_aload_n hx hb dX12_keep_51 rfl (lv_at hl 2 rfl) ?_
            refine g_get cx hP iw_X12_keep_X12 0 rfl rfl 21 (by decide) rfl fw_X12_keep_47 rfl dX12_keep_52 ?_
            refine lv_iload_n hx hb dX12_keep_55 rfl (lv_at hl 0 rfl) ?_
            have hn33 : vp_in v18 5 := f_in (a := v18.toInt) rfl (by omega) (by omega)
            refine va_iald hx hb cx.2.1 hP 13 0 rfl rfl hn33 dX12_keep_56 (lv_topi (fun v34 e34 => ?_))
            have hn35 : vp_in v32 14 := f_in (a := v32.toInt) rfl (by omega) (by omega)
            refine va_iast hx hb cx.2.1 hP hD hS 15 0 rfl rfl hn35 dX12_keep_57 (fun H locs hP hD hS => ?_)
            obtain ⟨g36, eg36⟩ : ∃ g : Nat → Int32, g = upd g19 (v32).toNatClampNeg v34 := ⟨_, rfl⟩
            rw [← eg36] at hP hD
            have hP : va_P D vwCl [cell22_ qm sm tm, cell5_ k qm sm, cell13_ k qm sm, cell8_ k qm sm, cell6_ k qm sm, cell15_ k qm sm, cell14_ k qm tm, cell12_ k qm tm, cell18_ k qm tm, cell17_ k qm tm, cell19_ k qm tm, cell21_ k qm tm, cell20_ k qm sm, cell16_ k qm sm, (qm 14, .inl (k 3, 2, .inl g10)), (qm 15, .inl (k 0, 14, .inl g36)), cell9_ k qm sm, cell7_ k qm sm] H := hP
            have hD : va_D A [cell22_ qm sm tm, cell5_ k qm sm, cell13_ k qm sm, cell8_ k qm sm, cell6_ k qm sm, cell15_ k qm sm, cell14_ k qm tm, cell12_ k qm tm, cell18_ k qm tm, cell17_ k qm tm, cell19_ k qm tm, cell21_ k qm tm, cell20_ k qm sm, cell16_ k qm sm, (qm 14, .inl (k 3, 2, .inl g10)), (qm 15, .inl (k 0, 14, .inl g36)), cell9_ k qm sm, cell7_ k qm sm] := hD
            have flq := PFo_st (P := (sm 13)) (b := Int.toNat (7 * p0.toInt)) eg36 (k := Int.toNat v18.toInt) (show v32.toInt = ((Int.toNat (7 * p0.toInt) : Nat) : Int) + ((Int.toNat v18.toInt : Nat) : Int) from by omega) ((e34.trans (congrArg (sm 13) (cN_of (show v18.toInt = ((Int.toNat (v18.toInt) : Nat) : Int) from by omega))))) qR
            obtain ⟨v37, e37⟩ : ∃ z : Int32, z = v18 + 1 := ⟨_, rfl⟩
            refine lv_iinc (v := v37) (lv' := [(3, .int v37), (2, .int 1), (0, .ref (qm 0)), (1, .int p0)]) hx hb dX12_keep_58 hl (k := 0) rfl (by rw [e37]; rfl) (by decide) rfl (fun ls hl => ?_)
            have t37 : v37.toInt = v18.toInt + 1 := by rw [e37]; exact i_add rfl (by decide) (by omega) (by omega)
            refine lv_goto (tgt := 36) hx hb dX12_keep_61 (by decide) ?_
            exact ih36 v37 g36 _ _ _ (by omega) (by first | decide | omega) (flq.trans (congrArg (fun n => (PFo (Int.toNat (7 * p0.toInt)) (sm 13) n (sm 15))) (by omega))) hP hD hS (lv_sub hl [0, 1, 2, 3] rfl)
      have hlit38 : (0 : Int32).toInt = 0 := by decide
      exact hL36 (Int.toNat (5 - 0) + 1) 0 (sm 15) _ _ _ (by omega) (by first | decide | omega) (PFo_0 _ _ _) hP hD hS (lv_sub hl [0, 1, 2, 3] rfl)
    · have f8 : ¬ v7.toInt = 0 := f_ne rfl (by decide) c8
      refine lv_iconst (v := 0) hx hb dX12_keep_21 (by decide) ?_
      refine lv_goto (tgt := 26) hx hb dX12_keep_22 (by decide) ?_
      refine lv_istore_n (lv' := [(2, .int 0), (0, .ref (qm 0)), (1, .int p0)]) hx hb dX12_keep_26 rfl hl (by decide) rfl (fun ls hl => ?_)
      refine lv_aload_n hx hb dX12_keep_27 rfl (lv_at hl 1 rfl) ?_
      refine g_get cx hP iw_X12_keep_X12 0 rfl rfl 24 (by decide) rfl fw_X12_keep_50 rfl dX12_keep_28 ?_
      refine lv_iload_n hx hb dX12_keep_31 rfl (lv_at hl 2 rfl) ?_
      refine lv_iconst (v := 1) hx hb dX12_keep_32 (by decide) ?_
      have hn39 : vp_in p0 2 := f_in (a := p0.toInt) rfl (by omega) (by omega)
      refine va_zast hx hb cx.2.1 hP hD hS 14 3 rfl rfl hn39 dX12_keep_33 (fun H locs hP hD hS => ?_)
      obtain ⟨g40, eg40⟩ : ∃ g : Nat → Int32, g = upd (sm 14) (p0).toNatClampNeg (vp_nar .boolean 1) := ⟨_, rfl⟩
      rw [← eg40] at hP hD
      have hP : va_P D vwCl [cell22_ qm sm tm, cell5_ k qm sm, cell13_ k qm sm, cell8_ k qm sm, cell6_ k qm sm, cell15_ k qm sm, cell14_ k qm tm, cell12_ k qm tm, cell18_ k qm tm, cell17_ k qm tm, cell19_ k qm tm, cell21_ k qm tm, cell20_ k qm sm, cell16_ k qm sm, (qm 14, .inl (k 3, 2, .inl g40)), cell10_ k qm sm, cell9_ k qm sm, cell7_ k qm sm] H := hP
      have hD : va_D A [cell22_ qm sm tm, cell5_ k qm sm, cell13_ k qm sm, cell8_ k qm sm, cell6_ k qm sm, cell15_ k qm sm, cell14_ k qm tm, cell12_ k qm tm, cell18_ k qm tm, cell17_ k qm tm, cell19_ k qm tm, cell21_ k qm tm, cell20_ k qm sm, cell16_ k qm sm, (qm 14, .inl (k 3, 2, .inl g40)), cell10_ k qm sm, cell9_ k qm sm, cell7_ k qm sm] := hD
      refine lv_iconst (v := 0) hx hb dX12_keep_34 (by decide) ?_
      refine lv_istore_n (lv' := [(3, .int 0), (2, .int 0), (0, .ref (qm 0)), (1, .int p0)]) hx hb dX12_keep_35 rfl hl (by decide) rfl (fun ls hl => ?_)
      have hL36 : ∀ (n50 : Nat) (v48 : Int32) (g49 : Nat → Int32) (H : Heap) (locs : List Loc) (ls : Array Slot), 5 - v48.toInt < (n50 : Int) → (0 ≤ v48.toInt ∧ v48.toInt ≤ 5) → (g49 = (PFo (Int.toNat (7 * p0.toInt)) (sm 13) (Int.toNat v48.toInt) (sm 15))) → va_P D vwCl [cell22_ qm sm tm, cell5_ k qm sm, cell13_ k qm sm, cell8_ k qm sm, cell6_ k qm sm, cell15_ k qm sm, cell14_ k qm tm, cell12_ k qm tm, cell18_ k qm tm, cell17_ k qm tm, cell19_ k qm tm, cell21_ k qm tm, cell20_ k qm sm, cell16_ k qm sm, (qm 14, .inl (k 3, 2, .inl g40)), (qm 15, .inl (k 0, 14, .inl g49)), cell9_ k qm sm, cell7_ k qm sm] H → va_D A [cell22_ qm sm tm, cell5_ k qm sm, cell13_ k qm sm, cell8_ k qm sm, cell6_ k qm sm, cell15_ k qm sm, cell14_ k qm tm, cell12_ k qm tm, cell18_ k qm tm, cell17_ k qm tm, cell19_ k qm tm, cell21_ k qm tm, cell20_ k qm sm, cell16_ k qm sm, (qm 14, .inl (k 3, 2, .inl g40)), (qm 15, .inl (k 0, 14, .inl g49)), cell9_ k qm sm, cell7_ k qm sm] → va_S A s.heap H locs → lv_has ls 4 [(3, .int v48), (2, .int 0), (0, .ref (qm 0)), (1, .int p0)] → W p l e ({ frames := 1, cells := 0, slots := 0, locals := 25 } : Room) s m ([.ref (qm 0), .int p0] : List Value).toArray below meth c H locs 0 0 Q (F0 m 36 ls []) := by
        intro n50
        induction n50 with
        | zero => intro v48 g49 H locs ls hmn50 bv48 qR hP hD hS hl; exact absurd hmn50 (by omega)
        | succ n50 ih36 =>
          intro v48 g49 H locs ls hmn50 bv48 qR hP hD hS hl
          refine lv_iload_n hx hb dX12_keep_36 rfl (lv_at hl 0 rfl) ?_
          refine lv_iconst (v := 5) hx hb dX12_keep_37 (by decide) ?_
          refine lv_icmp_ge (tgt := 64) hx hb dX12_keep_38 (by decide) (fun c51 => ?_) (fun c51 => ?_)
          · have f51 : 5 ≤ v48.toInt := f_le (by decide) rfl c51
            have qR_e : g49 = (PFo (Int.toNat (7 * p0.toInt)) (sm 13) 5 (sm 15)) := by have q : Int.toNat v48.toInt = 5 := (by omega); rw [q] at qR; exact qR
            refine lv_aload_n hx hb dX12_keep_64 rfl (lv_at hl 2 rfl) ?_
            refine g_get cx hP iw_X12_keep_X12 0 rfl rfl 25 (by decide) rfl fw_X12_keep_54 rfl dX12_keep_65 ?_
            refine lv_bipush (v := 7) hx hb dX12_keep_68 (by decide) ?_
            refine lv_iload_n hx hb dX12_keep_70 rfl (lv_at hl 3 rfl) ?_
            refine lv_imul hx hb dX12_keep_71 (lv_topi (fun v52 e52 => ?_))
            have t52 : v52.toInt = 7 * p0.toInt := by rw [e52]; exact i_mul (by decide) rfl (by omega) (by omega)
            refine lv_iconst (v := 5) hx hb dX12_keep_72 (by decide) ?_
            refine lv_iadd hx hb dX12_keep_73 (lv_topi (fun v53 e53 => ?_))
            have t53 : v53.toInt = v52.toInt + 5 := by rw [e53]; exact i_add rfl (by decide) (by omega) (by omega)
            refine lv_aload_n hx hb dX12_keep_74 rfl (lv_at hl 2 rfl) ?_
            refine g_get cx hP iw_X12_keep_X12 0 rfl rfl 22 (by decide) rfl fw_X12_keep_140 rfl dX12_keep_75 ?_
            have hn54 : vp_in v53 14 := f_in (a := v53.toInt) rfl (by omega) (by omega)
            refine va_iast hx hb cx.2.1 hP hD hS 15 0 rfl rfl hn54 dX12_keep_78 (fun H locs hP hD hS => ?_)
            obtain ⟨g55, eg55⟩ : ∃ g : Nat → Int32, g = upd g49 (v53).toNatClampNeg (sm 0 22) := ⟨_, rfl⟩
            rw [← eg55] at hP hD
            have hP : va_P D vwCl [cell22_ qm sm tm, cell5_ k qm sm, cell13_ k qm sm, cell8_ k qm sm, cell6_ k qm sm, cell15_ k qm sm, cell14_ k qm tm, cell12_ k qm tm, cell18_ k qm tm, cell17_ k qm tm, cell19_ k qm tm, cell21_ k qm tm, cell20_ k qm sm, cell16_ k qm sm, (qm 14, .inl (k 3, 2, .inl g40)), (qm 15, .inl (k 0, 14, .inl g55)), cell9_ k qm sm, cell7_ k qm sm] H := hP
            have hD : va_D A [cell22_ qm sm tm, cell5_ k qm sm, cell13_ k qm sm, cell8_ k qm sm, cell6_ k qm sm, cell15_ k qm sm, cell14_ k qm tm, cell12_ k qm tm, cell18_ k qm tm, cell17_ k qm tm, cell19_ k qm tm, cell21_ k qm tm, cell20_ k qm sm, cell16_ k qm sm, (qm 14, .inl (k 3, 2, .inl g40)), (qm 15, .inl (k 0, 14, .inl g55)), cell9_ k qm sm, cell7_ k qm sm] := hD
            refine lv_aload_n hx hb dX12_keep_79 rfl (lv_at hl 2 rfl) ?_
            refine g_get cx hP iw_X12_keep_X12 0 rfl rfl 25 (by decide) rfl fw_X12_keep_54 rfl dX12_keep_80 ?_
            refine lv_bipush (v := 7) hx hb dX12_keep_83 (by decide) ?_
            refine lv_iload_n hx hb dX12_keep_85 rfl (lv_at hl 3 rfl) ?_
            refine lv_imul hx hb dX12_keep_86 (lv_topi (fun v56 e56 => ?_))
            have t56 : v56.toInt = 7 * p0.toInt := by rw [e56]; exact i_mul (by decide) rfl (by omega) (by omega)
            refine lv_bipush (v := 6) hx hb dX12_keep_87 (by decide) ?_
            refine lv_iadd hx hb dX12_keep_89 (lv_topi (fun v57 e57 => ?_))
            have t57 : v57.toInt = v56.toInt + 6 := by rw [e57]; exact i_add rfl (by decide) (by omega) (by omega)
            refine lv_aload_n hx hb dX12_keep_90 rfl (lv_at hl 2 rfl) ?_
            refine g_get cx hP iw_X12_keep_X12 0 rfl rfl 23 (by decide) rfl fw_X12_keep_143 rfl dX12_keep_91 ?_
            have hn58 : vp_in v57 14 := f_in (a := v57.toInt) rfl (by omega) (by omega)
            refine va_iast hx hb cx.2.1 hP hD hS 15 0 rfl rfl hn58 dX12_keep_94 (fun H locs hP hD hS => ?_)
            obtain ⟨g59, eg59⟩ : ∃ g : Nat → Int32, g = upd g55 (v57).toNatClampNeg (sm 0 23) := ⟨_, rfl⟩
            rw [← eg59] at hP hD
            have hP : va_P D vwCl [cell22_ qm sm tm, cell5_ k qm sm, cell13_ k qm sm, cell8_ k qm sm, cell6_ k qm sm, cell15_ k qm sm, cell14_ k qm tm, cell12_ k qm tm, cell18_ k qm tm, cell17_ k qm tm, cell19_ k qm tm, cell21_ k qm tm, cell20_ k qm sm, cell16_ k qm sm, (qm 14, .inl (k 3, 2, .inl g40)), (qm 15, .inl (k 0, 14, .inl g59)), cell9_ k qm sm, cell7_ k qm sm] H := hP
            have hD : va_D A [cell22_ qm sm tm, cell5_ k qm sm, cell13_ k qm sm, cell8_ k qm sm, cell6_ k qm sm, cell15_ k qm sm, cell14_ k qm tm, cell12_ k qm tm, cell18_ k qm tm, cell17_ k qm tm, cell19_ k qm tm, cell21_ k qm tm, cell20_ k qm sm, cell16_ k qm sm, (qm 14, .inl (k 3, 2, .inl g40)), (qm 15, .inl (k 0, 14, .inl g59)), cell9_ k qm sm, cell7_ k qm sm] := hD
            refine lv_iload_n hx hb dX12_keep_95 rfl (lv_at hl 1 rfl) ?_
            have hlit60 : (0 : Int32).toInt = 0 := by decide
            rw [hQ]
            exact x_i cx hr (g40, g59) hP hD hS (show ((0 : Int32), g40, g59) = J_X12_keep sm tm p0 from by subst e1 w4 e7 eg40 qR_e e52 e53 eg55 e56 e57 eg59; first | (refine Eq.symm ?_; refine Eq.trans (if_neg c5) ?_; refine Eq.trans (if_neg c8) ?_; rfl) | (unfold J_X12_keep; try dsimp only; rw [if_neg c5, if_neg c8])) dX12_keep_96
          · have f51 : v48.toInt < 5 := f_nle (by decide) rfl c51
            refine lv_aload_n hx hb dX12_keep_41 rfl (lv_at hl 2 rfl) ?_
            refine g_get cx hP iw_X12_keep_X12 0 rfl rfl 25 (by decide) rfl fw_X12_keep_54 rfl dX12_keep_42 ?_
            refine lv_bipush (v := 7) hx hb dX12_keep_45 (by decide) ?_
            refine lv_iload_n hx hb dX12_keep_47 rfl (lv_at hl 3 rfl) ?_
            refine lv_imul hx hb dX12_keep_48 (lv_topi (fun v61 e61 => ?_))
            have t61 : v61.toInt = 7 * p0.toInt := by rw [e61]; exact i_mul (by decide) rfl (by omega) (by omega)
            refine lv_iload_n hx hb dX12_keep_49 rfl (lv_at hl 0 rfl) ?_
            refine lv_iadd hx hb dX12_keep_50 (lv_topi (fun v62 e62 => ?_))
            have t62 : v62.toInt = v61.toInt + v48.toInt := by rw [e62]; exact i_add rfl rfl (by omega) (by omega)
            refine lv_aload_n hx hb dX12_keep_51 rfl (lv_at hl 2 rfl) ?_
            refine g_get cx hP iw_X12_keep_X12 0 rfl rfl 21 (by decide) rfl fw_X12_keep_47 rfl dX12_keep_52 ?_
            refine lv_iload_n hx hb dX12_keep_55 rfl (lv_at hl 0 rfl) ?_
            have hn63 : vp_in v48 5 := f_in (a := v48.toInt) rfl (by omega) (by omega)
            refine va_iald hx hb cx.2.1 hP 13 0 rfl rfl hn63 dX12_keep_56 (lv_topi (fun v64 e64 => ?_))
            have hn65 : vp_in v62 14 := f_in (a := v62.toInt) rfl (by omega) (by omega)
            refine va_iast hx hb cx.2.1 hP hD hS 15 0 rfl rfl hn65 dX12_keep_57 (fun H locs hP hD hS => ?_)
            obtain ⟨g66, eg66⟩ : ∃ g : Nat → Int32, g = upd g49 (v62).toNatClampNeg v64 := ⟨_, rfl⟩
            rw [← eg66] at hP hD
            have hP : va_P D vwCl [cell22_ qm sm tm, cell5_ k qm sm, cell13_ k qm sm, cell8_ k qm sm, cell6_ k qm sm, cell15_ k qm sm, cell14_ k qm tm, cell12_ k qm tm, cell18_ k qm tm, cell17_ k qm tm, cell19_ k qm tm, cell21_ k qm tm, cell20_ k qm sm, cell16_ k qm sm, (qm 14, .inl (k 3, 2, .inl g40)), (qm 15, .inl (k 0, 14, .inl g66)), cell9_ k qm sm, cell7_ k qm sm] H := hP
            have hD : va_D A [cell22_ qm sm tm, cell5_ k qm sm, cell13_ k qm sm, cell8_ k qm sm, cell6_ k qm sm, cell15_ k qm sm, cell14_ k qm tm, cell12_ k qm tm, cell18_ k qm tm, cell17_ k qm tm, cell19_ k qm tm, cell21_ k qm tm, cell20_ k qm sm, cell16_ k qm sm, (qm 14, .inl (k 3, 2, .inl g40)), (qm 15, .inl (k 0, 14, .inl g66)), cell9_ k qm sm, cell7_ k qm sm] := hD
            have flq := PFo_st (P := (sm 13)) (b := Int.toNat (7 * p0.toInt)) eg66 (k := Int.toNat v48.toInt) (show v62.toInt = ((Int.toNat (7 * p0.toInt) : Nat) : Int) + ((Int.toNat v48.toInt : Nat) : Int) from by omega) ((e64.trans (congrArg (sm 13) (cN_of (show v48.toInt = ((Int.toNat (v48.toInt) : Nat) : Int) from by omega))))) qR
            obtain ⟨v67, e67⟩ : ∃ z : Int32, z = v48 + 1 := ⟨_, rfl⟩
            refine lv_iinc (v := v67) (lv' := [(3, .int v67), (2, .int 0), (0, .ref (qm 0)), (1, .int p0)]) hx hb dX12_keep_58 hl (k := 0) rfl (by rw [e67]; rfl) (by decide) rfl (fun ls hl => ?_)
            have t67 : v67.toInt = v48.toInt + 1 := by rw [e67]; exact i_add rfl (by decide) (by omega) (by omega)
            refine lv_goto (tgt := 36) hx hb dX12_keep_61 (by decide) ?_
            exact ih36 v67 g66 _ _ _ (by omega) (by first | decide | omega) (flq.trans (congrArg (fun n => (PFo (Int.toNat (7 * p0.toInt)) (sm 13) n (sm 15))) (by omega))) hP hD hS (lv_sub hl [0, 1, 2, 3] rfl)
      have hlit68 : (0 : Int32).toInt = 0 := by decide
      exact hL36 (Int.toNat (5 - 0) + 1) 0 (sm 15) _ _ _ (by omega) (by first | decide | omega) (PFo_0 _ _ _) hP hD hS (lv_sub hl [0, 1, 2, 3] rfl)
  · have f5 : r3.toInt = 0 := f_eq rfl (by decide) c5
    have k5 : p0.toInt < 0 ∨ 1 < p0.toInt := in_f (i2l_t rfl e1) (by decide) (by decide) w4 c5
    refine lv_iconst (v := (-1)) hx hb dX12_keep_10 (by decide) ?_
    have hlit69 : ((-1) : Int32).toInt = -1 := by decide
    rw [hQ]
    exact x_i cx hr ((sm 14), (sm 15)) hP hD hS (show (((-1) : Int32), (sm 14), (sm 15)) = J_X12_keep sm tm p0 from by subst e1 w4; first | (refine Eq.symm ?_; refine Eq.trans (if_pos c5) ?_; rfl) | (unfold J_X12_keep; try dsimp only; rw [if_pos c5])) dX12_keep_11
theorem fw_X12_again_140 : Cond.fieldLink RX12 140 "StillInAugustModel" "liveOrder" "I" ∈ wsX12_again := by decide +kernel
theorem fw_X12_again_143 : Cond.fieldLink RX12 143 "StillInAugustModel" "liveDid" "I" ∈ wsX12_again := by decide +kernel
theorem fw_X12_again_47 : Cond.fieldLink RX12 47 "StillInAugustModel" "live" "[I" ∈ wsX12_again := by decide +kernel
theorem fw_X12_again_50 : Cond.fieldLink RX12 50 "StillInAugustModel" "isKept" "[Z" ∈ wsX12_again := by decide +kernel
theorem fw_X12_again_54 : Cond.fieldLink RX12 54 "StillInAugustModel" "kept" "[I" ∈ wsX12_again := by decide +kernel
theorem iw_X12_again_X12 : ∀ w ∈ u_ws RX12 TX12 33, w ∈ wsX12_again := fun _ h => List.mem_cons_of_mem _ (List.mem_append_right _ h)
def J_X12_again (sm : Nat → Nat → Int32) (tm : Nat → Nat → Int64) (p0 : Int32) : Int32 × (Nat → Int32) × Int32 × Int32 := if (J_X12_in (p0.toInt64) 0 1) = 0 then (((-1) : Int32), (sm 13), (sm 0 22), (sm 0 23)) else if ((sm 14) (p0).toNatClampNeg) = 0 then (((-3) : Int32), (sm 13), (sm 0 22), (sm 0 23)) else (((PFn (fun j => sm 15 (Int.toNat (7 * p0.toInt) + j)) 5 (sm 13)) (0 : Int32).toNatClampNeg), (PFn (fun j => sm 15 (Int.toNat (7 * p0.toInt) + j)) 5 (sm 13)), ((sm 15) ((((7 : Int32) * p0) + (5 : Int32))).toNatClampNeg), ((sm 15) ((((7 : Int32) * p0) + (6 : Int32))).toNatClampNeg))
set_option maxHeartbeats 4000000 in
set_option maxRecDepth 100000 in
theorem c_X12_again (l : Launch) (D : va_G) (k : Nat → ClassId) (b : Nat → Nat) (qm : Nat → Nat) (sm : Nat → Nat → Int32) (tm : Nat → Nat → Int64) (sz : Nat) (p0 : Int32) : MetI l D k b yX12_again wsX12_again ({ frames := 1, cells := 0, slots := 0, locals := 25 } : Room) [cell22_ qm sm tm, cell5_ k qm sm, cell13_ k qm sm, cell8_ k qm sm, cell6_ k qm sm, cell15_ k qm sm, cell14_ k qm tm, cell12_ k qm tm, cell18_ k qm tm, cell17_ k qm tm, cell19_ k qm tm, cell21_ k qm tm, cell20_ k qm sm, cell16_ k qm sm, cell11_ k qm sm, cell10_ k qm sm, cell9_ k qm sm, cell7_ k qm sm] sz [.ref (qm 0), .int p0] (fun (r : Int32) (u : (Nat → Int32) × Int32 × Int32) => (r, (u.1), (u.2.1), (u.2.2)) = J_X12_again sm tm p0) (fun u => [cell131_ qm sm tm (u.2.1) (u.2.2), cell5_ k qm sm, cell13_ k qm sm, cell8_ k qm sm, cell6_ k qm sm, cell15_ k qm sm, cell14_ k qm tm, cell12_ k qm tm, cell18_ k qm tm, cell17_ k qm tm, cell19_ k qm tm, cell21_ k qm tm, cell20_ k qm sm, cell168_ k qm (u.1), cell11_ k qm sm, cell10_ k qm sm, cell9_ k qm sm, cell7_ k qm sm]) := by
  refine g_enter (cc := cX12_again) (maxL := 3) (ret := (some .int)) (by decide) rfl (Nat.le_of_ble_eq_true rfl) ?_
  intro p e s m below meth c A hsz hAe cx hr hP hD hS ls hl
  rw [hAe]
  refine g_q (fun Q hQ => ?_)
  have hx := cx.1.1
  have hb := cx.1.2.1
  have bp0 := i_rng p0
  have hl : lv_has ls 3 [(0, .ref (qm 0)), (1, .int p0)] := hl
  obtain ⟨H, eH⟩ : ∃ H : Heap, H = s.heap := ⟨_, rfl⟩
  obtain ⟨locs, el⟩ : ∃ L : List Loc, L = [] := ⟨_, rfl⟩
  have hP : va_P D vwCl [cell22_ qm sm tm, cell5_ k qm sm, cell13_ k qm sm, cell8_ k qm sm, cell6_ k qm sm, cell15_ k qm sm, cell14_ k qm tm, cell12_ k qm tm, cell18_ k qm tm, cell17_ k qm tm, cell19_ k qm tm, cell21_ k qm tm, cell20_ k qm sm, cell16_ k qm sm, cell11_ k qm sm, cell10_ k qm sm, cell9_ k qm sm, cell7_ k qm sm] H := by rw [eH]; exact hP
  have hD : va_D A [cell22_ qm sm tm, cell5_ k qm sm, cell13_ k qm sm, cell8_ k qm sm, cell6_ k qm sm, cell15_ k qm sm, cell14_ k qm tm, cell12_ k qm tm, cell18_ k qm tm, cell17_ k qm tm, cell19_ k qm tm, cell21_ k qm tm, cell20_ k qm sm, cell16_ k qm sm, cell11_ k qm sm, cell10_ k qm sm, cell9_ k qm sm, cell7_ k qm sm] := hD
  have hS : va_S A s.heap H locs := by rw [eH, el]; exact hS
  suffices goal : W p l e ({ frames := 1, cells := 0, slots := 0, locals := 25 } : Room) s m ([.ref (qm 0), .int p0] : List Value).toArray below meth c H locs 0 0 Q (F0 m 0 ls []) by rw [eH, el] at goal; exact goal
  refine lv_iload_n hx hb dX12_again_0 rfl (lv_at hl 1 rfl) ?_
  obtain ⟨v1, e1⟩ : ∃ z : Int64, z = (p0 : Int32).toInt64 := ⟨_, rfl⟩
  refine lv_i2l (v := v1) hx hb dX12_again_1 e1.symm ?_
  refine lv_lconst (v := 0) hx hb dX12_again_2 (by decide) ?_
  refine lv_lconst (v := 1) hx hb dX12_again_3 (by decide) ?_
  refine g_ir (g_runS (wc := []) (rest := []) cx hP hD hS [] rfl (by decide) [.long v1, .long 0, .long 1] (c_X12_in l D k b H.size v1 0 1) gX12_again_X12_in rfl rfl rfl nd_X12_in ⟨Nat.le_of_ble_eq_true rfl, Nat.le_of_ble_eq_true rfl⟩ rfl hl.1 rfl (Nat.le_of_ble_eq_true rfl) ⟨Nat.zero_le _, Nat.zero_le _⟩ dX12_again_4) cx.2.2.1 hP hD hS [] rfl rfl (fun r3 H locs hw2 hP hS => ?_)
  have w4 : r3 = J_X12_in v1 (0 : Int64) (1 : Int64) := hw2
  clear hw2
  have zr3 := in_b w4
  refine lv_if_ne (tgt := 12) hx hb dX12_again_7 (by decide) (fun c5 => ?_) (fun c5 => ?_)
  · have f5 : ¬ r3.toInt = 0 := f_ne rfl (by decide) c5
    have k5 : 0 ≤ p0.toInt ∧ p0.toInt ≤ 1 := in_t (i2l_t rfl e1) (by decide) (by decide) w4 c5
    refine lv_aload_n hx hb dX12_again_12 rfl (lv_at hl 0 rfl) ?_
    refine g_get cx hP iw_X12_again_X12 0 rfl rfl 24 (by decide) rfl fw_X12_again_50 rfl dX12_again_13 ?_
    refine lv_iload_n hx hb dX12_again_16 rfl (lv_at hl 1 rfl) ?_
    have hn6 : vp_in p0 2 := f_in (a := p0.toInt) rfl (by omega) (by omega)
    refine va_zald hx hb cx.2.1 hP 14 3 rfl rfl hn6 dX12_again_17 (lv_topi (fun v7 e7 => ?_))
    refine lv_if_ne (tgt := 24) hx hb dX12_again_18 (by decide) (fun c8 => ?_) (fun c8 => ?_)
    · have f8 : ¬ v7.toInt = 0 := f_ne rfl (by decide) c8
      refine lv_iconst (v := 0) hx hb dX12_again_24 (by decide) ?_
      refine lv_istore_n (lv' := [(2, .int 0), (0, .ref (qm 0)), (1, .int p0)]) hx hb dX12_again_25 rfl hl (by decide) rfl (fun ls hl => ?_)
      have hL26 : ∀ (n18 : Nat) (v16 : Int32) (g17 : Nat → Int32) (H : Heap) (locs : List Loc) (ls : Array Slot), 5 - v16.toInt < (n18 : Int) → (0 ≤ v16.toInt ∧ v16.toInt ≤ 5) → (g17 = (PFn (fun j => sm 15 (Int.toNat (7 * p0.toInt) + j)) (Int.toNat v16.toInt) (sm 13))) → va_P D vwCl [cell22_ qm sm tm, cell5_ k qm sm, cell13_ k qm sm, cell8_ k qm sm, cell6_ k qm sm, cell15_ k qm sm, cell14_ k qm tm, cell12_ k qm tm, cell18_ k qm tm, cell17_ k qm tm, cell19_ k qm tm, cell21_ k qm tm, cell20_ k qm sm, (qm 13, .inl (k 0, 5, .inl g17)), cell11_ k qm sm, cell10_ k qm sm, cell9_ k qm sm, cell7_ k qm sm] H → va_D A [cell22_ qm sm tm, cell5_ k qm sm, cell13_ k qm sm, cell8_ k qm sm, cell6_ k qm sm, cell15_ k qm sm, cell14_ k qm tm, cell12_ k qm tm, cell18_ k qm tm, cell17_ k qm tm, cell19_ k qm tm, cell21_ k qm tm, cell20_ k qm sm, (qm 13, .inl (k 0, 5, .inl g17)), cell11_ k qm sm, cell10_ k qm sm, cell9_ k qm sm, cell7_ k qm sm] → va_S A s.heap H locs → lv_has ls 3 [(2, .int v16), (0, .ref (qm 0)), (1, .int p0)] → W p l e ({ frames := 1, cells := 0, slots := 0, locals := 25 } : Room) s m ([.ref (qm 0), .int p0] : List Value).toArray below meth c H locs 0 0 Q (F0 m 26 ls []) := by
        intro n18
        induction n18 with
        | zero => intro v16 g17 H locs ls hmn18 bv16 qR hP hD hS hl; exact absurd hmn18 (by omega)
        | succ n18 ih26 =>
          intro v16 g17 H locs ls hmn18 bv16 qR hP hD hS hl
          refine lv_iload_n hx hb dX12_again_26 rfl (lv_at hl 0 rfl) ?_
          refine lv_iconst (v := 5) hx hb dX12_again_27 (by decide) ?_
          refine lv_icmp_ge (tgt := 54) hx hb dX12_again_28 (by decide) (fun c19 => ?_) (fun c19 => ?_)
          · have f19 : 5 ≤ v16.toInt := f_le (by decide) rfl c19
            have qR_e : g17 = (PFn (fun j => sm 15 (Int.toNat (7 * p0.toInt) + j)) 5 (sm 13)) := by have q : Int.toNat v16.toInt = 5 := (by omega); rw [q] at qR; exact qR
            refine lv_aload_n hx hb dX12_again_54 rfl (lv_at hl 1 rfl) ?_
            refine lv_aload_n hx hb dX12_again_55 rfl (lv_at hl 1 rfl) ?_
            refine g_get cx hP iw_X12_again_X12 0 rfl rfl 25 (by decide) rfl fw_X12_again_54 rfl dX12_again_56 ?_
            refine lv_bipush (v := 7) hx hb dX12_again_59 (by decide) ?_
            refine lv_iload_n hx hb dX12_again_61 rfl (lv_at hl 2 rfl) ?_
            refine lv_imul hx hb dX12_again_62 (lv_topi (fun v20 e20 => ?_))
            have t20 : v20.toInt = 7 * p0.toInt := by rw [e20]; exact i_mul (by decide) rfl (by omega) (by omega)
            refine lv_iconst (v := 5) hx hb dX12_again_63 (by decide) ?_
            refine lv_iadd hx hb dX12_again_64 (lv_topi (fun v21 e21 => ?_))
            have t21 : v21.toInt = v20.toInt + 5 := by rw [e21]; exact i_add rfl (by decide) (by omega) (by omega)
            have hn22 : vp_in v21 14 := f_in (a := v21.toInt) rfl (by omega) (by omega)
            refine va_iald hx hb cx.2.1 hP 15 0 rfl rfl hn22 dX12_again_65 (lv_topi (fun v23 e23 => ?_))
            refine g_pt cx hP hD hS iw_X12_again_X12 tyX12 tyX12_ok nmX12 0 rfl rfl 22 (by decide) rfl fw_X12_again_140 (ty := .int) rfl rfl rfl (Nat.le_of_ble_eq_true rfl) dX12_again_66 (fun H locs hP hD hS => ?_)
            have hP : va_P D vwCl [cell201_ qm sm tm v23, cell5_ k qm sm, cell13_ k qm sm, cell8_ k qm sm, cell6_ k qm sm, cell15_ k qm sm, cell14_ k qm tm, cell12_ k qm tm, cell18_ k qm tm, cell17_ k qm tm, cell19_ k qm tm, cell21_ k qm tm, cell20_ k qm sm, (qm 13, .inl (k 0, 5, .inl g17)), cell11_ k qm sm, cell10_ k qm sm, cell9_ k qm sm, cell7_ k qm sm] H := hP
            have hD : va_D A [cell201_ qm sm tm v23, cell5_ k qm sm, cell13_ k qm sm, cell8_ k qm sm, cell6_ k qm sm, cell15_ k qm sm, cell14_ k qm tm, cell12_ k qm tm, cell18_ k qm tm, cell17_ k qm tm, cell19_ k qm tm, cell21_ k qm tm, cell20_ k qm sm, (qm 13, .inl (k 0, 5, .inl g17)), cell11_ k qm sm, cell10_ k qm sm, cell9_ k qm sm, cell7_ k qm sm] := hD
            refine lv_aload_n hx hb dX12_again_69 rfl (lv_at hl 1 rfl) ?_
            refine lv_aload_n hx hb dX12_again_70 rfl (lv_at hl 1 rfl) ?_
            refine g_get cx hP iw_X12_again_X12 0 rfl rfl 25 (by decide) rfl fw_X12_again_54 rfl dX12_again_71 ?_
            refine lv_bipush (v := 7) hx hb dX12_again_74 (by decide) ?_
            refine lv_iload_n hx hb dX12_again_76 rfl (lv_at hl 2 rfl) ?_
            refine lv_imul hx hb dX12_again_77 (lv_topi (fun v24 e24 => ?_))
            have t24 : v24.toInt = 7 * p0.toInt := by rw [e24]; exact i_mul (by decide) rfl (by omega) (by omega)
            refine lv_bipush (v := 6) hx hb dX12_again_78 (by decide) ?_
            refine lv_iadd hx hb dX12_again_80 (lv_topi (fun v25 e25 => ?_))
            have t25 : v25.toInt = v24.toInt + 6 := by rw [e25]; exact i_add rfl (by decide) (by omega) (by omega)
            have hn26 : vp_in v25 14 := f_in (a := v25.toInt) rfl (by omega) (by omega)
            refine va_iald hx hb cx.2.1 hP 15 0 rfl rfl hn26 dX12_again_81 (lv_topi (fun v27 e27 => ?_))
            refine g_pt cx hP hD hS iw_X12_again_X12 tyX12 tyX12_ok nmX12 0 rfl rfl 23 (by decide) rfl fw_X12_again_143 (ty := .int) rfl rfl rfl (Nat.le_of_ble_eq_true rfl) dX12_again_82 (fun H locs hP hD hS => ?_)
            have hP : va_P D vwCl [cell131_ qm sm tm v23 v27, cell5_ k qm sm, cell13_ k qm sm, cell8_ k qm sm, cell6_ k qm sm, cell15_ k qm sm, cell14_ k qm tm, cell12_ k qm tm, cell18_ k qm tm, cell17_ k qm tm, cell19_ k qm tm, cell21_ k qm tm, cell20_ k qm sm, (qm 13, .inl (k 0, 5, .inl g17)), cell11_ k qm sm, cell10_ k qm sm, cell9_ k qm sm, cell7_ k qm sm] H := hP
            have hD : va_D A [cell131_ qm sm tm v23 v27, cell5_ k qm sm, cell13_ k qm sm, cell8_ k qm sm, cell6_ k qm sm, cell15_ k qm sm, cell14_ k qm tm, cell12_ k qm tm, cell18_ k qm tm, cell17_ k qm tm, cell19_ k qm tm, cell21_ k qm tm, cell20_ k qm sm, (qm 13, .inl (k 0, 5, .inl g17)), cell11_ k qm sm, cell10_ k qm sm, cell9_ k qm sm, cell7_ k qm sm] := hD
            refine lv_aload_n hx hb dX12_again_85 rfl (lv_at hl 1 rfl) ?_
            refine g_get cx hP iw_X12_again_X12 0 rfl rfl 21 (by decide) rfl fw_X12_again_47 rfl dX12_again_86 ?_
            refine lv_iconst (v := 0) hx hb dX12_again_89 (by decide) ?_
            have hn28 : vp_in 0 5 := f_in (a := 0) (by decide) (by omega) (by omega)
            refine va_iald hx hb cx.2.1 hP 13 0 rfl rfl hn28 dX12_again_90 (lv_topi (fun v29 e29 => ?_))
            have uv29 : v29.toInt = (g17 0).toInt := congrArg Int32.toInt e29
            rw [hQ]
            exact x_i cx hr (g17, v23, v27) hP hD hS (show (v29, g17, v23, v27) = J_X12_again sm tm p0 from by subst e1 w4 e7 qR_e e20 e21 e23 e24 e25 e27 e29; first | (refine Eq.symm ?_; refine Eq.trans (if_neg c5) ?_; refine Eq.trans (if_neg c8) ?_; rfl) | (unfold J_X12_again; try dsimp only; rw [if_neg c5, if_neg c8])) dX12_again_91
          · have f19 : v16.toInt < 5 := f_nle (by decide) rfl c19
            refine lv_aload_n hx hb dX12_again_31 rfl (lv_at hl 1 rfl) ?_
            refine g_get cx hP iw_X12_again_X12 0 rfl rfl 21 (by decide) rfl fw_X12_again_47 rfl dX12_again_32 ?_
            refine lv_iload_n hx hb dX12_again_35 rfl (lv_at hl 0 rfl) ?_
            refine lv_aload_n hx hb dX12_again_36 rfl (lv_at hl 1 rfl) ?_
            refine g_get cx hP iw_X12_again_X12 0 rfl rfl 25 (by decide) rfl fw_X12_again_54 rfl dX12_again_37 ?_
            refine lv_bipush (v := 7) hx hb dX12_again_40 (by decide) ?_
            refine lv_iload_n hx hb dX12_again_42 rfl (lv_at hl 2 rfl) ?_
            refine lv_imul hx hb dX12_again_43 (lv_topi (fun v30 e30 => ?_))
            have t30 : v30.toInt = 7 * p0.toInt := by rw [e30]; exact i_mul (by decide) rfl (by omega) (by omega)
            refine lv_iload_n hx hb dX12_again_44 rfl (lv_at hl 0 rfl) ?_
            refine lv_iadd hx hb dX12_again_45 (lv_topi (fun v31 e31 => ?_))
            have t31 : v31.toInt = v30.toInt + v16.toInt := by rw [e31]; exact i_add rfl rfl (by omega) (by omega)
            have hn32 : vp_in v31 14 := f_in (a := v31.toInt) rfl (by omega) (by omega)
            refine va_iald hx hb cx.2.1 hP 15 0 rfl rfl hn32 dX12_again_46 (lv_topi (fun v33 e33 => ?_))
            have hn34 : vp_in v16 5 := f_in (a := v16.toInt) rfl (by omega) (by omega)
            refine va_iast hx hb cx.2.1 hP hD hS 13 0 rfl rfl hn34 dX12_again_47 (fun H locs hP hD hS => ?_)
            obtain ⟨g35, eg35⟩ : ∃ g : Nat → Int32, g = upd g17 (v16).toNatClampNeg v33 := ⟨_, rfl⟩
            rw [← eg35] at hP hD
            have hP : va_P D vwCl [cell22_ qm sm tm, cell5_ k qm sm, cell13_ k qm sm, cell8_ k qm sm, cell6_ k qm sm, cell15_ k qm sm, cell14_ k qm tm, cell12_ k qm tm, cell18_ k qm tm, cell17_ k qm tm, cell19_ k qm tm, cell21_ k qm tm, cell20_ k qm sm, (qm 13, .inl (k 0, 5, .inl g35)), cell11_ k qm sm, cell10_ k qm sm, cell9_ k qm sm, cell7_ k qm sm] H := hP
            have hD : va_D A [cell22_ qm sm tm, cell5_ k qm sm, cell13_ k qm sm, cell8_ k qm sm, cell6_ k qm sm, cell15_ k qm sm, cell14_ k qm tm, cell12_ k qm tm, cell18_ k qm tm, cell17_ k qm tm, cell19_ k qm tm, cell21_ k qm tm, cell20_ k qm sm, (qm 13, .inl (k 0, 5, .inl g35)), cell11_ k qm sm, cell10_ k qm sm, cell9_ k qm sm, cell7_ k qm sm] := hD
            have flq := PF_st (P := (fun j => sm 15 (Int.toNat (7 * p0.toInt) + j))) eg35 (k := Int.toNat v16.toInt) (show v16.toInt = ((Int.toNat v16.toInt : Nat) : Int) from by omega) ((e33.trans (congrArg (sm 15) (cN_of (show v31.toInt = ((Int.toNat (7 * p0.toInt) + Int.toNat v16.toInt : Nat) : Int) from by omega))))) qR
            obtain ⟨v36, e36⟩ : ∃ z : Int32, z = v16 + 1 := ⟨_, rfl⟩
            refine lv_iinc (v := v36) (lv' := [(2, .int v36), (0, .ref (qm 0)), (1, .int p0)]) hx hb dX12_again_48 hl (k := 0) rfl (by rw [e36]; rfl) (by decide) rfl (fun ls hl => ?_)
            have t36 : v36.toInt = v16.toInt + 1 := by rw [e36]; exact i_add rfl (by decide) (by omega) (by omega)
            refine lv_goto (tgt := 26) hx hb dX12_again_51 (by decide) ?_
            exact ih26 v36 g35 _ _ _ (by omega) (by first | decide | omega) (flq.trans (congrArg (fun n => (PFn (fun j => sm 15 (Int.toNat (7 * p0.toInt) + j)) n (sm 13))) (by omega))) hP hD hS (lv_sub hl [0, 1, 2] rfl)
      have hlit37 : (0 : Int32).toInt = 0 := by decide
      exact hL26 (Int.toNat (5 - 0) + 1) 0 (sm 13) _ _ _ (by omega) (by first | decide | omega) (PF_0 _ _) hP hD hS (lv_sub hl [0, 1, 2] rfl)
    · have f8 : v7.toInt = 0 := f_eq rfl (by decide) c8
      refine lv_bipush (v := (-3)) hx hb dX12_again_21 (by decide) ?_
      have hlit38 : ((-3) : Int32).toInt = -3 := by decide
      rw [hQ]
      exact x_i cx hr ((sm 13), (sm 0 22), (sm 0 23)) hP hD hS (show (((-3) : Int32), (sm 13), (sm 0 22), (sm 0 23)) = J_X12_again sm tm p0 from by subst e1 w4 e7; first | (refine Eq.symm ?_; refine Eq.trans (if_neg c5) ?_; refine Eq.trans (if_pos c8) ?_; rfl) | (unfold J_X12_again; try dsimp only; rw [if_neg c5, if_pos c8])) dX12_again_23
  · have f5 : r3.toInt = 0 := f_eq rfl (by decide) c5
    have k5 : p0.toInt < 0 ∨ 1 < p0.toInt := in_f (i2l_t rfl e1) (by decide) (by decide) w4 c5
    refine lv_iconst (v := (-1)) hx hb dX12_again_10 (by decide) ?_
    have hlit39 : ((-1) : Int32).toInt = -1 := by decide
    rw [hQ]
    exact x_i cx hr ((sm 13), (sm 0 22), (sm 0 23)) hP hD hS (show (((-1) : Int32), (sm 13), (sm 0 22), (sm 0 23)) = J_X12_again sm tm p0 from by subst e1 w4; first | (refine Eq.symm ?_; refine Eq.trans (if_pos c5) ?_; rfl) | (unfold J_X12_again; try dsimp only; rw [if_pos c5])) dX12_again_11
theorem fw_X12_tell_258 : Cond.fieldLink RX12 258 "StillInAugustModel" "rows" "I" ∈ wsX12_tell := by decide +kernel
theorem fw_X12_tell_57 : Cond.fieldLink RX12 57 "StillInAugustModel" "rowAct" "[I" ∈ wsX12_tell := by decide +kernel
theorem fw_X12_tell_60 : Cond.fieldLink RX12 60 "StillInAugustModel" "rowGone" "[I" ∈ wsX12_tell := by decide +kernel
theorem kJ_X12_tell_256 : Cond.constantLong RX12 256 (9999) ∈ wsX12_tell := by decide +kernel
theorem iw_X12_tell_X12 : ∀ w ∈ u_ws RX12 TX12 33, w ∈ wsX12_tell := fun _ h => List.mem_cons_of_mem _ (List.mem_append_right _ h)
def J_X12_tell (sm : Nat → Nat → Int32) (tm : Nat → Nat → Int64) (p0 : Int32) (p1 : Int32) : Int32 × (Nat → Int32) × (Nat → Int32) × Int32 := if (J_X12_in (p0.toInt64) 0 9999) = 0 then (((-2) : Int32), (sm 16), (sm 17), (sm 0 26)) else if (J_X12_isGone p1) = 0 then (((-2) : Int32), (sm 16), (sm 17), (sm 0 26)) else if (sm 0 26) = 5 then (((-4) : Int32), (sm 16), (sm 17), (sm 0 26)) else (((sm 0 26) + (1 : Int32)), (upd (sm 16) ((sm 0 26)).toNatClampNeg p0), (upd (sm 17) ((sm 0 26)).toNatClampNeg p1), ((sm 0 26) + (1 : Int32)))
set_option maxHeartbeats 4000000 in
set_option maxRecDepth 100000 in
theorem c_X12_tell (l : Launch) (D : va_G) (k : Nat → ClassId) (b : Nat → Nat) (qm : Nat → Nat) (sm : Nat → Nat → Int32) (tm : Nat → Nat → Int64) (sz : Nat) (p0 : Int32) (p1 : Int32) (h_rows : 0 ≤ (sm 0 26).toInt ∧ (sm 0 26).toInt ≤ 5) : MetI l D k b yX12_tell wsX12_tell ({ frames := 2, cells := 0, slots := 0, locals := 45 } : Room) [cell22_ qm sm tm, cell5_ k qm sm, cell13_ k qm sm, cell8_ k qm sm, cell6_ k qm sm, cell15_ k qm sm, cell14_ k qm tm, cell12_ k qm tm, cell18_ k qm tm, cell17_ k qm tm, cell19_ k qm tm, cell21_ k qm tm, cell20_ k qm sm, cell16_ k qm sm, cell11_ k qm sm, cell10_ k qm sm, cell9_ k qm sm, cell7_ k qm sm] sz [.ref (qm 0), .int p0, .int p1] (fun (r : Int32) (u : (Nat → Int32) × (Nat → Int32) × Int32) => (0 ≤ (u.2.2).toInt ∧ (u.2.2).toInt ≤ 5) ∧ ((r, (u.1), (u.2.1), (u.2.2)) = J_X12_tell sm tm p0 p1)) (fun u => [cell132_ qm sm tm (u.2.2), cell5_ k qm sm, cell13_ k qm sm, cell8_ k qm sm, cell6_ k qm sm, cell15_ k qm sm, cell14_ k qm tm, cell12_ k qm tm, cell18_ k qm tm, cell17_ k qm tm, cell19_ k qm tm, cell21_ k qm tm, cell20_ k qm sm, cell16_ k qm sm, cell11_ k qm sm, cell10_ k qm sm, (qm 16, .inl (k 0, 5, .inl (u.1))), (qm 17, .inl (k 0, 5, .inl (u.2.1)))]) := by
  refine g_enter (cc := cX12_tell) (maxL := 3) (ret := (some .int)) (by decide) rfl (Nat.le_of_ble_eq_true rfl) ?_
  intro p e s m below meth c A hsz hAe cx hr hP hD hS ls hl
  rw [hAe]
  refine g_q (fun Q hQ => ?_)
  have hx := cx.1.1
  have hb := cx.1.2.1
  have bp0 := i_rng p0
  have bp1 := i_rng p1
  have hl : lv_has ls 3 [(0, .ref (qm 0)), (1, .int p0), (2, .int p1)] := hl
  obtain ⟨H, eH⟩ : ∃ H : Heap, H = s.heap := ⟨_, rfl⟩
  obtain ⟨locs, el⟩ : ∃ L : List Loc, L = [] := ⟨_, rfl⟩
  have hP : va_P D vwCl [cell22_ qm sm tm, cell5_ k qm sm, cell13_ k qm sm, cell8_ k qm sm, cell6_ k qm sm, cell15_ k qm sm, cell14_ k qm tm, cell12_ k qm tm, cell18_ k qm tm, cell17_ k qm tm, cell19_ k qm tm, cell21_ k qm tm, cell20_ k qm sm, cell16_ k qm sm, cell11_ k qm sm, cell10_ k qm sm, cell9_ k qm sm, cell7_ k qm sm] H := by rw [eH]; exact hP
  have hD : va_D A [cell22_ qm sm tm, cell5_ k qm sm, cell13_ k qm sm, cell8_ k qm sm, cell6_ k qm sm, cell15_ k qm sm, cell14_ k qm tm, cell12_ k qm tm, cell18_ k qm tm, cell17_ k qm tm, cell19_ k qm tm, cell21_ k qm tm, cell20_ k qm sm, cell16_ k qm sm, cell11_ k qm sm, cell10_ k qm sm, cell9_ k qm sm, cell7_ k qm sm] := hD
  have hS : va_S A s.heap H locs := by rw [eH, el]; exact hS
  suffices goal : W p l e ({ frames := 2, cells := 0, slots := 0, locals := 45 } : Room) s m ([.ref (qm 0), .int p0, .int p1] : List Value).toArray below meth c H locs 0 0 Q (F0 m 0 ls []) by rw [eH, el] at goal; exact goal
  refine lv_iload_n hx hb dX12_tell_0 rfl (lv_at hl 1 rfl) ?_
  obtain ⟨v1, e1⟩ : ∃ z : Int64, z = (p0 : Int32).toInt64 := ⟨_, rfl⟩
  refine lv_i2l (v := v1) hx hb dX12_tell_1 e1.symm ?_
  refine lv_lconst (v := 0) hx hb dX12_tell_2 (by decide) ?_
  refine lv_ldc2 (v := 9999) hx hb cx.1.2.2.2.1 (cx.1.2.2.2.2 _ kJ_X12_tell_256) dX12_tell_3 ?_
  refine g_ir (g_runS (wc := []) (rest := []) cx hP hD hS [] rfl (by decide) [.long v1, .long 0, .long 9999] (c_X12_in l D k b H.size v1 0 9999) gX12_tell_X12_in rfl rfl rfl nd_X12_in ⟨Nat.le_of_ble_eq_true rfl, Nat.le_of_ble_eq_true rfl⟩ rfl hl.1 rfl (Nat.le_of_ble_eq_true rfl) ⟨Nat.zero_le _, Nat.zero_le _⟩ dX12_tell_6) cx.2.2.1 hP hD hS [] rfl rfl (fun r3 H locs hw2 hP hS => ?_)
  have w4 : r3 = J_X12_in v1 (0 : Int64) (9999 : Int64) := hw2
  clear hw2
  have zr3 := in_b w4
  refine lv_if_eq (tgt := 19) hx hb dX12_tell_9 (by decide) (fun c5 => ?_) (fun c5 => ?_)
  · have f5 : r3.toInt = 0 := f_eq rfl (by decide) c5
    have k5 : p0.toInt < 0 ∨ 9999 < p0.toInt := in_f (i2l_t rfl e1) (by decide) (by decide) w4 c5
    refine lv_bipush (v := (-2)) hx hb dX12_tell_19 (by decide) ?_
    have hlit6 : ((-2) : Int32).toInt = -2 := by decide
    rw [hQ]
    exact x_i cx hr ((sm 16), (sm 17), (sm 0 26)) hP hD hS ⟨(show 0 ≤ (sm 0 26).toInt ∧ (sm 0 26).toInt ≤ 5 from by omega), (show (((-2) : Int32), (sm 16), (sm 17), (sm 0 26)) = J_X12_tell sm tm p0 p1 from by subst e1 w4; first | (refine Eq.symm ?_; refine Eq.trans (if_pos c5) ?_; rfl) | (unfold J_X12_tell; try dsimp only; rw [if_pos c5]))⟩ dX12_tell_21
  · have f5 : ¬ r3.toInt = 0 := f_ne rfl (by decide) c5
    have k5 : 0 ≤ p0.toInt ∧ p0.toInt ≤ 9999 := in_t (i2l_t rfl e1) (by decide) (by decide) w4 c5
    refine lv_iload_n hx hb dX12_tell_12 rfl (lv_at hl 2 rfl) ?_
    refine g_ir (g_runS (wc := []) (rest := []) cx hP hD hS [] rfl (by decide) [.int p1] (c_X12_isGone l D k b H.size p1) gX12_tell_X12_isGone rfl rfl rfl nd_X12_isGone ⟨Nat.le_of_ble_eq_true rfl, Nat.le_of_ble_eq_true rfl⟩ rfl hl.1 rfl (Nat.le_of_ble_eq_true rfl) ⟨Nat.zero_le _, Nat.zero_le _⟩ dX12_tell_13) cx.2.2.1 hP hD hS [] rfl rfl (fun r8 H locs hw7 hP hS => ?_)
    have w9 : r8 = J_X12_isGone p1 := hw7
    clear hw7
    have zr8 := isg_b w9
    have yr8 : r8.toInt = (J_X12_isGone p1).toInt := congrArg Int32.toInt w9
    refine lv_if_ne (tgt := 22) hx hb dX12_tell_16 (by decide) (fun c10 => ?_) (fun c10 => ?_)
    · have f10 : ¬ r8.toInt = 0 := f_ne rfl (by decide) c10
      refine lv_aload_n hx hb dX12_tell_22 rfl (lv_at hl 0 rfl) ?_
      refine g_get cx hP iw_X12_tell_X12 0 rfl rfl 26 (by decide) rfl fw_X12_tell_258 rfl dX12_tell_23 ?_
      refine lv_iconst (v := 5) hx hb dX12_tell_26 (by decide) ?_
      refine lv_icmp_ne (tgt := 33) hx hb dX12_tell_27 (by decide) (fun c11 => ?_) (fun c11 => ?_)
      · have f11 : ¬ (sm 0 26).toInt = 5 := f_ne rfl (by decide) c11
        refine lv_aload_n hx hb dX12_tell_33 rfl (lv_at hl 0 rfl) ?_
        refine g_get cx hP iw_X12_tell_X12 0 rfl rfl 27 (by decide) rfl fw_X12_tell_57 rfl dX12_tell_34 ?_
        refine lv_aload_n hx hb dX12_tell_37 rfl (lv_at hl 0 rfl) ?_
        refine g_get cx hP iw_X12_tell_X12 0 rfl rfl 26 (by decide) rfl fw_X12_tell_258 rfl dX12_tell_38 ?_
        refine lv_iload_n hx hb dX12_tell_41 rfl (lv_at hl 1 rfl) ?_
        have hn12 : vp_in (sm 0 26) 5 := f_in (a := (sm 0 26).toInt) rfl (by omega) (by omega)
        refine va_iast hx hb cx.2.1 hP hD hS 16 0 rfl rfl hn12 dX12_tell_42 (fun H locs hP hD hS => ?_)
        obtain ⟨g13, eg13⟩ : ∃ g : Nat → Int32, g = upd (sm 16) ((sm 0 26)).toNatClampNeg p0 := ⟨_, rfl⟩
        rw [← eg13] at hP hD
        have hP : va_P D vwCl [cell22_ qm sm tm, cell5_ k qm sm, cell13_ k qm sm, cell8_ k qm sm, cell6_ k qm sm, cell15_ k qm sm, cell14_ k qm tm, cell12_ k qm tm, cell18_ k qm tm, cell17_ k qm tm, cell19_ k qm tm, cell21_ k qm tm, cell20_ k qm sm, cell16_ k qm sm, cell11_ k qm sm, cell10_ k qm sm, (qm 16, .inl (k 0, 5, .inl g13)), cell7_ k qm sm] H := hP
        have hD : va_D A [cell22_ qm sm tm, cell5_ k qm sm, cell13_ k qm sm, cell8_ k qm sm, cell6_ k qm sm, cell15_ k qm sm, cell14_ k qm tm, cell12_ k qm tm, cell18_ k qm tm, cell17_ k qm tm, cell19_ k qm tm, cell21_ k qm tm, cell20_ k qm sm, cell16_ k qm sm, cell11_ k qm sm, cell10_ k qm sm, (qm 16, .inl (k 0, 5, .inl g13)), cell7_ k qm sm] := hD
        refine lv_aload_n hx hb dX12_tell_43 rfl (lv_at hl 0 rfl) ?_
        refine g_get cx hP iw_X12_tell_X12 0 rfl rfl 28 (by decide) rfl fw_X12_tell_60 rfl dX12_tell_44 ?_
        refine lv_aload_n hx hb dX12_tell_47 rfl (lv_at hl 0 rfl) ?_
        refine g_get cx hP iw_X12_tell_X12 0 rfl rfl 26 (by decide) rfl fw_X12_tell_258 rfl dX12_tell_48 ?_
        refine lv_iload_n hx hb dX12_tell_51 rfl (lv_at hl 2 rfl) ?_
        have hn14 : vp_in (sm 0 26) 5 := f_in (a := (sm 0 26).toInt) rfl (by omega) (by omega)
        refine va_iast hx hb cx.2.1 hP hD hS 17 0 rfl rfl hn14 dX12_tell_52 (fun H locs hP hD hS => ?_)
        obtain ⟨g15, eg15⟩ : ∃ g : Nat → Int32, g = upd (sm 17) ((sm 0 26)).toNatClampNeg p1 := ⟨_, rfl⟩
        rw [← eg15] at hP hD
        have hP : va_P D vwCl [cell22_ qm sm tm, cell5_ k qm sm, cell13_ k qm sm, cell8_ k qm sm, cell6_ k qm sm, cell15_ k qm sm, cell14_ k qm tm, cell12_ k qm tm, cell18_ k qm tm, cell17_ k qm tm, cell19_ k qm tm, cell21_ k qm tm, cell20_ k qm sm, cell16_ k qm sm, cell11_ k qm sm, cell10_ k qm sm, (qm 16, .inl (k 0, 5, .inl g13)), (qm 17, .inl (k 0, 5, .inl g15))] H := hP
        have hD : va_D A [cell22_ qm sm tm, cell5_ k qm sm, cell13_ k qm sm, cell8_ k qm sm, cell6_ k qm sm, cell15_ k qm sm, cell14_ k qm tm, cell12_ k qm tm, cell18_ k qm tm, cell17_ k qm tm, cell19_ k qm tm, cell21_ k qm tm, cell20_ k qm sm, cell16_ k qm sm, cell11_ k qm sm, cell10_ k qm sm, (qm 16, .inl (k 0, 5, .inl g13)), (qm 17, .inl (k 0, 5, .inl g15))] := hD
        refine lv_aload_n hx hb dX12_tell_53 rfl (lv_at hl 0 rfl) ?_
        refine lv_dup hx hb dX12_tell_54 rfl ?_
        refine g_get cx hP iw_X12_tell_X12 0 rfl rfl 26 (by decide) rfl fw_X12_tell_258 rfl dX12_tell_55 ?_
        refine lv_iconst (v := 1) hx hb dX12_tell_58 (by decide) ?_
        refine lv_iadd hx hb dX12_tell_59 (lv_topi (fun v16 e16 => ?_))
        have t16 : v16.toInt = (sm 0 26).toInt + 1 := by rw [e16]; exact i_add rfl (by decide) (by omega) (by omega)
        refine g_pt cx hP hD hS iw_X12_tell_X12 tyX12 tyX12_ok nmX12 0 rfl rfl 26 (by decide) rfl fw_X12_tell_258 (ty := .int) rfl rfl rfl (Nat.le_of_ble_eq_true rfl) dX12_tell_60 (fun H locs hP hD hS => ?_)
        have hP : va_P D vwCl [cell132_ qm sm tm v16, cell5_ k qm sm, cell13_ k qm sm, cell8_ k qm sm, cell6_ k qm sm, cell15_ k qm sm, cell14_ k qm tm, cell12_ k qm tm, cell18_ k qm tm, cell17_ k qm tm, cell19_ k qm tm, cell21_ k qm tm, cell20_ k qm sm, cell16_ k qm sm, cell11_ k qm sm, cell10_ k qm sm, (qm 16, .inl (k 0, 5, .inl g13)), (qm 17, .inl (k 0, 5, .inl g15))] H := hP
        have hD : va_D A [cell132_ qm sm tm v16, cell5_ k qm sm, cell13_ k qm sm, cell8_ k qm sm, cell6_ k qm sm, cell15_ k qm sm, cell14_ k qm tm, cell12_ k qm tm, cell18_ k qm tm, cell17_ k qm tm, cell19_ k qm tm, cell21_ k qm tm, cell20_ k qm sm, cell16_ k qm sm, cell11_ k qm sm, cell10_ k qm sm, (qm 16, .inl (k 0, 5, .inl g13)), (qm 17, .inl (k 0, 5, .inl g15))] := hD
        refine lv_aload_n hx hb dX12_tell_63 rfl (lv_at hl 0 rfl) ?_
        refine g_get cx hP iw_X12_tell_X12 0 rfl rfl 26 (by decide) rfl fw_X12_tell_258 rfl dX12_tell_64 ?_
        rw [hQ]
        exact x_i cx hr (g13, g15, v16) hP hD hS ⟨(show 0 ≤ v16.toInt ∧ v16.toInt ≤ 5 from by omega), (show (v16, g13, g15, v16) = J_X12_tell sm tm p0 p1 from by subst e1 w4 w9 eg13 eg15 e16; first | (refine Eq.symm ?_; refine Eq.trans (if_neg c5) ?_; refine Eq.trans (if_neg c10) ?_; refine Eq.trans (if_neg c11) ?_; rfl) | (unfold J_X12_tell; try dsimp only; rw [if_neg c5, if_neg c10, if_neg c11]))⟩ dX12_tell_67
      · have f11 : (sm 0 26).toInt = 5 := f_eq rfl (by decide) c11
        refine lv_bipush (v := (-4)) hx hb dX12_tell_30 (by decide) ?_
        have hlit17 : ((-4) : Int32).toInt = -4 := by decide
        rw [hQ]
        exact x_i cx hr ((sm 16), (sm 17), (sm 0 26)) hP hD hS ⟨(show 0 ≤ (sm 0 26).toInt ∧ (sm 0 26).toInt ≤ 5 from by omega), (show (((-4) : Int32), (sm 16), (sm 17), (sm 0 26)) = J_X12_tell sm tm p0 p1 from by subst e1 w4 w9; first | (refine Eq.symm ?_; refine Eq.trans (if_neg c5) ?_; refine Eq.trans (if_neg c10) ?_; refine Eq.trans (if_pos c11) ?_; rfl) | (unfold J_X12_tell; try dsimp only; rw [if_neg c5, if_neg c10, if_pos c11]))⟩ dX12_tell_32
    · have f10 : r8.toInt = 0 := f_eq rfl (by decide) c10
      refine lv_bipush (v := (-2)) hx hb dX12_tell_19 (by decide) ?_
      have hlit18 : ((-2) : Int32).toInt = -2 := by decide
      rw [hQ]
      exact x_i cx hr ((sm 16), (sm 17), (sm 0 26)) hP hD hS ⟨(show 0 ≤ (sm 0 26).toInt ∧ (sm 0 26).toInt ≤ 5 from by omega), (show (((-2) : Int32), (sm 16), (sm 17), (sm 0 26)) = J_X12_tell sm tm p0 p1 from by subst e1 w4 w9; first | (refine Eq.symm ?_; refine Eq.trans (if_neg c5) ?_; refine Eq.trans (if_pos c10) ?_; rfl) | (unfold J_X12_tell; try dsimp only; rw [if_neg c5, if_pos c10]))⟩ dX12_tell_21
theorem fw_X12_untell_258 : Cond.fieldLink RX12 258 "StillInAugustModel" "rows" "I" ∈ wsX12_untell := by decide +kernel
theorem iw_X12_untell_X12 : ∀ w ∈ u_ws RX12 TX12 33, w ∈ wsX12_untell := fun _ h => List.mem_cons_of_mem _ (List.mem_append_right _ h)
def J_X12_untell (sm : Nat → Nat → Int32) (tm : Nat → Nat → Int64) : Int32 × Int32 := ((sm 0 26), (0 : Int32))
set_option maxHeartbeats 4000000 in
set_option maxRecDepth 100000 in
theorem c_X12_untell (l : Launch) (D : va_G) (k : Nat → ClassId) (b : Nat → Nat) (qm : Nat → Nat) (sm : Nat → Nat → Int32) (tm : Nat → Nat → Int64) (sz : Nat) : MetI l D k b yX12_untell wsX12_untell ({ frames := 0, cells := 0, slots := 0, locals := 0 } : Room) [cell22_ qm sm tm, cell5_ k qm sm, cell13_ k qm sm, cell8_ k qm sm, cell6_ k qm sm, cell15_ k qm sm, cell14_ k qm tm, cell12_ k qm tm, cell18_ k qm tm, cell17_ k qm tm, cell19_ k qm tm, cell21_ k qm tm, cell20_ k qm sm, cell16_ k qm sm, cell11_ k qm sm, cell10_ k qm sm, cell9_ k qm sm, cell7_ k qm sm] sz [.ref (qm 0)] (fun (r : Int32) (u : Int32) => (r.toInt = (sm 0 26).toInt) ∧ (u.toInt = 0) ∧ ((r, u) = J_X12_untell sm tm)) (fun u => [cell132_ qm sm tm u, cell5_ k qm sm, cell13_ k qm sm, cell8_ k qm sm, cell6_ k qm sm, cell15_ k qm sm, cell14_ k qm tm, cell12_ k qm tm, cell18_ k qm tm, cell17_ k qm tm, cell19_ k qm tm, cell21_ k qm tm, cell20_ k qm sm, cell16_ k qm sm, cell11_ k qm sm, cell10_ k qm sm, cell9_ k qm sm, cell7_ k qm sm]) := by
  refine g_enter (cc := cX12_untell) (maxL := 2) (ret := (some .int)) (by decide) rfl (Nat.le_of_ble_eq_true rfl) ?_
  intro p e s m below meth c A hsz hAe cx hr hP hD hS ls hl
  rw [hAe]
  refine g_q (fun Q hQ => ?_)
  have hx := cx.1.1
  have hb := cx.1.2.1
  have hl : lv_has ls 2 [(0, .ref (qm 0))] := hl
  obtain ⟨H, eH⟩ : ∃ H : Heap, H = s.heap := ⟨_, rfl⟩
  obtain ⟨locs, el⟩ : ∃ L : List Loc, L = [] := ⟨_, rfl⟩
  have hP : va_P D vwCl [cell22_ qm sm tm, cell5_ k qm sm, cell13_ k qm sm, cell8_ k qm sm, cell6_ k qm sm, cell15_ k qm sm, cell14_ k qm tm, cell12_ k qm tm, cell18_ k qm tm, cell17_ k qm tm, cell19_ k qm tm, cell21_ k qm tm, cell20_ k qm sm, cell16_ k qm sm, cell11_ k qm sm, cell10_ k qm sm, cell9_ k qm sm, cell7_ k qm sm] H := by rw [eH]; exact hP
  have hD : va_D A [cell22_ qm sm tm, cell5_ k qm sm, cell13_ k qm sm, cell8_ k qm sm, cell6_ k qm sm, cell15_ k qm sm, cell14_ k qm tm, cell12_ k qm tm, cell18_ k qm tm, cell17_ k qm tm, cell19_ k qm tm, cell21_ k qm tm, cell20_ k qm sm, cell16_ k qm sm, cell11_ k qm sm, cell10_ k qm sm, cell9_ k qm sm, cell7_ k qm sm] := hD
  have hS : va_S A s.heap H locs := by rw [eH, el]; exact hS
  suffices goal : W p l e ({ frames := 0, cells := 0, slots := 0, locals := 0 } : Room) s m ([.ref (qm 0)] : List Value).toArray below meth c H locs 0 0 Q (F0 m 0 ls []) by rw [eH, el] at goal; exact goal
  refine lv_aload_n hx hb dX12_untell_0 rfl (lv_at hl 0 rfl) ?_
  refine g_get cx hP iw_X12_untell_X12 0 rfl rfl 26 (by decide) rfl fw_X12_untell_258 rfl dX12_untell_1 ?_
  refine lv_istore_n (lv' := [(1, .int (sm 0 26)), (0, .ref (qm 0))]) hx hb dX12_untell_4 rfl hl (by decide) rfl (fun ls hl => ?_)
  refine lv_aload_n hx hb dX12_untell_5 rfl (lv_at hl 1 rfl) ?_
  refine lv_iconst (v := 0) hx hb dX12_untell_6 (by decide) ?_
  refine g_pt cx hP hD hS iw_X12_untell_X12 tyX12 tyX12_ok nmX12 0 rfl rfl 26 (by decide) rfl fw_X12_untell_258 (ty := .int) rfl rfl rfl (Nat.le_of_ble_eq_true rfl) dX12_untell_7 (fun H locs hP hD hS => ?_)
  have hP : va_P D vwCl [cell132_ qm sm tm 0, cell5_ k qm sm, cell13_ k qm sm, cell8_ k qm sm, cell6_ k qm sm, cell15_ k qm sm, cell14_ k qm tm, cell12_ k qm tm, cell18_ k qm tm, cell17_ k qm tm, cell19_ k qm tm, cell21_ k qm tm, cell20_ k qm sm, cell16_ k qm sm, cell11_ k qm sm, cell10_ k qm sm, cell9_ k qm sm, cell7_ k qm sm] H := hP
  have hD : va_D A [cell132_ qm sm tm 0, cell5_ k qm sm, cell13_ k qm sm, cell8_ k qm sm, cell6_ k qm sm, cell15_ k qm sm, cell14_ k qm tm, cell12_ k qm tm, cell18_ k qm tm, cell17_ k qm tm, cell19_ k qm tm, cell21_ k qm tm, cell20_ k qm sm, cell16_ k qm sm, cell11_ k qm sm, cell10_ k qm sm, cell9_ k qm sm, cell7_ k qm sm] := hD
  have hlit1 : (0 : Int32).toInt = 0 := by decide
  refine lv_iload_n hx hb dX12_untell_10 rfl (lv_at hl 0 rfl) ?_
  have hlit2 : (0 : Int32).toInt = 0 := by decide
  rw [hQ]
  exact x_i cx hr 0 hP hD hS ⟨(show (sm 0 26).toInt = (sm 0 26).toInt from by omega), (show (0 : Int32).toInt = 0 from by omega), (show ((sm 0 26), (0 : Int32)) = J_X12_untell sm tm from by rfl)⟩ dX12_untell_11
theorem fw_X12_goThrough_13 : Cond.fieldLink RX12 13 "StillInAugustModel" "house" "[I" ∈ wsX12_goThrough := by decide +kernel
theorem fw_X12_goThrough_258 : Cond.fieldLink RX12 258 "StillInAugustModel" "rows" "I" ∈ wsX12_goThrough := by decide +kernel
theorem fw_X12_goThrough_261 : Cond.fieldLink RX12 261 "StillInAugustModel" "rowCost" "J" ∈ wsX12_goThrough := by decide +kernel
theorem fw_X12_goThrough_265 : Cond.fieldLink RX12 265 "StillInAugustModel" "rowUp" "J" ∈ wsX12_goThrough := by decide +kernel
theorem fw_X12_goThrough_268 : Cond.fieldLink RX12 268 "StillInAugustModel" "rowDown" "J" ∈ wsX12_goThrough := by decide +kernel
theorem fw_X12_goThrough_271 : Cond.fieldLink RX12 271 "StillInAugustModel" "rowWorst" "I" ∈ wsX12_goThrough := by decide +kernel
theorem fw_X12_goThrough_57 : Cond.fieldLink RX12 57 "StillInAugustModel" "rowAct" "[I" ∈ wsX12_goThrough := by decide +kernel
theorem fw_X12_goThrough_60 : Cond.fieldLink RX12 60 "StillInAugustModel" "rowGone" "[I" ∈ wsX12_goThrough := by decide +kernel
theorem iw_X12_goThrough_X12 : ∀ w ∈ u_ws RX12 TX12 33, w ∈ wsX12_goThrough := fun _ h => List.mem_cons_of_mem _ (List.mem_append_right _ h)
def B_X12_goThrough_30 (sm : Nat → Nat → Int32) (tm : Nat → Nat → Int64) (z : Int32 × Int32 × Int32 × Int32 × Int64 × Int64 × Int64 × Int32) : Sum (Int32 × Int32 × Int32 × Int32 × Int64 × Int64 × Int64 × Int32) (Int32 × Int64 × Int64 × Int64 × Int32) := let v85 := (z.1); let v86 := (z.2.1); let v87 := (z.2.2.1); let v88 := (z.2.2.2.1); let x89 := (z.2.2.2.2.1); let x90 := (z.2.2.2.2.2.1); let x91 := (z.2.2.2.2.2.2.1); let x92 := (z.2.2.2.2.2.2.2); if (sm 0 26) ≤ v85 then if (sm 0 26) = ((sm 2) (0 : Int32).toNatClampNeg) then LetF (J_X12_bonus (up2 sm 0 (upd (sm 0) 32 x92)) (up2L tm 0 (vp_updL (vp_updL (vp_updL (tm 0) 29 x89) 30 x90) 31 x91)) v88) (fun y103 => Sum.inr ((((-9) : Int32), (x89 + (y103.toInt64)), x90, x91, x92))) else Sum.inr ((((-9) : Int32), (x89 + (0 : Int64)), x90, x91, x92)) else LetF (J_X12_isWeek (up2 sm 0 (upd (sm 0) 32 x92)) (up2L tm 0 (vp_updL (vp_updL (vp_updL (tm 0) 29 x89) 30 x90) 31 x91)) v85) (fun y112 => if y112 = 0 then Sum.inr ((v85, x89, x90, x91, x92)) else LetF (J_X12_after (up2 sm 0 (upd (sm 0) 32 x92)) (up2L tm 0 (vp_updL (vp_updL (vp_updL (tm 0) 29 x89) 30 x90) 31 x91)) v85 v88 (((sm 16) (v85).toNatClampNeg))) (fun y121 => if y121 = (-9) then Sum.inr ((v85, x89, x90, x91, x92)) else if (J_X12_left y121 (((sm 17) (v85).toNatClampNeg))) = (-9) then Sum.inr ((v85, x89, x90, x91, x92)) else LetF (J_X12_stays (up2 sm 0 (upd (sm 0) 32 x92)) (up2L tm 0 (vp_updL (vp_updL (vp_updL (tm 0) 29 x89) 30 x90) 31 x91)) 0 (y121 / (100 : Int32)) (((y121 / (100 : Int32)) - (((sm 17) (v85).toNatClampNeg) / (100 : Int32))))) (fun y147 => LetF (J_X12_stays (up2 sm 0 (upd (sm 0) 32 x92)) (up2L tm 0 (vp_updL (vp_updL (vp_updL (tm 0) 29 x89) 30 x90) 31 x91)) 1 (((y121 / (10 : Int32)) - (y121 / (10 : Int32)) / (10 : Int32) * (10 : Int32))) ((((y121 / (10 : Int32)) - (y121 / (10 : Int32)) / (10 : Int32) * (10 : Int32)) - ((((sm 17) (v85).toNatClampNeg) / (10 : Int32)) - (((sm 17) (v85).toNatClampNeg) / (10 : Int32)) / (10 : Int32) * (10 : Int32))))) (fun y152 => LetF (J_X12_stays (up2 sm 0 (upd (sm 0) 32 x92)) (up2L tm 0 (vp_updL (vp_updL (vp_updL (tm 0) 29 x89) 30 x90) 31 x91)) 2 ((y121 - y121 / (10 : Int32) * (10 : Int32))) (((y121 - y121 / (10 : Int32) * (10 : Int32)) - (((sm 17) (v85).toNatClampNeg) - ((sm 17) (v85).toNatClampNeg) / (10 : Int32) * (10 : Int32))))) (fun y158 => if ((y147 * y152) * y158) = 0 then Sum.inr ((v85, x89, x90, x91, x92)) else LetF (J_X12_power 5 (J_X12_all y121)) (fun y170 => LetF (J_X12_costOf (up2 sm 0 (upd (sm 0) 32 x92)) (up2L tm 0 (vp_updL (vp_updL (vp_updL (tm 0) 29 x89) 30 (x90 * (((y147 * y152) * y158).toInt64))) 31 (x91 * (y170.toInt64)))) v85 y121 v87 (((sm 16) (v85).toNatClampNeg))) (fun y178 => LetF (J_X12_over (up2 sm 0 (upd (sm 0) 32 x92)) (up2L tm 0 (vp_updL (vp_updL (vp_updL (tm 0) 29 (x89 + (y178.toInt64))) 30 (x90 * (((y147 * y152) * y158).toInt64))) 31 (x91 * (y170.toInt64)))) v85 y121 v87 (((sm 16) (v85).toNatClampNeg))) (fun y186 => if 0 ≤ y186 then if 0 ≤ v86 then Sum.inl (((v85 + 1), v86, (((sm 16) (v85).toNatClampNeg) - ((sm 16) (v85).toNatClampNeg) / (10 : Int32) * (10 : Int32)), (J_X12_left y121 (((sm 17) (v85).toNatClampNeg))), (x89 + (y178.toInt64)), (x90 * (((y147 * y152) * y158).toInt64)), (x91 * (y170.toInt64)), x92)) else Sum.inl (((v85 + 1), (0 : Int32), (((sm 16) (v85).toNatClampNeg) - ((sm 16) (v85).toNatClampNeg) / (10 : Int32) * (10 : Int32)), (J_X12_left y121 (((sm 17) (v85).toNatClampNeg))), (x89 + (y178.toInt64)), (x90 * (((y147 * y152) * y158).toInt64)), (x91 * (y170.toInt64)), v85)) else if ((-y186) * ((sm 2) (3 : Int32).toNatClampNeg)) ≤ v86 then if ((-y186) * ((sm 2) (3 : Int32).toNatClampNeg)) ≤ v86 then Sum.inl (((v85 + 1), v86, (((sm 16) (v85).toNatClampNeg) - ((sm 16) (v85).toNatClampNeg) / (10 : Int32) * (10 : Int32)), (J_X12_left y121 (((sm 17) (v85).toNatClampNeg))), (x89 + (y178.toInt64)), (x90 * (((y147 * y152) * y158).toInt64)), (x91 * (y170.toInt64)), x92)) else Sum.inl (((v85 + 1), ((-y186) * ((sm 2) (3 : Int32).toNatClampNeg)), (((sm 16) (v85).toNatClampNeg) - ((sm 16) (v85).toNatClampNeg) / (10 : Int32) * (10 : Int32)), (J_X12_left y121 (((sm 17) (v85).toNatClampNeg))), (x89 + (y178.toInt64)), (x90 * (((y147 * y152) * y158).toInt64)), (x91 * (y170.toInt64)), x92)) else if ((-y186) * ((sm 2) (3 : Int32).toNatClampNeg)) ≤ v86 then Sum.inl (((v85 + 1), v86, (((sm 16) (v85).toNatClampNeg) - ((sm 16) (v85).toNatClampNeg) / (10 : Int32) * (10 : Int32)), (J_X12_left y121 (((sm 17) (v85).toNatClampNeg))), (x89 + (y178.toInt64)), (x90 * (((y147 * y152) * y158).toInt64)), (x91 * (y170.toInt64)), v85)) else Sum.inl (((v85 + 1), ((-y186) * ((sm 2) (3 : Int32).toNatClampNeg)), (((sm 16) (v85).toNatClampNeg) - ((sm 16) (v85).toNatClampNeg) / (10 : Int32) * (10 : Int32)), (J_X12_left y121 (((sm 17) (v85).toNatClampNeg))), (x89 + (y178.toInt64)), (x90 * (((y147 * y152) * y158).toInt64)), (x91 * (y170.toInt64)), v85))))))))))
def J_X12_goThrough (sm : Nat → Nat → Int32) (tm : Nat → Nat → Int64) : Int32 × Int64 × Int64 × Int64 × Int32 := LTs default (B_X12_goThrough_30 sm tm) 6 ((0 : Int32), (0 : Int32), (0 : Int32), (0 : Int32), (0 : Int64), (1 : Int64), (1 : Int64), ((-9) : Int32))
theorem exl_X12_goThrough_0 {sm : Nat → Nat → Int32} {tm : Nat → Nat → Int64} : J_X12_goThrough sm tm = LTs (default : Int32 × Int64 × Int64 × Int64 × Int32) (B_X12_goThrough_30 sm tm) 6 ((0 : Int32), (0 : Int32), (0 : Int32), (0 : Int32), (0 : Int64), (1 : Int64), (1 : Int64), ((-9) : Int32)) := by unfold J_X12_goThrough; rfl
theorem exl_X12_goThrough_1 {sm : Nat → Nat → Int32} {tm : Nat → Nat → Int64} {v85 : Int32} {v86 : Int32} {v87 : Int32} {v88 : Int32} {x89 : Int64} {x90 : Int64} {x91 : Int64} {x92 : Int32} {v98 : Int64} {v96 : Int32} (e96 : v96 = ((sm 2) ((0 : Int32).toNatClampNeg))) (e98 : v98 = (x89 + (0 : Int64))) (c94 : (sm 0 26) ≤ v85) (c97 : ¬ ((sm 0 26) = v96)) : (B_X12_goThrough_30 sm tm) (v85, v86, v87, v88, x89, x90, x91, x92) = Sum.inr ((((-9) : Int32), v98, x90, x91, x92)) := by subst e96 e98; unfold B_X12_goThrough_30; refine Eq.trans (if_pos c94) ?_; refine Eq.trans (if_neg c97) ?_; rfl
theorem exl_X12_goThrough_2 {sm : Nat → Nat → Int32} {tm : Nat → Nat → Int64} {v85 : Int32} {v86 : Int32} {v87 : Int32} {v88 : Int32} {x89 : Int64} {x90 : Int64} {x91 : Int64} {x92 : Int32} {v105 : Int64} {v96 : Int32} {v104 : Int64} {r101 : Int32} (e96 : v96 = ((sm 2) ((0 : Int32).toNatClampNeg))) (e104 : v104 = (r101 : Int32).toInt64) (e105 : v105 = (x89 + v104)) (c94 : (sm 0 26) ≤ v85) (c97 : (sm 0 26) = v96) (w102 : r101 = J_X12_bonus (up2 sm 0 (upd (sm 0) 32 x92)) (up2L tm 0 (vp_updL (vp_updL (vp_updL (tm 0) 29 x89) 30 x90) 31 x91)) v88) : (B_X12_goThrough_30 sm tm) (v85, v86, v87, v88, x89, x90, x91, x92) = Sum.inr ((((-9) : Int32), v105, x90, x91, x92)) := by subst e96 e104 e105; unfold B_X12_goThrough_30; refine Eq.trans (if_pos c94) ?_; refine Eq.trans (if_pos c97) ?_; refine lt_e w102 ?_; rfl
theorem exl_X12_goThrough_3 {sm : Nat → Nat → Int32} {tm : Nat → Nat → Int64} {v85 : Int32} {v86 : Int32} {v87 : Int32} {v88 : Int32} {x89 : Int64} {x90 : Int64} {x91 : Int64} {x92 : Int32} {r108 : Int32} (c94 : ¬ ((sm 0 26) ≤ v85)) (w111 : r108 = J_X12_isWeek (up2 sm 0 (upd (sm 0) 32 x92)) (up2L tm 0 (vp_updL (vp_updL (vp_updL (tm 0) 29 x89) 30 x90) 31 x91)) v85) (c113 : r108 = (0 : Int32)) : (B_X12_goThrough_30 sm tm) (v85, v86, v87, v88, x89, x90, x91, x92) = Sum.inr ((v85, x89, x90, x91, x92)) := by unfold B_X12_goThrough_30; refine Eq.trans (if_neg c94) ?_; refine lt_e w111 ?_; refine Eq.trans (if_pos c113) ?_; rfl
theorem exl_X12_goThrough_4 {sm : Nat → Nat → Int32} {tm : Nat → Nat → Int64} {v85 : Int32} {v86 : Int32} {v87 : Int32} {v88 : Int32} {x89 : Int64} {x90 : Int64} {x91 : Int64} {x92 : Int32} {v193 : Int32} {v192 : Int32} {r126 : Int32} {v180 : Int64} {v162 : Int64} {v172 : Int64} {v117 : Int32} {v124 : Int32} {r119 : Int32} {v130 : Int32} {v131 : Int32} {v133 : Int32} {v134 : Int32} {v135 : Int32} {v137 : Int32} {v138 : Int32} {v139 : Int32} {v140 : Int32} {v141 : Int32} {v142 : Int32} {v143 : Int32} {v148 : Int32} {v153 : Int32} {r145 : Int32} {r150 : Int32} {v154 : Int32} {v159 : Int32} {r156 : Int32} {v161 : Int64} {r164 : Int32} {v171 : Int64} {r167 : Int32} {v174 : Int32} {v179 : Int64} {r176 : Int32} {v182 : Int32} {v191 : Int32} {r108 : Int32} {r184 : Int32} (e117 : v117 = ((sm 16) (v85).toNatClampNeg)) (e124 : v124 = ((sm 17) (v85).toNatClampNeg)) (w127 : r126 = J_X12_left r119 v124) (e130 : v130 = ((sm 17) (v85).toNatClampNeg)) (e131 : v131 = (v130 / (100 : Int32))) (e133 : v133 = ((sm 17) (v85).toNatClampNeg)) (e134 : v134 = (v133 / (10 : Int32))) (e135 : v135 = (v134 - v134 / (10 : Int32) * (10 : Int32))) (e137 : v137 = ((sm 17) (v85).toNatClampNeg)) (e138 : v138 = (v137 - v137 / (10 : Int32) * (10 : Int32))) (e139 : v139 = (r119 / (100 : Int32))) (e140 : v140 = (r119 / (10 : Int32))) (e141 : v141 = (v140 - v140 / (10 : Int32) * (10 : Int32))) (e142 : v142 = (r119 - r119 / (10 : Int32) * (10 : Int32))) (e143 : v143 = (v139 - v131)) (e148 : v148 = (v141 - v135)) (e153 : v153 = (r145 * r150)) (e154 : v154 = (v142 - v138)) (e159 : v159 = (v153 * r156)) (e161 : v161 = (v159 : Int32).toInt64) (e162 : v162 = (x90 * v161)) (w165 : r164 = J_X12_all r119) (e171 : v171 = (r167 : Int32).toInt64) (e172 : v172 = (x91 * v171)) (e174 : v174 = ((sm 16) (v85).toNatClampNeg)) (e179 : v179 = (r176 : Int32).toInt64) (e180 : v180 = (x89 + v179)) (e182 : v182 = ((sm 16) (v85).toNatClampNeg)) (e191 : v191 = ((sm 16) (v85).toNatClampNeg)) (e192 : v192 = (v191 - v191 / (10 : Int32) * (10 : Int32))) (e193 : v193 = v85 + 1) (c94 : ¬ ((sm 0 26) ≤ v85)) (w111 : r108 = J_X12_isWeek (up2 sm 0 (upd (sm 0) 32 x92)) (up2L tm 0 (vp_updL (vp_updL (vp_updL (tm 0) 29 x89) 30 x90) 31 x91)) v85) (c113 : ¬ (r108 = (0 : Int32))) (w120 : r119 = J_X12_after (up2 sm 0 (upd (sm 0) 32 x92)) (up2L tm 0 (vp_updL (vp_updL (vp_updL (tm 0) 29 x89) 30 x90) 31 x91)) v85 v88 v117) (c122 : ¬ (r119 = ((-9) : Int32))) (c128 : ¬ (r126 = ((-9) : Int32))) (w146 : r145 = J_X12_stays (up2 sm 0 (upd (sm 0) 32 x92)) (up2L tm 0 (vp_updL (vp_updL (vp_updL (tm 0) 29 x89) 30 x90) 31 x91)) (0 : Int32) v139 v143) (w151 : r150 = J_X12_stays (up2 sm 0 (upd (sm 0) 32 x92)) (up2L tm 0 (vp_updL (vp_updL (vp_updL (tm 0) 29 x89) 30 x90) 31 x91)) (1 : Int32) v141 v148) (w157 : r156 = J_X12_stays (up2 sm 0 (upd (sm 0) 32 x92)) (up2L tm 0 (vp_updL (vp_updL (vp_updL (tm 0) 29 x89) 30 x90) 31 x91)) (2 : Int32) v142 v154) (c160 : ¬ (v159 = (0 : Int32))) (w169 : r167 = J_X12_power (5 : Int32) r164) (w177 : r176 = J_X12_costOf (up2 sm 0 (upd (sm 0) 32 x92)) (up2L tm 0 (vp_updL (vp_updL (vp_updL (tm 0) 29 x89) 30 v162) 31 v172)) v85 r119 v87 v174) (w185 : r184 = J_X12_over (up2 sm 0 (upd (sm 0) 32 x92)) (up2L tm 0 (vp_updL (vp_updL (vp_updL (tm 0) 29 v180) 30 v162) 31 v172)) v85 r119 v87 v182) (c187 : (0 : Int32) ≤ r184) (c188 : (0 : Int32) ≤ v86) : (B_X12_goThrough_30 sm tm) (v85, v86, v87, v88, x89, x90, x91, x92) = Sum.inl (v193, v86, v192, r126, v180, v162, v172, x92) := by subst e117 e124 w127 e130 e131 e133 e134 e135 e137 e138 e139 e140 e141 e142 e143 e148 e153 e154 e159 e161 e162 w165 e171 e172 e174 e179 e180 e182 e191 e192 e193; unfold B_X12_goThrough_30; refine Eq.trans (if_neg c94) ?_; refine lt_e w111 ?_; refine Eq.trans (if_neg c113) ?_; refine lt_e w120 ?_; refine Eq.trans (if_neg c122) ?_; refine Eq.trans (if_neg c128) ?_; refine lt_e w146 ?_; refine lt_e w151 ?_; refine lt_e w157 ?_; refine Eq.trans (if_neg c160) ?_; refine lt_e w169 ?_; refine lt_e w177 ?_; refine lt_e w185 ?_; refine Eq.trans (if_pos c187) ?_; refine Eq.trans (if_pos c188) ?_; rfl
theorem exl_X12_goThrough_5 {sm : Nat → Nat → Int32} {tm : Nat → Nat → Int64} {v85 : Int32} {v86 : Int32} {v87 : Int32} {v88 : Int32} {x89 : Int64} {x90 : Int64} {x91 : Int64} {x92 : Int32} {v198 : Int32} {v197 : Int32} {r126 : Int32} {v180 : Int64} {v162 : Int64} {v172 : Int64} {v117 : Int32} {v124 : Int32} {r119 : Int32} {v130 : Int32} {v131 : Int32} {v133 : Int32} {v134 : Int32} {v135 : Int32} {v137 : Int32} {v138 : Int32} {v139 : Int32} {v140 : Int32} {v141 : Int32} {v142 : Int32} {v143 : Int32} {v148 : Int32} {v153 : Int32} {r145 : Int32} {r150 : Int32} {v154 : Int32} {v159 : Int32} {r156 : Int32} {v161 : Int64} {r164 : Int32} {v171 : Int64} {r167 : Int32} {v174 : Int32} {v179 : Int64} {r176 : Int32} {v182 : Int32} {v196 : Int32} {r108 : Int32} {r184 : Int32} (e117 : v117 = ((sm 16) (v85).toNatClampNeg)) (e124 : v124 = ((sm 17) (v85).toNatClampNeg)) (w127 : r126 = J_X12_left r119 v124) (e130 : v130 = ((sm 17) (v85).toNatClampNeg)) (e131 : v131 = (v130 / (100 : Int32))) (e133 : v133 = ((sm 17) (v85).toNatClampNeg)) (e134 : v134 = (v133 / (10 : Int32))) (e135 : v135 = (v134 - v134 / (10 : Int32) * (10 : Int32))) (e137 : v137 = ((sm 17) (v85).toNatClampNeg)) (e138 : v138 = (v137 - v137 / (10 : Int32) * (10 : Int32))) (e139 : v139 = (r119 / (100 : Int32))) (e140 : v140 = (r119 / (10 : Int32))) (e141 : v141 = (v140 - v140 / (10 : Int32) * (10 : Int32))) (e142 : v142 = (r119 - r119 / (10 : Int32) * (10 : Int32))) (e143 : v143 = (v139 - v131)) (e148 : v148 = (v141 - v135)) (e153 : v153 = (r145 * r150)) (e154 : v154 = (v142 - v138)) (e159 : v159 = (v153 * r156)) (e161 : v161 = (v159 : Int32).toInt64) (e162 : v162 = (x90 * v161)) (w165 : r164 = J_X12_all r119) (e171 : v171 = (r167 : Int32).toInt64) (e172 : v172 = (x91 * v171)) (e174 : v174 = ((sm 16) (v85).toNatClampNeg)) (e179 : v179 = (r176 : Int32).toInt64) (e180 : v180 = (x89 + v179)) (e182 : v182 = ((sm 16) (v85).toNatClampNeg)) (e196 : v196 = ((sm 16) (v85).toNatClampNeg)) (e197 : v197 = (v196 - v196 / (10 : Int32) * (10 : Int32))) (e198 : v198 = v85 + 1) (c94 : ¬ ((sm 0 26) ≤ v85)) (w111 : r108 = J_X12_isWeek (up2 sm 0 (upd (sm 0) 32 x92)) (up2L tm 0 (vp_updL (vp_updL (vp_updL (tm 0) 29 x89) 30 x90) 31 x91)) v85) (c113 : ¬ (r108 = (0 : Int32))) (w120 : r119 = J_X12_after (up2 sm 0 (upd (sm 0) 32 x92)) (up2L tm 0 (vp_updL (vp_updL (vp_updL (tm 0) 29 x89) 30 x90) 31 x91)) v85 v88 v117) (c122 : ¬ (r119 = ((-9) : Int32))) (c128 : ¬ (r126 = ((-9) : Int32))) (w146 : r145 = J_X12_stays (up2 sm 0 (upd (sm 0) 32 x92)) (up2L tm 0 (vp_updL (vp_updL (vp_updL (tm 0) 29 x89) 30 x90) 31 x91)) (0 : Int32) v139 v143) (w151 : r150 = J_X12_stays (up2 sm 0 (upd (sm 0) 32 x92)) (up2L tm 0 (vp_updL (vp_updL (vp_updL (tm 0) 29 x89) 30 x90) 31 x91)) (1 : Int32) v141 v148) (w157 : r156 = J_X12_stays (up2 sm 0 (upd (sm 0) 32 x92)) (up2L tm 0 (vp_updL (vp_updL (vp_updL (tm 0) 29 x89) 30 x90) 31 x91)) (2 : Int32) v142 v154) (c160 : ¬ (v159 = (0 : Int32))) (w169 : r167 = J_X12_power (5 : Int32) r164) (w177 : r176 = J_X12_costOf (up2 sm 0 (upd (sm 0) 32 x92)) (up2L tm 0 (vp_updL (vp_updL (vp_updL (tm 0) 29 x89) 30 v162) 31 v172)) v85 r119 v87 v174) (w185 : r184 = J_X12_over (up2 sm 0 (upd (sm 0) 32 x92)) (up2L tm 0 (vp_updL (vp_updL (vp_updL (tm 0) 29 v180) 30 v162) 31 v172)) v85 r119 v87 v182) (c187 : (0 : Int32) ≤ r184) (c188 : ¬ ((0 : Int32) ≤ v86)) : (B_X12_goThrough_30 sm tm) (v85, v86, v87, v88, x89, x90, x91, x92) = Sum.inl (v198, 0, v197, r126, v180, v162, v172, v85) := by subst e117 e124 w127 e130 e131 e133 e134 e135 e137 e138 e139 e140 e141 e142 e143 e148 e153 e154 e159 e161 e162 w165 e171 e172 e174 e179 e180 e182 e196 e197 e198; unfold B_X12_goThrough_30; refine Eq.trans (if_neg c94) ?_; refine lt_e w111 ?_; refine Eq.trans (if_neg c113) ?_; refine lt_e w120 ?_; refine Eq.trans (if_neg c122) ?_; refine Eq.trans (if_neg c128) ?_; refine lt_e w146 ?_; refine lt_e w151 ?_; refine lt_e w157 ?_; refine Eq.trans (if_neg c160) ?_; refine lt_e w169 ?_; refine lt_e w177 ?_; refine lt_e w185 ?_; refine Eq.trans (if_pos c187) ?_; refine Eq.trans (if_neg c188) ?_; rfl
theorem exl_X12_goThrough_6 {sm : Nat → Nat → Int32} {tm : Nat → Nat → Int64} {v85 : Int32} {v86 : Int32} {v87 : Int32} {v88 : Int32} {x89 : Int64} {x90 : Int64} {x91 : Int64} {x92 : Int32} {v209 : Int32} {v208 : Int32} {r126 : Int32} {v180 : Int64} {v162 : Int64} {v172 : Int64} {v117 : Int32} {v124 : Int32} {r119 : Int32} {v130 : Int32} {v131 : Int32} {v133 : Int32} {v134 : Int32} {v135 : Int32} {v137 : Int32} {v138 : Int32} {v139 : Int32} {v140 : Int32} {v141 : Int32} {v142 : Int32} {v143 : Int32} {v148 : Int32} {v153 : Int32} {r145 : Int32} {r150 : Int32} {v154 : Int32} {v159 : Int32} {r156 : Int32} {v161 : Int64} {r164 : Int32} {v171 : Int64} {r167 : Int32} {v174 : Int32} {v179 : Int64} {r176 : Int32} {v182 : Int32} {v200 : Int32} {r184 : Int32} {v202 : Int32} {v203 : Int32} {v207 : Int32} {r108 : Int32} (e117 : v117 = ((sm 16) (v85).toNatClampNeg)) (e124 : v124 = ((sm 17) (v85).toNatClampNeg)) (w127 : r126 = J_X12_left r119 v124) (e130 : v130 = ((sm 17) (v85).toNatClampNeg)) (e131 : v131 = (v130 / (100 : Int32))) (e133 : v133 = ((sm 17) (v85).toNatClampNeg)) (e134 : v134 = (v133 / (10 : Int32))) (e135 : v135 = (v134 - v134 / (10 : Int32) * (10 : Int32))) (e137 : v137 = ((sm 17) (v85).toNatClampNeg)) (e138 : v138 = (v137 - v137 / (10 : Int32) * (10 : Int32))) (e139 : v139 = (r119 / (100 : Int32))) (e140 : v140 = (r119 / (10 : Int32))) (e141 : v141 = (v140 - v140 / (10 : Int32) * (10 : Int32))) (e142 : v142 = (r119 - r119 / (10 : Int32) * (10 : Int32))) (e143 : v143 = (v139 - v131)) (e148 : v148 = (v141 - v135)) (e153 : v153 = (r145 * r150)) (e154 : v154 = (v142 - v138)) (e159 : v159 = (v153 * r156)) (e161 : v161 = (v159 : Int32).toInt64) (e162 : v162 = (x90 * v161)) (w165 : r164 = J_X12_all r119) (e171 : v171 = (r167 : Int32).toInt64) (e172 : v172 = (x91 * v171)) (e174 : v174 = ((sm 16) (v85).toNatClampNeg)) (e179 : v179 = (r176 : Int32).toInt64) (e180 : v180 = (x89 + v179)) (e182 : v182 = ((sm 16) (v85).toNatClampNeg)) (e200 : v200 = (-r184)) (e202 : v202 = ((sm 2) ((3 : Int32).toNatClampNeg))) (e203 : v203 = (v200 * v202)) (e207 : v207 = ((sm 16) (v85).toNatClampNeg)) (e208 : v208 = (v207 - v207 / (10 : Int32) * (10 : Int32))) (e209 : v209 = v85 + 1) (c94 : ¬ ((sm 0 26) ≤ v85)) (w111 : r108 = J_X12_isWeek (up2 sm 0 (upd (sm 0) 32 x92)) (up2L tm 0 (vp_updL (vp_updL (vp_updL (tm 0) 29 x89) 30 x90) 31 x91)) v85) (c113 : ¬ (r108 = (0 : Int32))) (w120 : r119 = J_X12_after (up2 sm 0 (upd (sm 0) 32 x92)) (up2L tm 0 (vp_updL (vp_updL (vp_updL (tm 0) 29 x89) 30 x90) 31 x91)) v85 v88 v117) (c122 : ¬ (r119 = ((-9) : Int32))) (c128 : ¬ (r126 = ((-9) : Int32))) (w146 : r145 = J_X12_stays (up2 sm 0 (upd (sm 0) 32 x92)) (up2L tm 0 (vp_updL (vp_updL (vp_updL (tm 0) 29 x89) 30 x90) 31 x91)) (0 : Int32) v139 v143) (w151 : r150 = J_X12_stays (up2 sm 0 (upd (sm 0) 32 x92)) (up2L tm 0 (vp_updL (vp_updL (vp_updL (tm 0) 29 x89) 30 x90) 31 x91)) (1 : Int32) v141 v148) (w157 : r156 = J_X12_stays (up2 sm 0 (upd (sm 0) 32 x92)) (up2L tm 0 (vp_updL (vp_updL (vp_updL (tm 0) 29 x89) 30 x90) 31 x91)) (2 : Int32) v142 v154) (c160 : ¬ (v159 = (0 : Int32))) (w169 : r167 = J_X12_power (5 : Int32) r164) (w177 : r176 = J_X12_costOf (up2 sm 0 (upd (sm 0) 32 x92)) (up2L tm 0 (vp_updL (vp_updL (vp_updL (tm 0) 29 x89) 30 v162) 31 v172)) v85 r119 v87 v174) (w185 : r184 = J_X12_over (up2 sm 0 (upd (sm 0) 32 x92)) (up2L tm 0 (vp_updL (vp_updL (vp_updL (tm 0) 29 v180) 30 v162) 31 v172)) v85 r119 v87 v182) (c187 : ¬ ((0 : Int32) ≤ r184)) (c204 : v203 ≤ v86) (c205 : v203 ≤ v86) : (B_X12_goThrough_30 sm tm) (v85, v86, v87, v88, x89, x90, x91, x92) = Sum.inl (v209, v86, v208, r126, v180, v162, v172, x92) := by subst e117 e124 w127 e130 e131 e133 e134 e135 e137 e138 e139 e140 e141 e142 e143 e148 e153 e154 e159 e161 e162 w165 e171 e172 e174 e179 e180 e182 e200 e202 e203 e207 e208 e209; unfold B_X12_goThrough_30; refine Eq.trans (if_neg c94) ?_; refine lt_e w111 ?_; refine Eq.trans (if_neg c113) ?_; refine lt_e w120 ?_; refine Eq.trans (if_neg c122) ?_; refine Eq.trans (if_neg c128) ?_; refine lt_e w146 ?_; refine lt_e w151 ?_; refine lt_e w157 ?_; refine Eq.trans (if_neg c160) ?_; refine lt_e w169 ?_; refine lt_e w177 ?_; refine lt_e w185 ?_; refine Eq.trans (if_neg c187) ?_; refine Eq.trans (if_pos c204) ?_; refine Eq.trans (if_pos c205) ?_; rfl
theorem exl_X12_goThrough_7 {sm : Nat → Nat → Int32} {tm : Nat → Nat → Int64} {v85 : Int32} {v86 : Int32} {v87 : Int32} {v88 : Int32} {x89 : Int64} {x90 : Int64} {x91 : Int64} {x92 : Int32} {v213 : Int32} {v203 : Int32} {v212 : Int32} {r126 : Int32} {v180 : Int64} {v162 : Int64} {v172 : Int64} {v117 : Int32} {v124 : Int32} {r119 : Int32} {v130 : Int32} {v131 : Int32} {v133 : Int32} {v134 : Int32} {v135 : Int32} {v137 : Int32} {v138 : Int32} {v139 : Int32} {v140 : Int32} {v141 : Int32} {v142 : Int32} {v143 : Int32} {v148 : Int32} {v153 : Int32} {r145 : Int32} {r150 : Int32} {v154 : Int32} {v159 : Int32} {r156 : Int32} {v161 : Int64} {r164 : Int32} {v171 : Int64} {r167 : Int32} {v174 : Int32} {v179 : Int64} {r176 : Int32} {v182 : Int32} {v200 : Int32} {r184 : Int32} {v202 : Int32} {v211 : Int32} {r108 : Int32} (e117 : v117 = ((sm 16) (v85).toNatClampNeg)) (e124 : v124 = ((sm 17) (v85).toNatClampNeg)) (w127 : r126 = J_X12_left r119 v124) (e130 : v130 = ((sm 17) (v85).toNatClampNeg)) (e131 : v131 = (v130 / (100 : Int32))) (e133 : v133 = ((sm 17) (v85).toNatClampNeg)) (e134 : v134 = (v133 / (10 : Int32))) (e135 : v135 = (v134 - v134 / (10 : Int32) * (10 : Int32))) (e137 : v137 = ((sm 17) (v85).toNatClampNeg)) (e138 : v138 = (v137 - v137 / (10 : Int32) * (10 : Int32))) (e139 : v139 = (r119 / (100 : Int32))) (e140 : v140 = (r119 / (10 : Int32))) (e141 : v141 = (v140 - v140 / (10 : Int32) * (10 : Int32))) (e142 : v142 = (r119 - r119 / (10 : Int32) * (10 : Int32))) (e143 : v143 = (v139 - v131)) (e148 : v148 = (v141 - v135)) (e153 : v153 = (r145 * r150)) (e154 : v154 = (v142 - v138)) (e159 : v159 = (v153 * r156)) (e161 : v161 = (v159 : Int32).toInt64) (e162 : v162 = (x90 * v161)) (w165 : r164 = J_X12_all r119) (e171 : v171 = (r167 : Int32).toInt64) (e172 : v172 = (x91 * v171)) (e174 : v174 = ((sm 16) (v85).toNatClampNeg)) (e179 : v179 = (r176 : Int32).toInt64) (e180 : v180 = (x89 + v179)) (e182 : v182 = ((sm 16) (v85).toNatClampNeg)) (e200 : v200 = (-r184)) (e202 : v202 = ((sm 2) ((3 : Int32).toNatClampNeg))) (e203 : v203 = (v200 * v202)) (e211 : v211 = ((sm 16) (v85).toNatClampNeg)) (e212 : v212 = (v211 - v211 / (10 : Int32) * (10 : Int32))) (e213 : v213 = v85 + 1) (c94 : ¬ ((sm 0 26) ≤ v85)) (w111 : r108 = J_X12_isWeek (up2 sm 0 (upd (sm 0) 32 x92)) (up2L tm 0 (vp_updL (vp_updL (vp_updL (tm 0) 29 x89) 30 x90) 31 x91)) v85) (c113 : ¬ (r108 = (0 : Int32))) (w120 : r119 = J_X12_after (up2 sm 0 (upd (sm 0) 32 x92)) (up2L tm 0 (vp_updL (vp_updL (vp_updL (tm 0) 29 x89) 30 x90) 31 x91)) v85 v88 v117) (c122 : ¬ (r119 = ((-9) : Int32))) (c128 : ¬ (r126 = ((-9) : Int32))) (w146 : r145 = J_X12_stays (up2 sm 0 (upd (sm 0) 32 x92)) (up2L tm 0 (vp_updL (vp_updL (vp_updL (tm 0) 29 x89) 30 x90) 31 x91)) (0 : Int32) v139 v143) (w151 : r150 = J_X12_stays (up2 sm 0 (upd (sm 0) 32 x92)) (up2L tm 0 (vp_updL (vp_updL (vp_updL (tm 0) 29 x89) 30 x90) 31 x91)) (1 : Int32) v141 v148) (w157 : r156 = J_X12_stays (up2 sm 0 (upd (sm 0) 32 x92)) (up2L tm 0 (vp_updL (vp_updL (vp_updL (tm 0) 29 x89) 30 x90) 31 x91)) (2 : Int32) v142 v154) (c160 : ¬ (v159 = (0 : Int32))) (w169 : r167 = J_X12_power (5 : Int32) r164) (w177 : r176 = J_X12_costOf (up2 sm 0 (upd (sm 0) 32 x92)) (up2L tm 0 (vp_updL (vp_updL (vp_updL (tm 0) 29 x89) 30 v162) 31 v172)) v85 r119 v87 v174) (w185 : r184 = J_X12_over (up2 sm 0 (upd (sm 0) 32 x92)) (up2L tm 0 (vp_updL (vp_updL (vp_updL (tm 0) 29 v180) 30 v162) 31 v172)) v85 r119 v87 v182) (c187 : ¬ ((0 : Int32) ≤ r184)) (c204 : v203 ≤ v86) (c205 : ¬ (v203 ≤ v86)) : (B_X12_goThrough_30 sm tm) (v85, v86, v87, v88, x89, x90, x91, x92) = Sum.inl (v213, v203, v212, r126, v180, v162, v172, x92) := by subst e117 e124 w127 e130 e131 e133 e134 e135 e137 e138 e139 e140 e141 e142 e143 e148 e153 e154 e159 e161 e162 w165 e171 e172 e174 e179 e180 e182 e200 e202 e203 e211 e212 e213; unfold B_X12_goThrough_30; refine Eq.trans (if_neg c94) ?_; refine lt_e w111 ?_; refine Eq.trans (if_neg c113) ?_; refine lt_e w120 ?_; refine Eq.trans (if_neg c122) ?_; refine Eq.trans (if_neg c128) ?_; refine lt_e w146 ?_; refine lt_e w151 ?_; refine lt_e w157 ?_; refine Eq.trans (if_neg c160) ?_; refine lt_e w169 ?_; refine lt_e w177 ?_; refine lt_e w185 ?_; refine Eq.trans (if_neg c187) ?_; refine Eq.trans (if_pos c204) ?_; refine Eq.trans (if_neg c205) ?_; rfl
theorem exl_X12_goThrough_8 {sm : Nat → Nat → Int32} {tm : Nat → Nat → Int64} {v85 : Int32} {v86 : Int32} {v87 : Int32} {v88 : Int32} {x89 : Int64} {x90 : Int64} {x91 : Int64} {x92 : Int32} {v218 : Int32} {v217 : Int32} {r126 : Int32} {v180 : Int64} {v162 : Int64} {v172 : Int64} {v117 : Int32} {v124 : Int32} {r119 : Int32} {v130 : Int32} {v131 : Int32} {v133 : Int32} {v134 : Int32} {v135 : Int32} {v137 : Int32} {v138 : Int32} {v139 : Int32} {v140 : Int32} {v141 : Int32} {v142 : Int32} {v143 : Int32} {v148 : Int32} {v153 : Int32} {r145 : Int32} {r150 : Int32} {v154 : Int32} {v159 : Int32} {r156 : Int32} {v161 : Int64} {r164 : Int32} {v171 : Int64} {r167 : Int32} {v174 : Int32} {v179 : Int64} {r176 : Int32} {v182 : Int32} {v200 : Int32} {r184 : Int32} {v202 : Int32} {v203 : Int32} {v216 : Int32} {r108 : Int32} (e117 : v117 = ((sm 16) (v85).toNatClampNeg)) (e124 : v124 = ((sm 17) (v85).toNatClampNeg)) (w127 : r126 = J_X12_left r119 v124) (e130 : v130 = ((sm 17) (v85).toNatClampNeg)) (e131 : v131 = (v130 / (100 : Int32))) (e133 : v133 = ((sm 17) (v85).toNatClampNeg)) (e134 : v134 = (v133 / (10 : Int32))) (e135 : v135 = (v134 - v134 / (10 : Int32) * (10 : Int32))) (e137 : v137 = ((sm 17) (v85).toNatClampNeg)) (e138 : v138 = (v137 - v137 / (10 : Int32) * (10 : Int32))) (e139 : v139 = (r119 / (100 : Int32))) (e140 : v140 = (r119 / (10 : Int32))) (e141 : v141 = (v140 - v140 / (10 : Int32) * (10 : Int32))) (e142 : v142 = (r119 - r119 / (10 : Int32) * (10 : Int32))) (e143 : v143 = (v139 - v131)) (e148 : v148 = (v141 - v135)) (e153 : v153 = (r145 * r150)) (e154 : v154 = (v142 - v138)) (e159 : v159 = (v153 * r156)) (e161 : v161 = (v159 : Int32).toInt64) (e162 : v162 = (x90 * v161)) (w165 : r164 = J_X12_all r119) (e171 : v171 = (r167 : Int32).toInt64) (e172 : v172 = (x91 * v171)) (e174 : v174 = ((sm 16) (v85).toNatClampNeg)) (e179 : v179 = (r176 : Int32).toInt64) (e180 : v180 = (x89 + v179)) (e182 : v182 = ((sm 16) (v85).toNatClampNeg)) (e200 : v200 = (-r184)) (e202 : v202 = ((sm 2) ((3 : Int32).toNatClampNeg))) (e203 : v203 = (v200 * v202)) (e216 : v216 = ((sm 16) (v85).toNatClampNeg)) (e217 : v217 = (v216 - v216 / (10 : Int32) * (10 : Int32))) (e218 : v218 = v85 + 1) (c94 : ¬ ((sm 0 26) ≤ v85)) (w111 : r108 = J_X12_isWeek (up2 sm 0 (upd (sm 0) 32 x92)) (up2L tm 0 (vp_updL (vp_updL (vp_updL (tm 0) 29 x89) 30 x90) 31 x91)) v85) (c113 : ¬ (r108 = (0 : Int32))) (w120 : r119 = J_X12_after (up2 sm 0 (upd (sm 0) 32 x92)) (up2L tm 0 (vp_updL (vp_updL (vp_updL (tm 0) 29 x89) 30 x90) 31 x91)) v85 v88 v117) (c122 : ¬ (r119 = ((-9) : Int32))) (c128 : ¬ (r126 = ((-9) : Int32))) (w146 : r145 = J_X12_stays (up2 sm 0 (upd (sm 0) 32 x92)) (up2L tm 0 (vp_updL (vp_updL (vp_updL (tm 0) 29 x89) 30 x90) 31 x91)) (0 : Int32) v139 v143) (w151 : r150 = J_X12_stays (up2 sm 0 (upd (sm 0) 32 x92)) (up2L tm 0 (vp_updL (vp_updL (vp_updL (tm 0) 29 x89) 30 x90) 31 x91)) (1 : Int32) v141 v148) (w157 : r156 = J_X12_stays (up2 sm 0 (upd (sm 0) 32 x92)) (up2L tm 0 (vp_updL (vp_updL (vp_updL (tm 0) 29 x89) 30 x90) 31 x91)) (2 : Int32) v142 v154) (c160 : ¬ (v159 = (0 : Int32))) (w169 : r167 = J_X12_power (5 : Int32) r164) (w177 : r176 = J_X12_costOf (up2 sm 0 (upd (sm 0) 32 x92)) (up2L tm 0 (vp_updL (vp_updL (vp_updL (tm 0) 29 x89) 30 v162) 31 v172)) v85 r119 v87 v174) (w185 : r184 = J_X12_over (up2 sm 0 (upd (sm 0) 32 x92)) (up2L tm 0 (vp_updL (vp_updL (vp_updL (tm 0) 29 v180) 30 v162) 31 v172)) v85 r119 v87 v182) (c187 : ¬ ((0 : Int32) ≤ r184)) (c204 : ¬ (v203 ≤ v86)) (c214 : v203 ≤ v86) : (B_X12_goThrough_30 sm tm) (v85, v86, v87, v88, x89, x90, x91, x92) = Sum.inl (v218, v86, v217, r126, v180, v162, v172, v85) := by subst e117 e124 w127 e130 e131 e133 e134 e135 e137 e138 e139 e140 e141 e142 e143 e148 e153 e154 e159 e161 e162 w165 e171 e172 e174 e179 e180 e182 e200 e202 e203 e216 e217 e218; unfold B_X12_goThrough_30; refine Eq.trans (if_neg c94) ?_; refine lt_e w111 ?_; refine Eq.trans (if_neg c113) ?_; refine lt_e w120 ?_; refine Eq.trans (if_neg c122) ?_; refine Eq.trans (if_neg c128) ?_; refine lt_e w146 ?_; refine lt_e w151 ?_; refine lt_e w157 ?_; refine Eq.trans (if_neg c160) ?_; refine lt_e w169 ?_; refine lt_e w177 ?_; refine lt_e w185 ?_; refine Eq.trans (if_neg c187) ?_; refine Eq.trans (if_neg c204) ?_; refine Eq.trans (if_pos c214) ?_; rfl
theorem exl_X12_goThrough_9 {sm : Nat → Nat → Int32} {tm : Nat → Nat → Int64} {v85 : Int32} {v86 : Int32} {v87 : Int32} {v88 : Int32} {x89 : Int64} {x90 : Int64} {x91 : Int64} {x92 : Int32} {v222 : Int32} {v203 : Int32} {v221 : Int32} {r126 : Int32} {v180 : Int64} {v162 : Int64} {v172 : Int64} {v117 : Int32} {v124 : Int32} {r119 : Int32} {v130 : Int32} {v131 : Int32} {v133 : Int32} {v134 : Int32} {v135 : Int32} {v137 : Int32} {v138 : Int32} {v139 : Int32} {v140 : Int32} {v141 : Int32} {v142 : Int32} {v143 : Int32} {v148 : Int32} {v153 : Int32} {r145 : Int32} {r150 : Int32} {v154 : Int32} {v159 : Int32} {r156 : Int32} {v161 : Int64} {r164 : Int32} {v171 : Int64} {r167 : Int32} {v174 : Int32} {v179 : Int64} {r176 : Int32} {v182 : Int32} {v200 : Int32} {r184 : Int32} {v202 : Int32} {v220 : Int32} {r108 : Int32} (e117 : v117 = ((sm 16) (v85).toNatClampNeg)) (e124 : v124 = ((sm 17) (v85).toNatClampNeg)) (w127 : r126 = J_X12_left r119 v124) (e130 : v130 = ((sm 17) (v85).toNatClampNeg)) (e131 : v131 = (v130 / (100 : Int32))) (e133 : v133 = ((sm 17) (v85).toNatClampNeg)) (e134 : v134 = (v133 / (10 : Int32))) (e135 : v135 = (v134 - v134 / (10 : Int32) * (10 : Int32))) (e137 : v137 = ((sm 17) (v85).toNatClampNeg)) (e138 : v138 = (v137 - v137 / (10 : Int32) * (10 : Int32))) (e139 : v139 = (r119 / (100 : Int32))) (e140 : v140 = (r119 / (10 : Int32))) (e141 : v141 = (v140 - v140 / (10 : Int32) * (10 : Int32))) (e142 : v142 = (r119 - r119 / (10 : Int32) * (10 : Int32))) (e143 : v143 = (v139 - v131)) (e148 : v148 = (v141 - v135)) (e153 : v153 = (r145 * r150)) (e154 : v154 = (v142 - v138)) (e159 : v159 = (v153 * r156)) (e161 : v161 = (v159 : Int32).toInt64) (e162 : v162 = (x90 * v161)) (w165 : r164 = J_X12_all r119) (e171 : v171 = (r167 : Int32).toInt64) (e172 : v172 = (x91 * v171)) (e174 : v174 = ((sm 16) (v85).toNatClampNeg)) (e179 : v179 = (r176 : Int32).toInt64) (e180 : v180 = (x89 + v179)) (e182 : v182 = ((sm 16) (v85).toNatClampNeg)) (e200 : v200 = (-r184)) (e202 : v202 = ((sm 2) ((3 : Int32).toNatClampNeg))) (e203 : v203 = (v200 * v202)) (e220 : v220 = ((sm 16) (v85).toNatClampNeg)) (e221 : v221 = (v220 - v220 / (10 : Int32) * (10 : Int32))) (e222 : v222 = v85 + 1) (c94 : ¬ ((sm 0 26) ≤ v85)) (w111 : r108 = J_X12_isWeek (up2 sm 0 (upd (sm 0) 32 x92)) (up2L tm 0 (vp_updL (vp_updL (vp_updL (tm 0) 29 x89) 30 x90) 31 x91)) v85) (c113 : ¬ (r108 = (0 : Int32))) (w120 : r119 = J_X12_after (up2 sm 0 (upd (sm 0) 32 x92)) (up2L tm 0 (vp_updL (vp_updL (vp_updL (tm 0) 29 x89) 30 x90) 31 x91)) v85 v88 v117) (c122 : ¬ (r119 = ((-9) : Int32))) (c128 : ¬ (r126 = ((-9) : Int32))) (w146 : r145 = J_X12_stays (up2 sm 0 (upd (sm 0) 32 x92)) (up2L tm 0 (vp_updL (vp_updL (vp_updL (tm 0) 29 x89) 30 x90) 31 x91)) (0 : Int32) v139 v143) (w151 : r150 = J_X12_stays (up2 sm 0 (upd (sm 0) 32 x92)) (up2L tm 0 (vp_updL (vp_updL (vp_updL (tm 0) 29 x89) 30 x90) 31 x91)) (1 : Int32) v141 v148) (w157 : r156 = J_X12_stays (up2 sm 0 (upd (sm 0) 32 x92)) (up2L tm 0 (vp_updL (vp_updL (vp_updL (tm 0) 29 x89) 30 x90) 31 x91)) (2 : Int32) v142 v154) (c160 : ¬ (v159 = (0 : Int32))) (w169 : r167 = J_X12_power (5 : Int32) r164) (w177 : r176 = J_X12_costOf (up2 sm 0 (upd (sm 0) 32 x92)) (up2L tm 0 (vp_updL (vp_updL (vp_updL (tm 0) 29 x89) 30 v162) 31 v172)) v85 r119 v87 v174) (w185 : r184 = J_X12_over (up2 sm 0 (upd (sm 0) 32 x92)) (up2L tm 0 (vp_updL (vp_updL (vp_updL (tm 0) 29 v180) 30 v162) 31 v172)) v85 r119 v87 v182) (c187 : ¬ ((0 : Int32) ≤ r184)) (c204 : ¬ (v203 ≤ v86)) (c214 : ¬ (v203 ≤ v86)) : (B_X12_goThrough_30 sm tm) (v85, v86, v87, v88, x89, x90, x91, x92) = Sum.inl (v222, v203, v221, r126, v180, v162, v172, v85) := by subst e117 e124 w127 e130 e131 e133 e134 e135 e137 e138 e139 e140 e141 e142 e143 e148 e153 e154 e159 e161 e162 w165 e171 e172 e174 e179 e180 e182 e200 e202 e203 e220 e221 e222; unfold B_X12_goThrough_30; refine Eq.trans (if_neg c94) ?_; refine lt_e w111 ?_; refine Eq.trans (if_neg c113) ?_; refine lt_e w120 ?_; refine Eq.trans (if_neg c122) ?_; refine Eq.trans (if_neg c128) ?_; refine lt_e w146 ?_; refine lt_e w151 ?_; refine lt_e w157 ?_; refine Eq.trans (if_neg c160) ?_; refine lt_e w169 ?_; refine lt_e w177 ?_; refine lt_e w185 ?_; refine Eq.trans (if_neg c187) ?_; refine Eq.trans (if_neg c204) ?_; refine Eq.trans (if_neg c214) ?_; rfl
theorem exl_X12_goThrough_10 {sm : Nat → Nat → Int32} {tm : Nat → Nat → Int64} {v85 : Int32} {v86 : Int32} {v87 : Int32} {v88 : Int32} {x89 : Int64} {x90 : Int64} {x91 : Int64} {x92 : Int32} {v117 : Int32} {v124 : Int32} {r126 : Int32} {r119 : Int32} {v130 : Int32} {v131 : Int32} {v133 : Int32} {v134 : Int32} {v135 : Int32} {v137 : Int32} {v138 : Int32} {v139 : Int32} {v140 : Int32} {v141 : Int32} {v142 : Int32} {v143 : Int32} {v148 : Int32} {v153 : Int32} {r145 : Int32} {r150 : Int32} {v154 : Int32} {v159 : Int32} {r156 : Int32} {r108 : Int32} (e117 : v117 = ((sm 16) (v85).toNatClampNeg)) (e124 : v124 = ((sm 17) (v85).toNatClampNeg)) (w127 : r126 = J_X12_left r119 v124) (e130 : v130 = ((sm 17) (v85).toNatClampNeg)) (e131 : v131 = (v130 / (100 : Int32))) (e133 : v133 = ((sm 17) (v85).toNatClampNeg)) (e134 : v134 = (v133 / (10 : Int32))) (e135 : v135 = (v134 - v134 / (10 : Int32) * (10 : Int32))) (e137 : v137 = ((sm 17) (v85).toNatClampNeg)) (e138 : v138 = (v137 - v137 / (10 : Int32) * (10 : Int32))) (e139 : v139 = (r119 / (100 : Int32))) (e140 : v140 = (r119 / (10 : Int32))) (e141 : v141 = (v140 - v140 / (10 : Int32) * (10 : Int32))) (e142 : v142 = (r119 - r119 / (10 : Int32) * (10 : Int32))) (e143 : v143 = (v139 - v131)) (e148 : v148 = (v141 - v135)) (e153 : v153 = (r145 * r150)) (e154 : v154 = (v142 - v138)) (e159 : v159 = (v153 * r156)) (c94 : ¬ ((sm 0 26) ≤ v85)) (w111 : r108 = J_X12_isWeek (up2 sm 0 (upd (sm 0) 32 x92)) (up2L tm 0 (vp_updL (vp_updL (vp_updL (tm 0) 29 x89) 30 x90) 31 x91)) v85) (c113 : ¬ (r108 = (0 : Int32))) (w120 : r119 = J_X12_after (up2 sm 0 (upd (sm 0) 32 x92)) (up2L tm 0 (vp_updL (vp_updL (vp_updL (tm 0) 29 x89) 30 x90) 31 x91)) v85 v88 v117) (c122 : ¬ (r119 = ((-9) : Int32))) (c128 : ¬ (r126 = ((-9) : Int32))) (w146 : r145 = J_X12_stays (up2 sm 0 (upd (sm 0) 32 x92)) (up2L tm 0 (vp_updL (vp_updL (vp_updL (tm 0) 29 x89) 30 x90) 31 x91)) (0 : Int32) v139 v143) (w151 : r150 = J_X12_stays (up2 sm 0 (upd (sm 0) 32 x92)) (up2L tm 0 (vp_updL (vp_updL (vp_updL (tm 0) 29 x89) 30 x90) 31 x91)) (1 : Int32) v141 v148) (w157 : r156 = J_X12_stays (up2 sm 0 (upd (sm 0) 32 x92)) (up2L tm 0 (vp_updL (vp_updL (vp_updL (tm 0) 29 x89) 30 x90) 31 x91)) (2 : Int32) v142 v154) (c160 : v159 = (0 : Int32)) : (B_X12_goThrough_30 sm tm) (v85, v86, v87, v88, x89, x90, x91, x92) = Sum.inr ((v85, x89, x90, x91, x92)) := by subst e117 e124 w127 e130 e131 e133 e134 e135 e137 e138 e139 e140 e141 e142 e143 e148 e153 e154 e159; unfold B_X12_goThrough_30; refine Eq.trans (if_neg c94) ?_; refine lt_e w111 ?_; refine Eq.trans (if_neg c113) ?_; refine lt_e w120 ?_; refine Eq.trans (if_neg c122) ?_; refine Eq.trans (if_neg c128) ?_; refine lt_e w146 ?_; refine lt_e w151 ?_; refine lt_e w157 ?_; refine Eq.trans (if_pos c160) ?_; rfl
theorem exl_X12_goThrough_11 {sm : Nat → Nat → Int32} {tm : Nat → Nat → Int64} {v85 : Int32} {v86 : Int32} {v87 : Int32} {v88 : Int32} {x89 : Int64} {x90 : Int64} {x91 : Int64} {x92 : Int32} {v117 : Int32} {v124 : Int32} {r126 : Int32} {r119 : Int32} {r108 : Int32} (e117 : v117 = ((sm 16) (v85).toNatClampNeg)) (e124 : v124 = ((sm 17) (v85).toNatClampNeg)) (w127 : r126 = J_X12_left r119 v124) (c94 : ¬ ((sm 0 26) ≤ v85)) (w111 : r108 = J_X12_isWeek (up2 sm 0 (upd (sm 0) 32 x92)) (up2L tm 0 (vp_updL (vp_updL (vp_updL (tm 0) 29 x89) 30 x90) 31 x91)) v85) (c113 : ¬ (r108 = (0 : Int32))) (w120 : r119 = J_X12_after (up2 sm 0 (upd (sm 0) 32 x92)) (up2L tm 0 (vp_updL (vp_updL (vp_updL (tm 0) 29 x89) 30 x90) 31 x91)) v85 v88 v117) (c122 : ¬ (r119 = ((-9) : Int32))) (c128 : r126 = ((-9) : Int32)) : (B_X12_goThrough_30 sm tm) (v85, v86, v87, v88, x89, x90, x91, x92) = Sum.inr ((v85, x89, x90, x91, x92)) := by subst e117 e124 w127; unfold B_X12_goThrough_30; refine Eq.trans (if_neg c94) ?_; refine lt_e w111 ?_; refine Eq.trans (if_neg c113) ?_; refine lt_e w120 ?_; refine Eq.trans (if_neg c122) ?_; refine Eq.trans (if_pos c128) ?_; rfl
theorem exl_X12_goThrough_12 {sm : Nat → Nat → Int32} {tm : Nat → Nat → Int64} {v85 : Int32} {v86 : Int32} {v87 : Int32} {v88 : Int32} {x89 : Int64} {x90 : Int64} {x91 : Int64} {x92 : Int32} {v117 : Int32} {r108 : Int32} {r119 : Int32} (e117 : v117 = ((sm 16) (v85).toNatClampNeg)) (c94 : ¬ ((sm 0 26) ≤ v85)) (w111 : r108 = J_X12_isWeek (up2 sm 0 (upd (sm 0) 32 x92)) (up2L tm 0 (vp_updL (vp_updL (vp_updL (tm 0) 29 x89) 30 x90) 31 x91)) v85) (c113 : ¬ (r108 = (0 : Int32))) (w120 : r119 = J_X12_after (up2 sm 0 (upd (sm 0) 32 x92)) (up2L tm 0 (vp_updL (vp_updL (vp_updL (tm 0) 29 x89) 30 x90) 31 x91)) v85 v88 v117) (c122 : r119 = ((-9) : Int32)) : (B_X12_goThrough_30 sm tm) (v85, v86, v87, v88, x89, x90, x91, x92) = Sum.inr ((v85, x89, x90, x91, x92)) := by subst e117; unfold B_X12_goThrough_30; refine Eq.trans (if_neg c94) ?_; refine lt_e w111 ?_; refine Eq.trans (if_neg c113) ?_; refine lt_e w120 ?_; refine Eq.trans (if_pos c122) ?_; rfl
set_option maxHeartbeats 4000000 in
set_option maxRecDepth 100000 in
theorem c_X12_goThrough (l : Launch) (D : va_G) (k : Nat → ClassId) (b : Nat → Nat) (qm : Nat → Nat) (sm : Nat → Nat → Int32) (tm : Nat → Nat → Int64) (sz : Nat) (h_w0 : 0 ≤ (sm 2 0).toInt ∧ (sm 2 0).toInt ≤ 5) (h_rows : 0 ≤ (sm 0 26).toInt ∧ (sm 0 26).toInt ≤ 5) : MetI l D k b yX12_goThrough wsX12_goThrough ({ frames := 2, cells := 0, slots := 0, locals := 55 } : Room) [cell22_ qm sm tm, cell5_ k qm sm, cell13_ k qm sm, cell8_ k qm sm, cell6_ k qm sm, cell15_ k qm sm, cell14_ k qm tm, cell12_ k qm tm, cell18_ k qm tm, cell17_ k qm tm, cell19_ k qm tm, cell21_ k qm tm, cell20_ k qm sm, cell16_ k qm sm, cell11_ k qm sm, cell10_ k qm sm, cell9_ k qm sm, cell7_ k qm sm] sz [.ref (qm 0)] (fun (r : Int32) (u : Int64 × Int64 × Int64 × Int32) => ((u.2.2.1).toInt % 2 = 1) ∧ ((r, (u.1), (u.2.1), (u.2.2.1), (u.2.2.2)) = J_X12_goThrough sm tm)) (fun u => [cell69_ qm sm (u.1) (u.2.1) (u.2.2.1) (u.2.2.2), cell5_ k qm sm, cell13_ k qm sm, cell8_ k qm sm, cell6_ k qm sm, cell15_ k qm sm, cell14_ k qm tm, cell12_ k qm tm, cell18_ k qm tm, cell17_ k qm tm, cell19_ k qm tm, cell21_ k qm tm, cell20_ k qm sm, cell16_ k qm sm, cell11_ k qm sm, cell10_ k qm sm, cell9_ k qm sm, cell7_ k qm sm]) := by
  refine g_enter (cc := cX12_goThrough) (maxL := 16) (ret := (some .int)) (by decide) rfl (Nat.le_of_ble_eq_true rfl) ?_
  intro p e s m below meth c A hsz hAe cx hr hP hD hS ls hl
  rw [hAe]
  refine g_q (fun Q hQ => ?_)
  have hx := cx.1.1
  have hb := cx.1.2.1
  have hl : lv_has ls 16 [(0, .ref (qm 0))] := hl
  obtain ⟨H, eH⟩ : ∃ H : Heap, H = s.heap := ⟨_, rfl⟩
  obtain ⟨locs, el⟩ : ∃ L : List Loc, L = [] := ⟨_, rfl⟩
  have hP : va_P D vwCl [cell22_ qm sm tm, cell5_ k qm sm, cell13_ k qm sm, cell8_ k qm sm, cell6_ k qm sm, cell15_ k qm sm, cell14_ k qm tm, cell12_ k qm tm, cell18_ k qm tm, cell17_ k qm tm, cell19_ k qm tm, cell21_ k qm tm, cell20_ k qm sm, cell16_ k qm sm, cell11_ k qm sm, cell10_ k qm sm, cell9_ k qm sm, cell7_ k qm sm] H := by rw [eH]; exact hP
  have hD : va_D A [cell22_ qm sm tm, cell5_ k qm sm, cell13_ k qm sm, cell8_ k qm sm, cell6_ k qm sm, cell15_ k qm sm, cell14_ k qm tm, cell12_ k qm tm, cell18_ k qm tm, cell17_ k qm tm, cell19_ k qm tm, cell21_ k qm tm, cell20_ k qm sm, cell16_ k qm sm, cell11_ k qm sm, cell10_ k qm sm, cell9_ k qm sm, cell7_ k qm sm] := hD
  have hS : va_S A s.heap H locs := by rw [eH, el]; exact hS
  suffices goal : W p l e ({ frames := 2, cells := 0, slots := 0, locals := 55 } : Room) s m ([.ref (qm 0)] : List Value).toArray below meth c H locs 0 0 Q (F0 m 0 ls []) by rw [eH, el] at goal; exact goal
  refine lv_iconst (v := 0) hx hb dX12_goThrough_0 (by decide) ?_
  refine lv_istore_n (lv' := [(1, .int 0), (0, .ref (qm 0))]) hx hb dX12_goThrough_1 rfl hl (by decide) rfl (fun ls hl => ?_)
  refine lv_iconst (v := 0) hx hb dX12_goThrough_2 (by decide) ?_
  refine lv_istore_n (lv' := [(2, .int 0), (1, .int 0), (0, .ref (qm 0))]) hx hb dX12_goThrough_3 rfl hl (by decide) rfl (fun ls hl => ?_)
  refine lv_iconst (v := 0) hx hb dX12_goThrough_4 (by decide) ?_
  refine lv_istore_n (lv' := [(3, .int 0), (2, .int 0), (1, .int 0), (0, .ref (qm 0))]) hx hb dX12_goThrough_5 rfl hl (by decide) rfl (fun ls hl => ?_)
  refine lv_aload_n hx hb dX12_goThrough_6 rfl (lv_at hl 3 rfl) ?_
  refine lv_lconst (v := 0) hx hb dX12_goThrough_7 (by decide) ?_
  refine g_pt cx hP hD hS iw_X12_goThrough_X12 tyX12 tyX12_ok nmX12 0 rfl rfl 29 (by decide) rfl fw_X12_goThrough_261 (ty := .long) rfl rfl rfl (Nat.le_of_ble_eq_true rfl) dX12_goThrough_8 (fun H locs hP hD hS => ?_)
  have hP : va_P D vwCl [(qm 0, .inr (10, [.ref (qm 1), .ref (qm 2), .ref (qm 3), .int (sm 0 3), .int (sm 0 4), .int (sm 0 5), .int (sm 0 6), .int (sm 0 7), .int (sm 0 8), .int (sm 0 9), .int (sm 0 10), .ref (qm 4), .ref (qm 5), .int (sm 0 13), .ref (qm 6), .ref (qm 7), .ref (qm 8), .ref (qm 9), .ref (qm 10), .ref (qm 11), .ref (qm 12), .ref (qm 13), .int (sm 0 22), .int (sm 0 23), .ref (qm 14), .ref (qm 15), .int (sm 0 26), .ref (qm 16), .ref (qm 17), .long 0, .long (tm 0 30), .long (tm 0 31), .int (sm 0 32)])), cell5_ k qm sm, cell13_ k qm sm, cell8_ k qm sm, cell6_ k qm sm, cell15_ k qm sm, cell14_ k qm tm, cell12_ k qm tm, cell18_ k qm tm, cell17_ k qm tm, cell19_ k qm tm, cell21_ k qm tm, cell20_ k qm sm, cell16_ k qm sm, cell11_ k qm sm, cell10_ k qm sm, cell9_ k qm sm, cell7_ k qm sm] H := hP
  have hD : va_D A [(qm 0, .inr (10, [.ref (qm 1), .ref (qm 2), .ref (qm 3), .int (sm 0 3), .int (sm 0 4), .int (sm 0 5), .int (sm 0 6), .int (sm 0 7), .int (sm 0 8), .int (sm 0 9), .int (sm 0 10), .ref (qm 4), .ref (qm 5), .int (sm 0 13), .ref (qm 6), .ref (qm 7), .ref (qm 8), .ref (qm 9), .ref (qm 10), .ref (qm 11), .ref (qm 12), .ref (qm 13), .int (sm 0 22), .int (sm 0 23), .ref (qm 14), .ref (qm 15), .int (sm 0 26), .ref (qm 16), .ref (qm 17), .long 0, .long (tm 0 30), .long (tm 0 31), .int (sm 0 32)])), cell5_ k qm sm, cell13_ k qm sm, cell8_ k qm sm, cell6_ k qm sm, cell15_ k qm sm, cell14_ k qm tm, cell12_ k qm tm, cell18_ k qm tm, cell17_ k qm tm, cell19_ k qm tm, cell21_ k qm tm, cell20_ k qm sm, cell16_ k qm sm, cell11_ k qm sm, cell10_ k qm sm, cell9_ k qm sm, cell7_ k qm sm] := hD
  refine lv_aload_n hx hb dX12_goThrough_11 rfl (lv_at hl 3 rfl) ?_
  refine lv_lconst (v := 1) hx hb dX12_goThrough_12 (by decide) ?_
  refine g_pt cx hP hD hS iw_X12_goThrough_X12 tyX12 tyX12_ok nmX12 0 rfl rfl 30 (by decide) rfl fw_X12_goThrough_265 (ty := .long) rfl rfl rfl (Nat.le_of_ble_eq_true rfl) dX12_goThrough_13 (fun H locs hP hD hS => ?_)
  have hP : va_P D vwCl [(qm 0, .inr (10, [.ref (qm 1), .ref (qm 2), .ref (qm 3), .int (sm 0 3), .int (sm 0 4), .int (sm 0 5), .int (sm 0 6), .int (sm 0 7), .int (sm 0 8), .int (sm 0 9), .int (sm 0 10), .ref (qm 4), .ref (qm 5), .int (sm 0 13), .ref (qm 6), .ref (qm 7), .ref (qm 8), .ref (qm 9), .ref (qm 10), .ref (qm 11), .ref (qm 12), .ref (qm 13), .int (sm 0 22), .int (sm 0 23), .ref (qm 14), .ref (qm 15), .int (sm 0 26), .ref (qm 16), .ref (qm 17), .long 0, .long 1, .long (tm 0 31), .int (sm 0 32)])), cell5_ k qm sm, cell13_ k qm sm, cell8_ k qm sm, cell6_ k qm sm, cell15_ k qm sm, cell14_ k qm tm, cell12_ k qm tm, cell18_ k qm tm, cell17_ k qm tm, cell19_ k qm tm, cell21_ k qm tm, cell20_ k qm sm, cell16_ k qm sm, cell11_ k qm sm, cell10_ k qm sm, cell9_ k qm sm, cell7_ k qm sm] H := hP
  have hD : va_D A [(qm 0, .inr (10, [.ref (qm 1), .ref (qm 2), .ref (qm 3), .int (sm 0 3), .int (sm 0 4), .int (sm 0 5), .int (sm 0 6), .int (sm 0 7), .int (sm 0 8), .int (sm 0 9), .int (sm 0 10), .ref (qm 4), .ref (qm 5), .int (sm 0 13), .ref (qm 6), .ref (qm 7), .ref (qm 8), .ref (qm 9), .ref (qm 10), .ref (qm 11), .ref (qm 12), .ref (qm 13), .int (sm 0 22), .int (sm 0 23), .ref (qm 14), .ref (qm 15), .int (sm 0 26), .ref (qm 16), .ref (qm 17), .long 0, .long 1, .long (tm 0 31), .int (sm 0 32)])), cell5_ k qm sm, cell13_ k qm sm, cell8_ k qm sm, cell6_ k qm sm, cell15_ k qm sm, cell14_ k qm tm, cell12_ k qm tm, cell18_ k qm tm, cell17_ k qm tm, cell19_ k qm tm, cell21_ k qm tm, cell20_ k qm sm, cell16_ k qm sm, cell11_ k qm sm, cell10_ k qm sm, cell9_ k qm sm, cell7_ k qm sm] := hD
  refine lv_aload_n hx hb dX12_goThrough_16 rfl (lv_at hl 3 rfl) ?_
  refine lv_lconst (v := 1) hx hb dX12_goThrough_17 (by decide) ?_
  refine g_pt cx hP hD hS iw_X12_goThrough_X12 tyX12 tyX12_ok nmX12 0 rfl rfl 31 (by decide) rfl fw_X12_goThrough_268 (ty := .long) rfl rfl rfl (Nat.le_of_ble_eq_true rfl) dX12_goThrough_18 (fun H locs hP hD hS => ?_)
  have hP : va_P D vwCl [(qm 0, .inr (10, [.ref (qm 1), .ref (qm 2), .ref (qm 3), .int (sm 0 3), .int (sm 0 4), .int (sm 0 5), .int (sm 0 6), .int (sm 0 7), .int (sm 0 8), .int (sm 0 9), .int (sm 0 10), .ref (qm 4), .ref (qm 5), .int (sm 0 13), .ref (qm 6), .ref (qm 7), .ref (qm 8), .ref (qm 9), .ref (qm 10), .ref (qm 11), .ref (qm 12), .ref (qm 13), .int (sm 0 22), .int (sm 0 23), .ref (qm 14), .ref (qm 15), .int (sm 0 26), .ref (qm 16), .ref (qm 17), .long 0, .long 1, .long 1, .int (sm 0 32)])), cell5_ k qm sm, cell13_ k qm sm, cell8_ k qm sm, cell6_ k qm sm, cell15_ k qm sm, cell14_ k qm tm, cell12_ k qm tm, cell18_ k qm tm, cell17_ k qm tm, cell19_ k qm tm, cell21_ k qm tm, cell20_ k qm sm, cell16_ k qm sm, cell11_ k qm sm, cell10_ k qm sm, cell9_ k qm sm, cell7_ k qm sm] H := hP
  have hD : va_D A [(qm 0, .inr (10, [.ref (qm 1), .ref (qm 2), .ref (qm 3), .int (sm 0 3), .int (sm 0 4), .int (sm 0 5), .int (sm 0 6), .int (sm 0 7), .int (sm 0 8), .int (sm 0 9), .int (sm 0 10), .ref (qm 4), .ref (qm 5), .int (sm 0 13), .ref (qm 6), .ref (qm 7), .ref (qm 8), .ref (qm 9), .ref (qm 10), .ref (qm 11), .ref (qm 12), .ref (qm 13), .int (sm 0 22), .int (sm 0 23), .ref (qm 14), .ref (qm 15), .int (sm 0 26), .ref (qm 16), .ref (qm 17), .long 0, .long 1, .long 1, .int (sm 0 32)])), cell5_ k qm sm, cell13_ k qm sm, cell8_ k qm sm, cell6_ k qm sm, cell15_ k qm sm, cell14_ k qm tm, cell12_ k qm tm, cell18_ k qm tm, cell17_ k qm tm, cell19_ k qm tm, cell21_ k qm tm, cell20_ k qm sm, cell16_ k qm sm, cell11_ k qm sm, cell10_ k qm sm, cell9_ k qm sm, cell7_ k qm sm] := hD
  refine lv_aload_n hx hb dX12_goThrough_21 rfl (lv_at hl 3 rfl) ?_
  refine lv_bipush (v := (-9)) hx hb dX12_goThrough_22 (by decide) ?_
  refine g_pt cx hP hD hS iw_X12_goThrough_X12 tyX12 tyX12_ok nmX12 0 rfl rfl 32 (by decide) rfl fw_X12_goThrough_271 (ty := .int) rfl rfl rfl (Nat.le_of_ble_eq_true rfl) dX12_goThrough_24 (fun H locs hP hD hS => ?_)
  have hP : va_P D vwCl [cell69_ qm sm 0 1 1 (-9), cell5_ k qm sm, cell13_ k qm sm, cell8_ k qm sm, cell6_ k qm sm, cell15_ k qm sm, cell14_ k qm tm, cell12_ k qm tm, cell18_ k qm tm, cell17_ k qm tm, cell19_ k qm tm, cell21_ k qm tm, cell20_ k qm sm, cell16_ k qm sm, cell11_ k qm sm, cell10_ k qm sm, cell9_ k qm sm, cell7_ k qm sm] H := hP
  have hD : va_D A [cell69_ qm sm 0 1 1 (-9), cell5_ k qm sm, cell13_ k qm sm, cell8_ k qm sm, cell6_ k qm sm, cell15_ k qm sm, cell14_ k qm tm, cell12_ k qm tm, cell18_ k qm tm, cell17_ k qm tm, cell19_ k qm tm, cell21_ k qm tm, cell20_ k qm sm, cell16_ k qm sm, cell11_ k qm sm, cell10_ k qm sm, cell9_ k qm sm, cell7_ k qm sm] := hD
  have hlit1 : ((-9) : Int32).toInt = -9 := by decide
  refine lv_iconst (v := 0) hx hb dX12_goThrough_27 (by decide) ?_
  refine lv_istore (lv' := [(4, .int 0), (3, .int 0), (2, .int 0), (1, .int 0), (0, .ref (qm 0))]) hx hb dX12_goThrough_28 hl (by decide) rfl (fun ls hl => ?_)
  obtain ⟨rr30_1, err30_1⟩ : ∃ r : Int32 × Int64 × Int64 × Int64 × Int32, LTs (default : Int32 × Int64 × Int64 × Int64 × Int32) (B_X12_goThrough_30 sm tm) 6 ((0 : Int32), (0 : Int32), (0 : Int32), (0 : Int32), (0 : Int64), (1 : Int64), (1 : Int64), ((-9) : Int32)) = r := ⟨_, rfl⟩
  have hrr30_1 : J_X12_goThrough sm tm = rr30_1 := ((exl_X12_goThrough_0)).trans err30_1
  have hL30 : ∀ (n93 : Nat) (v85 : Int32) (v86 : Int32) (v87 : Int32) (v88 : Int32) (x89 : Int64) (x90 : Int64) (x91 : Int64) (x92 : Int32) (H : Heap) (locs : List Loc) (ls : Array Slot), 5 - v85.toInt < (n93 : Int) → (0 ≤ v85.toInt ∧ v85.toInt ≤ 5) → (x91.toInt % 2 = 1) → (LTs (default : Int32 × Int64 × Int64 × Int64 × Int32) (B_X12_goThrough_30 sm tm) n93 (v85, v86, v87, v88, x89, x90, x91, x92) = rr30_1) → va_P D vwCl [cell69_ qm sm x89 x90 x91 x92, cell5_ k qm sm, cell13_ k qm sm, cell8_ k qm sm, cell6_ k qm sm, cell15_ k qm sm, cell14_ k qm tm, cell12_ k qm tm, cell18_ k qm tm, cell17_ k qm tm, cell19_ k qm tm, cell21_ k qm tm, cell20_ k qm sm, cell16_ k qm sm, cell11_ k qm sm, cell10_ k qm sm, cell9_ k qm sm, cell7_ k qm sm] H → va_D A [cell69_ qm sm x89 x90 x91 x92, cell5_ k qm sm, cell13_ k qm sm, cell8_ k qm sm, cell6_ k qm sm, cell15_ k qm sm, cell14_ k qm tm, cell12_ k qm tm, cell18_ k qm tm, cell17_ k qm tm, cell19_ k qm tm, cell21_ k qm tm, cell20_ k qm sm, cell16_ k qm sm, cell11_ k qm sm, cell10_ k qm sm, cell9_ k qm sm, cell7_ k qm sm] → va_S A s.heap H locs → lv_has ls 16 [(4, .int v85), (3, .int v86), (2, .int v87), (1, .int v88), (0, .ref (qm 0))] → W p l e ({ frames := 2, cells := 0, slots := 0, locals := 55 } : Room) s m ([.ref (qm 0)] : List Value).toArray below meth c H locs 0 0 Q (F0 m 30 ls []) := by
    intro n93
    induction n93 with
    | zero => intro v85 v86 v87 v88 x89 x90 x91 x92 H locs ls hmn93 bv85 qo hzrr30_1 hP hD hS hl; exact absurd hmn93 (by omega)
    | succ n93 ih30 =>
      intro v85 v86 v87 v88 x89 x90 x91 x92 H locs ls hmn93 bv85 qo hzrr30_1 hP hD hS hl
      refine lv_iload hx hb dX12_goThrough_30 (lv_at hl 0 rfl) ?_
      refine lv_aload_n hx hb dX12_goThrough_32 rfl (lv_at hl 4 rfl) ?_
      refine g_get cx hP iw_X12_goThrough_X12 0 rfl rfl 26 (by decide) rfl fw_X12_goThrough_258 rfl dX12_goThrough_33 ?_
      refine lv_icmp_ge (tgt := 364) hx hb dX12_goThrough_36 (by decide) (fun c94 => ?_) (fun c94 => ?_)
      · have f94 : (sm 0 26).toInt ≤ v85.toInt := f_le rfl rfl c94
        refine lv_aload_n hx hb dX12_goThrough_364 rfl (lv_at hl 4 rfl) ?_
        refine lv_dup hx hb dX12_goThrough_365 rfl ?_
        refine g_get cx hP iw_X12_goThrough_X12 0 rfl rfl 29 (by decide) rfl fw_X12_goThrough_261 rfl dX12_goThrough_366 ?_
        refine lv_aload_n hx hb dX12_goThrough_369 rfl (lv_at hl 4 rfl) ?_
        refine g_get cx hP iw_X12_goThrough_X12 0 rfl rfl 26 (by decide) rfl fw_X12_goThrough_258 rfl dX12_goThrough_370 ?_
        refine lv_aload_n hx hb dX12_goThrough_373 rfl (lv_at hl 4 rfl) ?_
        refine g_get cx hP iw_X12_goThrough_X12 0 rfl rfl 1 (by decide) rfl fw_X12_goThrough_13 rfl dX12_goThrough_374 ?_
        refine lv_iconst (v := 0) hx hb dX12_goThrough_377 (by decide) ?_
        have hn95 : vp_in 0 26 := f_in (a := 0) (by decide) (by omega) (by omega)
        refine va_iald hx hb cx.2.1 hP 2 0 rfl rfl hn95 dX12_goThrough_378 (lv_topi (fun v96 e96 => ?_))
        have uv96 : v96.toInt = ((sm 2) 0).toInt := congrArg Int32.toInt e96
        have t96 : 0 ≤ v96.toInt ∧ v96.toInt ≤ 5 := by rw [e96]; exact h_w0
        refine lv_icmp_ne (tgt := 391) hx hb dX12_goThrough_379 (by decide) (fun c97 => ?_) (fun c97 => ?_)
        · have f97 : ¬ (sm 0 26).toInt = v96.toInt := f_ne rfl rfl c97
          refine lv_lconst (v := 0) hx hb dX12_goThrough_391 (by decide) ?_
          refine lv_ladd hx hb dX12_goThrough_392 (lv_topl (fun v98 e98 => ?_))
          refine g_pt cx hP hD hS iw_X12_goThrough_X12 tyX12 tyX12_ok nmX12 0 rfl rfl 29 (by decide) rfl fw_X12_goThrough_261 (ty := .long) rfl rfl rfl (Nat.le_of_ble_eq_true rfl) dX12_goThrough_393 (fun H locs hP hD hS => ?_)
          have hP : va_P D vwCl [cell69_ qm sm v98 x90 x91 x92, cell5_ k qm sm, cell13_ k qm sm, cell8_ k qm sm, cell6_ k qm sm, cell15_ k qm sm, cell14_ k qm tm, cell12_ k qm tm, cell18_ k qm tm, cell17_ k qm tm, cell19_ k qm tm, cell21_ k qm tm, cell20_ k qm sm, cell16_ k qm sm, cell11_ k qm sm, cell10_ k qm sm, cell9_ k qm sm, cell7_ k qm sm] H := hP
          have hD : va_D A [cell69_ qm sm v98 x90 x91 x92, cell5_ k qm sm, cell13_ k qm sm, cell8_ k qm sm, cell6_ k qm sm, cell15_ k qm sm, cell14_ k qm tm, cell12_ k qm tm, cell18_ k qm tm, cell17_ k qm tm, cell19_ k qm tm, cell21_ k qm tm, cell20_ k qm sm, cell16_ k qm sm, cell11_ k qm sm, cell10_ k qm sm, cell9_ k qm sm, cell7_ k qm sm] := hD
          refine lv_bipush (v := (-9)) hx hb dX12_goThrough_396 (by decide) ?_
          have hlit99 : ((-9) : Int32).toInt = -9 := by decide
          rw [hQ]
          exact x_i cx hr (v98, x90, x91, x92) hP hD hS ⟨(show x91.toInt % 2 = 1 from by omega), (show (((-9) : Int32), v98, x90, x91, x92) = J_X12_goThrough sm tm from ((hrr30_1.trans (LT_r hzrr30_1 (exl_X12_goThrough_1 e96 e98 c94 c97)))).symm)⟩ dX12_goThrough_398
        · have f97 : (sm 0 26).toInt = v96.toInt := f_eq rfl rfl c97
          refine lv_aload_n hx hb dX12_goThrough_382 rfl (lv_at hl 4 rfl) ?_
          refine lv_iload_n hx hb dX12_goThrough_383 rfl (lv_at hl 3 rfl) ?_
          refine g_iF (w1 := fun (_ : Unit) => [cell69_ qm sm x89 x90 x91 x92, cell5_ k qm sm, cell13_ k qm sm, cell8_ k qm sm, cell6_ k qm sm, cell15_ k qm sm, cell14_ k qm tm, cell12_ k qm tm, cell18_ k qm tm, cell17_ k qm tm, cell19_ k qm tm, cell21_ k qm tm, cell20_ k qm sm, cell16_ k qm sm, cell11_ k qm sm, cell10_ k qm sm, cell9_ k qm sm, cell7_ k qm sm]) (g_runVF (ws := [cell69_ qm sm x89 x90 x91 x92, cell5_ k qm sm, cell13_ k qm sm, cell8_ k qm sm, cell6_ k qm sm, cell15_ k qm sm, cell14_ k qm tm, cell12_ k qm tm, cell18_ k qm tm, cell17_ k qm tm, cell19_ k qm tm, cell21_ k qm tm, cell20_ k qm sm, cell16_ k qm sm, cell11_ k qm sm, cell10_ k qm sm, cell9_ k qm sm, cell7_ k qm sm]) (rest := [.long x89, .ref (qm 0)]) cx hP hD hS [.int v88] (c_X12_bonus l D k b qm (up2 sm 0 (upd (sm 0) 32 x92)) (up2L tm 0 (vp_updL (vp_updL (vp_updL (tm 0) 29 x89) 30 x90) 31 x91)) H.size v88) gX12_goThrough_X12_bonus rfl rfl rfl nd_X12_bonus ⟨Nat.le_of_ble_eq_true rfl, Nat.le_of_ble_eq_true rfl⟩ (ci := 10) (q0 := 0) rfl rfl rfl hl.1 rfl (Nat.le_of_ble_eq_true rfl) ⟨Nat.zero_le _, Nat.zero_le _⟩ dX12_goThrough_384) cx.2.2.1 hD hS (fun r101 _ H locs hw100 hP hD hS => ?_)
          have w102 : r101 = J_X12_bonus (up2 sm 0 (upd (sm 0) 32 x92)) (up2L tm 0 (vp_updL (vp_updL (vp_updL (tm 0) 29 x89) 30 x90) 31 x91)) v88 := hw100
          clear hw100
          obtain ⟨v104, e104⟩ : ∃ z : Int64, z = (r101 : Int32).toInt64 := ⟨_, rfl⟩
          refine lv_i2l (v := v104) hx hb dX12_goThrough_387 e104.symm ?_
          refine lv_goto (tgt := 392) hx hb dX12_goThrough_388 (by decide) ?_
          refine lv_ladd hx hb dX12_goThrough_392 (lv_topl (fun v105 e105 => ?_))
          refine g_pt cx hP hD hS iw_X12_goThrough_X12 tyX12 tyX12_ok nmX12 0 rfl rfl 29 (by decide) rfl fw_X12_goThrough_261 (ty := .long) rfl rfl rfl (Nat.le_of_ble_eq_true rfl) dX12_goThrough_393 (fun H locs hP hD hS => ?_)
          have hP : va_P D vwCl [cell69_ qm sm v105 x90 x91 x92, cell5_ k qm sm, cell13_ k qm sm, cell8_ k qm sm, cell6_ k qm sm, cell15_ k qm sm, cell14_ k qm tm, cell12_ k qm tm, cell18_ k qm tm, cell17_ k qm tm, cell19_ k qm tm, cell21_ k qm tm, cell20_ k qm sm, cell16_ k qm sm, cell11_ k qm sm, cell10_ k qm sm, cell9_ k qm sm, cell7_ k qm sm] H := hP
          have hD : va_D A [cell69_ qm sm v105 x90 x91 x92, cell5_ k qm sm, cell13_ k qm sm, cell8_ k qm sm, cell6_ k qm sm, cell15_ k qm sm, cell14_ k qm tm, cell12_ k qm tm, cell18_ k qm tm, cell17_ k qm tm, cell19_ k qm tm, cell21_ k qm tm, cell20_ k qm sm, cell16_ k qm sm, cell11_ k qm sm, cell10_ k qm sm, cell9_ k qm sm, cell7_ k qm sm] := hD
          refine lv_bipush (v := (-9)) hx hb dX12_goThrough_396 (by decide) ?_
          have hlit106 : ((-9) : Int32).toInt = -9 := by decide
          rw [hQ]
          exact x_i cx hr (v105, x90, x91, x92) hP hD hS ⟨(show x91.toInt % 2 = 1 from by omega), (show (((-9) : Int32), v105, x90, x91, x92) = J_X12_goThrough sm tm from ((hrr30_1.trans (LT_r hzrr30_1 (exl_X12_goThrough_2 e96 e104 e105 c94 c97 w102)))).symm)⟩ dX12_goThrough_398
      · have f94 : v85.toInt < (sm 0 26).toInt := f_nle rfl rfl c94
        refine lv_aload_n hx hb dX12_goThrough_39 rfl (lv_at hl 4 rfl) ?_
        refine lv_iload hx hb dX12_goThrough_40 (lv_at hl 0 rfl) ?_
        refine g_iF (w1 := fun (_ : Unit) => [cell69_ qm sm x89 x90 x91 x92, cell5_ k qm sm, cell13_ k qm sm, cell8_ k qm sm, cell6_ k qm sm, cell15_ k qm sm, cell14_ k qm tm, cell12_ k qm tm, cell18_ k qm tm, cell17_ k qm tm, cell19_ k qm tm, cell21_ k qm tm, cell20_ k qm sm, cell16_ k qm sm, cell11_ k qm sm, cell10_ k qm sm, cell9_ k qm sm, cell7_ k qm sm]) (g_runVF (ws := [cell69_ qm sm x89 x90 x91 x92, cell5_ k qm sm, cell13_ k qm sm, cell8_ k qm sm, cell6_ k qm sm, cell15_ k qm sm, cell14_ k qm tm, cell12_ k qm tm, cell18_ k qm tm, cell17_ k qm tm, cell19_ k qm tm, cell21_ k qm tm, cell20_ k qm sm, cell16_ k qm sm, cell11_ k qm sm, cell10_ k qm sm, cell9_ k qm sm, cell7_ k qm sm]) (rest := []) cx hP hD hS [.int v85] (c_X12_isWeek l D k b qm (up2 sm 0 (upd (sm 0) 32 x92)) (up2L tm 0 (vp_updL (vp_updL (vp_updL (tm 0) 29 x89) 30 x90) 31 x91)) H.size v85 (show 0 ≤ ((sm 2) 0).toInt ∧ ((sm 2) 0).toInt ≤ 5 from by first | decide | omega)) gX12_goThrough_X12_isWeek rfl rfl rfl nd_X12_isWeek ⟨Nat.le_of_ble_eq_true rfl, Nat.le_of_ble_eq_true rfl⟩ (ci := 10) (q0 := 0) rfl rfl rfl hl.1 rfl (Nat.le_of_ble_eq_true rfl) ⟨Nat.zero_le _, Nat.zero_le _⟩ dX12_goThrough_42) cx.2.2.1 hD hS (fun r108 _ H locs hw107 hP hD hS => ?_)
        replace hw107 : (0 ≤ r108.toInt ∧ r108.toInt ≤ 1) ∧ (Imp (r108.toInt = 1) (0 ≤ v85.toInt ∧ v85.toInt ≤ 4)) ∧ (r108 = J_X12_isWeek (up2 sm 0 (upd (sm 0) 32 x92)) (up2L tm 0 (vp_updL (vp_updL (vp_updL (tm 0) 29 x89) 30 x90) 31 x91)) v85) := hw107
        obtain ⟨w109, w110, w111⟩ := hw107
        have zr108 : 0 ≤ r108.toInt ∧ r108.toInt ≤ 1 := w109
        refine lv_if_eq (tgt := 65) hx hb dX12_goThrough_45 (by decide) (fun c113 => ?_) (fun c113 => ?_)
        · have f113 : r108.toInt = 0 := f_eq rfl (by decide) c113
          refine lv_bipush (v := (-9)) hx hb dX12_goThrough_65 (by decide) ?_
          refine lv_istore (lv' := [(5, .int (-9)), (4, .int v85), (3, .int v86), (2, .int v87), (1, .int v88), (0, .ref (qm 0))]) hx hb dX12_goThrough_67 hl (by decide) rfl (fun ls hl => ?_)
          refine lv_iload hx hb dX12_goThrough_69 (lv_at hl 0 rfl) ?_
          refine lv_bipush (v := (-9)) hx hb dX12_goThrough_71 (by decide) ?_
          refine lv_icmp_ne (tgt := 81) hx hb dX12_goThrough_73 (by decide) (fun c114 => ?_) (fun c114 => ?_)
          · exact absurd c114 (by decide)
          · refine lv_bipush (v := (-9)) hx hb dX12_goThrough_76 (by decide) ?_
            refine lv_goto (tgt := 93) hx hb dX12_goThrough_78 (by decide) ?_
            refine lv_istore (lv' := [(6, .int (-9)), (5, .int (-9)), (4, .int v85), (3, .int v86), (2, .int v87), (1, .int v88), (0, .ref (qm 0))]) hx hb dX12_goThrough_93 hl (by decide) rfl (fun ls hl => ?_)
            refine lv_iload hx hb dX12_goThrough_95 (lv_at hl 0 rfl) ?_
            refine lv_bipush (v := (-9)) hx hb dX12_goThrough_97 (by decide) ?_
            refine lv_icmp_ne (tgt := 105) hx hb dX12_goThrough_99 (by decide) (fun c115 => ?_) (fun c115 => ?_)
            · exact absurd c115 (by decide)
            · refine lv_iload hx hb dX12_goThrough_102 (lv_at hl 2 rfl) ?_
              rw [hQ]
              exact x_i cx hr (x89, x90, x91, x92) hP hD hS ⟨(show x91.toInt % 2 = 1 from by omega), (show (v85, x89, x90, x91, x92) = J_X12_goThrough sm tm from ((hrr30_1.trans (LT_r hzrr30_1 (exl_X12_goThrough_3 c94 w111 c113)))).symm)⟩ dX12_goThrough_104
        · have f113 : ¬ r108.toInt = 0 := f_ne rfl (by decide) c113
          have k113 : (0 ≤ v85.toInt ∧ v85.toInt ≤ 4) := w110 (by omega)
          refine lv_aload_n hx hb dX12_goThrough_48 rfl (lv_at hl 4 rfl) ?_
          refine lv_iload hx hb dX12_goThrough_49 (lv_at hl 0 rfl) ?_
          refine lv_iload_n hx hb dX12_goThrough_51 rfl (lv_at hl 3 rfl) ?_
          refine lv_aload_n hx hb dX12_goThrough_52 rfl (lv_at hl 4 rfl) ?_
          refine g_get cx hP iw_X12_goThrough_X12 0 rfl rfl 27 (by decide) rfl fw_X12_goThrough_57 rfl dX12_goThrough_53 ?_
          refine lv_iload hx hb dX12_goThrough_56 (lv_at hl 0 rfl) ?_
          have hn116 : vp_in v85 5 := f_in (a := v85.toInt) rfl (by omega) (by omega)
          refine va_iald hx hb cx.2.1 hP 16 0 rfl rfl hn116 dX12_goThrough_58 (lv_topi (fun v117 e117 => ?_))
          refine g_iF (w1 := fun (_ : Unit) => [cell69_ qm sm x89 x90 x91 x92, cell5_ k qm sm, cell13_ k qm sm, cell8_ k qm sm, cell6_ k qm sm, cell15_ k qm sm, cell14_ k qm tm, cell12_ k qm tm, cell18_ k qm tm, cell17_ k qm tm, cell19_ k qm tm, cell21_ k qm tm, cell20_ k qm sm, cell16_ k qm sm, cell11_ k qm sm, cell10_ k qm sm, cell9_ k qm sm, cell7_ k qm sm]) (g_runVF (ws := [cell69_ qm sm x89 x90 x91 x92, cell5_ k qm sm, cell13_ k qm sm, cell8_ k qm sm, cell6_ k qm sm, cell15_ k qm sm, cell14_ k qm tm, cell12_ k qm tm, cell18_ k qm tm, cell17_ k qm tm, cell19_ k qm tm, cell21_ k qm tm, cell20_ k qm sm, cell16_ k qm sm, cell11_ k qm sm, cell10_ k qm sm, cell9_ k qm sm, cell7_ k qm sm]) (rest := []) cx hP hD hS [.int v85, .int v88, .int v117] (c_X12_after l D k b qm (up2 sm 0 (upd (sm 0) 32 x92)) (up2L tm 0 (vp_updL (vp_updL (vp_updL (tm 0) 29 x89) 30 x90) 31 x91)) H.size v85 v88 v117 (show 0 ≤ ((sm 2) 0).toInt ∧ ((sm 2) 0).toInt ≤ 5 from by first | decide | omega) (show 0 ≤ v85.toInt ∧ v85.toInt ≤ 4 from by first | decide | omega)) gX12_goThrough_X12_after rfl rfl rfl nd_X12_after ⟨Nat.le_of_ble_eq_true rfl, Nat.le_of_ble_eq_true rfl⟩ (ci := 10) (q0 := 0) rfl rfl rfl hl.1 rfl (Nat.le_of_ble_eq_true rfl) ⟨Nat.zero_le _, Nat.zero_le _⟩ dX12_goThrough_59) cx.2.2.1 hD hS (fun r119 _ H locs hw118 hP hD hS => ?_)
          have w120 : r119 = J_X12_after (up2 sm 0 (upd (sm 0) 32 x92)) (up2L tm 0 (vp_updL (vp_updL (vp_updL (tm 0) 29 x89) 30 x90) 31 x91)) v85 v88 v117 := hw118
          clear hw118
          refine lv_goto (tgt := 67) hx hb dX12_goThrough_62 (by decide) ?_
          refine lv_istore (lv' := [(5, .int r119), (4, .int v85), (3, .int v86), (2, .int v87), (1, .int v88), (0, .ref (qm 0))]) hx hb dX12_goThrough_67 hl (by decide) rfl (fun ls hl => ?_)
          refine lv_iload hx hb dX12_goThrough_69 (lv_at hl 0 rfl) ?_
          refine lv_bipush (v := (-9)) hx hb dX12_goThrough_71 (by decide) ?_
          refine lv_icmp_ne (tgt := 81) hx hb dX12_goThrough_73 (by decide) (fun c122 => ?_) (fun c122 => ?_)
          · have f122 : ¬ r119.toInt = (-9) := f_ne rfl (by decide) c122
            refine lv_iload hx hb dX12_goThrough_81 (lv_at hl 0 rfl) ?_
            refine lv_aload_n hx hb dX12_goThrough_83 rfl (lv_at hl 5 rfl) ?_
            refine g_get cx hP iw_X12_goThrough_X12 0 rfl rfl 28 (by decide) rfl fw_X12_goThrough_60 rfl dX12_goThrough_84 ?_
            refine lv_iload hx hb dX12_goThrough_87 (lv_at hl 1 rfl) ?_
            have hn123 : vp_in v85 5 := f_in (a := v85.toInt) rfl (by omega) (by omega)
            refine va_iald hx hb cx.2.1 hP 17 0 rfl rfl hn123 dX12_goThrough_89 (lv_topi (fun v124 e124 => ?_))
            refine g_ir (g_runS (wc := []) (rest := []) cx hP hD hS [] rfl (by decide) [.int r119, .int v124] (c_X12_left l D k b H.size r119 v124) gX12_goThrough_X12_left rfl rfl rfl nd_X12_left ⟨Nat.le_of_ble_eq_true rfl, Nat.le_of_ble_eq_true rfl⟩ rfl hl.1 rfl (Nat.le_of_ble_eq_true rfl) ⟨Nat.zero_le _, Nat.zero_le _⟩ dX12_goThrough_90) cx.2.2.1 hP hD hS [] rfl rfl (fun r126 H locs hw125 hP hS => ?_)
            have w127 : r126 = J_X12_left r119 v124 := hw125
            clear hw125
            refine lv_istore (lv' := [(6, .int r126), (5, .int r119), (4, .int v85), (3, .int v86), (2, .int v87), (1, .int v88), (0, .ref (qm 0))]) hx hb dX12_goThrough_93 hl (by decide) rfl (fun ls hl => ?_)
            refine lv_iload hx hb dX12_goThrough_95 (lv_at hl 0 rfl) ?_
            refine lv_bipush (v := (-9)) hx hb dX12_goThrough_97 (by decide) ?_
            refine lv_icmp_ne (tgt := 105) hx hb dX12_goThrough_99 (by decide) (fun c128 => ?_) (fun c128 => ?_)
            · have f128 : ¬ r126.toInt = (-9) := f_ne rfl (by decide) c128
              refine lv_aload_n hx hb dX12_goThrough_105 rfl (lv_at hl 6 rfl) ?_
              refine g_get cx hP iw_X12_goThrough_X12 0 rfl rfl 28 (by decide) rfl fw_X12_goThrough_60 rfl dX12_goThrough_106 ?_
              refine lv_iload hx hb dX12_goThrough_109 (lv_at hl 2 rfl) ?_
              have hn129 : vp_in v85 5 := f_in (a := v85.toInt) rfl (by omega) (by omega)
              refine va_iald hx hb cx.2.1 hP 17 0 rfl rfl hn129 dX12_goThrough_111 (lv_topi (fun v130 e130 => ?_))
              have qv130_ : v130.toInt = v124.toInt := congrArg Int32.toInt (e130.trans e124.symm)
              refine lv_bipush (v := 100) hx hb dX12_goThrough_112 (by decide) ?_
              refine lv_idiv hx hb dX12_goThrough_114 (by decide) (lv_topi (fun v131 e131 => ?_))
              refine lv_istore (lv' := [(7, .int v131), (6, .int r126), (5, .int r119), (4, .int v85), (3, .int v86), (2, .int v87), (1, .int v88), (0, .ref (qm 0))]) hx hb dX12_goThrough_115 hl (by decide) rfl (fun ls hl => ?_)
              refine lv_aload_n hx hb dX12_goThrough_117 rfl (lv_at hl 7 rfl) ?_
              refine g_get cx hP iw_X12_goThrough_X12 0 rfl rfl 28 (by decide) rfl fw_X12_goThrough_60 rfl dX12_goThrough_118 ?_
              refine lv_iload hx hb dX12_goThrough_121 (lv_at hl 3 rfl) ?_
              have hn132 : vp_in v85 5 := f_in (a := v85.toInt) rfl (by omega) (by omega)
              refine va_iald hx hb cx.2.1 hP 17 0 rfl rfl hn132 dX12_goThrough_123 (lv_topi (fun v133 e133 => ?_))
              have qv133_ : v133.toInt = v130.toInt := congrArg Int32.toInt (e133.trans e130.symm)
              refine lv_bipush (v := 10) hx hb dX12_goThrough_124 (by decide) ?_
              refine lv_idiv hx hb dX12_goThrough_126 (by decide) (lv_topi (fun v134 e134 => ?_))
              refine lv_bipush (v := 10) hx hb dX12_goThrough_127 (by decide) ?_
              refine lv_irem hx hb dX12_goThrough_129 (by decide) (lv_topi (fun v135 e135 => ?_))
              have t135 : -10 < v135.toInt ∧ v135.toInt < 10 := by rw [e135]; exact i_remb (by decide) (by decide)
              refine lv_istore (lv' := [(8, .int v135), (7, .int v131), (6, .int r126), (5, .int r119), (4, .int v85), (3, .int v86), (2, .int v87), (1, .int v88), (0, .ref (qm 0))]) hx hb dX12_goThrough_130 hl (by decide) rfl (fun ls hl => ?_)
              refine lv_aload_n hx hb dX12_goThrough_132 rfl (lv_at hl 8 rfl) ?_
              refine g_get cx hP iw_X12_goThrough_X12 0 rfl rfl 28 (by decide) rfl fw_X12_goThrough_60 rfl dX12_goThrough_133 ?_
              refine lv_iload hx hb dX12_goThrough_136 (lv_at hl 4 rfl) ?_
              have hn136 : vp_in v85 5 := f_in (a := v85.toInt) rfl (by omega) (by omega)
              refine va_iald hx hb cx.2.1 hP 17 0 rfl rfl hn136 dX12_goThrough_138 (lv_topi (fun v137 e137 => ?_))
              have qv137_ : v137.toInt = v133.toInt := congrArg Int32.toInt (e137.trans e133.symm)
              refine lv_bipush (v := 10) hx hb dX12_goThrough_139 (by decide) ?_
              refine lv_irem hx hb dX12_goThrough_141 (by decide) (lv_topi (fun v138 e138 => ?_))
              have t138 : -10 < v138.toInt ∧ v138.toInt < 10 := by rw [e138]; exact i_remb (by decide) (by decide)
              refine lv_istore (lv' := [(9, .int v138), (8, .int v135), (7, .int v131), (6, .int r126), (5, .int r119), (4, .int v85), (3, .int v86), (2, .int v87), (1, .int v88), (0, .ref (qm 0))]) hx hb dX12_goThrough_142 hl (by decide) rfl (fun ls hl => ?_)
              refine lv_iload hx hb dX12_goThrough_144 (lv_at hl 4 rfl) ?_
              refine lv_bipush (v := 100) hx hb dX12_goThrough_146 (by decide) ?_
              refine lv_idiv hx hb dX12_goThrough_148 (by decide) (lv_topi (fun v139 e139 => ?_))
              refine lv_istore (lv' := [(10, .int v139), (9, .int v138), (8, .int v135), (7, .int v131), (6, .int r126), (5, .int r119), (4, .int v85), (3, .int v86), (2, .int v87), (1, .int v88), (0, .ref (qm 0))]) hx hb dX12_goThrough_149 hl (by decide) rfl (fun ls hl => ?_)
              refine lv_iload hx hb dX12_goThrough_151 (lv_at hl 5 rfl) ?_
              refine lv_bipush (v := 10) hx hb dX12_goThrough_153 (by decide) ?_
              refine lv_idiv hx hb dX12_goThrough_155 (by decide) (lv_topi (fun v140 e140 => ?_))
              refine lv_bipush (v := 10) hx hb dX12_goThrough_156 (by decide) ?_
              refine lv_irem hx hb dX12_goThrough_158 (by decide) (lv_topi (fun v141 e141 => ?_))
              have t141 : -10 < v141.toInt ∧ v141.toInt < 10 := by rw [e141]; exact i_remb (by decide) (by decide)
              refine lv_istore (lv' := [(11, .int v141), (10, .int v139), (9, .int v138), (8, .int v135), (7, .int v131), (6, .int r126), (5, .int r119), (4, .int v85), (3, .int v86), (2, .int v87), (1, .int v88), (0, .ref (qm 0))]) hx hb dX12_goThrough_159 hl (by decide) rfl (fun ls hl => ?_)
              refine lv_iload hx hb dX12_goThrough_161 (lv_at hl 6 rfl) ?_
              refine lv_bipush (v := 10) hx hb dX12_goThrough_163 (by decide) ?_
              refine lv_irem hx hb dX12_goThrough_165 (by decide) (lv_topi (fun v142 e142 => ?_))
              have t142 : -10 < v142.toInt ∧ v142.toInt < 10 := by rw [e142]; exact i_remb (by decide) (by decide)
              refine lv_istore (lv' := [(12, .int v142), (11, .int v141), (10, .int v139), (9, .int v138), (8, .int v135), (7, .int v131), (6, .int r126), (5, .int r119), (4, .int v85), (3, .int v86), (2, .int v87), (1, .int v88), (0, .ref (qm 0))]) hx hb dX12_goThrough_166 hl (by decide) rfl (fun ls hl => ?_)
              refine lv_aload_n hx hb dX12_goThrough_168 rfl (lv_at hl 12 rfl) ?_
              refine lv_iconst (v := 0) hx hb dX12_goThrough_169 (by decide) ?_
              refine lv_iload hx hb dX12_goThrough_170 (lv_at hl 2 rfl) ?_
              refine lv_iload hx hb dX12_goThrough_172 (lv_at hl 2 rfl) ?_
              refine lv_iload hx hb dX12_goThrough_174 (lv_at hl 5 rfl) ?_
              refine lv_isub hx hb dX12_goThrough_176 (lv_topi (fun v143 e143 => ?_))
              refine g_iF (w1 := fun (_ : Unit) => [cell69_ qm sm x89 x90 x91 x92, cell5_ k qm sm, cell13_ k qm sm, cell8_ k qm sm, cell6_ k qm sm, cell15_ k qm sm, cell14_ k qm tm, cell12_ k qm tm, cell18_ k qm tm, cell17_ k qm tm, cell19_ k qm tm, cell21_ k qm tm, cell20_ k qm sm, cell16_ k qm sm, cell11_ k qm sm, cell10_ k qm sm, cell9_ k qm sm, cell7_ k qm sm]) (g_runVF (ws := [cell69_ qm sm x89 x90 x91 x92, cell5_ k qm sm, cell13_ k qm sm, cell8_ k qm sm, cell6_ k qm sm, cell15_ k qm sm, cell14_ k qm tm, cell12_ k qm tm, cell18_ k qm tm, cell17_ k qm tm, cell19_ k qm tm, cell21_ k qm tm, cell20_ k qm sm, cell16_ k qm sm, cell11_ k qm sm, cell10_ k qm sm, cell9_ k qm sm, cell7_ k qm sm]) (rest := []) cx hP hD hS [.int 0, .int v139, .int v143] (c_X12_stays l D k b qm (up2 sm 0 (upd (sm 0) 32 x92)) (up2L tm 0 (vp_updL (vp_updL (vp_updL (tm 0) 29 x89) 30 x90) 31 x91)) H.size 0 v139 v143 (show 0 ≤ (0 : Int32).toInt ∧ (0 : Int32).toInt ≤ 2 from by first | decide | omega)) gX12_goThrough_X12_stays rfl rfl rfl nd_X12_stays ⟨Nat.le_of_ble_eq_true rfl, Nat.le_of_ble_eq_true rfl⟩ (ci := 10) (q0 := 0) rfl rfl rfl hl.1 rfl (Nat.le_of_ble_eq_true rfl) ⟨Nat.zero_le _, Nat.zero_le _⟩ dX12_goThrough_177) cx.2.2.1 hD hS (fun r145 _ H locs hw144 hP hD hS => ?_)
              have w146 : r145 = J_X12_stays (up2 sm 0 (upd (sm 0) 32 x92)) (up2L tm 0 (vp_updL (vp_updL (vp_updL (tm 0) 29 x89) 30 x90) 31 x91)) (0 : Int32) v139 v143 := hw144
              clear hw144
              refine lv_aload_n hx hb dX12_goThrough_180 rfl (lv_at hl 12 rfl) ?_
              refine lv_iconst (v := 1) hx hb dX12_goThrough_181 (by decide) ?_
              refine lv_iload hx hb dX12_goThrough_182 (lv_at hl 1 rfl) ?_
              refine lv_iload hx hb dX12_goThrough_184 (lv_at hl 1 rfl) ?_
              refine lv_iload hx hb dX12_goThrough_186 (lv_at hl 4 rfl) ?_
              refine lv_isub hx hb dX12_goThrough_188 (lv_topi (fun v148 e148 => ?_))
              have t148 : v148.toInt = v141.toInt - v135.toInt := by rw [e148]; exact i_sub rfl rfl (by omega) (by omega)
              refine g_iF (w1 := fun (_ : Unit) => [cell69_ qm sm x89 x90 x91 x92, cell5_ k qm sm, cell13_ k qm sm, cell8_ k qm sm, cell6_ k qm sm, cell15_ k qm sm, cell14_ k qm tm, cell12_ k qm tm, cell18_ k qm tm, cell17_ k qm tm, cell19_ k qm tm, cell21_ k qm tm, cell20_ k qm sm, cell16_ k qm sm, cell11_ k qm sm, cell10_ k qm sm, cell9_ k qm sm, cell7_ k qm sm]) (g_runVF (ws := [cell69_ qm sm x89 x90 x91 x92, cell5_ k qm sm, cell13_ k qm sm, cell8_ k qm sm, cell6_ k qm sm, cell15_ k qm sm, cell14_ k qm tm, cell12_ k qm tm, cell18_ k qm tm, cell17_ k qm tm, cell19_ k qm tm, cell21_ k qm tm, cell20_ k qm sm, cell16_ k qm sm, cell11_ k qm sm, cell10_ k qm sm, cell9_ k qm sm, cell7_ k qm sm]) (rest := [.int r145]) cx hP hD hS [.int 1, .int v141, .int v148] (c_X12_stays l D k b qm (up2 sm 0 (upd (sm 0) 32 x92)) (up2L tm 0 (vp_updL (vp_updL (vp_updL (tm 0) 29 x89) 30 x90) 31 x91)) H.size 1 v141 v148 (show 0 ≤ (1 : Int32).toInt ∧ (1 : Int32).toInt ≤ 2 from by first | decide | omega)) gX12_goThrough_X12_stays rfl rfl rfl nd_X12_stays ⟨Nat.le_of_ble_eq_true rfl, Nat.le_of_ble_eq_true rfl⟩ (ci := 10) (q0 := 0) rfl rfl rfl hl.1 rfl (Nat.le_of_ble_eq_true rfl) ⟨Nat.zero_le _, Nat.zero_le _⟩ dX12_goThrough_189) cx.2.2.1 hD hS (fun r150 _ H locs hw149 hP hD hS => ?_)
              have w151 : r150 = J_X12_stays (up2 sm 0 (upd (sm 0) 32 x92)) (up2L tm 0 (vp_updL (vp_updL (vp_updL (tm 0) 29 x89) 30 x90) 31 x91)) (1 : Int32) v141 v148 := hw149
              clear hw149
              refine lv_imul hx hb dX12_goThrough_192 (lv_topi (fun v153 e153 => ?_))
              refine lv_aload_n hx hb dX12_goThrough_193 rfl (lv_at hl 12 rfl) ?_
              refine lv_iconst (v := 2) hx hb dX12_goThrough_194 (by decide) ?_
              refine lv_iload hx hb dX12_goThrough_195 (lv_at hl 0 rfl) ?_
              refine lv_iload hx hb dX12_goThrough_197 (lv_at hl 0 rfl) ?_
              refine lv_iload hx hb dX12_goThrough_199 (lv_at hl 3 rfl) ?_
              refine lv_isub hx hb dX12_goThrough_201 (lv_topi (fun v154 e154 => ?_))
              have t154 : v154.toInt = v142.toInt - v138.toInt := by rw [e154]; exact i_sub rfl rfl (by omega) (by omega)
              refine g_iF (w1 := fun (_ : Unit) => [cell69_ qm sm x89 x90 x91 x92, cell5_ k qm sm, cell13_ k qm sm, cell8_ k qm sm, cell6_ k qm sm, cell15_ k qm sm, cell14_ k qm tm, cell12_ k qm tm, cell18_ k qm tm, cell17_ k qm tm, cell19_ k qm tm, cell21_ k qm tm, cell20_ k qm sm, cell16_ k qm sm, cell11_ k qm sm, cell10_ k qm sm, cell9_ k qm sm, cell7_ k qm sm]) (g_runVF (ws := [cell69_ qm sm x89 x90 x91 x92, cell5_ k qm sm, cell13_ k qm sm, cell8_ k qm sm, cell6_ k qm sm, cell15_ k qm sm, cell14_ k qm tm, cell12_ k qm tm, cell18_ k qm tm, cell17_ k qm tm, cell19_ k qm tm, cell21_ k qm tm, cell20_ k qm sm, cell16_ k qm sm, cell11_ k qm sm, cell10_ k qm sm, cell9_ k qm sm, cell7_ k qm sm]) (rest := [.int v153]) cx hP hD hS [.int 2, .int v142, .int v154] (c_X12_stays l D k b qm (up2 sm 0 (upd (sm 0) 32 x92)) (up2L tm 0 (vp_updL (vp_updL (vp_updL (tm 0) 29 x89) 30 x90) 31 x91)) H.size 2 v142 v154 (show 0 ≤ (2 : Int32).toInt ∧ (2 : Int32).toInt ≤ 2 from by first | decide | omega)) gX12_goThrough_X12_stays rfl rfl rfl nd_X12_stays ⟨Nat.le_of_ble_eq_true rfl, Nat.le_of_ble_eq_true rfl⟩ (ci := 10) (q0 := 0) rfl rfl rfl hl.1 rfl (Nat.le_of_ble_eq_true rfl) ⟨Nat.zero_le _, Nat.zero_le _⟩ dX12_goThrough_202) cx.2.2.1 hD hS (fun r156 _ H locs hw155 hP hD hS => ?_)
              have w157 : r156 = J_X12_stays (up2 sm 0 (upd (sm 0) 32 x92)) (up2L tm 0 (vp_updL (vp_updL (vp_updL (tm 0) 29 x89) 30 x90) 31 x91)) (2 : Int32) v142 v154 := hw155
              clear hw155
              refine lv_imul hx hb dX12_goThrough_205 (lv_topi (fun v159 e159 => ?_))
              refine lv_istore (lv' := [(13, .int v159), (12, .int v142), (11, .int v141), (10, .int v139), (9, .int v138), (8, .int v135), (7, .int v131), (6, .int r126), (5, .int r119), (4, .int v85), (3, .int v86), (2, .int v87), (1, .int v88), (0, .ref (qm 0))]) hx hb dX12_goThrough_206 hl (by decide) rfl (fun ls hl => ?_)
              refine lv_iload hx hb dX12_goThrough_208 (lv_at hl 0 rfl) ?_
              refine lv_if_ne (tgt := 216) hx hb dX12_goThrough_210 (by decide) (fun c160 => ?_) (fun c160 => ?_)
              · have f160 : ¬ v159.toInt = 0 := f_ne rfl (by decide) c160
                refine lv_aload_n hx hb dX12_goThrough_216 rfl (lv_at hl 13 rfl) ?_
                refine lv_dup hx hb dX12_goThrough_217 rfl ?_
                refine g_get cx hP iw_X12_goThrough_X12 0 rfl rfl 30 (by decide) rfl fw_X12_goThrough_265 rfl dX12_goThrough_218 ?_
                refine lv_iload hx hb dX12_goThrough_221 (lv_at hl 0 rfl) ?_
                obtain ⟨v161, e161⟩ : ∃ z : Int64, z = (v159 : Int32).toInt64 := ⟨_, rfl⟩
                refine lv_i2l (v := v161) hx hb dX12_goThrough_223 e161.symm ?_
                refine lv_lmul hx hb dX12_goThrough_224 (lv_topl (fun v162 e162 => ?_))
                refine g_pt cx hP hD hS iw_X12_goThrough_X12 tyX12 tyX12_ok nmX12 0 rfl rfl 30 (by decide) rfl fw_X12_goThrough_265 (ty := .long) rfl rfl rfl (Nat.le_of_ble_eq_true rfl) dX12_goThrough_225 (fun H locs hP hD hS => ?_)
                have hP : va_P D vwCl [cell69_ qm sm x89 v162 x91 x92, cell5_ k qm sm, cell13_ k qm sm, cell8_ k qm sm, cell6_ k qm sm, cell15_ k qm sm, cell14_ k qm tm, cell12_ k qm tm, cell18_ k qm tm, cell17_ k qm tm, cell19_ k qm tm, cell21_ k qm tm, cell20_ k qm sm, cell16_ k qm sm, cell11_ k qm sm, cell10_ k qm sm, cell9_ k qm sm, cell7_ k qm sm] H := hP
                have hD : va_D A [cell69_ qm sm x89 v162 x91 x92, cell5_ k qm sm, cell13_ k qm sm, cell8_ k qm sm, cell6_ k qm sm, cell15_ k qm sm, cell14_ k qm tm, cell12_ k qm tm, cell18_ k qm tm, cell17_ k qm tm, cell19_ k qm tm, cell21_ k qm tm, cell20_ k qm sm, cell16_ k qm sm, cell11_ k qm sm, cell10_ k qm sm, cell9_ k qm sm, cell7_ k qm sm] := hD
                refine lv_aload_n hx hb dX12_goThrough_228 rfl (lv_at hl 13 rfl) ?_
                refine lv_dup hx hb dX12_goThrough_229 rfl ?_
                refine g_get cx hP iw_X12_goThrough_X12 0 rfl rfl 31 (by decide) rfl fw_X12_goThrough_268 rfl dX12_goThrough_230 ?_
                refine lv_iconst (v := 5) hx hb dX12_goThrough_233 (by decide) ?_
                refine lv_iload hx hb dX12_goThrough_234 (lv_at hl 8 rfl) ?_
                refine g_ir (g_runS (wc := []) (rest := [.int 5, .long x91, .ref (qm 0)]) cx hP hD hS [] rfl (by decide) [.int r119] (c_X12_all l D k b H.size r119) gX12_goThrough_X12_all rfl rfl rfl nd_X12_all ⟨Nat.le_of_ble_eq_true rfl, Nat.le_of_ble_eq_true rfl⟩ rfl hl.1 rfl (Nat.le_of_ble_eq_true rfl) ⟨Nat.zero_le _, Nat.zero_le _⟩ dX12_goThrough_236) cx.2.2.1 hP hD hS [] rfl rfl (fun r164 H locs hw163 hP hS => ?_)
                have w165 : r164 = J_X12_all r119 := hw163
                clear hw163
                refine g_ir (g_runS (wc := []) (rest := [.long x91, .ref (qm 0)]) cx hP hD hS [] rfl (by decide) [.int 5, .int r164] (c_X12_power l D k b H.size 5 r164) gX12_goThrough_X12_power rfl rfl rfl nd_X12_power ⟨Nat.le_of_ble_eq_true rfl, Nat.le_of_ble_eq_true rfl⟩ rfl hl.1 rfl (Nat.le_of_ble_eq_true rfl) ⟨Nat.zero_le _, Nat.zero_le _⟩ dX12_goThrough_239) cx.2.2.1 hP hD hS [] rfl rfl (fun r167 H locs hw166 hP hS => ?_)
                replace hw166 : (Imp ((5 : Int32).toInt % 2 = 1) (r167.toInt % 2 = 1)) ∧ (r167 = J_X12_power (5 : Int32) r164) := hw166
                obtain ⟨w168, w169⟩ := hw166
                have or167 : r167.toInt % 2 = 1 := w168 (by decide)
                obtain ⟨v171, e171⟩ : ∃ z : Int64, z = (r167 : Int32).toInt64 := ⟨_, rfl⟩
                refine lv_i2l (v := v171) hx hb dX12_goThrough_242 e171.symm ?_
                refine lv_lmul hx hb dX12_goThrough_243 (lv_topl (fun v172 e172 => ?_))
                have ov172 : v172.toInt % 2 = 1 := by rw [e172]; exact odd64 (by omega) (by rw [e171, Int32.toInt_toInt64]; omega)
                refine g_pt cx hP hD hS iw_X12_goThrough_X12 tyX12 tyX12_ok nmX12 0 rfl rfl 31 (by decide) rfl fw_X12_goThrough_268 (ty := .long) rfl rfl rfl (Nat.le_of_ble_eq_true rfl) dX12_goThrough_244 (fun H locs hP hD hS => ?_)
                have hP : va_P D vwCl [cell69_ qm sm x89 v162 v172 x92, cell5_ k qm sm, cell13_ k qm sm, cell8_ k qm sm, cell6_ k qm sm, cell15_ k qm sm, cell14_ k qm tm, cell12_ k qm tm, cell18_ k qm tm, cell17_ k qm tm, cell19_ k qm tm, cell21_ k qm tm, cell20_ k qm sm, cell16_ k qm sm, cell11_ k qm sm, cell10_ k qm sm, cell9_ k qm sm, cell7_ k qm sm] H := hP
                have hD : va_D A [cell69_ qm sm x89 v162 v172 x92, cell5_ k qm sm, cell13_ k qm sm, cell8_ k qm sm, cell6_ k qm sm, cell15_ k qm sm, cell14_ k qm tm, cell12_ k qm tm, cell18_ k qm tm, cell17_ k qm tm, cell19_ k qm tm, cell21_ k qm tm, cell20_ k qm sm, cell16_ k qm sm, cell11_ k qm sm, cell10_ k qm sm, cell9_ k qm sm, cell7_ k qm sm] := hD
                refine lv_aload_n hx hb dX12_goThrough_247 rfl (lv_at hl 13 rfl) ?_
                refine lv_dup hx hb dX12_goThrough_248 rfl ?_
                refine g_get cx hP iw_X12_goThrough_X12 0 rfl rfl 29 (by decide) rfl fw_X12_goThrough_261 rfl dX12_goThrough_249 ?_
                refine lv_aload_n hx hb dX12_goThrough_252 rfl (lv_at hl 13 rfl) ?_
                refine lv_iload hx hb dX12_goThrough_253 (lv_at hl 9 rfl) ?_
                refine lv_iload hx hb dX12_goThrough_255 (lv_at hl 8 rfl) ?_
                refine lv_iload_n hx hb dX12_goThrough_257 rfl (lv_at hl 11 rfl) ?_
                refine lv_aload_n hx hb dX12_goThrough_258 rfl (lv_at hl 13 rfl) ?_
                refine g_get cx hP iw_X12_goThrough_X12 0 rfl rfl 27 (by decide) rfl fw_X12_goThrough_57 rfl dX12_goThrough_259 ?_
                refine lv_iload hx hb dX12_goThrough_262 (lv_at hl 9 rfl) ?_
                have hn173 : vp_in v85 5 := f_in (a := v85.toInt) rfl (by omega) (by omega)
                refine va_iald hx hb cx.2.1 hP 16 0 rfl rfl hn173 dX12_goThrough_264 (lv_topi (fun v174 e174 => ?_))
                have qv174_ : v174.toInt = v117.toInt := congrArg Int32.toInt (e174.trans e117.symm)
                refine g_iF (w1 := fun (_ : Unit) => [cell69_ qm sm x89 v162 v172 x92, cell5_ k qm sm, cell13_ k qm sm, cell8_ k qm sm, cell6_ k qm sm, cell15_ k qm sm, cell14_ k qm tm, cell12_ k qm tm, cell18_ k qm tm, cell17_ k qm tm, cell19_ k qm tm, cell21_ k qm tm, cell20_ k qm sm, cell16_ k qm sm, cell11_ k qm sm, cell10_ k qm sm, cell9_ k qm sm, cell7_ k qm sm]) (g_runVF (ws := [cell69_ qm sm x89 v162 v172 x92, cell5_ k qm sm, cell13_ k qm sm, cell8_ k qm sm, cell6_ k qm sm, cell15_ k qm sm, cell14_ k qm tm, cell12_ k qm tm, cell18_ k qm tm, cell17_ k qm tm, cell19_ k qm tm, cell21_ k qm tm, cell20_ k qm sm, cell16_ k qm sm, cell11_ k qm sm, cell10_ k qm sm, cell9_ k qm sm, cell7_ k qm sm]) (rest := [.long x89, .ref (qm 0)]) cx hP hD hS [.int v85, .int r119, .int v87, .int v174] (c_X12_costOf l D k b qm (up2 sm 0 (upd (sm 0) 32 x92)) (up2L tm 0 (vp_updL (vp_updL (vp_updL (tm 0) 29 x89) 30 v162) 31 v172)) H.size v85 r119 v87 v174 (show 0 ≤ v85.toInt ∧ v85.toInt ≤ 4 from by first | decide | omega)) gX12_goThrough_X12_costOf rfl rfl rfl nd_X12_costOf ⟨Nat.le_of_ble_eq_true rfl, Nat.le_of_ble_eq_true rfl⟩ (ci := 10) (q0 := 0) rfl rfl rfl hl.1 rfl (Nat.le_of_ble_eq_true rfl) ⟨Nat.zero_le _, Nat.zero_le _⟩ dX12_goThrough_265) cx.2.2.1 hD hS (fun r176 _ H locs hw175 hP hD hS => ?_)
                have w177 : r176 = J_X12_costOf (up2 sm 0 (upd (sm 0) 32 x92)) (up2L tm 0 (vp_updL (vp_updL (vp_updL (tm 0) 29 x89) 30 v162) 31 v172)) v85 r119 v87 v174 := hw175
                clear hw175
                obtain ⟨v179, e179⟩ : ∃ z : Int64, z = (r176 : Int32).toInt64 := ⟨_, rfl⟩
                refine lv_i2l (v := v179) hx hb dX12_goThrough_268 e179.symm ?_
                refine lv_ladd hx hb dX12_goThrough_269 (lv_topl (fun v180 e180 => ?_))
                refine g_pt cx hP hD hS iw_X12_goThrough_X12 tyX12 tyX12_ok nmX12 0 rfl rfl 29 (by decide) rfl fw_X12_goThrough_261 (ty := .long) rfl rfl rfl (Nat.le_of_ble_eq_true rfl) dX12_goThrough_270 (fun H locs hP hD hS => ?_)
                have hP : va_P D vwCl [cell69_ qm sm v180 v162 v172 x92, cell5_ k qm sm, cell13_ k qm sm, cell8_ k qm sm, cell6_ k qm sm, cell15_ k qm sm, cell14_ k qm tm, cell12_ k qm tm, cell18_ k qm tm, cell17_ k qm tm, cell19_ k qm tm, cell21_ k qm tm, cell20_ k qm sm, cell16_ k qm sm, cell11_ k qm sm, cell10_ k qm sm, cell9_ k qm sm, cell7_ k qm sm] H := hP
                have hD : va_D A [cell69_ qm sm v180 v162 v172 x92, cell5_ k qm sm, cell13_ k qm sm, cell8_ k qm sm, cell6_ k qm sm, cell15_ k qm sm, cell14_ k qm tm, cell12_ k qm tm, cell18_ k qm tm, cell17_ k qm tm, cell19_ k qm tm, cell21_ k qm tm, cell20_ k qm sm, cell16_ k qm sm, cell11_ k qm sm, cell10_ k qm sm, cell9_ k qm sm, cell7_ k qm sm] := hD
                refine lv_aload_n hx hb dX12_goThrough_273 rfl (lv_at hl 13 rfl) ?_
                refine lv_iload hx hb dX12_goThrough_274 (lv_at hl 9 rfl) ?_
                refine lv_iload hx hb dX12_goThrough_276 (lv_at hl 8 rfl) ?_
                refine lv_iload_n hx hb dX12_goThrough_278 rfl (lv_at hl 11 rfl) ?_
                refine lv_aload_n hx hb dX12_goThrough_279 rfl (lv_at hl 13 rfl) ?_
                refine g_get cx hP iw_X12_goThrough_X12 0 rfl rfl 27 (by decide) rfl fw_X12_goThrough_57 rfl dX12_goThrough_280 ?_
                refine lv_iload hx hb dX12_goThrough_283 (lv_at hl 9 rfl) ?_
                have hn181 : vp_in v85 5 := f_in (a := v85.toInt) rfl (by omega) (by omega)
                refine va_iald hx hb cx.2.1 hP 16 0 rfl rfl hn181 dX12_goThrough_285 (lv_topi (fun v182 e182 => ?_))
                have qv182_ : v182.toInt = v174.toInt := congrArg Int32.toInt (e182.trans e174.symm)
                refine g_iF (w1 := fun (_ : Unit) => [cell69_ qm sm v180 v162 v172 x92, cell5_ k qm sm, cell13_ k qm sm, cell8_ k qm sm, cell6_ k qm sm, cell15_ k qm sm, cell14_ k qm tm, cell12_ k qm tm, cell18_ k qm tm, cell17_ k qm tm, cell19_ k qm tm, cell21_ k qm tm, cell20_ k qm sm, cell16_ k qm sm, cell11_ k qm sm, cell10_ k qm sm, cell9_ k qm sm, cell7_ k qm sm]) (g_runVF (ws := [cell69_ qm sm v180 v162 v172 x92, cell5_ k qm sm, cell13_ k qm sm, cell8_ k qm sm, cell6_ k qm sm, cell15_ k qm sm, cell14_ k qm tm, cell12_ k qm tm, cell18_ k qm tm, cell17_ k qm tm, cell19_ k qm tm, cell21_ k qm tm, cell20_ k qm sm, cell16_ k qm sm, cell11_ k qm sm, cell10_ k qm sm, cell9_ k qm sm, cell7_ k qm sm]) (rest := []) cx hP hD hS [.int v85, .int r119, .int v87, .int v182] (c_X12_over l D k b qm (up2 sm 0 (upd (sm 0) 32 x92)) (up2L tm 0 (vp_updL (vp_updL (vp_updL (tm 0) 29 v180) 30 v162) 31 v172)) H.size v85 r119 v87 v182 (show 0 ≤ v85.toInt ∧ v85.toInt ≤ 4 from by first | decide | omega)) gX12_goThrough_X12_over rfl rfl rfl nd_X12_over ⟨Nat.le_of_ble_eq_true rfl, Nat.le_of_ble_eq_true rfl⟩ (ci := 10) (q0 := 0) rfl rfl rfl hl.1 rfl (Nat.le_of_ble_eq_true rfl) ⟨Nat.zero_le _, Nat.zero_le _⟩ dX12_goThrough_286) cx.2.2.1 hD hS (fun r184 _ H locs hw183 hP hD hS => ?_)
                have w185 : r184 = J_X12_over (up2 sm 0 (upd (sm 0) 32 x92)) (up2L tm 0 (vp_updL (vp_updL (vp_updL (tm 0) 29 v180) 30 v162) 31 v172)) v85 r119 v87 v182 := hw183
                clear hw183
                refine lv_istore (lv' := [(14, .int r184), (13, .int v159), (12, .int v142), (11, .int v141), (10, .int v139), (9, .int v138), (8, .int v135), (7, .int v131), (6, .int r126), (5, .int r119), (4, .int v85), (3, .int v86), (2, .int v87), (1, .int v88), (0, .ref (qm 0))]) hx hb dX12_goThrough_289 hl (by decide) rfl (fun ls hl => ?_)
                refine lv_iload hx hb dX12_goThrough_291 (lv_at hl 0 rfl) ?_
                refine lv_if_ge (tgt := 309) hx hb dX12_goThrough_293 (by decide) (fun c187 => ?_) (fun c187 => ?_)
                · have f187 : 0 ≤ r184.toInt := f_le (by decide) rfl c187
                  refine lv_iconst (v := 0) hx hb dX12_goThrough_309 (by decide) ?_
                  refine lv_istore (lv' := [(15, .int 0), (14, .int r184), (13, .int v159), (12, .int v142), (11, .int v141), (10, .int v139), (9, .int v138), (8, .int v135), (7, .int v131), (6, .int r126), (5, .int r119), (4, .int v85), (3, .int v86), (2, .int v87), (1, .int v88), (0, .ref (qm 0))]) hx hb dX12_goThrough_310 hl (by decide) rfl (fun ls hl => ?_)
                  refine lv_aload_n hx hb dX12_goThrough_312 rfl (lv_at hl 15 rfl) ?_
                  refine lv_iload hx hb dX12_goThrough_313 (lv_at hl 0 rfl) ?_
                  refine lv_iload_n hx hb dX12_goThrough_315 rfl (lv_at hl 12 rfl) ?_
                  refine lv_icmp_le (tgt := 324) hx hb dX12_goThrough_316 (by decide) (fun c188 => ?_) (fun c188 => ?_)
                  · have f188 : 0 ≤ v86.toInt := f_le (by decide) rfl c188
                    refine lv_aload_n hx hb dX12_goThrough_324 rfl (lv_at hl 15 rfl) ?_
                    refine g_get cx hP iw_X12_goThrough_X12 0 rfl rfl 32 (by decide) rfl fw_X12_goThrough_271 rfl dX12_goThrough_325 ?_
                    refine g_pt cx hP hD hS iw_X12_goThrough_X12 tyX12 tyX12_ok nmX12 0 rfl rfl 32 (by decide) rfl fw_X12_goThrough_271 (ty := .int) rfl rfl rfl (Nat.le_of_ble_eq_true rfl) dX12_goThrough_328 (fun H locs hP hD hS => ?_)
                    have hP : va_P D vwCl [cell69_ qm sm v180 v162 v172 x92, cell5_ k qm sm, cell13_ k qm sm, cell8_ k qm sm, cell6_ k qm sm, cell15_ k qm sm, cell14_ k qm tm, cell12_ k qm tm, cell18_ k qm tm, cell17_ k qm tm, cell19_ k qm tm, cell21_ k qm tm, cell20_ k qm sm, cell16_ k qm sm, cell11_ k qm sm, cell10_ k qm sm, cell9_ k qm sm, cell7_ k qm sm] H := hP
                    have hD : va_D A [cell69_ qm sm v180 v162 v172 x92, cell5_ k qm sm, cell13_ k qm sm, cell8_ k qm sm, cell6_ k qm sm, cell15_ k qm sm, cell14_ k qm tm, cell12_ k qm tm, cell18_ k qm tm, cell17_ k qm tm, cell19_ k qm tm, cell21_ k qm tm, cell20_ k qm sm, cell16_ k qm sm, cell11_ k qm sm, cell10_ k qm sm, cell9_ k qm sm, cell7_ k qm sm] := hD
                    refine lv_iload hx hb dX12_goThrough_331 (lv_at hl 0 rfl) ?_
                    refine lv_iload_n hx hb dX12_goThrough_333 rfl (lv_at hl 12 rfl) ?_
                    refine lv_icmp_le (tgt := 342) hx hb dX12_goThrough_334 (by decide) (fun c189 => ?_) (fun c189 => ?_)
                    · have f189 : 0 ≤ v86.toInt := f_le (by decide) rfl c189
                      refine lv_iload_n hx hb dX12_goThrough_342 rfl (lv_at hl 12 rfl) ?_
                      refine lv_istore_n (lv' := [(3, .int v86), (15, .int 0), (14, .int r184), (13, .int v159), (12, .int v142), (11, .int v141), (10, .int v139), (9, .int v138), (8, .int v135), (7, .int v131), (6, .int r126), (5, .int r119), (4, .int v85), (2, .int v87), (1, .int v88), (0, .ref (qm 0))]) hx hb dX12_goThrough_343 rfl hl (by decide) rfl (fun ls hl => ?_)
                      refine lv_aload_n hx hb dX12_goThrough_344 rfl (lv_at hl 15 rfl) ?_
                      refine g_get cx hP iw_X12_goThrough_X12 0 rfl rfl 27 (by decide) rfl fw_X12_goThrough_57 rfl dX12_goThrough_345 ?_
                      refine lv_iload hx hb dX12_goThrough_348 (lv_at hl 12 rfl) ?_
                      have hn190 : vp_in v85 5 := f_in (a := v85.toInt) rfl (by omega) (by omega)
                      refine va_iald hx hb cx.2.1 hP 16 0 rfl rfl hn190 dX12_goThrough_350 (lv_topi (fun v191 e191 => ?_))
                      have qv191_ : v191.toInt = v182.toInt := congrArg Int32.toInt (e191.trans e182.symm)
                      refine lv_bipush (v := 10) hx hb dX12_goThrough_351 (by decide) ?_
                      refine lv_irem hx hb dX12_goThrough_353 (by decide) (lv_topi (fun v192 e192 => ?_))
                      have t192 : -10 < v192.toInt ∧ v192.toInt < 10 := by rw [e192]; exact i_remb (by decide) (by decide)
                      refine lv_istore_n (lv' := [(2, .int v192), (3, .int v86), (15, .int 0), (14, .int r184), (13, .int v159), (12, .int v142), (11, .int v141), (10, .int v139), (9, .int v138), (8, .int v135), (7, .int v131), (6, .int r126), (5, .int r119), (4, .int v85), (1, .int v88), (0, .ref (qm 0))]) hx hb dX12_goThrough_354 rfl hl (by decide) rfl (fun ls hl => ?_)
                      refine lv_iload hx hb dX12_goThrough_355 (lv_at hl 11 rfl) ?_
                      refine lv_istore_n (lv' := [(1, .int r126), (2, .int v192), (3, .int v86), (15, .int 0), (14, .int r184), (13, .int v159), (12, .int v142), (11, .int v141), (10, .int v139), (9, .int v138), (8, .int v135), (7, .int v131), (6, .int r126), (5, .int r119), (4, .int v85), (0, .ref (qm 0))]) hx hb dX12_goThrough_357 rfl hl (by decide) rfl (fun ls hl => ?_)
                      obtain ⟨v193, e193⟩ : ∃ z : Int32, z = v85 + 1 := ⟨_, rfl⟩
                      refine lv_iinc (v := v193) (lv' := [(4, .int v193), (1, .int r126), (2, .int v192), (3, .int v86), (15, .int 0), (14, .int r184), (13, .int v159), (12, .int v142), (11, .int v141), (10, .int v139), (9, .int v138), (8, .int v135), (7, .int v131), (6, .int r126), (5, .int r119), (0, .ref (qm 0))]) hx hb dX12_goThrough_358 hl (k := 14) rfl (by rw [e193]; rfl) (by decide) rfl (fun ls hl => ?_)
                      have t193 : v193.toInt = v85.toInt + 1 := by rw [e193]; exact i_add rfl (by decide) (by omega) (by omega)
                      refine lv_goto (tgt := 30) hx hb dX12_goThrough_361 (by decide) ?_
                      exact ih30 v193 v86 v192 r126 v180 v162 v172 x92 _ _ _ (by omega) (by first | decide | omega) (by first | decide | omega) (LT_g hzrr30_1 (exl_X12_goThrough_4 e117 e124 w127 e130 e131 e133 e134 e135 e137 e138 e139 e140 e141 e142 e143 e148 e153 e154 e159 e161 e162 w165 e171 e172 e174 e179 e180 e182 e191 e192 e193 c94 w111 c113 w120 c122 c128 w146 w151 w157 c160 w169 w177 w185 c187 c188)) hP hD hS (lv_sub hl [0, 3, 2, 1, 15] rfl)
                    · have f189 : v86.toInt < 0 := f_nle (by decide) rfl c189
                      exact absurd f189 (by omega)
                  · have f188 : v86.toInt < 0 := f_nle (by decide) rfl c188
                    refine lv_iload hx hb dX12_goThrough_319 (lv_at hl 11 rfl) ?_
                    refine lv_goto (tgt := 328) hx hb dX12_goThrough_321 (by decide) ?_
                    refine g_pt cx hP hD hS iw_X12_goThrough_X12 tyX12 tyX12_ok nmX12 0 rfl rfl 32 (by decide) rfl fw_X12_goThrough_271 (ty := .int) rfl rfl rfl (Nat.le_of_ble_eq_true rfl) dX12_goThrough_328 (fun H locs hP hD hS => ?_)
                    have hP : va_P D vwCl [cell69_ qm sm v180 v162 v172 v85, cell5_ k qm sm, cell13_ k qm sm, cell8_ k qm sm, cell6_ k qm sm, cell15_ k qm sm, cell14_ k qm tm, cell12_ k qm tm, cell18_ k qm tm, cell17_ k qm tm, cell19_ k qm tm, cell21_ k qm tm, cell20_ k qm sm, cell16_ k qm sm, cell11_ k qm sm, cell10_ k qm sm, cell9_ k qm sm, cell7_ k qm sm] H := hP
                    have hD : va_D A [cell69_ qm sm v180 v162 v172 v85, cell5_ k qm sm, cell13_ k qm sm, cell8_ k qm sm, cell6_ k qm sm, cell15_ k qm sm, cell14_ k qm tm, cell12_ k qm tm, cell18_ k qm tm, cell17_ k qm tm, cell19_ k qm tm, cell21_ k qm tm, cell20_ k qm sm, cell16_ k qm sm, cell11_ k qm sm, cell10_ k qm sm, cell9_ k qm sm, cell7_ k qm sm] := hD
                    refine lv_iload hx hb dX12_goThrough_331 (lv_at hl 0 rfl) ?_
                    refine lv_iload_n hx hb dX12_goThrough_333 rfl (lv_at hl 12 rfl) ?_
                    refine lv_icmp_le (tgt := 342) hx hb dX12_goThrough_334 (by decide) (fun c194 => ?_) (fun c194 => ?_)
                    · have f194 : 0 ≤ v86.toInt := f_le (by decide) rfl c194
                      exact absurd f194 (by omega)
                    · have f194 : v86.toInt < 0 := f_nle (by decide) rfl c194
                      refine lv_iload hx hb dX12_goThrough_337 (lv_at hl 0 rfl) ?_
                      refine lv_goto (tgt := 343) hx hb dX12_goThrough_339 (by decide) ?_
                      refine lv_istore_n (lv' := [(3, .int 0), (15, .int 0), (14, .int r184), (13, .int v159), (12, .int v142), (11, .int v141), (10, .int v139), (9, .int v138), (8, .int v135), (7, .int v131), (6, .int r126), (5, .int r119), (4, .int v85), (2, .int v87), (1, .int v88), (0, .ref (qm 0))]) hx hb dX12_goThrough_343 rfl hl (by decide) rfl (fun ls hl => ?_)
                      refine lv_aload_n hx hb dX12_goThrough_344 rfl (lv_at hl 15 rfl) ?_
                      refine g_get cx hP iw_X12_goThrough_X12 0 rfl rfl 27 (by decide) rfl fw_X12_goThrough_57 rfl dX12_goThrough_345 ?_
                      refine lv_iload hx hb dX12_goThrough_348 (lv_at hl 12 rfl) ?_
                      have hn195 : vp_in v85 5 := f_in (a := v85.toInt) rfl (by omega) (by omega)
                      refine va_iald hx hb cx.2.1 hP 16 0 rfl rfl hn195 dX12_goThrough_350 (lv_topi (fun v196 e196 => ?_))
                      have qv196_ : v196.toInt = v182.toInt := congrArg Int32.toInt (e196.trans e182.symm)
                      refine lv_bipush (v := 10) hx hb dX12_goThrough_351 (by decide) ?_
                      refine lv_irem hx hb dX12_goThrough_353 (by decide) (lv_topi (fun v197 e197 => ?_))
                      have t197 : -10 < v197.toInt ∧ v197.toInt < 10 := by rw [e197]; exact i_remb (by decide) (by decide)
                      refine lv_istore_n (lv' := [(2, .int v197), (3, .int 0), (15, .int 0), (14, .int r184), (13, .int v159), (12, .int v142), (11, .int v141), (10, .int v139), (9, .int v138), (8, .int v135), (7, .int v131), (6, .int r126), (5, .int r119), (4, .int v85), (1, .int v88), (0, .ref (qm 0))]) hx hb dX12_goThrough_354 rfl hl (by decide) rfl (fun ls hl => ?_)
                      refine lv_iload hx hb dX12_goThrough_355 (lv_at hl 11 rfl) ?_
                      refine lv_istore_n (lv' := [(1, .int r126), (2, .int v197), (3, .int 0), (15, .int 0), (14, .int r184), (13, .int v159), (12, .int v142), (11, .int v141), (10, .int v139), (9, .int v138), (8, .int v135), (7, .int v131), (6, .int r126), (5, .int r119), (4, .int v85), (0, .ref (qm 0))]) hx hb dX12_goThrough_357 rfl hl (by decide) rfl (fun ls hl => ?_)
                      obtain ⟨v198, e198⟩ : ∃ z : Int32, z = v85 + 1 := ⟨_, rfl⟩
                      refine lv_iinc (v := v198) (lv' := [(4, .int v198), (1, .int r126), (2, .int v197), (3, .int 0), (15, .int 0), (14, .int r184), (13, .int v159), (12, .int v142), (11, .int v141), (10, .int v139), (9, .int v138), (8, .int v135), (7, .int v131), (6, .int r126), (5, .int r119), (0, .ref (qm 0))]) hx hb dX12_goThrough_358 hl (k := 14) rfl (by rw [e198]; rfl) (by decide) rfl (fun ls hl => ?_)
                      have t198 : v198.toInt = v85.toInt + 1 := by rw [e198]; exact i_add rfl (by decide) (by omega) (by omega)
                      refine lv_goto (tgt := 30) hx hb dX12_goThrough_361 (by decide) ?_
                      have hlit199 : (0 : Int32).toInt = 0 := by decide
                      exact ih30 v198 0 v197 r126 v180 v162 v172 v85 _ _ _ (by omega) (by first | decide | omega) (by first | decide | omega) (LT_g hzrr30_1 (exl_X12_goThrough_5 e117 e124 w127 e130 e131 e133 e134 e135 e137 e138 e139 e140 e141 e142 e143 e148 e153 e154 e159 e161 e162 w165 e171 e172 e174 e179 e180 e182 e196 e197 e198 c94 w111 c113 w120 c122 c128 w146 w151 w157 c160 w169 w177 w185 c187 c188)) hP hD hS (lv_sub hl [0, 3, 2, 1, 15] rfl)
                · have f187 : r184.toInt < 0 := f_nle (by decide) rfl c187
                  refine lv_iload hx hb dX12_goThrough_296 (lv_at hl 0 rfl) ?_
                  refine lv_ineg hx hb dX12_goThrough_298 (lv_topi (fun v200 e200 => ?_))
                  refine lv_aload_n hx hb dX12_goThrough_299 rfl (lv_at hl 14 rfl) ?_
                  refine g_get cx hP iw_X12_goThrough_X12 0 rfl rfl 1 (by decide) rfl fw_X12_goThrough_13 rfl dX12_goThrough_300 ?_
                  refine lv_iconst (v := 3) hx hb dX12_goThrough_303 (by decide) ?_
                  have hn201 : vp_in 3 26 := f_in (a := 3) (by decide) (by omega) (by omega)
                  refine va_iald hx hb cx.2.1 hP 2 0 rfl rfl hn201 dX12_goThrough_304 (lv_topi (fun v202 e202 => ?_))
                  have uv202 : v202.toInt = ((sm 2) 3).toInt := congrArg Int32.toInt e202
                  refine lv_imul hx hb dX12_goThrough_305 (lv_topi (fun v203 e203 => ?_))
                  refine lv_goto (tgt := 310) hx hb dX12_goThrough_306 (by decide) ?_
                  refine lv_istore (lv' := [(15, .int v203), (14, .int r184), (13, .int v159), (12, .int v142), (11, .int v141), (10, .int v139), (9, .int v138), (8, .int v135), (7, .int v131), (6, .int r126), (5, .int r119), (4, .int v85), (3, .int v86), (2, .int v87), (1, .int v88), (0, .ref (qm 0))]) hx hb dX12_goThrough_310 hl (by decide) rfl (fun ls hl => ?_)
                  refine lv_aload_n hx hb dX12_goThrough_312 rfl (lv_at hl 15 rfl) ?_
                  refine lv_iload hx hb dX12_goThrough_313 (lv_at hl 0 rfl) ?_
                  refine lv_iload_n hx hb dX12_goThrough_315 rfl (lv_at hl 12 rfl) ?_
                  refine lv_icmp_le (tgt := 324) hx hb dX12_goThrough_316 (by decide) (fun c204 => ?_) (fun c204 => ?_)
                  · have f204 : v203.toInt ≤ v86.toInt := f_le rfl rfl c204
                    refine lv_aload_n hx hb dX12_goThrough_324 rfl (lv_at hl 15 rfl) ?_
                    refine g_get cx hP iw_X12_goThrough_X12 0 rfl rfl 32 (by decide) rfl fw_X12_goThrough_271 rfl dX12_goThrough_325 ?_
                    refine g_pt cx hP hD hS iw_X12_goThrough_X12 tyX12 tyX12_ok nmX12 0 rfl rfl 32 (by decide) rfl fw_X12_goThrough_271 (ty := .int) rfl rfl rfl (Nat.le_of_ble_eq_true rfl) dX12_goThrough_328 (fun H locs hP hD hS => ?_)
                    have hP : va_P D vwCl [cell69_ qm sm v180 v162 v172 x92, cell5_ k qm sm, cell13_ k qm sm, cell8_ k qm sm, cell6_ k qm sm, cell15_ k qm sm, cell14_ k qm tm, cell12_ k qm tm, cell18_ k qm tm, cell17_ k qm tm, cell19_ k qm tm, cell21_ k qm tm, cell20_ k qm sm, cell16_ k qm sm, cell11_ k qm sm, cell10_ k qm sm, cell9_ k qm sm, cell7_ k qm sm] H := hP
                    have hD : va_D A [cell69_ qm sm v180 v162 v172 x92, cell5_ k qm sm, cell13_ k qm sm, cell8_ k qm sm, cell6_ k qm sm, cell15_ k qm sm, cell14_ k qm tm, cell12_ k qm tm, cell18_ k qm tm, cell17_ k qm tm, cell19_ k qm tm, cell21_ k qm tm, cell20_ k qm sm, cell16_ k qm sm, cell11_ k qm sm, cell10_ k qm sm, cell9_ k qm sm, cell7_ k qm sm] := hD
                    refine lv_iload hx hb dX12_goThrough_331 (lv_at hl 0 rfl) ?_
                    refine lv_iload_n hx hb dX12_goThrough_333 rfl (lv_at hl 12 rfl) ?_
                    refine lv_icmp_le (tgt := 342) hx hb dX12_goThrough_334 (by decide) (fun c205 => ?_) (fun c205 => ?_)
                    · have f205 : v203.toInt ≤ v86.toInt := f_le rfl rfl c205
                      refine lv_iload_n hx hb dX12_goThrough_342 rfl (lv_at hl 12 rfl) ?_
                      refine lv_istore_n (lv' := [(3, .int v86), (15, .int v203), (14, .int r184), (13, .int v159), (12, .int v142), (11, .int v141), (10, .int v139), (9, .int v138), (8, .int v135), (7, .int v131), (6, .int r126), (5, .int r119), (4, .int v85), (2, .int v87), (1, .int v88), (0, .ref (qm 0))]) hx hb dX12_goThrough_343 rfl hl (by decide) rfl (fun ls hl => ?_)
                      refine lv_aload_n hx hb dX12_goThrough_344 rfl (lv_at hl 15 rfl) ?_
                      refine g_get cx hP iw_X12_goThrough_X12 0 rfl rfl 27 (by decide) rfl fw_X12_goThrough_57 rfl dX12_goThrough_345 ?_
                      refine lv_iload hx hb dX12_goThrough_348 (lv_at hl 12 rfl) ?_
                      have hn206 : vp_in v85 5 := f_in (a := v85.toInt) rfl (by omega) (by omega)
                      refine va_iald hx hb cx.2.1 hP 16 0 rfl rfl hn206 dX12_goThrough_350 (lv_topi (fun v207 e207 => ?_))
                      have qv207_ : v207.toInt = v182.toInt := congrArg Int32.toInt (e207.trans e182.symm)
                      refine lv_bipush (v := 10) hx hb dX12_goThrough_351 (by decide) ?_
                      refine lv_irem hx hb dX12_goThrough_353 (by decide) (lv_topi (fun v208 e208 => ?_))
                      have t208 : -10 < v208.toInt ∧ v208.toInt < 10 := by rw [e208]; exact i_remb (by decide) (by decide)
                      refine lv_istore_n (lv' := [(2, .int v208), (3, .int v86), (15, .int v203), (14, .int r184), (13, .int v159), (12, .int v142), (11, .int v141), (10, .int v139), (9, .int v138), (8, .int v135), (7, .int v131), (6, .int r126), (5, .int r119), (4, .int v85), (1, .int v88), (0, .ref (qm 0))]) hx hb dX12_goThrough_354 rfl hl (by decide) rfl (fun ls hl => ?_)
                      refine lv_iload hx hb dX12_goThrough_355 (lv_at hl 11 rfl) ?_
                      refine lv_istore_n (lv' := [(1, .int r126), (2, .int v208), (3, .int v86), (15, .int v203), (14, .int r184), (13, .int v159), (12, .int v142), (11, .int v141), (10, .int v139), (9, .int v138), (8, .int v135), (7, .int v131), (6, .int r126), (5, .int r119), (4, .int v85), (0, .ref (qm 0))]) hx hb dX12_goThrough_357 rfl hl (by decide) rfl (fun ls hl => ?_)
                      obtain ⟨v209, e209⟩ : ∃ z : Int32, z = v85 + 1 := ⟨_, rfl⟩
                      refine lv_iinc (v := v209) (lv' := [(4, .int v209), (1, .int r126), (2, .int v208), (3, .int v86), (15, .int v203), (14, .int r184), (13, .int v159), (12, .int v142), (11, .int v141), (10, .int v139), (9, .int v138), (8, .int v135), (7, .int v131), (6, .int r126), (5, .int r119), (0, .ref (qm 0))]) hx hb dX12_goThrough_358 hl (k := 14) rfl (by rw [e209]; rfl) (by decide) rfl (fun ls hl => ?_)
                      have t209 : v209.toInt = v85.toInt + 1 := by rw [e209]; exact i_add rfl (by decide) (by omega) (by omega)
                      refine lv_goto (tgt := 30) hx hb dX12_goThrough_361 (by decide) ?_
                      exact ih30 v209 v86 v208 r126 v180 v162 v172 x92 _ _ _ (by omega) (by first | decide | omega) (by first | decide | omega) (LT_g hzrr30_1 (exl_X12_goThrough_6 e117 e124 w127 e130 e131 e133 e134 e135 e137 e138 e139 e140 e141 e142 e143 e148 e153 e154 e159 e161 e162 w165 e171 e172 e174 e179 e180 e182 e200 e202 e203 e207 e208 e209 c94 w111 c113 w120 c122 c128 w146 w151 w157 c160 w169 w177 w185 c187 c204 c205)) hP hD hS (lv_sub hl [0, 3, 2, 1, 15] rfl)
                    · have f205 : v86.toInt < v203.toInt := f_nle rfl rfl c205
                      refine lv_iload hx hb dX12_goThrough_337 (lv_at hl 0 rfl) ?_
                      refine lv_goto (tgt := 343) hx hb dX12_goThrough_339 (by decide) ?_
                      refine lv_istore_n (lv' := [(3, .int v203), (15, .int v203), (14, .int r184), (13, .int v159), (12, .int v142), (11, .int v141), (10, .int v139), (9, .int v138), (8, .int v135), (7, .int v131), (6, .int r126), (5, .int r119), (4, .int v85), (2, .int v87), (1, .int v88), (0, .ref (qm 0))]) hx hb dX12_goThrough_343 rfl hl (by decide) rfl (fun ls hl => ?_)
                      refine lv_aload_n hx hb dX12_goThrough_344 rfl (lv_at hl 15 rfl) ?_
                      refine g_get cx hP iw_X12_goThrough_X12 0 rfl rfl 27 (by decide) rfl fw_X12_goThrough_57 rfl dX12_goThrough_345 ?_
                      refine lv_iload hx hb dX12_goThrough_348 (lv_at hl 12 rfl) ?_
                      have hn210 : vp_in v85 5 := f_in (a := v85.toInt) rfl (by omega) (by omega)
                      refine va_iald hx hb cx.2.1 hP 16 0 rfl rfl hn210 dX12_goThrough_350 (lv_topi (fun v211 e211 => ?_))
                      have qv211_ : v211.toInt = v182.toInt := congrArg Int32.toInt (e211.trans e182.symm)
                      refine lv_bipush (v := 10) hx hb dX12_goThrough_351 (by decide) ?_
                      refine lv_irem hx hb dX12_goThrough_353 (by decide) (lv_topi (fun v212 e212 => ?_))
                      have t212 : -10 < v212.toInt ∧ v212.toInt < 10 := by rw [e212]; exact i_remb (by decide) (by decide)
                      refine lv_istore_n (lv' := [(2, .int v212), (3, .int v203), (15, .int v203), (14, .int r184), (13, .int v159), (12, .int v142), (11, .int v141), (10, .int v139), (9, .int v138), (8, .int v135), (7, .int v131), (6, .int r126), (5, .int r119), (4, .int v85), (1, .int v88), (0, .ref (qm 0))]) hx hb dX12_goThrough_354 rfl hl (by decide) rfl (fun ls hl => ?_)
                      refine lv_iload hx hb dX12_goThrough_355 (lv_at hl 11 rfl) ?_
                      refine lv_istore_n (lv' := [(1, .int r126), (2, .int v212), (3, .int v203), (15, .int v203), (14, .int r184), (13, .int v159), (12, .int v142), (11, .int v141), (10, .int v139), (9, .int v138), (8, .int v135), (7, .int v131), (6, .int r126), (5, .int r119), (4, .int v85), (0, .ref (qm 0))]) hx hb dX12_goThrough_357 rfl hl (by decide) rfl (fun ls hl => ?_)
                      obtain ⟨v213, e213⟩ : ∃ z : Int32, z = v85 + 1 := ⟨_, rfl⟩
                      refine lv_iinc (v := v213) (lv' := [(4, .int v213), (1, .int r126), (2, .int v212), (3, .int v203), (15, .int v203), (14, .int r184), (13, .int v159), (12, .int v142), (11, .int v141), (10, .int v139), (9, .int v138), (8, .int v135), (7, .int v131), (6, .int r126), (5, .int r119), (0, .ref (qm 0))]) hx hb dX12_goThrough_358 hl (k := 14) rfl (by rw [e213]; rfl) (by decide) rfl (fun ls hl => ?_)
                      have t213 : v213.toInt = v85.toInt + 1 := by rw [e213]; exact i_add rfl (by decide) (by omega) (by omega)
                      refine lv_goto (tgt := 30) hx hb dX12_goThrough_361 (by decide) ?_
                      exact ih30 v213 v203 v212 r126 v180 v162 v172 x92 _ _ _ (by omega) (by first | decide | omega) (by first | decide | omega) (LT_g hzrr30_1 (exl_X12_goThrough_7 e117 e124 w127 e130 e131 e133 e134 e135 e137 e138 e139 e140 e141 e142 e143 e148 e153 e154 e159 e161 e162 w165 e171 e172 e174 e179 e180 e182 e200 e202 e203 e211 e212 e213 c94 w111 c113 w120 c122 c128 w146 w151 w157 c160 w169 w177 w185 c187 c204 c205)) hP hD hS (lv_sub hl [0, 3, 2, 1, 15] rfl)
                  · have f204 : v86.toInt < v203.toInt := f_nle rfl rfl c204
                    refine lv_iload hx hb dX12_goThrough_319 (lv_at hl 11 rfl) ?_
                    refine lv_goto (tgt := 328) hx hb dX12_goThrough_321 (by decide) ?_
                    refine g_pt cx hP hD hS iw_X12_goThrough_X12 tyX12 tyX12_ok nmX12 0 rfl rfl 32 (by decide) rfl fw_X12_goThrough_271 (ty := .int) rfl rfl rfl (Nat.le_of_ble_eq_true rfl) dX12_goThrough_328 (fun H locs hP hD hS => ?_)
                    have hP : va_P D vwCl [cell69_ qm sm v180 v162 v172 v85, cell5_ k qm sm, cell13_ k qm sm, cell8_ k qm sm, cell6_ k qm sm, cell15_ k qm sm, cell14_ k qm tm, cell12_ k qm tm, cell18_ k qm tm, cell17_ k qm tm, cell19_ k qm tm, cell21_ k qm tm, cell20_ k qm sm, cell16_ k qm sm, cell11_ k qm sm, cell10_ k qm sm, cell9_ k qm sm, cell7_ k qm sm] H := hP
                    have hD : va_D A [cell69_ qm sm v180 v162 v172 v85, cell5_ k qm sm, cell13_ k qm sm, cell8_ k qm sm, cell6_ k qm sm, cell15_ k qm sm, cell14_ k qm tm, cell12_ k qm tm, cell18_ k qm tm, cell17_ k qm tm, cell19_ k qm tm, cell21_ k qm tm, cell20_ k qm sm, cell16_ k qm sm, cell11_ k qm sm, cell10_ k qm sm, cell9_ k qm sm, cell7_ k qm sm] := hD
                    refine lv_iload hx hb dX12_goThrough_331 (lv_at hl 0 rfl) ?_
                    refine lv_iload_n hx hb dX12_goThrough_333 rfl (lv_at hl 12 rfl) ?_
                    refine lv_icmp_le (tgt := 342) hx hb dX12_goThrough_334 (by decide) (fun c214 => ?_) (fun c214 => ?_)
                    · have f214 : v203.toInt ≤ v86.toInt := f_le rfl rfl c214
                      refine lv_iload_n hx hb dX12_goThrough_342 rfl (lv_at hl 12 rfl) ?_
                      refine lv_istore_n (lv' := [(3, .int v86), (15, .int v203), (14, .int r184), (13, .int v159), (12, .int v142), (11, .int v141), (10, .int v139), (9, .int v138), (8, .int v135), (7, .int v131), (6, .int r126), (5, .int r119), (4, .int v85), (2, .int v87), (1, .int v88), (0, .ref (qm 0))]) hx hb dX12_goThrough_343 rfl hl (by decide) rfl (fun ls hl => ?_)
                      refine lv_aload_n hx hb dX12_goThrough_344 rfl (lv_at hl 15 rfl) ?_
                      refine g_get cx hP iw_X12_goThrough_X12 0 rfl rfl 27 (by decide) rfl fw_X12_goThrough_57 rfl dX12_goThrough_345 ?_
                      refine lv_iload hx hb dX12_goThrough_348 (lv_at hl 12 rfl) ?_
                      have hn215 : vp_in v85 5 := f_in (a := v85.toInt) rfl (by omega) (by omega)
                      refine va_iald hx hb cx.2.1 hP 16 0 rfl rfl hn215 dX12_goThrough_350 (lv_topi (fun v216 e216 => ?_))
                      have qv216_ : v216.toInt = v182.toInt := congrArg Int32.toInt (e216.trans e182.symm)
                      refine lv_bipush (v := 10) hx hb dX12_goThrough_351 (by decide) ?_
                      refine lv_irem hx hb dX12_goThrough_353 (by decide) (lv_topi (fun v217 e217 => ?_))
                      have t217 : -10 < v217.toInt ∧ v217.toInt < 10 := by rw [e217]; exact i_remb (by decide) (by decide)
                      refine lv_istore_n (lv' := [(2, .int v217), (3, .int v86), (15, .int v203), (14, .int r184), (13, .int v159), (12, .int v142), (11, .int v141), (10, .int v139), (9, .int v138), (8, .int v135), (7, .int v131), (6, .int r126), (5, .int r119), (4, .int v85), (1, .int v88), (0, .ref (qm 0))]) hx hb dX12_goThrough_354 rfl hl (by decide) rfl (fun ls hl => ?_)
                      refine lv_iload hx hb dX12_goThrough_355 (lv_at hl 11 rfl) ?_
                      refine lv_istore_n (lv' := [(1, .int r126), (2, .int v217), (3, .int v86), (15, .int v203), (14, .int r184), (13, .int v159), (12, .int v142), (11, .int v141), (10, .int v139), (9, .int v138), (8, .int v135), (7, .int v131), (6, .int r126), (5, .int r119), (4, .int v85), (0, .ref (qm 0))]) hx hb dX12_goThrough_357 rfl hl (by decide) rfl (fun ls hl => ?_)
                      obtain ⟨v218, e218⟩ : ∃ z : Int32, z = v85 + 1 := ⟨_, rfl⟩
                      refine lv_iinc (v := v218) (lv' := [(4, .int v218), (1, .int r126), (2, .int v217), (3, .int v86), (15, .int v203), (14, .int r184), (13, .int v159), (12, .int v142), (11, .int v141), (10, .int v139), (9, .int v138), (8, .int v135), (7, .int v131), (6, .int r126), (5, .int r119), (0, .ref (qm 0))]) hx hb dX12_goThrough_358 hl (k := 14) rfl (by rw [e218]; rfl) (by decide) rfl (fun ls hl => ?_)
                      have t218 : v218.toInt = v85.toInt + 1 := by rw [e218]; exact i_add rfl (by decide) (by omega) (by omega)
                      refine lv_goto (tgt := 30) hx hb dX12_goThrough_361 (by decide) ?_
                      exact ih30 v218 v86 v217 r126 v180 v162 v172 v85 _ _ _ (by omega) (by first | decide | omega) (by first | decide | omega) (LT_g hzrr30_1 (exl_X12_goThrough_8 e117 e124 w127 e130 e131 e133 e134 e135 e137 e138 e139 e140 e141 e142 e143 e148 e153 e154 e159 e161 e162 w165 e171 e172 e174 e179 e180 e182 e200 e202 e203 e216 e217 e218 c94 w111 c113 w120 c122 c128 w146 w151 w157 c160 w169 w177 w185 c187 c204 c214)) hP hD hS (lv_sub hl [0, 3, 2, 1, 15] rfl)
                    · have f214 : v86.toInt < v203.toInt := f_nle rfl rfl c214
                      refine lv_iload hx hb dX12_goThrough_337 (lv_at hl 0 rfl) ?_
                      refine lv_goto (tgt := 343) hx hb dX12_goThrough_339 (by decide) ?_
                      refine lv_istore_n (lv' := [(3, .int v203), (15, .int v203), (14, .int r184), (13, .int v159), (12, .int v142), (11, .int v141), (10, .int v139), (9, .int v138), (8, .int v135), (7, .int v131), (6, .int r126), (5, .int r119), (4, .int v85), (2, .int v87), (1, .int v88), (0, .ref (qm 0))]) hx hb dX12_goThrough_343 rfl hl (by decide) rfl (fun ls hl => ?_)
                      refine lv_aload_n hx hb dX12_goThrough_344 rfl (lv_at hl 15 rfl) ?_
                      refine g_get cx hP iw_X12_goThrough_X12 0 rfl rfl 27 (by decide) rfl fw_X12_goThrough_57 rfl dX12_goThrough_345 ?_
                      refine lv_iload hx hb dX12_goThrough_348 (lv_at hl 12 rfl) ?_
                      have hn219 : vp_in v85 5 := f_in (a := v85.toInt) rfl (by omega) (by omega)
                      refine va_iald hx hb cx.2.1 hP 16 0 rfl rfl hn219 dX12_goThrough_350 (lv_topi (fun v220 e220 => ?_))
                      have qv220_ : v220.toInt = v182.toInt := congrArg Int32.toInt (e220.trans e182.symm)
                      refine lv_bipush (v := 10) hx hb dX12_goThrough_351 (by decide) ?_
                      refine lv_irem hx hb dX12_goThrough_353 (by decide) (lv_topi (fun v221 e221 => ?_))
                      have t221 : -10 < v221.toInt ∧ v221.toInt < 10 := by rw [e221]; exact i_remb (by decide) (by decide)
                      refine lv_istore_n (lv' := [(2, .int v221), (3, .int v203), (15, .int v203), (14, .int r184), (13, .int v159), (12, .int v142), (11, .int v141), (10, .int v139), (9, .int v138), (8, .int v135), (7, .int v131), (6, .int r126), (5, .int r119), (4, .int v85), (1, .int v88), (0, .ref (qm 0))]) hx hb dX12_goThrough_354 rfl hl (by decide) rfl (fun ls hl => ?_)
                      refine lv_iload hx hb dX12_goThrough_355 (lv_at hl 11 rfl) ?_
                      refine lv_istore_n (lv' := [(1, .int r126), (2, .int v221), (3, .int v203), (15, .int v203), (14, .int r184), (13, .int v159), (12, .int v142), (11, .int v141), (10, .int v139), (9, .int v138), (8, .int v135), (7, .int v131), (6, .int r126), (5, .int r119), (4, .int v85), (0, .ref (qm 0))]) hx hb dX12_goThrough_357 rfl hl (by decide) rfl (fun ls hl => ?_)
                      obtain ⟨v222, e222⟩ : ∃ z : Int32, z = v85 + 1 := ⟨_, rfl⟩
                      refine lv_iinc (v := v222) (lv' := [(4, .int v222), (1, .int r126), (2, .int v221), (3, .int v203), (15, .int v203), (14, .int r184), (13, .int v159), (12, .int v142), (11, .int v141), (10, .int v139), (9, .int v138), (8, .int v135), (7, .int v131), (6, .int r126), (5, .int r119), (0, .ref (qm 0))]) hx hb dX12_goThrough_358 hl (k := 14) rfl (by rw [e222]; rfl) (by decide) rfl (fun ls hl => ?_)
                      have t222 : v222.toInt = v85.toInt + 1 := by rw [e222]; exact i_add rfl (by decide) (by omega) (by omega)
                      refine lv_goto (tgt := 30) hx hb dX12_goThrough_361 (by decide) ?_
                      exact ih30 v222 v203 v221 r126 v180 v162 v172 v85 _ _ _ (by omega) (by first | decide | omega) (by first | decide | omega) (LT_g hzrr30_1 (exl_X12_goThrough_9 e117 e124 w127 e130 e131 e133 e134 e135 e137 e138 e139 e140 e141 e142 e143 e148 e153 e154 e159 e161 e162 w165 e171 e172 e174 e179 e180 e182 e200 e202 e203 e220 e221 e222 c94 w111 c113 w120 c122 c128 w146 w151 w157 c160 w169 w177 w185 c187 c204 c214)) hP hD hS (lv_sub hl [0, 3, 2, 1, 15] rfl)
              · have f160 : v159.toInt = 0 := f_eq rfl (by decide) c160
                refine lv_iload hx hb dX12_goThrough_213 (lv_at hl 9 rfl) ?_
                rw [hQ]
                exact x_i cx hr (x89, x90, x91, x92) hP hD hS ⟨(show x91.toInt % 2 = 1 from by omega), (show (v85, x89, x90, x91, x92) = J_X12_goThrough sm tm from ((hrr30_1.trans (LT_r hzrr30_1 (exl_X12_goThrough_10 e117 e124 w127 e130 e131 e133 e134 e135 e137 e138 e139 e140 e141 e142 e143 e148 e153 e154 e159 c94 w111 c113 w120 c122 c128 w146 w151 w157 c160)))).symm)⟩ dX12_goThrough_215
            · have f128 : r126.toInt = (-9) := f_eq rfl (by decide) c128
              refine lv_iload hx hb dX12_goThrough_102 (lv_at hl 2 rfl) ?_
              rw [hQ]
              exact x_i cx hr (x89, x90, x91, x92) hP hD hS ⟨(show x91.toInt % 2 = 1 from by omega), (show (v85, x89, x90, x91, x92) = J_X12_goThrough sm tm from ((hrr30_1.trans (LT_r hzrr30_1 (exl_X12_goThrough_11 e117 e124 w127 c94 w111 c113 w120 c122 c128)))).symm)⟩ dX12_goThrough_104
          · have f122 : r119.toInt = (-9) := f_eq rfl (by decide) c122
            refine lv_bipush (v := (-9)) hx hb dX12_goThrough_76 (by decide) ?_
            refine lv_goto (tgt := 93) hx hb dX12_goThrough_78 (by decide) ?_
            refine lv_istore (lv' := [(6, .int (-9)), (5, .int r119), (4, .int v85), (3, .int v86), (2, .int v87), (1, .int v88), (0, .ref (qm 0))]) hx hb dX12_goThrough_93 hl (by decide) rfl (fun ls hl => ?_)
            refine lv_iload hx hb dX12_goThrough_95 (lv_at hl 0 rfl) ?_
            refine lv_bipush (v := (-9)) hx hb dX12_goThrough_97 (by decide) ?_
            refine lv_icmp_ne (tgt := 105) hx hb dX12_goThrough_99 (by decide) (fun c223 => ?_) (fun c223 => ?_)
            · exact absurd c223 (by decide)
            · refine lv_iload hx hb dX12_goThrough_102 (lv_at hl 2 rfl) ?_
              rw [hQ]
              exact x_i cx hr (x89, x90, x91, x92) hP hD hS ⟨(show x91.toInt % 2 = 1 from by omega), (show (v85, x89, x90, x91, x92) = J_X12_goThrough sm tm from ((hrr30_1.trans (LT_r hzrr30_1 (exl_X12_goThrough_12 e117 c94 w111 c113 w120 c122)))).symm)⟩ dX12_goThrough_104
  have hlit224 : (0 : Int32).toInt = 0 := by decide
  have hlit225 : (0 : Int32).toInt = 0 := by decide
  have hlit226 : (0 : Int32).toInt = 0 := by decide
  have hlit227 : (0 : Int32).toInt = 0 := by decide
  have hlit228 : (0 : Int32).toInt = 0 := by decide
  have hlit229 : (1 : Int32).toInt = 1 := by decide
  have hlit230 : (1 : Int32).toInt = 1 := by decide
  have hlit231 : (-9 : Int32).toInt = -9 := by decide
  exact hL30 (6) 0 0 0 0 0 1 1 (-9) _ _ _ (by omega) (by first | decide | omega) (by first | decide | omega) err30_1 hP hD hS (lv_sub hl [0, 1, 2, 3, 4] rfl)
theorem nd_X12_goThrough : yX12_goThrough.cls = RX12 ∧ yX12_goThrough.cls ≠ "java/lang/invoke/MethodHandle" ∧ yX12_goThrough.cls ≠ "java/lang/invoke/VarHandle" ∧ (parseMethodDescriptor yX12_goThrough.desc).map (fun d => d.parameters.length) = some 0 := by decide +kernel
def J_X12_judge (sm : Nat → Nat → Int32) (tm : Nat → Nat → Int64) : Int32 × Int64 × Int64 × Int64 × Int32 := LetF (J_X12_goThrough sm tm) (fun y10 => ((y10.1), (y10.2.1), (y10.2.2.1), (y10.2.2.2.1), (y10.2.2.2.2)))
theorem exl_X12_judge_0 {sm : Nat → Nat → Int32} {tm : Nat → Nat → Int64} {r3 : Int32} {m4 : Int64} {m5 : Int64} {m6 : Int64} {m7 : Int32} (w9 : (r3, m4, m5, m6, m7) = J_X12_goThrough sm tm) : (r3, m4, m5, m6, m7) = J_X12_judge sm tm := by refine Eq.symm ?_; unfold J_X12_judge; refine lt_e w9 ?_; rfl
set_option maxHeartbeats 4000000 in
set_option maxRecDepth 100000 in
theorem c_X12_judge (l : Launch) (D : va_G) (k : Nat → ClassId) (b : Nat → Nat) (qm : Nat → Nat) (sm : Nat → Nat → Int32) (tm : Nat → Nat → Int64) (sz : Nat) (h_w0 : 0 ≤ (sm 2 0).toInt ∧ (sm 2 0).toInt ≤ 5) (h_rows : 0 ≤ (sm 0 26).toInt ∧ (sm 0 26).toInt ≤ 5) : MetI l D k b yX12_judge wsX12_judge ({ frames := 3, cells := 0, slots := 0, locals := 90 } : Room) [cell22_ qm sm tm, cell5_ k qm sm, cell13_ k qm sm, cell8_ k qm sm, cell6_ k qm sm, cell15_ k qm sm, cell14_ k qm tm, cell12_ k qm tm, cell18_ k qm tm, cell17_ k qm tm, cell19_ k qm tm, cell21_ k qm tm, cell20_ k qm sm, cell16_ k qm sm, cell11_ k qm sm, cell10_ k qm sm, cell9_ k qm sm, cell7_ k qm sm] sz [.ref (qm 0)] (fun (r : Int32) (u : Int64 × Int64 × Int64 × Int32) => (r, (u.1), (u.2.1), (u.2.2.1), (u.2.2.2)) = J_X12_judge sm tm) (fun u => [cell69_ qm sm (u.1) (u.2.1) (u.2.2.1) (u.2.2.2), cell5_ k qm sm, cell13_ k qm sm, cell8_ k qm sm, cell6_ k qm sm, cell15_ k qm sm, cell14_ k qm tm, cell12_ k qm tm, cell18_ k qm tm, cell17_ k qm tm, cell19_ k qm tm, cell21_ k qm tm, cell20_ k qm sm, cell16_ k qm sm, cell11_ k qm sm, cell10_ k qm sm, cell9_ k qm sm, cell7_ k qm sm]) := by
  refine g_enter (cc := cX12_judge) (maxL := 1) (ret := (some .int)) (by decide) rfl (Nat.le_of_ble_eq_true rfl) ?_
  intro p e s m below meth c A hsz hAe cx hr hP hD hS ls hl
  rw [hAe]
  refine g_q (fun Q hQ => ?_)
  have hx := cx.1.1
  have hb := cx.1.2.1
  have hl : lv_has ls 1 [(0, .ref (qm 0))] := hl
  obtain ⟨H, eH⟩ : ∃ H : Heap, H = s.heap := ⟨_, rfl⟩
  obtain ⟨locs, el⟩ : ∃ L : List Loc, L = [] := ⟨_, rfl⟩
  have hP : va_P D vwCl [cell22_ qm sm tm, cell5_ k qm sm, cell13_ k qm sm, cell8_ k qm sm, cell6_ k qm sm, cell15_ k qm sm, cell14_ k qm tm, cell12_ k qm tm, cell18_ k qm tm, cell17_ k qm tm, cell19_ k qm tm, cell21_ k qm tm, cell20_ k qm sm, cell16_ k qm sm, cell11_ k qm sm, cell10_ k qm sm, cell9_ k qm sm, cell7_ k qm sm] H := by rw [eH]; exact hP
  have hD : va_D A [cell22_ qm sm tm, cell5_ k qm sm, cell13_ k qm sm, cell8_ k qm sm, cell6_ k qm sm, cell15_ k qm sm, cell14_ k qm tm, cell12_ k qm tm, cell18_ k qm tm, cell17_ k qm tm, cell19_ k qm tm, cell21_ k qm tm, cell20_ k qm sm, cell16_ k qm sm, cell11_ k qm sm, cell10_ k qm sm, cell9_ k qm sm, cell7_ k qm sm] := hD
  have hS : va_S A s.heap H locs := by rw [eH, el]; exact hS
  suffices goal : W p l e ({ frames := 3, cells := 0, slots := 0, locals := 90 } : Room) s m ([.ref (qm 0)] : List Value).toArray below meth c H locs 0 0 Q (F0 m 0 ls []) by rw [eH, el] at goal; exact goal
  refine lv_aload_n hx hb dX12_judge_0 rfl (lv_at hl 0 rfl) ?_
  refine g_iF (w1 := fun (u : Int64 × Int64 × Int64 × Int32) => [cell69_ qm sm (u.1) (u.2.1) (u.2.2.1) (u.2.2.2), cell5_ k qm sm, cell13_ k qm sm, cell8_ k qm sm, cell6_ k qm sm, cell15_ k qm sm, cell14_ k qm tm, cell12_ k qm tm, cell18_ k qm tm, cell17_ k qm tm, cell19_ k qm tm, cell21_ k qm tm, cell20_ k qm sm, cell16_ k qm sm, cell11_ k qm sm, cell10_ k qm sm, cell9_ k qm sm, cell7_ k qm sm]) (g_runVF (ws := [cell22_ qm sm tm, cell5_ k qm sm, cell13_ k qm sm, cell8_ k qm sm, cell6_ k qm sm, cell15_ k qm sm, cell14_ k qm tm, cell12_ k qm tm, cell18_ k qm tm, cell17_ k qm tm, cell19_ k qm tm, cell21_ k qm tm, cell20_ k qm sm, cell16_ k qm sm, cell11_ k qm sm, cell10_ k qm sm, cell9_ k qm sm, cell7_ k qm sm]) (rest := []) cx hP hD hS [] (c_X12_goThrough l D k b qm sm tm H.size (show 0 ≤ ((sm 2) 0).toInt ∧ ((sm 2) 0).toInt ≤ 5 from by first | decide | omega) (show 0 ≤ (sm 0 26).toInt ∧ (sm 0 26).toInt ≤ 5 from by first | decide | omega)) gX12_judge_X12_goThrough rfl rfl rfl nd_X12_goThrough ⟨Nat.le_of_ble_eq_true rfl, Nat.le_of_ble_eq_true rfl⟩ (ci := 10) (q0 := 0) rfl rfl rfl hl.1 rfl (Nat.le_of_ble_eq_true rfl) ⟨Nat.zero_le _, Nat.zero_le _⟩ dX12_judge_1) cx.2.2.1 hD hS (fun r3 u2 H locs hw1 hP hD hS => ?_)
  obtain ⟨m4, m5, m6, m7⟩ := u2
  have hP : va_P D vwCl [cell69_ qm sm m4 m5 m6 m7, cell5_ k qm sm, cell13_ k qm sm, cell8_ k qm sm, cell6_ k qm sm, cell15_ k qm sm, cell14_ k qm tm, cell12_ k qm tm, cell18_ k qm tm, cell17_ k qm tm, cell19_ k qm tm, cell21_ k qm tm, cell20_ k qm sm, cell16_ k qm sm, cell11_ k qm sm, cell10_ k qm sm, cell9_ k qm sm, cell7_ k qm sm] H := hP
  have hD : va_D A [cell69_ qm sm m4 m5 m6 m7, cell5_ k qm sm, cell13_ k qm sm, cell8_ k qm sm, cell6_ k qm sm, cell15_ k qm sm, cell14_ k qm tm, cell12_ k qm tm, cell18_ k qm tm, cell17_ k qm tm, cell19_ k qm tm, cell21_ k qm tm, cell20_ k qm sm, cell16_ k qm sm, cell11_ k qm sm, cell10_ k qm sm, cell9_ k qm sm, cell7_ k qm sm] := hD
  replace hw1 : (m6.toInt % 2 = 1) ∧ ((r3, m4, m5, m6, m7) = J_X12_goThrough sm tm) := hw1
  obtain ⟨w8, w9⟩ := hw1
  rw [hQ]
  exact x_i cx hr (m4, m5, m6, m7) hP hD hS (show (r3, m4, m5, m6, m7) = J_X12_judge sm tm from (exl_X12_judge_0 w9)) dX12_judge_4
theorem fw_X12_paid_261 : Cond.fieldLink RX12 261 "StillInAugustModel" "rowCost" "J" ∈ wsX12_paid := by decide +kernel
theorem iw_X12_paid_X12 : ∀ w ∈ u_ws RX12 TX12 33, w ∈ wsX12_paid := fun _ h => List.mem_cons_of_mem _ (List.mem_append_right _ h)
def J_X12_paid (sm : Nat → Nat → Int32) (tm : Nat → Nat → Int64) : Int32 × Int64 × Int64 × Int64 × Int32 := LetF (J_X12_goThrough sm tm) (fun y10 => if (y10.1) = (-9) then (((y10.2.1).toInt32), (y10.2.1), (y10.2.2.1), (y10.2.2.2.1), (y10.2.2.2.2)) else (((-3) : Int32), (y10.2.1), (y10.2.2.1), (y10.2.2.2.1), (y10.2.2.2.2)))
theorem exl_X12_paid_0 {sm : Nat → Nat → Int32} {tm : Nat → Nat → Int64} {m4 : Int64} {m5 : Int64} {m6 : Int64} {m7 : Int32} {r3 : Int32} (w9 : (r3, m4, m5, m6, m7) = J_X12_goThrough sm tm) (c11 : ¬ (r3 = ((-9) : Int32))) : (((-3) : Int32), m4, m5, m6, m7) = J_X12_paid sm tm := by refine Eq.symm ?_; unfold J_X12_paid; refine lt_e w9 ?_; refine Eq.trans (if_neg c11) ?_; rfl
theorem exl_X12_paid_1 {sm : Nat → Nat → Int32} {tm : Nat → Nat → Int64} {v13 : Int32} {m4 : Int64} {m5 : Int64} {m6 : Int64} {m7 : Int32} {r3 : Int32} (e13 : v13 = (m4 : Int64).toInt32) (w9 : (r3, m4, m5, m6, m7) = J_X12_goThrough sm tm) (c11 : r3 = ((-9) : Int32)) : (v13, m4, m5, m6, m7) = J_X12_paid sm tm := by subst e13; refine Eq.symm ?_; unfold J_X12_paid; refine lt_e w9 ?_; refine Eq.trans (if_pos c11) ?_; rfl
set_option maxHeartbeats 4000000 in
set_option maxRecDepth 100000 in
theorem c_X12_paid (l : Launch) (D : va_G) (k : Nat → ClassId) (b : Nat → Nat) (qm : Nat → Nat) (sm : Nat → Nat → Int32) (tm : Nat → Nat → Int64) (sz : Nat) (h_w0 : 0 ≤ (sm 2 0).toInt ∧ (sm 2 0).toInt ≤ 5) (h_rows : 0 ≤ (sm 0 26).toInt ∧ (sm 0 26).toInt ≤ 5) : MetI l D k b yX12_paid wsX12_paid ({ frames := 3, cells := 0, slots := 0, locals := 90 } : Room) [cell22_ qm sm tm, cell5_ k qm sm, cell13_ k qm sm, cell8_ k qm sm, cell6_ k qm sm, cell15_ k qm sm, cell14_ k qm tm, cell12_ k qm tm, cell18_ k qm tm, cell17_ k qm tm, cell19_ k qm tm, cell21_ k qm tm, cell20_ k qm sm, cell16_ k qm sm, cell11_ k qm sm, cell10_ k qm sm, cell9_ k qm sm, cell7_ k qm sm] sz [.ref (qm 0)] (fun (r : Int32) (u : Int64 × Int64 × Int64 × Int32) => (r, (u.1), (u.2.1), (u.2.2.1), (u.2.2.2)) = J_X12_paid sm tm) (fun u => [cell69_ qm sm (u.1) (u.2.1) (u.2.2.1) (u.2.2.2), cell5_ k qm sm, cell13_ k qm sm, cell8_ k qm sm, cell6_ k qm sm, cell15_ k qm sm, cell14_ k qm tm, cell12_ k qm tm, cell18_ k qm tm, cell17_ k qm tm, cell19_ k qm tm, cell21_ k qm tm, cell20_ k qm sm, cell16_ k qm sm, cell11_ k qm sm, cell10_ k qm sm, cell9_ k qm sm, cell7_ k qm sm]) := by
  refine g_enter (cc := cX12_paid) (maxL := 1) (ret := (some .int)) (by decide) rfl (Nat.le_of_ble_eq_true rfl) ?_
  intro p e s m below meth c A hsz hAe cx hr hP hD hS ls hl
  rw [hAe]
  refine g_q (fun Q hQ => ?_)
  have hx := cx.1.1
  have hb := cx.1.2.1
  have hl : lv_has ls 1 [(0, .ref (qm 0))] := hl
  obtain ⟨H, eH⟩ : ∃ H : Heap, H = s.heap := ⟨_, rfl⟩
  obtain ⟨locs, el⟩ : ∃ L : List Loc, L = [] := ⟨_, rfl⟩
  have hP : va_P D vwCl [cell22_ qm sm tm, cell5_ k qm sm, cell13_ k qm sm, cell8_ k qm sm, cell6_ k qm sm, cell15_ k qm sm, cell14_ k qm tm, cell12_ k qm tm, cell18_ k qm tm, cell17_ k qm tm, cell19_ k qm tm, cell21_ k qm tm, cell20_ k qm sm, cell16_ k qm sm, cell11_ k qm sm, cell10_ k qm sm, cell9_ k qm sm, cell7_ k qm sm] H := by rw [eH]; exact hP
  have hD : va_D A [cell22_ qm sm tm, cell5_ k qm sm, cell13_ k qm sm, cell8_ k qm sm, cell6_ k qm sm, cell15_ k qm sm, cell14_ k qm tm, cell12_ k qm tm, cell18_ k qm tm, cell17_ k qm tm, cell19_ k qm tm, cell21_ k qm tm, cell20_ k qm sm, cell16_ k qm sm, cell11_ k qm sm, cell10_ k qm sm, cell9_ k qm sm, cell7_ k qm sm] := hD
  have hS : va_S A s.heap H locs := by rw [eH, el]; exact hS
  suffices goal : W p l e ({ frames := 3, cells := 0, slots := 0, locals := 90 } : Room) s m ([.ref (qm 0)] : List Value).toArray below meth c H locs 0 0 Q (F0 m 0 ls []) by rw [eH, el] at goal; exact goal
  refine lv_aload_n hx hb dX12_paid_0 rfl (lv_at hl 0 rfl) ?_
  refine g_iF (w1 := fun (u : Int64 × Int64 × Int64 × Int32) => [cell69_ qm sm (u.1) (u.2.1) (u.2.2.1) (u.2.2.2), cell5_ k qm sm, cell13_ k qm sm, cell8_ k qm sm, cell6_ k qm sm, cell15_ k qm sm, cell14_ k qm tm, cell12_ k qm tm, cell18_ k qm tm, cell17_ k qm tm, cell19_ k qm tm, cell21_ k qm tm, cell20_ k qm sm, cell16_ k qm sm, cell11_ k qm sm, cell10_ k qm sm, cell9_ k qm sm, cell7_ k qm sm]) (g_runVF (ws := [cell22_ qm sm tm, cell5_ k qm sm, cell13_ k qm sm, cell8_ k qm sm, cell6_ k qm sm, cell15_ k qm sm, cell14_ k qm tm, cell12_ k qm tm, cell18_ k qm tm, cell17_ k qm tm, cell19_ k qm tm, cell21_ k qm tm, cell20_ k qm sm, cell16_ k qm sm, cell11_ k qm sm, cell10_ k qm sm, cell9_ k qm sm, cell7_ k qm sm]) (rest := []) cx hP hD hS [] (c_X12_goThrough l D k b qm sm tm H.size (show 0 ≤ ((sm 2) 0).toInt ∧ ((sm 2) 0).toInt ≤ 5 from by first | decide | omega) (show 0 ≤ (sm 0 26).toInt ∧ (sm 0 26).toInt ≤ 5 from by first | decide | omega)) gX12_paid_X12_goThrough rfl rfl rfl nd_X12_goThrough ⟨Nat.le_of_ble_eq_true rfl, Nat.le_of_ble_eq_true rfl⟩ (ci := 10) (q0 := 0) rfl rfl rfl hl.1 rfl (Nat.le_of_ble_eq_true rfl) ⟨Nat.zero_le _, Nat.zero_le _⟩ dX12_paid_1) cx.2.2.1 hD hS (fun r3 u2 H locs hw1 hP hD hS => ?_)
  obtain ⟨m4, m5, m6, m7⟩ := u2
  have hP : va_P D vwCl [cell69_ qm sm m4 m5 m6 m7, cell5_ k qm sm, cell13_ k qm sm, cell8_ k qm sm, cell6_ k qm sm, cell15_ k qm sm, cell14_ k qm tm, cell12_ k qm tm, cell18_ k qm tm, cell17_ k qm tm, cell19_ k qm tm, cell21_ k qm tm, cell20_ k qm sm, cell16_ k qm sm, cell11_ k qm sm, cell10_ k qm sm, cell9_ k qm sm, cell7_ k qm sm] H := hP
  have hD : va_D A [cell69_ qm sm m4 m5 m6 m7, cell5_ k qm sm, cell13_ k qm sm, cell8_ k qm sm, cell6_ k qm sm, cell15_ k qm sm, cell14_ k qm tm, cell12_ k qm tm, cell18_ k qm tm, cell17_ k qm tm, cell19_ k qm tm, cell21_ k qm tm, cell20_ k qm sm, cell16_ k qm sm, cell11_ k qm sm, cell10_ k qm sm, cell9_ k qm sm, cell7_ k qm sm] := hD
  replace hw1 : (m6.toInt % 2 = 1) ∧ ((r3, m4, m5, m6, m7) = J_X12_goThrough sm tm) := hw1
  obtain ⟨w8, w9⟩ := hw1
  refine lv_bipush (v := (-9)) hx hb dX12_paid_4 (by decide) ?_
  refine lv_icmp_ne (tgt := 17) hx hb dX12_paid_6 (by decide) (fun c11 => ?_) (fun c11 => ?_)
  · have f11 : ¬ r3.toInt = (-9) := f_ne rfl (by decide) c11
    refine lv_bipush (v := (-3)) hx hb dX12_paid_17 (by decide) ?_
    have hlit12 : ((-3) : Int32).toInt = -3 := by decide
    rw [hQ]
    exact x_i cx hr (m4, m5, m6, m7) hP hD hS (show (((-3) : Int32), m4, m5, m6, m7) = J_X12_paid sm tm from (exl_X12_paid_0 w9 c11)) dX12_paid_19
  · have f11 : r3.toInt = (-9) := f_eq rfl (by decide) c11
    refine lv_aload_n hx hb dX12_paid_9 rfl (lv_at hl 0 rfl) ?_
    refine g_get cx hP iw_X12_paid_X12 0 rfl rfl 29 (by decide) rfl fw_X12_paid_261 rfl dX12_paid_10 ?_
    obtain ⟨v13, e13⟩ : ∃ z : Int32, z = (m4 : Int64).toInt32 := ⟨_, rfl⟩
    refine lv_l2i (v := v13) hx hb dX12_paid_13 e13.symm ?_
    refine lv_goto (tgt := 19) hx hb dX12_paid_14 (by decide) ?_
    rw [hQ]
    exact x_i cx hr (m4, m5, m6, m7) hP hD hS (show (v13, m4, m5, m6, m7) = J_X12_paid sm tm from (exl_X12_paid_1 e13 w9 c11)) dX12_paid_19
theorem fw_X12_luck_265 : Cond.fieldLink RX12 265 "StillInAugustModel" "rowUp" "J" ∈ wsX12_luck := by decide +kernel
theorem fw_X12_luck_268 : Cond.fieldLink RX12 268 "StillInAugustModel" "rowDown" "J" ∈ wsX12_luck := by decide +kernel
theorem kJ_X12_luck_277 : Cond.constantLong RX12 277 (-3) ∈ wsX12_luck := by decide +kernel
theorem iw_X12_luck_X12 : ∀ w ∈ u_ws RX12 TX12 33, w ∈ wsX12_luck := fun _ h => List.mem_cons_of_mem _ (List.mem_append_right _ h)
def J_X12_luck (sm : Nat → Nat → Int32) (tm : Nat → Nat → Int64) (p0 : Int32) : Int64 × Int64 × Int64 × Int64 × Int32 := LetF (J_X12_goThrough sm tm) (fun y10 => if (y10.1) = (-9) then LetF (J_X12_told (y10.2.2.1) (y10.2.2.2.1) p0) (fun y15 => (y15, (y10.2.1), (y10.2.2.1), (y10.2.2.2.1), (y10.2.2.2.2))) else (((-3) : Int64), (y10.2.1), (y10.2.2.1), (y10.2.2.2.1), (y10.2.2.2.2)))
theorem exl_X12_luck_0 {sm : Nat → Nat → Int32} {tm : Nat → Nat → Int64} {p0 : Int32} {m4 : Int64} {m5 : Int64} {m6 : Int64} {m7 : Int32} {r3 : Int32} (w9 : (r3, m4, m5, m6, m7) = J_X12_goThrough sm tm) (c11 : ¬ (r3 = ((-9) : Int32))) : (((-3) : Int64), m4, m5, m6, m7) = J_X12_luck sm tm p0 := by refine Eq.symm ?_; unfold J_X12_luck; refine lt_e w9 ?_; refine Eq.trans (if_neg c11) ?_; rfl
theorem exl_X12_luck_1 {sm : Nat → Nat → Int32} {tm : Nat → Nat → Int64} {p0 : Int32} {r13 : Int64} {m4 : Int64} {m5 : Int64} {m6 : Int64} {m7 : Int32} {r3 : Int32} (w9 : (r3, m4, m5, m6, m7) = J_X12_goThrough sm tm) (c11 : r3 = ((-9) : Int32)) (w14 : r13 = J_X12_told m5 m6 p0) : (r13, m4, m5, m6, m7) = J_X12_luck sm tm p0 := by refine Eq.symm ?_; unfold J_X12_luck; refine lt_e w9 ?_; refine Eq.trans (if_pos c11) ?_; refine lt_e w14 ?_; rfl
set_option maxHeartbeats 4000000 in
set_option maxRecDepth 100000 in
theorem c_X12_luck (l : Launch) (D : va_G) (k : Nat → ClassId) (b : Nat → Nat) (qm : Nat → Nat) (sm : Nat → Nat → Int32) (tm : Nat → Nat → Int64) (sz : Nat) (p0 : Int32) (h_w0 : 0 ≤ (sm 2 0).toInt ∧ (sm 2 0).toInt ≤ 5) (h_rows : 0 ≤ (sm 0 26).toInt ∧ (sm 0 26).toInt ≤ 5) : MetL l D k b yX12_luck wsX12_luck ({ frames := 3, cells := 0, slots := 0, locals := 90 } : Room) [cell22_ qm sm tm, cell5_ k qm sm, cell13_ k qm sm, cell8_ k qm sm, cell6_ k qm sm, cell15_ k qm sm, cell14_ k qm tm, cell12_ k qm tm, cell18_ k qm tm, cell17_ k qm tm, cell19_ k qm tm, cell21_ k qm tm, cell20_ k qm sm, cell16_ k qm sm, cell11_ k qm sm, cell10_ k qm sm, cell9_ k qm sm, cell7_ k qm sm] sz [.ref (qm 0), .int p0] (fun (r : Int64) (u : Int64 × Int64 × Int64 × Int32) => (r, (u.1), (u.2.1), (u.2.2.1), (u.2.2.2)) = J_X12_luck sm tm p0) (fun u => [cell69_ qm sm (u.1) (u.2.1) (u.2.2.1) (u.2.2.2), cell5_ k qm sm, cell13_ k qm sm, cell8_ k qm sm, cell6_ k qm sm, cell15_ k qm sm, cell14_ k qm tm, cell12_ k qm tm, cell18_ k qm tm, cell17_ k qm tm, cell19_ k qm tm, cell21_ k qm tm, cell20_ k qm sm, cell16_ k qm sm, cell11_ k qm sm, cell10_ k qm sm, cell9_ k qm sm, cell7_ k qm sm]) := by
  refine g_enter (cc := cX12_luck) (maxL := 2) (ret := (some .long)) (by decide) rfl (Nat.le_of_ble_eq_true rfl) ?_
  intro p e s m below meth c A hsz hAe cx hr hP hD hS ls hl
  rw [hAe]
  refine g_q (fun Q hQ => ?_)
  have hx := cx.1.1
  have hb := cx.1.2.1
  have bp0 := i_rng p0
  have hl : lv_has ls 2 [(0, .ref (qm 0)), (1, .int p0)] := hl
  obtain ⟨H, eH⟩ : ∃ H : Heap, H = s.heap := ⟨_, rfl⟩
  obtain ⟨locs, el⟩ : ∃ L : List Loc, L = [] := ⟨_, rfl⟩
  have hP : va_P D vwCl [cell22_ qm sm tm, cell5_ k qm sm, cell13_ k qm sm, cell8_ k qm sm, cell6_ k qm sm, cell15_ k qm sm, cell14_ k qm tm, cell12_ k qm tm, cell18_ k qm tm, cell17_ k qm tm, cell19_ k qm tm, cell21_ k qm tm, cell20_ k qm sm, cell16_ k qm sm, cell11_ k qm sm, cell10_ k qm sm, cell9_ k qm sm, cell7_ k qm sm] H := by rw [eH]; exact hP
  have hD : va_D A [cell22_ qm sm tm, cell5_ k qm sm, cell13_ k qm sm, cell8_ k qm sm, cell6_ k qm sm, cell15_ k qm sm, cell14_ k qm tm, cell12_ k qm tm, cell18_ k qm tm, cell17_ k qm tm, cell19_ k qm tm, cell21_ k qm tm, cell20_ k qm sm, cell16_ k qm sm, cell11_ k qm sm, cell10_ k qm sm, cell9_ k qm sm, cell7_ k qm sm] := hD
  have hS : va_S A s.heap H locs := by rw [eH, el]; exact hS
  suffices goal : W p l e ({ frames := 3, cells := 0, slots := 0, locals := 90 } : Room) s m ([.ref (qm 0), .int p0] : List Value).toArray below meth c H locs 0 0 Q (F0 m 0 ls []) by rw [eH, el] at goal; exact goal
  refine lv_aload_n hx hb dX12_luck_0 rfl (lv_at hl 0 rfl) ?_
  refine g_iF (w1 := fun (u : Int64 × Int64 × Int64 × Int32) => [cell69_ qm sm (u.1) (u.2.1) (u.2.2.1) (u.2.2.2), cell5_ k qm sm, cell13_ k qm sm, cell8_ k qm sm, cell6_ k qm sm, cell15_ k qm sm, cell14_ k qm tm, cell12_ k qm tm, cell18_ k qm tm, cell17_ k qm tm, cell19_ k qm tm, cell21_ k qm tm, cell20_ k qm sm, cell16_ k qm sm, cell11_ k qm sm, cell10_ k qm sm, cell9_ k qm sm, cell7_ k qm sm]) (g_runVF (ws := [cell22_ qm sm tm, cell5_ k qm sm, cell13_ k qm sm, cell8_ k qm sm, cell6_ k qm sm, cell15_ k qm sm, cell14_ k qm tm, cell12_ k qm tm, cell18_ k qm tm, cell17_ k qm tm, cell19_ k qm tm, cell21_ k qm tm, cell20_ k qm sm, cell16_ k qm sm, cell11_ k qm sm, cell10_ k qm sm, cell9_ k qm sm, cell7_ k qm sm]) (rest := []) cx hP hD hS [] (c_X12_goThrough l D k b qm sm tm H.size (show 0 ≤ ((sm 2) 0).toInt ∧ ((sm 2) 0).toInt ≤ 5 from by first | decide | omega) (show 0 ≤ (sm 0 26).toInt ∧ (sm 0 26).toInt ≤ 5 from by first | decide | omega)) gX12_luck_X12_goThrough rfl rfl rfl nd_X12_goThrough ⟨Nat.le_of_ble_eq_true rfl, Nat.le_of_ble_eq_true rfl⟩ (ci := 10) (q0 := 0) rfl rfl rfl hl.1 rfl (Nat.le_of_ble_eq_true rfl) ⟨Nat.zero_le _, Nat.zero_le _⟩ dX12_luck_1) cx.2.2.1 hD hS (fun r3 u2 H locs hw1 hP hD hS => ?_)
  obtain ⟨m4, m5, m6, m7⟩ := u2
  have hP : va_P D vwCl [cell69_ qm sm m4 m5 m6 m7, cell5_ k qm sm, cell13_ k qm sm, cell8_ k qm sm, cell6_ k qm sm, cell15_ k qm sm, cell14_ k qm tm, cell12_ k qm tm, cell18_ k qm tm, cell17_ k qm tm, cell19_ k qm tm, cell21_ k qm tm, cell20_ k qm sm, cell16_ k qm sm, cell11_ k qm sm, cell10_ k qm sm, cell9_ k qm sm, cell7_ k qm sm] H := hP
  have hD : va_D A [cell69_ qm sm m4 m5 m6 m7, cell5_ k qm sm, cell13_ k qm sm, cell8_ k qm sm, cell6_ k qm sm, cell15_ k qm sm, cell14_ k qm tm, cell12_ k qm tm, cell18_ k qm tm, cell17_ k qm tm, cell19_ k qm tm, cell21_ k qm tm, cell20_ k qm sm, cell16_ k qm sm, cell11_ k qm sm, cell10_ k qm sm, cell9_ k qm sm, cell7_ k qm sm] := hD
  replace hw1 : (m6.toInt % 2 = 1) ∧ ((r3, m4, m5, m6, m7) = J_X12_goThrough sm tm) := hw1
  obtain ⟨w8, w9⟩ := hw1
  refine lv_bipush (v := (-9)) hx hb dX12_luck_4 (by decide) ?_
  refine lv_icmp_ne (tgt := 24) hx hb dX12_luck_6 (by decide) (fun c11 => ?_) (fun c11 => ?_)
  · have f11 : ¬ r3.toInt = (-9) := f_ne rfl (by decide) c11
    refine lv_ldc2 (v := (-3)) hx hb cx.1.2.2.2.1 (cx.1.2.2.2.2 _ kJ_X12_luck_277) dX12_luck_24 ?_
    rw [hQ]
    exact x_l cx hr (m4, m5, m6, m7) hP hD hS (show (((-3) : Int64), m4, m5, m6, m7) = J_X12_luck sm tm p0 from (exl_X12_luck_0 w9 c11)) dX12_luck_27
  · have f11 : r3.toInt = (-9) := f_eq rfl (by decide) c11
    refine lv_aload_n hx hb dX12_luck_9 rfl (lv_at hl 0 rfl) ?_
    refine g_get cx hP iw_X12_luck_X12 0 rfl rfl 30 (by decide) rfl fw_X12_luck_265 rfl dX12_luck_10 ?_
    refine lv_aload_n hx hb dX12_luck_13 rfl (lv_at hl 0 rfl) ?_
    refine g_get cx hP iw_X12_luck_X12 0 rfl rfl 31 (by decide) rfl fw_X12_luck_268 rfl dX12_luck_14 ?_
    refine lv_iload_n hx hb dX12_luck_17 rfl (lv_at hl 1 rfl) ?_
    refine g_lr (g_runS (wc := []) (rest := []) cx hP hD hS [] rfl (by decide) [.long m5, .long m6, .int p0] (c_X12_told l D k b H.size m5 m6 p0 (show ¬ m6.toInt = 0 from by first | decide | omega)) gX12_luck_X12_told rfl rfl rfl nd_X12_told ⟨Nat.le_of_ble_eq_true rfl, Nat.le_of_ble_eq_true rfl⟩ rfl hl.1 rfl (Nat.le_of_ble_eq_true rfl) ⟨Nat.zero_le _, Nat.zero_le _⟩ dX12_luck_18) cx.2.2.1 hP hD hS [] rfl rfl (fun r13 H locs hw12 hP hS => ?_)
    have w14 : r13 = J_X12_told m5 m6 p0 := hw12
    clear hw12
    refine lv_goto (tgt := 27) hx hb dX12_luck_21 (by decide) ?_
    rw [hQ]
    exact x_l cx hr (m4, m5, m6, m7) hP hD hS (show (r13, m4, m5, m6, m7) = J_X12_luck sm tm p0 from (exl_X12_luck_1 w9 c11 w14)) dX12_luck_27
theorem fw_X12_worst_271 : Cond.fieldLink RX12 271 "StillInAugustModel" "rowWorst" "I" ∈ wsX12_worst := by decide +kernel
theorem iw_X12_worst_X12 : ∀ w ∈ u_ws RX12 TX12 33, w ∈ wsX12_worst := fun _ h => List.mem_cons_of_mem _ (List.mem_append_right _ h)
def J_X12_worst (sm : Nat → Nat → Int32) (tm : Nat → Nat → Int64) : Int32 × Int64 × Int64 × Int64 × Int32 := LetF (J_X12_goThrough sm tm) (fun y10 => if (y10.1) = (-9) then ((y10.2.2.2.2), (y10.2.1), (y10.2.2.1), (y10.2.2.2.1), (y10.2.2.2.2)) else (((-3) : Int32), (y10.2.1), (y10.2.2.1), (y10.2.2.2.1), (y10.2.2.2.2)))
theorem exl_X12_worst_0 {sm : Nat → Nat → Int32} {tm : Nat → Nat → Int64} {m4 : Int64} {m5 : Int64} {m6 : Int64} {m7 : Int32} {r3 : Int32} (w9 : (r3, m4, m5, m6, m7) = J_X12_goThrough sm tm) (c11 : ¬ (r3 = ((-9) : Int32))) : (((-3) : Int32), m4, m5, m6, m7) = J_X12_worst sm tm := by refine Eq.symm ?_; unfold J_X12_worst; refine lt_e w9 ?_; refine Eq.trans (if_neg c11) ?_; rfl
theorem exl_X12_worst_1 {sm : Nat → Nat → Int32} {tm : Nat → Nat → Int64} {m7 : Int32} {m4 : Int64} {m5 : Int64} {m6 : Int64} {r3 : Int32} (w9 : (r3, m4, m5, m6, m7) = J_X12_goThrough sm tm) (c11 : r3 = ((-9) : Int32)) : (m7, m4, m5, m6, m7) = J_X12_worst sm tm := by refine Eq.symm ?_; unfold J_X12_worst; refine lt_e w9 ?_; refine Eq.trans (if_pos c11) ?_; rfl
set_option maxHeartbeats 4000000 in
set_option maxRecDepth 100000 in
theorem c_X12_worst (l : Launch) (D : va_G) (k : Nat → ClassId) (b : Nat → Nat) (qm : Nat → Nat) (sm : Nat → Nat → Int32) (tm : Nat → Nat → Int64) (sz : Nat) (h_w0 : 0 ≤ (sm 2 0).toInt ∧ (sm 2 0).toInt ≤ 5) (h_rows : 0 ≤ (sm 0 26).toInt ∧ (sm 0 26).toInt ≤ 5) : MetI l D k b yX12_worst wsX12_worst ({ frames := 3, cells := 0, slots := 0, locals := 90 } : Room) [cell22_ qm sm tm, cell5_ k qm sm, cell13_ k qm sm, cell8_ k qm sm, cell6_ k qm sm, cell15_ k qm sm, cell14_ k qm tm, cell12_ k qm tm, cell18_ k qm tm, cell17_ k qm tm, cell19_ k qm tm, cell21_ k qm tm, cell20_ k qm sm, cell16_ k qm sm, cell11_ k qm sm, cell10_ k qm sm, cell9_ k qm sm, cell7_ k qm sm] sz [.ref (qm 0)] (fun (r : Int32) (u : Int64 × Int64 × Int64 × Int32) => (r, (u.1), (u.2.1), (u.2.2.1), (u.2.2.2)) = J_X12_worst sm tm) (fun u => [cell69_ qm sm (u.1) (u.2.1) (u.2.2.1) (u.2.2.2), cell5_ k qm sm, cell13_ k qm sm, cell8_ k qm sm, cell6_ k qm sm, cell15_ k qm sm, cell14_ k qm tm, cell12_ k qm tm, cell18_ k qm tm, cell17_ k qm tm, cell19_ k qm tm, cell21_ k qm tm, cell20_ k qm sm, cell16_ k qm sm, cell11_ k qm sm, cell10_ k qm sm, cell9_ k qm sm, cell7_ k qm sm]) := by
  refine g_enter (cc := cX12_worst) (maxL := 1) (ret := (some .int)) (by decide) rfl (Nat.le_of_ble_eq_true rfl) ?_
  intro p e s m below meth c A hsz hAe cx hr hP hD hS ls hl
  rw [hAe]
  refine g_q (fun Q hQ => ?_)
  have hx := cx.1.1
  have hb := cx.1.2.1
  have hl : lv_has ls 1 [(0, .ref (qm 0))] := hl
  obtain ⟨H, eH⟩ : ∃ H : Heap, H = s.heap := ⟨_, rfl⟩
  obtain ⟨locs, el⟩ : ∃ L : List Loc, L = [] := ⟨_, rfl⟩
  have hP : va_P D vwCl [cell22_ qm sm tm, cell5_ k qm sm, cell13_ k qm sm, cell8_ k qm sm, cell6_ k qm sm, cell15_ k qm sm, cell14_ k qm tm, cell12_ k qm tm, cell18_ k qm tm, cell17_ k qm tm, cell19_ k qm tm, cell21_ k qm tm, cell20_ k qm sm, cell16_ k qm sm, cell11_ k qm sm, cell10_ k qm sm, cell9_ k qm sm, cell7_ k qm sm] H := by rw [eH]; exact hP
  have hD : va_D A [cell22_ qm sm tm, cell5_ k qm sm, cell13_ k qm sm, cell8_ k qm sm, cell6_ k qm sm, cell15_ k qm sm, cell14_ k qm tm, cell12_ k qm tm, cell18_ k qm tm, cell17_ k qm tm, cell19_ k qm tm, cell21_ k qm tm, cell20_ k qm sm, cell16_ k qm sm, cell11_ k qm sm, cell10_ k qm sm, cell9_ k qm sm, cell7_ k qm sm] := hD
  have hS : va_S A s.heap H locs := by rw [eH, el]; exact hS
  suffices goal : W p l e ({ frames := 3, cells := 0, slots := 0, locals := 90 } : Room) s m ([.ref (qm 0)] : List Value).toArray below meth c H locs 0 0 Q (F0 m 0 ls []) by rw [eH, el] at goal; exact goal
  refine lv_aload_n hx hb dX12_worst_0 rfl (lv_at hl 0 rfl) ?_
  refine g_iF (w1 := fun (u : Int64 × Int64 × Int64 × Int32) => [cell69_ qm sm (u.1) (u.2.1) (u.2.2.1) (u.2.2.2), cell5_ k qm sm, cell13_ k qm sm, cell8_ k qm sm, cell6_ k qm sm, cell15_ k qm sm, cell14_ k qm tm, cell12_ k qm tm, cell18_ k qm tm, cell17_ k qm tm, cell19_ k qm tm, cell21_ k qm tm, cell20_ k qm sm, cell16_ k qm sm, cell11_ k qm sm, cell10_ k qm sm, cell9_ k qm sm, cell7_ k qm sm]) (g_runVF (ws := [cell22_ qm sm tm, cell5_ k qm sm, cell13_ k qm sm, cell8_ k qm sm, cell6_ k qm sm, cell15_ k qm sm, cell14_ k qm tm, cell12_ k qm tm, cell18_ k qm tm, cell17_ k qm tm, cell19_ k qm tm, cell21_ k qm tm, cell20_ k qm sm, cell16_ k qm sm, cell11_ k qm sm, cell10_ k qm sm, cell9_ k qm sm, cell7_ k qm sm]) (rest := []) cx hP hD hS [] (c_X12_goThrough l D k b qm sm tm H.size (show 0 ≤ ((sm 2) 0).toInt ∧ ((sm 2) 0).toInt ≤ 5 from by first | decide | omega) (show 0 ≤ (sm 0 26).toInt ∧ (sm 0 26).toInt ≤ 5 from by first | decide | omega)) gX12_worst_X12_goThrough rfl rfl rfl nd_X12_goThrough ⟨Nat.le_of_ble_eq_true rfl, Nat.le_of_ble_eq_true rfl⟩ (ci := 10) (q0 := 0) rfl rfl rfl hl.1 rfl (Nat.le_of_ble_eq_true rfl) ⟨Nat.zero_le _, Nat.zero_le _⟩ dX12_worst_1) cx.2.2.1 hD hS (fun r3 u2 H locs hw1 hP hD hS => ?_)
  obtain ⟨m4, m5, m6, m7⟩ := u2
  have hP : va_P D vwCl [cell69_ qm sm m4 m5 m6 m7, cell5_ k qm sm, cell13_ k qm sm, cell8_ k qm sm, cell6_ k qm sm, cell15_ k qm sm, cell14_ k qm tm, cell12_ k qm tm, cell18_ k qm tm, cell17_ k qm tm, cell19_ k qm tm, cell21_ k qm tm, cell20_ k qm sm, cell16_ k qm sm, cell11_ k qm sm, cell10_ k qm sm, cell9_ k qm sm, cell7_ k qm sm] H := hP
  have hD : va_D A [cell69_ qm sm m4 m5 m6 m7, cell5_ k qm sm, cell13_ k qm sm, cell8_ k qm sm, cell6_ k qm sm, cell15_ k qm sm, cell14_ k qm tm, cell12_ k qm tm, cell18_ k qm tm, cell17_ k qm tm, cell19_ k qm tm, cell21_ k qm tm, cell20_ k qm sm, cell16_ k qm sm, cell11_ k qm sm, cell10_ k qm sm, cell9_ k qm sm, cell7_ k qm sm] := hD
  replace hw1 : (m6.toInt % 2 = 1) ∧ ((r3, m4, m5, m6, m7) = J_X12_goThrough sm tm) := hw1
  obtain ⟨w8, w9⟩ := hw1
  refine lv_bipush (v := (-9)) hx hb dX12_worst_4 (by decide) ?_
  refine lv_icmp_ne (tgt := 16) hx hb dX12_worst_6 (by decide) (fun c11 => ?_) (fun c11 => ?_)
  · have f11 : ¬ r3.toInt = (-9) := f_ne rfl (by decide) c11
    refine lv_bipush (v := (-3)) hx hb dX12_worst_16 (by decide) ?_
    have hlit12 : ((-3) : Int32).toInt = -3 := by decide
    rw [hQ]
    exact x_i cx hr (m4, m5, m6, m7) hP hD hS (show (((-3) : Int32), m4, m5, m6, m7) = J_X12_worst sm tm from (exl_X12_worst_0 w9 c11)) dX12_worst_18
  · have f11 : r3.toInt = (-9) := f_eq rfl (by decide) c11
    refine lv_aload_n hx hb dX12_worst_9 rfl (lv_at hl 0 rfl) ?_
    refine g_get cx hP iw_X12_worst_X12 0 rfl rfl 32 (by decide) rfl fw_X12_worst_271 rfl dX12_worst_10 ?_
    refine lv_goto (tgt := 18) hx hb dX12_worst_13 (by decide) ?_
    rw [hQ]
    exact x_i cx hr (m4, m5, m6, m7) hP hD hS (show (m7, m4, m5, m6, m7) = J_X12_worst sm tm from (exl_X12_worst_1 w9 c11)) dX12_worst_18
theorem fw_X12_count_103 : Cond.fieldLink RX12 103 "StillInAugustModel" "length" "I" ∈ wsX12_count := by decide +kernel
theorem fw_X12_count_13 : Cond.fieldLink RX12 13 "StillInAugustModel" "house" "[I" ∈ wsX12_count := by decide +kernel
theorem fw_X12_count_258 : Cond.fieldLink RX12 258 "StillInAugustModel" "rows" "I" ∈ wsX12_count := by decide +kernel
theorem iw_X12_count_X12 : ∀ w ∈ u_ws RX12 TX12 33, w ∈ wsX12_count := fun _ h => List.mem_cons_of_mem _ (List.mem_append_right _ h)
def J_X12_count (sm : Nat → Nat → Int32) (tm : Nat → Nat → Int64) (p0 : Int32) : Int32 := if p0 = 0 then (sm 0 3) else if p0 = 1 then (sm 0 26) else if p0 = 2 then (SF (fun j => sm 2 (10 + j)) (Int.toNat (sm 2 0).toInt)) else if p0 = 3 then (SF (fun j => sm 2 (15 + j)) (Int.toNat (sm 2 0).toInt)) else ((-2) : Int32)
set_option maxHeartbeats 4000000 in
set_option maxRecDepth 100000 in
theorem c_X12_count (l : Launch) (D : va_G) (k : Nat → ClassId) (b : Nat → Nat) (qm : Nat → Nat) (sm : Nat → Nat → Int32) (tm : Nat → Nat → Int64) (sz : Nat) (p0 : Int32) (h_w0 : 0 ≤ (sm 2 0).toInt ∧ (sm 2 0).toInt ≤ 5) : MetI l D k b yX12_count wsX12_count ({ frames := 0, cells := 0, slots := 0, locals := 0 } : Room) [cell22_ qm sm tm, cell5_ k qm sm, cell13_ k qm sm, cell8_ k qm sm, cell6_ k qm sm, cell15_ k qm sm, cell14_ k qm tm, cell12_ k qm tm, cell18_ k qm tm, cell17_ k qm tm, cell19_ k qm tm, cell21_ k qm tm, cell20_ k qm sm, cell16_ k qm sm, cell11_ k qm sm, cell10_ k qm sm, cell9_ k qm sm, cell7_ k qm sm] sz [.ref (qm 0), .int p0] (fun (r : Int32) (u : Unit) => r = J_X12_count sm tm p0) (fun u => [cell22_ qm sm tm, cell5_ k qm sm, cell13_ k qm sm, cell8_ k qm sm, cell6_ k qm sm, cell15_ k qm sm, cell14_ k qm tm, cell12_ k qm tm, cell18_ k qm tm, cell17_ k qm tm, cell19_ k qm tm, cell21_ k qm tm, cell20_ k qm sm, cell16_ k qm sm, cell11_ k qm sm, cell10_ k qm sm, cell9_ k qm sm, cell7_ k qm sm]) := by
  refine g_enter (cc := cX12_count) (maxL := 5) (ret := (some .int)) (by decide) rfl (Nat.le_of_ble_eq_true rfl) ?_
  intro p e s m below meth c A hsz hAe cx hr hP hD hS ls hl
  rw [hAe]
  refine g_q (fun Q hQ => ?_)
  have hx := cx.1.1
  have hb := cx.1.2.1
  have bp0 := i_rng p0
  have hl : lv_has ls 5 [(0, .ref (qm 0)), (1, .int p0)] := hl
  obtain ⟨H, eH⟩ : ∃ H : Heap, H = s.heap := ⟨_, rfl⟩
  obtain ⟨locs, el⟩ : ∃ L : List Loc, L = [] := ⟨_, rfl⟩
  have hP : va_P D vwCl [cell22_ qm sm tm, cell5_ k qm sm, cell13_ k qm sm, cell8_ k qm sm, cell6_ k qm sm, cell15_ k qm sm, cell14_ k qm tm, cell12_ k qm tm, cell18_ k qm tm, cell17_ k qm tm, cell19_ k qm tm, cell21_ k qm tm, cell20_ k qm sm, cell16_ k qm sm, cell11_ k qm sm, cell10_ k qm sm, cell9_ k qm sm, cell7_ k qm sm] H := by rw [eH]; exact hP
  have hD : va_D A [cell22_ qm sm tm, cell5_ k qm sm, cell13_ k qm sm, cell8_ k qm sm, cell6_ k qm sm, cell15_ k qm sm, cell14_ k qm tm, cell12_ k qm tm, cell18_ k qm tm, cell17_ k qm tm, cell19_ k qm tm, cell21_ k qm tm, cell20_ k qm sm, cell16_ k qm sm, cell11_ k qm sm, cell10_ k qm sm, cell9_ k qm sm, cell7_ k qm sm] := hD
  have hS : va_S A s.heap H locs := by rw [eH, el]; exact hS
  suffices goal : W p l e ({ frames := 0, cells := 0, slots := 0, locals := 0 } : Room) s m ([.ref (qm 0), .int p0] : List Value).toArray below meth c H locs 0 0 Q (F0 m 0 ls []) by rw [eH, el] at goal; exact goal
  refine lv_iconst (v := 0) hx hb dX12_count_0 (by decide) ?_
  refine lv_istore_n (lv' := [(2, .int 0), (0, .ref (qm 0)), (1, .int p0)]) hx hb dX12_count_1 rfl hl (by decide) rfl (fun ls hl => ?_)
  refine lv_iconst (v := 0) hx hb dX12_count_2 (by decide) ?_
  refine lv_istore_n (lv' := [(3, .int 0), (2, .int 0), (0, .ref (qm 0)), (1, .int p0)]) hx hb dX12_count_3 rfl hl (by decide) rfl (fun ls hl => ?_)
  refine lv_iconst (v := 0) hx hb dX12_count_4 (by decide) ?_
  refine lv_istore (lv' := [(4, .int 0), (3, .int 0), (2, .int 0), (0, .ref (qm 0)), (1, .int p0)]) hx hb dX12_count_5 hl (by decide) rfl (fun ls hl => ?_)
  have hL7 : ∀ (n15 : Nat) (v12 : Int32) (v13 : Int32) (v14 : Int32) (H : Heap) (locs : List Loc) (ls : Array Slot), 5 - v12.toInt < (n15 : Int) → (0 ≤ v12.toInt ∧ v12.toInt ≤ 5) → (v12.toInt ≤ (sm 2 0).toInt) → (v14 = SF (fun j => sm 2 (10 + j)) (Int.toNat v12.toInt)) → (v13 = SF (fun j => sm 2 (15 + j)) (Int.toNat v12.toInt)) → va_P D vwCl [cell22_ qm sm tm, cell5_ k qm sm, cell13_ k qm sm, cell8_ k qm sm, cell6_ k qm sm, cell15_ k qm sm, cell14_ k qm tm, cell12_ k qm tm, cell18_ k qm tm, cell17_ k qm tm, cell19_ k qm tm, cell21_ k qm tm, cell20_ k qm sm, cell16_ k qm sm, cell11_ k qm sm, cell10_ k qm sm, cell9_ k qm sm, cell7_ k qm sm] H → va_D A [cell22_ qm sm tm, cell5_ k qm sm, cell13_ k qm sm, cell8_ k qm sm, cell6_ k qm sm, cell15_ k qm sm, cell14_ k qm tm, cell12_ k qm tm, cell18_ k qm tm, cell17_ k qm tm, cell19_ k qm tm, cell21_ k qm tm, cell20_ k qm sm, cell16_ k qm sm, cell11_ k qm sm, cell10_ k qm sm, cell9_ k qm sm, cell7_ k qm sm] → va_S A s.heap H locs → lv_has ls 5 [(4, .int v12), (3, .int v13), (2, .int v14), (0, .ref (qm 0)), (1, .int p0)] → W p l e ({ frames := 0, cells := 0, slots := 0, locals := 0 } : Room) s m ([.ref (qm 0), .int p0] : List Value).toArray below meth c H locs 0 0 Q (F0 m 7 ls []) := by
    intro n15
    induction n15 with
    | zero => intro v12 v13 v14 H locs ls hmn15 bv12 q4 qs1 qs2 hP hD hS hl; exact absurd hmn15 (by omega)
    | succ n15 ih7 =>
      intro v12 v13 v14 H locs ls hmn15 bv12 q4 qs1 qs2 hP hD hS hl
      refine lv_iload hx hb dX12_count_7 (lv_at hl 0 rfl) ?_
      refine lv_aload_n hx hb dX12_count_9 rfl (lv_at hl 3 rfl) ?_
      refine g_get cx hP iw_X12_count_X12 0 rfl rfl 1 (by decide) rfl fw_X12_count_13 rfl dX12_count_10 ?_
      refine lv_iconst (v := 0) hx hb dX12_count_13 (by decide) ?_
      have hn16 : vp_in 0 26 := f_in (a := 0) (by decide) (by omega) (by omega)
      refine va_iald hx hb cx.2.1 hP 2 0 rfl rfl hn16 dX12_count_14 (lv_topi (fun v17 e17 => ?_))
      have uv17 : v17.toInt = ((sm 2) 0).toInt := congrArg Int32.toInt e17
      have t17 : 0 ≤ v17.toInt ∧ v17.toInt ≤ 5 := by rw [e17]; exact h_w0
      refine lv_icmp_ge (tgt := 50) hx hb dX12_count_15 (by decide) (fun c18 => ?_) (fun c18 => ?_)
      · have f18 : v17.toInt ≤ v12.toInt := f_le rfl rfl c18
        have qs1_e : v14 = (SF (fun j => sm 2 (10 + j)) (Int.toNat (sm 2 0).toInt)) := by have q : Int.toNat v12.toInt = (Int.toNat (sm 2 0).toInt) := (by omega); rw [q] at qs1; exact qs1
        have qs2_e : v13 = (SF (fun j => sm 2 (15 + j)) (Int.toNat (sm 2 0).toInt)) := by have q : Int.toNat v12.toInt = (Int.toNat (sm 2 0).toInt) := (by omega); rw [q] at qs2; exact qs2
        refine lv_iload_n hx hb dX12_count_50 rfl (lv_at hl 4 rfl) ?_
        by_cases c19 : p0 = 0
        · refine lv_tableIn (tgt := 80) (off := 29) hx hb dX12_count_51 (by rw [c19]; decide) (by rw [c19]; decide) (by rw [c19]; decide) (by decide) ?_
          have f19 : p0.toInt = 0 := f_eq rfl (by decide) c19
          refine lv_aload_n hx hb dX12_count_80 rfl (lv_at hl 3 rfl) ?_
          refine g_get cx hP iw_X12_count_X12 0 rfl rfl 3 (by decide) rfl fw_X12_count_103 rfl dX12_count_81 ?_
          rw [hQ]
          exact x_i cx hr () hP hD hS (show (sm 0 3) = J_X12_count sm tm p0 from by subst e17 qs1_e qs2_e; first | (refine Eq.symm ?_; refine Eq.trans (if_pos c19) ?_; rfl) | (unfold J_X12_count; try dsimp only; rw [if_pos c19])) dX12_count_84
        by_cases c20 : p0 = 1
        · refine lv_tableIn (tgt := 85) (off := 34) hx hb dX12_count_51 (by rw [c20]; decide) (by rw [c20]; decide) (by rw [c20]; decide) (by decide) ?_
          have f20 : p0.toInt = 1 := f_eq rfl (by decide) c20
          refine lv_aload_n hx hb dX12_count_85 rfl (lv_at hl 3 rfl) ?_
          refine g_get cx hP iw_X12_count_X12 0 rfl rfl 26 (by decide) rfl fw_X12_count_258 rfl dX12_count_86 ?_
          rw [hQ]
          exact x_i cx hr () hP hD hS (show (sm 0 26) = J_X12_count sm tm p0 from by subst e17 qs1_e qs2_e; first | (refine Eq.symm ?_; refine Eq.trans (if_neg c19) ?_; refine Eq.trans (if_pos c20) ?_; rfl) | (unfold J_X12_count; try dsimp only; rw [if_neg c19, if_pos c20])) dX12_count_89
        by_cases c21 : p0 = 2
        · refine lv_tableIn (tgt := 90) (off := 39) hx hb dX12_count_51 (by rw [c21]; decide) (by rw [c21]; decide) (by rw [c21]; decide) (by decide) ?_
          have f21 : p0.toInt = 2 := f_eq rfl (by decide) c21
          refine lv_iload_n hx hb dX12_count_90 rfl (lv_at hl 2 rfl) ?_
          rw [hQ]
          exact x_i cx hr () hP hD hS (show v14 = J_X12_count sm tm p0 from by subst e17 qs1_e qs2_e; first | (refine Eq.symm ?_; refine Eq.trans (if_neg c19) ?_; refine Eq.trans (if_neg c20) ?_; refine Eq.trans (if_pos c21) ?_; rfl) | (unfold J_X12_count; try dsimp only; rw [if_neg c19, if_neg c20, if_pos c21])) dX12_count_91
        by_cases c22 : p0 = 3
        · refine lv_tableIn (tgt := 92) (off := 41) hx hb dX12_count_51 (by rw [c22]; decide) (by rw [c22]; decide) (by rw [c22]; decide) (by decide) ?_
          have f22 : p0.toInt = 3 := f_eq rfl (by decide) c22
          refine lv_iload_n hx hb dX12_count_92 rfl (lv_at hl 1 rfl) ?_
          rw [hQ]
          exact x_i cx hr () hP hD hS (show v13 = J_X12_count sm tm p0 from by subst e17 qs1_e qs2_e; first | (refine Eq.symm ?_; refine Eq.trans (if_neg c19) ?_; refine Eq.trans (if_neg c20) ?_; refine Eq.trans (if_neg c21) ?_; refine Eq.trans (if_pos c22) ?_; rfl) | (unfold J_X12_count; try dsimp only; rw [if_neg c19, if_neg c20, if_neg c21, if_pos c22])) dX12_count_93
        have gc19 : ¬ p0.toInt = 0 := f_ne rfl (by decide) c19
        have gc20 : ¬ p0.toInt = 1 := f_ne rfl (by decide) c20
        have gc21 : ¬ p0.toInt = 2 := f_ne rfl (by decide) c21
        have gc22 : ¬ p0.toInt = 3 := f_ne rfl (by decide) c22
        refine lv_tableOut (tgt := 94) hx hb dX12_count_51 (by omega) (by decide) ?_
        refine lv_bipush (v := (-2)) hx hb dX12_count_94 (by decide) ?_
        have hlit24 : ((-2) : Int32).toInt = -2 := by decide
        rw [hQ]
        exact x_i cx hr () hP hD hS (show ((-2) : Int32) = J_X12_count sm tm p0 from by subst e17 qs1_e qs2_e; first | (refine Eq.symm ?_; refine Eq.trans (if_neg c19) ?_; refine Eq.trans (if_neg c20) ?_; refine Eq.trans (if_neg c21) ?_; refine Eq.trans (if_neg c22) ?_; rfl) | (unfold J_X12_count; try dsimp only; rw [if_neg c19, if_neg c20, if_neg c21, if_neg c22])) dX12_count_96
      · have f18 : v12.toInt < v17.toInt := f_nle rfl rfl c18
        refine lv_iload_n hx hb dX12_count_18 rfl (lv_at hl 2 rfl) ?_
        refine lv_aload_n hx hb dX12_count_19 rfl (lv_at hl 3 rfl) ?_
        refine g_get cx hP iw_X12_count_X12 0 rfl rfl 1 (by decide) rfl fw_X12_count_13 rfl dX12_count_20 ?_
        refine lv_bipush (v := 10) hx hb dX12_count_23 (by decide) ?_
        refine lv_iload hx hb dX12_count_25 (lv_at hl 0 rfl) ?_
        refine lv_iadd hx hb dX12_count_27 (lv_topi (fun v25 e25 => ?_))
        have t25 : v25.toInt = 10 + v12.toInt := by rw [e25]; exact i_add (by decide) rfl (by omega) (by omega)
        have hn26 : vp_in v25 26 := f_in (a := v25.toInt) rfl (by omega) (by omega)
        refine va_iald hx hb cx.2.1 hP 2 0 rfl rfl hn26 dX12_count_28 (lv_topi (fun v27 e27 => ?_))
        have hv1_ : v27 = sm 2 (10 + Int.toNat v12.toInt) := e27.trans (congrArg (sm 2) (cN_of (show v25.toInt = ((10 + Int.toNat v12.toInt : Nat) : Int) from by omega)))
        refine lv_iadd hx hb dX12_count_29 (lv_topi (fun v28 e28 => ?_))
        have hs1_ := e28
        refine lv_istore_n (lv' := [(2, .int v28), (4, .int v12), (3, .int v13), (0, .ref (qm 0)), (1, .int p0)]) hx hb dX12_count_30 rfl hl (by decide) rfl (fun ls hl => ?_)
        refine lv_iload_n hx hb dX12_count_31 rfl (lv_at hl 2 rfl) ?_
        refine lv_aload_n hx hb dX12_count_32 rfl (lv_at hl 3 rfl) ?_
        refine g_get cx hP iw_X12_count_X12 0 rfl rfl 1 (by decide) rfl fw_X12_count_13 rfl dX12_count_33 ?_
        refine lv_bipush (v := 15) hx hb dX12_count_36 (by decide) ?_
        refine lv_iload hx hb dX12_count_38 (lv_at hl 1 rfl) ?_
        refine lv_iadd hx hb dX12_count_40 (lv_topi (fun v29 e29 => ?_))
        have t29 : v29.toInt = 15 + v12.toInt := by rw [e29]; exact i_add (by decide) rfl (by omega) (by omega)
        have hn30 : vp_in v29 26 := f_in (a := v29.toInt) rfl (by omega) (by omega)
        refine va_iald hx hb cx.2.1 hP 2 0 rfl rfl hn30 dX12_count_41 (lv_topi (fun v31 e31 => ?_))
        have hv2_ : v31 = sm 2 (15 + Int.toNat v12.toInt) := e31.trans (congrArg (sm 2) (cN_of (show v29.toInt = ((15 + Int.toNat v12.toInt : Nat) : Int) from by omega)))
        refine lv_iadd hx hb dX12_count_42 (lv_topi (fun v32 e32 => ?_))
        have hs2_ := e32
        refine lv_istore_n (lv' := [(3, .int v32), (2, .int v28), (4, .int v12), (0, .ref (qm 0)), (1, .int p0)]) hx hb dX12_count_43 rfl hl (by decide) rfl (fun ls hl => ?_)
        obtain ⟨v33, e33⟩ : ∃ z : Int32, z = v12 + 1 := ⟨_, rfl⟩
        refine lv_iinc (v := v33) (lv' := [(4, .int v33), (3, .int v32), (2, .int v28), (0, .ref (qm 0)), (1, .int p0)]) hx hb dX12_count_44 hl (k := 2) rfl (by rw [e33]; rfl) (by decide) rfl (fun ls hl => ?_)
        have t33 : v33.toInt = v12.toInt + 1 := by rw [e33]; exact i_add rfl (by decide) (by omega) (by omega)
        refine lv_goto (tgt := 7) hx hb dX12_count_47 (by decide) ?_
        exact ih7 v33 v32 v28 _ _ _ (by omega) (by first | decide | omega) (by first | decide | omega) (SF_st qs1 hv1_ hs1_ (by omega)) (SF_st qs2 hv2_ hs2_ (by omega)) hP hD hS (lv_sub hl [0, 1, 2, 3, 4] rfl)
  have hlit34 : (0 : Int32).toInt = 0 := by decide
  have hlit35 : (0 : Int32).toInt = 0 := by decide
  have hlit36 : (0 : Int32).toInt = 0 := by decide
  exact hL7 (Int.toNat (5 - 0) + 1) 0 0 0 _ _ _ (by omega) (by first | decide | omega) (by first | decide | omega) rfl rfl hP hD hS (lv_sub hl [0, 1, 2, 3, 4] rfl)
