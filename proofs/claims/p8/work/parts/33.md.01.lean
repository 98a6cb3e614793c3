theorem fw_X12_make_13 : Cond.fieldLink RX12 13 "StillInAugustModel" "house" "[I" ∈ wsX12_make := by decide +kernel
theorem fw_X12_make_140 : Cond.fieldLink RX12 140 "StillInAugustModel" "liveOrder" "I" ∈ wsX12_make := by decide +kernel
theorem fw_X12_make_143 : Cond.fieldLink RX12 143 "StillInAugustModel" "liveDid" "I" ∈ wsX12_make := by decide +kernel
theorem fw_X12_make_47 : Cond.fieldLink RX12 47 "StillInAugustModel" "live" "[I" ∈ wsX12_make := by decide +kernel
theorem fw_X12_make_50 : Cond.fieldLink RX12 50 "StillInAugustModel" "isKept" "[Z" ∈ wsX12_make := by decide +kernel
theorem nd_X12_takeHouse : yX12_takeHouse.cls = RX12 ∧ yX12_takeHouse.cls ≠ "java/lang/invoke/MethodHandle" ∧ yX12_takeHouse.cls ≠ "java/lang/invoke/VarHandle" ∧ (parseMethodDescriptor yX12_takeHouse.desc).map (fun d => d.parameters.length) = some 0 := by decide +kernel
theorem iw_X12_make_X12 : ∀ w ∈ u_ws RX12 TX12 33, w ∈ wsX12_make := fun _ h => List.mem_cons_of_mem _ (List.mem_append_right _ h)
def J_X12_make (sm : Nat → Nat → Int32) (tm : Nat → Nat → Int64) : Int32 × (Nat → Int32) × Int32 × Int32 × Int32 × Int32 × Int32 × Int32 × Int32 × (Nat → Int32) × (Nat → Int32) × (Nat → Int32) × Int32 × Int32 := let y16 := J_X12_readHouse sm tm; if (y16.1) = (-9) then let y33 := J_X12_takeHouse (up2 (up2 sm 0 (upd (upd (upd (upd (upd (upd (upd (sm 0) 4 (y16.2.2.1)) 5 (y16.2.2.2.1)) 6 (y16.2.2.2.2.1)) 7 (y16.2.2.2.2.2.1)) 8 (y16.2.2.2.2.2.2.1)) 9 (y16.2.2.2.2.2.2.2.1)) 10 (y16.2.2.2.2.2.2.2.2))) 1 (y16.2.1)) tm; ((y33 (0 : Int32).toNatClampNeg), (y16.2.1), (y16.2.2.1), (y16.2.2.2.1), (y16.2.2.2.2.1), (y16.2.2.2.2.2.1), (y16.2.2.2.2.2.2.1), (y16.2.2.2.2.2.2.2.1), (y16.2.2.2.2.2.2.2.2), y33, (upd (upd (sm 14) (0 : Int32).toNatClampNeg (vp_nar .boolean 0)) (1 : Int32).toNatClampNeg (vp_nar .boolean 0)), (PFn (fun _ => 0) 5 (sm 13)), (0 : Int32), (0 : Int32)) else (((-3) : Int32), (y16.2.1), (y16.2.2.1), (y16.2.2.2.1), (y16.2.2.2.2.1), (y16.2.2.2.2.2.1), (y16.2.2.2.2.2.2.1), (y16.2.2.2.2.2.2.2.1), (y16.2.2.2.2.2.2.2.2), (sm 2), (sm 14), (sm 13), (sm 0 22), (sm 0 23))
set_option maxHeartbeats 4000000 in
set_option maxRecDepth 100000 in
theorem c_X12_make (l : Launch) (D : va_G) (k : Nat → ClassId) (b : Nat → Nat) (qm : Nat → Nat) (sm : Nat → Nat → Int32) (tm : Nat → Nat → Int64) (sz : Nat) (h_len : 0 ≤ (sm 0 3).toInt ∧ (sm 0 3).toInt ≤ 64) (h_w0 : 0 ≤ (sm 2 0).toInt ∧ (sm 2 0).toInt ≤ 5) (h_k1 : 0 ≤ (sm 2 1).toInt ∧ (sm 2 1).toInt ≤ 4) : MetI l D k b yX12_make wsX12_make ({ frames := 4, cells := 0, slots := 0, locals := 92 } : Room) [cell22_ qm sm tm, cell5_ k qm sm, cell13_ k qm sm, cell8_ k qm sm, cell6_ k qm sm, cell14_ k qm sm, cell15_ k qm tm, cell12_ k qm tm, cell18_ k qm tm, cell17_ k qm tm, cell19_ k qm tm, cell21_ k qm tm, cell20_ k qm sm, cell16_ k qm sm, cell11_ k qm sm, cell10_ k qm sm, cell9_ k qm sm, cell7_ k qm sm] sz [.ref (qm 0)] (fun (r : Int32) (u : (Nat → Int32) × Int32 × Int32 × Int32 × Int32 × Int32 × Int32 × Int32 × (Nat → Int32) × (Nat → Int32) × (Nat → Int32) × Int32 × Int32) => (0 ≤ ((u.1) 0).toInt ∧ ((u.1) 0).toInt ≤ 5) ∧ (0 ≤ ((u.1) 1).toInt ∧ ((u.1) 1).toInt ≤ 4) ∧ (0 ≤ (u.2.1).toInt ∧ (u.2.1).toInt ≤ 64) ∧ (0 ≤ ((u.2.2.2.2.2.2.2.2.1) 0).toInt ∧ ((u.2.2.2.2.2.2.2.2.1) 0).toInt ≤ 5) ∧ (0 ≤ ((u.2.2.2.2.2.2.2.2.1) 1).toInt ∧ ((u.2.2.2.2.2.2.2.2.1) 1).toInt ≤ 4) ∧ ((r, (u.1), (u.2.1), (u.2.2.1), (u.2.2.2.1), (u.2.2.2.2.1), (u.2.2.2.2.2.1), (u.2.2.2.2.2.2.1), (u.2.2.2.2.2.2.2.1), (u.2.2.2.2.2.2.2.2.1), (u.2.2.2.2.2.2.2.2.2.1), (u.2.2.2.2.2.2.2.2.2.2.1), (u.2.2.2.2.2.2.2.2.2.2.2.1), (u.2.2.2.2.2.2.2.2.2.2.2.2)) = J_X12_make sm tm)) (fun u => [cell154_ qm sm tm (u.2.1) (u.2.2.1) (u.2.2.2.1) (u.2.2.2.2.1) (u.2.2.2.2.2.1) (u.2.2.2.2.2.2.1) (u.2.2.2.2.2.2.2.1) (u.2.2.2.2.2.2.2.2.2.2.2.1) (u.2.2.2.2.2.2.2.2.2.2.2.2), cell107_ k qm (u.1), cell199_ k qm (u.2.2.2.2.2.2.2.2.1), cell8_ k qm sm, cell6_ k qm sm, cell14_ k qm sm, cell15_ k qm tm, cell12_ k qm tm, cell18_ k qm tm, cell17_ k qm tm, cell19_ k qm tm, cell21_ k qm tm, cell20_ k qm sm, cell168_ k qm (u.2.2.2.2.2.2.2.2.2.2.1), cell200_ k qm (u.2.2.2.2.2.2.2.2.2.1), cell10_ k qm sm, cell9_ k qm sm, cell7_ k qm sm]) := by
  refine g_enter (cc := cX12_make) (maxL := 2) (ret := (some .int)) (by decide) rfl (Nat.le_of_ble_eq_true rfl) ?_
  intro p e s m below meth c A hsz hAe cx hr hP hD hS ls hl
  rw [hAe]
  refine g_q (fun Q hQ => ?_)
  have hx := cx.1.1
  have hb := cx.1.2.1
  have hl : lv_has ls 2 [(0, .ref (qm 0))] := hl
  obtain ⟨H, eH⟩ : ∃ H : Heap, H = s.heap := ⟨_, rfl⟩
  obtain ⟨locs, el⟩ : ∃ L : List Loc, L = [] := ⟨_, rfl⟩
  have hP : va_P D vwCl [cell22_ qm sm tm, cell5_ k qm sm, cell13_ k qm sm, cell8_ k qm sm, cell6_ k qm sm, cell14_ k qm sm, cell15_ k qm tm, cell12_ k qm tm, cell18_ k qm tm, cell17_ k qm tm, cell19_ k qm tm, cell21_ k qm tm, cell20_ k qm sm, cell16_ k qm sm, cell11_ k qm sm, cell10_ k qm sm, cell9_ k qm sm, cell7_ k qm sm] H := by rw [eH]; exact hP
  have hD : va_D A [cell22_ qm sm tm, cell5_ k qm sm, cell13_ k qm sm, cell8_ k qm sm, cell6_ k qm sm, cell14_ k qm sm, cell15_ k qm tm, cell12_ k qm tm, cell18_ k qm tm, cell17_ k qm tm, cell19_ k qm tm, cell21_ k qm tm, cell20_ k qm sm, cell16_ k qm sm, cell11_ k qm sm, cell10_ k qm sm, cell9_ k qm sm, cell7_ k qm sm] := hD
  have hS : va_S A s.heap H locs := by rw [eH, el]; exact hS
  suffices goal : W p l e ({ frames := 4, cells := 0, slots := 0, locals := 92 } : Room) s m ([.ref (qm 0)] : List Value).toArray below meth c H locs 0 0 Q (F0 m 0 ls []) by rw [eH, el] at goal; exact goal
  refine lv_aload_n hx hb dX12_make_0 rfl (lv_at hl 0 rfl) ?_
  refine g_iF (w1 := fun (u : (Nat → Int32) × Int32 × Int32 × Int32 × Int32 × Int32 × Int32 × Int32) => [cell85_ qm sm tm (u.2.1) (u.2.2.1) (u.2.2.2.1) (u.2.2.2.2.1) (u.2.2.2.2.2.1) (u.2.2.2.2.2.2.1) (u.2.2.2.2.2.2.2), cell107_ k qm (u.1), cell13_ k qm sm, cell8_ k qm sm, cell6_ k qm sm, cell14_ k qm sm, cell15_ k qm tm, cell12_ k qm tm, cell18_ k qm tm, cell17_ k qm tm, cell19_ k qm tm, cell21_ k qm tm, cell20_ k qm sm, cell16_ k qm sm, cell11_ k qm sm, cell10_ k qm sm, cell9_ k qm sm, cell7_ k qm sm]) (g_runVF (ws := [cell22_ qm sm tm, cell5_ k qm sm, cell13_ k qm sm, cell8_ k qm sm, cell6_ k qm sm, cell14_ k qm sm, cell15_ k qm tm, cell12_ k qm tm, cell18_ k qm tm, cell17_ k qm tm, cell19_ k qm tm, cell21_ k qm tm, cell20_ k qm sm, cell16_ k qm sm, cell11_ k qm sm, cell10_ k qm sm, cell9_ k qm sm, cell7_ k qm sm]) (rest := []) cx hP hD hS [] (c_X12_readHouse l D k b qm sm tm H.size (show 0 ≤ (sm 0 3).toInt ∧ (sm 0 3).toInt ≤ 64 from by first | decide | omega)) gX12_make_X12_readHouse rfl rfl rfl nd_X12_readHouse ⟨Nat.le_of_ble_eq_true rfl, Nat.le_of_ble_eq_true rfl⟩ (ci := 10) (q0 := 0) rfl rfl rfl hl.1 rfl (Nat.le_of_ble_eq_true rfl) ⟨Nat.zero_le _, Nat.zero_le _⟩ dX12_make_1) cx.2.2.1 hD hS (fun r3 u2 H locs hw1 hP hD hS => ?_)
  obtain ⟨m4, m5, m6, m7, m8, m9, m10, m11⟩ := u2
  have hP : va_P D vwCl [cell85_ qm sm tm m5 m6 m7 m8 m9 m10 m11, (qm 1, .inl (k 0, 26, .inl m4)), cell13_ k qm sm, cell8_ k qm sm, cell6_ k qm sm, cell14_ k qm sm, cell15_ k qm tm, cell12_ k qm tm, cell18_ k qm tm, cell17_ k qm tm, cell19_ k qm tm, cell21_ k qm tm, cell20_ k qm sm, cell16_ k qm sm, cell11_ k qm sm, cell10_ k qm sm, cell9_ k qm sm, cell7_ k qm sm] H := hP
  have hD : va_D A [cell85_ qm sm tm m5 m6 m7 m8 m9 m10 m11, (qm 1, .inl (k 0, 26, .inl m4)), cell13_ k qm sm, cell8_ k qm sm, cell6_ k qm sm, cell14_ k qm sm, cell15_ k qm tm, cell12_ k qm tm, cell18_ k qm tm, cell17_ k qm tm, cell19_ k qm tm, cell21_ k qm tm, cell20_ k qm sm, cell16_ k qm sm, cell11_ k qm sm, cell10_ k qm sm, cell9_ k qm sm, cell7_ k qm sm] := hD
  replace hw1 : (0 ≤ (m4 0).toInt ∧ (m4 0).toInt ≤ 5) ∧ (0 ≤ (m4 1).toInt ∧ (m4 1).toInt ≤ 4) ∧ (0 ≤ m5.toInt ∧ m5.toInt ≤ 64) ∧ ((r3, m4, m5, m6, m7, m8, m9, m10, m11) = J_X12_readHouse sm tm) := hw1
  obtain ⟨w12, w13, w14, w15⟩ := hw1
  have k17 : r3 = ((J_X12_readHouse sm tm).1) := congrArg (fun z => (z.1)) w15
  have k18 : m4 = ((J_X12_readHouse sm tm).2.1) := congrArg (fun z => (z.2.1)) w15
  have k19 : m5 = ((J_X12_readHouse sm tm).2.2.1) := congrArg (fun z => (z.2.2.1)) w15
  have k20 : m6 = ((J_X12_readHouse sm tm).2.2.2.1) := congrArg (fun z => (z.2.2.2.1)) w15
  have k21 : m7 = ((J_X12_readHouse sm tm).2.2.2.2.1) := congrArg (fun z => (z.2.2.2.2.1)) w15
  have k22 : m8 = ((J_X12_readHouse sm tm).2.2.2.2.2.1) := congrArg (fun z => (z.2.2.2.2.2.1)) w15
  have k23 : m9 = ((J_X12_readHouse sm tm).2.2.2.2.2.2.1) := congrArg (fun z => (z.2.2.2.2.2.2.1)) w15
  have k24 : m10 = ((J_X12_readHouse sm tm).2.2.2.2.2.2.2.1) := congrArg (fun z => (z.2.2.2.2.2.2.2.1)) w15
  have k25 : m11 = ((J_X12_readHouse sm tm).2.2.2.2.2.2.2.2) := congrArg (fun z => (z.2.2.2.2.2.2.2.2)) w15
  refine lv_bipush (v := (-9)) hx hb dX12_make_4 (by decide) ?_
  refine lv_icmp_eq (tgt := 12) hx hb dX12_make_6 (by decide) (fun c26 => ?_) (fun c26 => ?_)
  · have f26 : r3.toInt = (-9) := f_eq rfl (by decide) c26
    refine lv_aload_n hx hb dX12_make_12 rfl (lv_at hl 0 rfl) ?_
    refine g_vF (w1 := fun (u : (Nat → Int32)) => [cell85_ qm sm tm m5 m6 m7 m8 m9 m10 m11, (qm 1, .inl (k 0, 26, .inl m4)), (qm 2, .inl (k 0, 26, .inl u)), cell8_ k qm sm, cell6_ k qm sm, cell14_ k qm sm, cell15_ k qm tm, cell12_ k qm tm, cell18_ k qm tm, cell17_ k qm tm, cell19_ k qm tm, cell21_ k qm tm, cell20_ k qm sm, cell16_ k qm sm, cell11_ k qm sm, cell10_ k qm sm, cell9_ k qm sm, cell7_ k qm sm]) (g_runVF (ws := [cell85_ qm sm tm m5 m6 m7 m8 m9 m10 m11, (qm 1, .inl (k 0, 26, .inl m4)), cell13_ k qm sm, cell8_ k qm sm, cell6_ k qm sm, cell14_ k qm sm, cell15_ k qm tm, cell12_ k qm tm, cell18_ k qm tm, cell17_ k qm tm, cell19_ k qm tm, cell21_ k qm tm, cell20_ k qm sm, cell16_ k qm sm, cell11_ k qm sm, cell10_ k qm sm, cell9_ k qm sm, cell7_ k qm sm]) (rest := []) cx hP hD hS [] (c_X12_takeHouse l D k b qm (up2 (up2 sm 0 (upd (upd (upd (upd (upd (upd (upd (sm 0) 4 m5) 5 m6) 6 m7) 7 m8) 8 m9) 9 m10) 10 m11)) 1 m4) tm H.size (show 0 ≤ (m4 0).toInt ∧ (m4 0).toInt ≤ 5 from by first | decide | omega) (show 0 ≤ (m4 1).toInt ∧ (m4 1).toInt ≤ 4 from by first | decide | omega)) gX12_make_X12_takeHouse rfl rfl rfl nd_X12_takeHouse ⟨Nat.le_of_ble_eq_true rfl, Nat.le_of_ble_eq_true rfl⟩ (ci := 10) (q0 := 0) rfl rfl rfl hl.1 rfl (Nat.le_of_ble_eq_true rfl) ⟨Nat.zero_le _, Nat.zero_le _⟩ dX12_make_13) cx.2.2.1 hD hS (fun u28 H locs hw27 hP hD hS => ?_)
    obtain ⟨m29, rfl⟩ : ∃ z, z = u28 := ⟨_, rfl⟩
    have hP : va_P D vwCl [cell85_ qm sm tm m5 m6 m7 m8 m9 m10 m11, (qm 1, .inl (k 0, 26, .inl m4)), (qm 2, .inl (k 0, 26, .inl m29)), cell8_ k qm sm, cell6_ k qm sm, cell14_ k qm sm, cell15_ k qm tm, cell12_ k qm tm, cell18_ k qm tm, cell17_ k qm tm, cell19_ k qm tm, cell21_ k qm tm, cell20_ k qm sm, cell16_ k qm sm, cell11_ k qm sm, cell10_ k qm sm, cell9_ k qm sm, cell7_ k qm sm] H := hP
    have hD : va_D A [cell85_ qm sm tm m5 m6 m7 m8 m9 m10 m11, (qm 1, .inl (k 0, 26, .inl m4)), (qm 2, .inl (k 0, 26, .inl m29)), cell8_ k qm sm, cell6_ k qm sm, cell14_ k qm sm, cell15_ k qm tm, cell12_ k qm tm, cell18_ k qm tm, cell17_ k qm tm, cell19_ k qm tm, cell21_ k qm tm, cell20_ k qm sm, cell16_ k qm sm, cell11_ k qm sm, cell10_ k qm sm, cell9_ k qm sm, cell7_ k qm sm] := hD
    replace hw27 : (0 ≤ (m29 0).toInt ∧ (m29 0).toInt ≤ 5) ∧ (0 ≤ (m29 1).toInt ∧ (m29 1).toInt ≤ 4) ∧ (m29 = J_X12_takeHouse (up2 (up2 sm 0 (upd (upd (upd (upd (upd (upd (upd (sm 0) 4 m5) 5 m6) 6 m7) 7 m8) 8 m9) 9 m10) 10 m11)) 1 m4) tm) := hw27
    obtain ⟨w30, w31, w32⟩ := hw27
    have k34 : m29 = (J_X12_takeHouse (up2 (up2 sm 0 (upd (upd (upd (upd (upd (upd (upd (sm 0) 4 m5) 5 m6) 6 m7) 7 m8) 8 m9) 9 m10) 10 m11)) 1 m4) tm) := congrArg (fun z => z) w32
    refine lv_aload_n hx hb dX12_make_16 rfl (lv_at hl 0 rfl) ?_
    refine g_get cx hP iw_X12_make_X12 0 rfl rfl 24 (by decide) rfl fw_X12_make_50 rfl dX12_make_17 ?_
    refine lv_iconst (v := 0) hx hb dX12_make_20 (by decide) ?_
    refine lv_iconst (v := 0) hx hb dX12_make_21 (by decide) ?_
    have hn35 : vp_in 0 2 := f_in (a := 0) (by decide) (by omega) (by omega)
    refine va_zast hx hb cx.2.1 hP hD hS 14 3 rfl rfl hn35 dX12_make_22 (fun H locs hP hD hS => ?_)
    obtain ⟨g36, eg36⟩ : ∃ g : Nat → Int32, g = upd (sm 14) ((0 : Int32).toNatClampNeg) (vp_nar .boolean 0) := ⟨_, rfl⟩
    rw [← eg36] at hP hD
    have hP : va_P D vwCl [cell85_ qm sm tm m5 m6 m7 m8 m9 m10 m11, (qm 1, .inl (k 0, 26, .inl m4)), (qm 2, .inl (k 0, 26, .inl m29)), cell8_ k qm sm, cell6_ k qm sm, cell14_ k qm sm, cell15_ k qm tm, cell12_ k qm tm, cell18_ k qm tm, cell17_ k qm tm, cell19_ k qm tm, cell21_ k qm tm, cell20_ k qm sm, cell16_ k qm sm, (qm 14, .inl (k 3, 2, .inl g36)), cell10_ k qm sm, cell9_ k qm sm, cell7_ k qm sm] H := hP
    have hD : va_D A [cell85_ qm sm tm m5 m6 m7 m8 m9 m10 m11, (qm 1, .inl (k 0, 26, .inl m4)), (qm 2, .inl (k 0, 26, .inl m29)), cell8_ k qm sm, cell6_ k qm sm, cell14_ k qm sm, cell15_ k qm tm, cell12_ k qm tm, cell18_ k qm tm, cell17_ k qm tm, cell19_ k qm tm, cell21_ k qm tm, cell20_ k qm sm, cell16_ k qm sm, (qm 14, .inl (k 3, 2, .inl g36)), cell10_ k qm sm, cell9_ k qm sm, cell7_ k qm sm] := hD
    refine lv_aload_n hx hb dX12_make_23 rfl (lv_at hl 0 rfl) ?_
    refine g_get cx hP iw_X12_make_X12 0 rfl rfl 24 (by decide) rfl fw_X12_make_50 rfl dX12_make_24 ?_
    refine lv_iconst (v := 1) hx hb dX12_make_27 (by decide) ?_
    refine lv_iconst (v := 0) hx hb dX12_make_28 (by decide) ?_
    have hn37 : vp_in 1 2 := f_in (a := 1) (by decide) (by omega) (by omega)
    refine va_zast hx hb cx.2.1 hP hD hS 14 3 rfl rfl hn37 dX12_make_29 (fun H locs hP hD hS => ?_)
    obtain ⟨g38, eg38⟩ : ∃ g : Nat → Int32, g = upd g36 ((1 : Int32).toNatClampNeg) (vp_nar .boolean 0) := ⟨_, rfl⟩
    rw [← eg38] at hP hD
    have hP : va_P D vwCl [cell85_ qm sm tm m5 m6 m7 m8 m9 m10 m11, (qm 1, .inl (k 0, 26, .inl m4)), (qm 2, .inl (k 0, 26, .inl m29)), cell8_ k qm sm, cell6_ k qm sm, cell14_ k qm sm, cell15_ k qm tm, cell12_ k qm tm, cell18_ k qm tm, cell17_ k qm tm, cell19_ k qm tm, cell21_ k qm tm, cell20_ k qm sm, cell16_ k qm sm, (qm 14, .inl (k 3, 2, .inl g38)), cell10_ k qm sm, cell9_ k qm sm, cell7_ k qm sm] H := hP
    have hD : va_D A [cell85_ qm sm tm m5 m6 m7 m8 m9 m10 m11, (qm 1, .inl (k 0, 26, .inl m4)), (qm 2, .inl (k 0, 26, .inl m29)), cell8_ k qm sm, cell6_ k qm sm, cell14_ k qm sm, cell15_ k qm tm, cell12_ k qm tm, cell18_ k qm tm, cell17_ k qm tm, cell19_ k qm tm, cell21_ k qm tm, cell20_ k qm sm, cell16_ k qm sm, (qm 14, .inl (k 3, 2, .inl g38)), cell10_ k qm sm, cell9_ k qm sm, cell7_ k qm sm] := hD
    refine lv_iconst (v := 0) hx hb dX12_make_30 (by decide) ?_
    refine lv_istore_n (lv' := [(1, .int 0), (0, .ref (qm 0))]) hx hb dX12_make_31 rfl hl (by decide) rfl (fun ls hl => ?_)
    have hL32 : ∀ (n44 : Nat) (v42 : Int32) (g43 : Nat → Int32) (H : Heap) (locs : List Loc) (ls : Array Slot), 5 - v42.toInt < (n44 : Int) → (0 ≤ v42.toInt ∧ v42.toInt ≤ 5) → (g43 = PFn (fun _ => 0) (Int.toNat v42.toInt) (sm 13)) → va_P D vwCl [cell85_ qm sm tm m5 m6 m7 m8 m9 m10 m11, (qm 1, .inl (k 0, 26, .inl m4)), (qm 2, .inl (k 0, 26, .inl m29)), cell8_ k qm sm, cell6_ k qm sm, cell14_ k qm sm, cell15_ k qm tm, cell12_ k qm tm, cell18_ k qm tm, cell17_ k qm tm, cell19_ k qm tm, cell21_ k qm tm, cell20_ k qm sm, (qm 13, .inl (k 0, 5, .inl g43)), (qm 14, .inl (k 3, 2, .inl g38)), cell10_ k qm sm, cell9_ k qm sm, cell7_ k qm sm] H → va_D A [cell85_ qm sm tm m5 m6 m7 m8 m9 m10 m11, (qm 1, .inl (k 0, 26, .inl m4)), (qm 2, .inl (k 0, 26, .inl m29)), cell8_ k qm sm, cell6_ k qm sm, cell14_ k qm sm, cell15_ k qm tm, cell12_ k qm tm, cell18_ k qm tm, cell17_ k qm tm, cell19_ k qm tm, cell21_ k qm tm, cell20_ k qm sm, (qm 13, .inl (k 0, 5, .inl g43)), (qm 14, .inl (k 3, 2, .inl g38)), cell10_ k qm sm, cell9_ k qm sm, cell7_ k qm sm] → va_S A s.heap H locs → lv_has ls 2 [(1, .int v42), (0, .ref (qm 0))] → W p l e ({ frames := 4, cells := 0, slots := 0, locals := 92 } : Room) s m ([.ref (qm 0)] : List Value).toArray below meth c H locs 0 0 Q (F0 m 32 ls []) := by
      intro n44
      induction n44 with
      | zero => intro v42 g43 H locs ls hmn44 bv42 qM hP hD hS hl; exact absurd hmn44 (by omega)
      | succ n44 ih32 =>
        intro v42 g43 H locs ls hmn44 bv42 qM hP hD hS hl
        refine lv_iload_n hx hb dX12_make_32 rfl (lv_at hl 0 rfl) ?_
        refine lv_iconst (v := 5) hx hb dX12_make_33 (by decide) ?_
        refine lv_icmp_ge (tgt := 50) hx hb dX12_make_34 (by decide) (fun c45 => ?_) (fun c45 => ?_)
        · have f45 : 5 ≤ v42.toInt := f_le (by decide) rfl c45
          have qM_e : g43 = (PFn (fun _ => 0) 5 (sm 13)) := by have q : Int.toNat v42.toInt = 5 := (by omega); rw [q] at qM; exact qM
          refine lv_aload_n hx hb dX12_make_50 rfl (lv_at hl 1 rfl) ?_
          refine lv_iconst (v := 0) hx hb dX12_make_51 (by decide) ?_
          refine g_pt cx hP hD hS iw_X12_make_X12 tyX12 tyX12_ok nmX12 0 rfl rfl 22 (by decide) rfl fw_X12_make_140 (ty := .int) rfl rfl rfl (Nat.le_of_ble_eq_true rfl) dX12_make_52 (fun H locs hP hD hS => ?_)
          have hP : va_P D vwCl [(qm 0, .inr (10, [.ref (qm 1), .ref (qm 2), .ref (qm 3), .int (sm 0 3), .int m5, .int m6, .int m7, .int m8, .int m9, .int m10, .int m11, .ref (qm 4), .ref (qm 5), .int (sm 0 13), .ref (qm 6), .ref (qm 7), .ref (qm 8), .ref (qm 9), .ref (qm 10), .ref (qm 11), .ref (qm 12), .ref (qm 13), .int 0, .int (sm 0 23), .ref (qm 14), .ref (qm 15), .int (sm 0 26), .ref (qm 16), .ref (qm 17), .long (tm 0 29), .long (tm 0 30), .long (tm 0 31), .int (sm 0 32)])), (qm 1, .inl (k 0, 26, .inl m4)), (qm 2, .inl (k 0, 26, .inl m29)), cell8_ k qm sm, cell6_ k qm sm, cell14_ k qm sm, cell15_ k qm tm, cell12_ k qm tm, cell18_ k qm tm, cell17_ k qm tm, cell19_ k qm tm, cell21_ k qm tm, cell20_ k qm sm, (qm 13, .inl (k 0, 5, .inl g43)), (qm 14, .inl (k 3, 2, .inl g38)), cell10_ k qm sm, cell9_ k qm sm, cell7_ k qm sm] H := hP
          have hD : va_D A [(qm 0, .inr (10, [.ref (qm 1), .ref (qm 2), .ref (qm 3), .int (sm 0 3), .int m5, .int m6, .int m7, .int m8, .int m9, .int m10, .int m11, .ref (qm 4), .ref (qm 5), .int (sm 0 13), .ref (qm 6), .ref (qm 7), .ref (qm 8), .ref (qm 9), .ref (qm 10), .ref (qm 11), .ref (qm 12), .ref (qm 13), .int 0, .int (sm 0 23), .ref (qm 14), .ref (qm 15), .int (sm 0 26), .ref (qm 16), .ref (qm 17), .long (tm 0 29), .long (tm 0 30), .long (tm 0 31), .int (sm 0 32)])), (qm 1, .inl (k 0, 26, .inl m4)), (qm 2, .inl (k 0, 26, .inl m29)), cell8_ k qm sm, cell6_ k qm sm, cell14_ k qm sm, cell15_ k qm tm, cell12_ k qm tm, cell18_ k qm tm, cell17_ k qm tm, cell19_ k qm tm, cell21_ k qm tm, cell20_ k qm sm, (qm 13, .inl (k 0, 5, .inl g43)), (qm 14, .inl (k 3, 2, .inl g38)), cell10_ k qm sm, cell9_ k qm sm, cell7_ k qm sm] := hD
          have hlit46 : (0 : Int32).toInt = 0 := by decide
          refine lv_aload_n hx hb dX12_make_55 rfl (lv_at hl 1 rfl) ?_
          refine lv_iconst (v := 0) hx hb dX12_make_56 (by decide) ?_
          refine g_pt cx hP hD hS iw_X12_make_X12 tyX12 tyX12_ok nmX12 0 rfl rfl 23 (by decide) rfl fw_X12_make_143 (ty := .int) rfl rfl rfl (Nat.le_of_ble_eq_true rfl) dX12_make_57 (fun H locs hP hD hS => ?_)
          have hP : va_P D vwCl [cell154_ qm sm tm m5 m6 m7 m8 m9 m10 m11 0 0, (qm 1, .inl (k 0, 26, .inl m4)), (qm 2, .inl (k 0, 26, .inl m29)), cell8_ k qm sm, cell6_ k qm sm, cell14_ k qm sm, cell15_ k qm tm, cell12_ k qm tm, cell18_ k qm tm, cell17_ k qm tm, cell19_ k qm tm, cell21_ k qm tm, cell20_ k qm sm, (qm 13, .inl (k 0, 5, .inl g43)), (qm 14, .inl (k 3, 2, .inl g38)), cell10_ k qm sm, cell9_ k qm sm, cell7_ k qm sm] H := hP
          have hD : va_D A [cell154_ qm sm tm m5 m6 m7 m8 m9 m10 m11 0 0, (qm 1, .inl (k 0, 26, .inl m4)), (qm 2, .inl (k 0, 26, .inl m29)), cell8_ k qm sm, cell6_ k qm sm, cell14_ k qm sm, cell15_ k qm tm, cell12_ k qm tm, cell18_ k qm tm, cell17_ k qm tm, cell19_ k qm tm, cell21_ k qm tm, cell20_ k qm sm, (qm 13, .inl (k 0, 5, .inl g43)), (qm 14, .inl (k 3, 2, .inl g38)), cell10_ k qm sm, cell9_ k qm sm, cell7_ k qm sm] := hD
          have hlit47 : (0 : Int32).toInt = 0 := by decide
          refine lv_aload_n hx hb dX12_make_60 rfl (lv_at hl 1 rfl) ?_
          refine g_get cx hP iw_X12_make_X12 0 rfl rfl 1 (by decide) rfl fw_X12_make_13 rfl dX12_make_61 ?_
          refine lv_iconst (v := 0) hx hb dX12_make_64 (by decide) ?_
          have hn48 : vp_in 0 26 := f_in (a := 0) (by decide) (by omega) (by omega)
          refine va_iald hx hb cx.2.1 hP 2 0 rfl rfl hn48 dX12_make_65 (lv_topi (fun v49 e49 => ?_))
          have uv49 : v49.toInt = (m29 0).toInt := congrArg Int32.toInt e49
          have t49 : 0 ≤ v49.toInt ∧ v49.toInt ≤ 5 := by rw [e49]; exact w30
          have hlit50 : (0 : Int32).toInt = 0 := by decide
          have hlit51 : (0 : Int32).toInt = 0 := by decide
          rw [hQ]
          exact x_i cx hr (m4, m5, m6, m7, m8, m9, m10, m11, m29, g38, g43, 0, 0) hP hD hS ⟨(show 0 ≤ (m4 0).toInt ∧ (m4 0).toInt ≤ 5 from by omega), (show 0 ≤ (m4 1).toInt ∧ (m4 1).toInt ≤ 4 from by omega), (show 0 ≤ m5.toInt ∧ m5.toInt ≤ 64 from by omega), (show 0 ≤ (m29 0).toInt ∧ (m29 0).toInt ≤ 5 from by omega), (show 0 ≤ (m29 1).toInt ∧ (m29 1).toInt ≤ 4 from by omega), (show (v49, m4, m5, m6, m7, m8, m9, m10, m11, m29, g38, g43, (0 : Int32), (0 : Int32)) = J_X12_make sm tm from by subst k17 k18 k19 k20 k21 k22 k23 k24 k25 k34 eg36 eg38 qM_e e49; first | (refine Eq.symm ?_; refine Eq.trans (if_pos c26) ?_; rfl) | (unfold J_X12_make; try dsimp only; rw [if_pos c26]))⟩ dX12_make_66
        · have f45 : v42.toInt < 5 := f_nle (by decide) rfl c45
          refine lv_aload_n hx hb dX12_make_37 rfl (lv_at hl 1 rfl) ?_
          refine g_get cx hP iw_X12_make_X12 0 rfl rfl 21 (by decide) rfl fw_X12_make_47 rfl dX12_make_38 ?_
          refine lv_iload_n hx hb dX12_make_41 rfl (lv_at hl 0 rfl) ?_
          refine lv_iconst (v := 0) hx hb dX12_make_42 (by decide) ?_
          have hn52 : vp_in v42 5 := f_in (a := v42.toInt) rfl (by omega) (by omega)
          refine va_iast hx hb cx.2.1 hP hD hS 13 0 rfl rfl hn52 dX12_make_43 (fun H locs hP hD hS => ?_)
          obtain ⟨g53, eg53⟩ : ∃ g : Nat → Int32, g = upd g43 (v42).toNatClampNeg 0 := ⟨_, rfl⟩
          rw [← eg53] at hP hD
          have hP : va_P D vwCl [cell85_ qm sm tm m5 m6 m7 m8 m9 m10 m11, (qm 1, .inl (k 0, 26, .inl m4)), (qm 2, .inl (k 0, 26, .inl m29)), cell8_ k qm sm, cell6_ k qm sm, cell14_ k qm sm, cell15_ k qm tm, cell12_ k qm tm, cell18_ k qm tm, cell17_ k qm tm, cell19_ k qm tm, cell21_ k qm tm, cell20_ k qm sm, (qm 13, .inl (k 0, 5, .inl g53)), (qm 14, .inl (k 3, 2, .inl g38)), cell10_ k qm sm, cell9_ k qm sm, cell7_ k qm sm] H := hP
          have hD : va_D A [cell85_ qm sm tm m5 m6 m7 m8 m9 m10 m11, (qm 1, .inl (k 0, 26, .inl m4)), (qm 2, .inl (k 0, 26, .inl m29)), cell8_ k qm sm, cell6_ k qm sm, cell14_ k qm sm, cell15_ k qm tm, cell12_ k qm tm, cell18_ k qm tm, cell17_ k qm tm, cell19_ k qm tm, cell21_ k qm tm, cell20_ k qm sm, (qm 13, .inl (k 0, 5, .inl g53)), (qm 14, .inl (k 3, 2, .inl g38)), cell10_ k qm sm, cell9_ k qm sm, cell7_ k qm sm] := hD
          have flq := PF_st (P := (fun _ => 0)) eg53 (k := Int.toNat v42.toInt) (show v42.toInt = ((Int.toNat v42.toInt : Nat) : Int) from by omega) (rfl) qM
          obtain ⟨v54, e54⟩ : ∃ z : Int32, z = v42 + 1 := ⟨_, rfl⟩
          refine lv_iinc (v := v54) (lv' := [(1, .int v54), (0, .ref (qm 0))]) hx hb dX12_make_44 hl (k := 0) rfl (by rw [e54]; rfl) (by decide) rfl (fun ls hl => ?_)
          have t54 : v54.toInt = v42.toInt + 1 := by rw [e54]; exact i_add rfl (by decide) (by omega) (by omega)
          refine lv_goto (tgt := 32) hx hb dX12_make_47 (by decide) ?_
          exact ih32 v54 g53 _ _ _ (by omega) (by first | decide | omega) (flq.trans (congrArg (fun n => PFn (fun _ => 0) n (sm 13)) (by omega))) hP hD hS (lv_sub hl [0, 1] rfl)
    have hlit55 : (0 : Int32).toInt = 0 := by decide
    exact hL32 (Int.toNat (5 - 0) + 1) 0 (sm 13) _ _ _ (by omega) (by first | decide | omega) (PF_0 (fun _ => 0) (sm 13)) hP hD hS (lv_sub hl [0, 1] rfl)
  · have f26 : ¬ r3.toInt = (-9) := f_ne rfl (by decide) c26
    refine lv_bipush (v := (-3)) hx hb dX12_make_9 (by decide) ?_
    have hlit56 : ((-3) : Int32).toInt = -3 := by decide
    rw [hQ]
    exact x_i cx hr (m4, m5, m6, m7, m8, m9, m10, m11, (sm 2), (sm 14), (sm 13), (sm 0 22), (sm 0 23)) hP hD hS ⟨(show 0 ≤ (m4 0).toInt ∧ (m4 0).toInt ≤ 5 from by omega), (show 0 ≤ (m4 1).toInt ∧ (m4 1).toInt ≤ 4 from by omega), (show 0 ≤ m5.toInt ∧ m5.toInt ≤ 64 from by omega), (show 0 ≤ ((sm 2) 0).toInt ∧ ((sm 2) 0).toInt ≤ 5 from by omega), (show 0 ≤ ((sm 2) 1).toInt ∧ ((sm 2) 1).toInt ≤ 4 from by omega), (show (((-3) : Int32), m4, m5, m6, m7, m8, m9, m10, m11, (sm 2), (sm 14), (sm 13), (sm 0 22), (sm 0 23)) = J_X12_make sm tm from by subst k17 k18 k19 k20 k21 k22 k23 k24 k25; first | (refine Eq.symm ?_; refine Eq.trans (if_neg c26) ?_; rfl) | (unfold J_X12_make; try dsimp only; rw [if_neg c26]))⟩ dX12_make_11
