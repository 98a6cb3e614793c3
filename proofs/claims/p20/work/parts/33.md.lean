theorem nd_X12_readHouse : yX12_readHouse.cls = RX12 ∧ yX12_readHouse.cls ≠ "java/lang/invoke/MethodHandle" ∧ yX12_readHouse.cls ≠ "java/lang/invoke/VarHandle" ∧ (parseMethodDescriptor yX12_readHouse.desc).map (fun d => d.parameters.length) = some 0 := by decide +kernel
theorem nd_X12_readRule : yX12_readRule.cls = RX12 ∧ yX12_readRule.cls ≠ "java/lang/invoke/MethodHandle" ∧ yX12_readRule.cls ≠ "java/lang/invoke/VarHandle" ∧ (parseMethodDescriptor yX12_readRule.desc).map (fun d => d.parameters.length) = some 0 := by decide +kernel
def J_X12_fault (sm : Nat → Nat → Int32) (tm : Nat → Nat → Int64) (p0 : Int32) : Int32 × (Nat → Int32) × Int32 × Int32 × Int32 × Int32 × Int32 × Int32 × Int32 × Int32 × (Nat → Int32) := if p0 = 0 then let y17 := J_X12_readHouse sm tm; ((y17.1), (y17.2.1), (y17.2.2.1), (y17.2.2.2.1), (y17.2.2.2.2.1), (y17.2.2.2.2.2.1), (y17.2.2.2.2.2.2.1), (y17.2.2.2.2.2.2.2.1), (y17.2.2.2.2.2.2.2.2), (sm 0 13), (sm 5)) else let y36 := J_X12_readRule sm tm; ((y36.1), (sm 1), (y36.2.1), (y36.2.2.1), (sm 0 6), (sm 0 7), (sm 0 8), (sm 0 9), (sm 0 10), (y36.2.2.2.1), (y36.2.2.2.2))
set_option maxHeartbeats 4000000 in
set_option maxRecDepth 100000 in
theorem c_X12_fault (l : Launch) (D : va_G) (k : Nat → ClassId) (b : Nat → Nat) (qm : Nat → Nat) (sm : Nat → Nat → Int32) (tm : Nat → Nat → Int64) (sz : Nat) (p0 : Int32) (h_len : 0 ≤ (sm 0 3).toInt ∧ (sm 0 3).toInt ≤ 64) (h_at : 0 ≤ (sm 0 4).toInt ∧ (sm 0 4).toInt ≤ 64) (h_r0 : 0 ≤ (sm 1 0).toInt ∧ (sm 1 0).toInt ≤ 5) (h_r1 : 0 ≤ (sm 1 1).toInt ∧ (sm 1 1).toInt ≤ 4) : MetI l D k b yX12_fault wsX12_fault ({ frames := 4, cells := 0, slots := 0, locals := 92 } : Room) [cell22_ qm sm tm, cell5_ k qm sm, cell13_ k qm sm, cell8_ k qm sm, cell6_ k qm sm, cell15_ k qm sm, cell14_ k qm tm, cell12_ k qm tm, cell18_ k qm tm, cell17_ k qm tm, cell19_ k qm tm, cell21_ k qm tm, cell20_ k qm sm, cell16_ k qm sm, cell11_ k qm sm, cell10_ k qm sm, cell9_ k qm sm, cell7_ k qm sm] sz [.ref (qm 0), .int p0] (fun (r : Int32) (u : (Nat → Int32) × Int32 × Int32 × Int32 × Int32 × Int32 × Int32 × Int32 × Int32 × (Nat → Int32)) => (0 ≤ ((u.1) 0).toInt ∧ ((u.1) 0).toInt ≤ 5) ∧ (0 ≤ ((u.1) 1).toInt ∧ ((u.1) 1).toInt ≤ 4) ∧ (0 ≤ (u.2.1).toInt ∧ (u.2.1).toInt ≤ 64) ∧ ((r, (u.1), (u.2.1), (u.2.2.1), (u.2.2.2.1), (u.2.2.2.2.1), (u.2.2.2.2.2.1), (u.2.2.2.2.2.2.1), (u.2.2.2.2.2.2.2.1), (u.2.2.2.2.2.2.2.2.1), (u.2.2.2.2.2.2.2.2.2)) = J_X12_fault sm tm p0)) (fun u => [cell167_ qm sm tm (u.2.1) (u.2.2.1) (u.2.2.2.1) (u.2.2.2.2.1) (u.2.2.2.2.2.1) (u.2.2.2.2.2.2.1) (u.2.2.2.2.2.2.2.1) (u.2.2.2.2.2.2.2.2.1), cell107_ k qm (u.1), cell13_ k qm sm, cell8_ k qm sm, cell6_ k qm sm, cell161_ k qm (u.2.2.2.2.2.2.2.2.2), cell14_ k qm tm, cell12_ k qm tm, cell18_ k qm tm, cell17_ k qm tm, cell19_ k qm tm, cell21_ k qm tm, cell20_ k qm sm, cell16_ k qm sm, cell11_ k qm sm, cell10_ k qm sm, cell9_ k qm sm, cell7_ k qm sm]) := by
  refine g_enter (cc := cX12_fault) (maxL := 2) (ret := (some .int)) (by decide) rfl (Nat.le_of_ble_eq_true rfl) ?_
  intro p e s m below meth c A hsz hAe cx hr hP hD hS ls hl
  rw [hAe]
  refine g_q (fun Q hQ => ?_)
  have hx := cx.1.1
  have hb := cx.1.2.1
  have bp0 := i_rng p0
  have hl : lv_has ls 2 [(0, .ref (qm 0)), (1, .int p0)] := hl
  obtain ⟨H, eH⟩ : ∃ H : Heap, H = s.heap := ⟨_, rfl⟩
  obtain ⟨locs, el⟩ : ∃ L : List Loc, L = [] := ⟨_, rfl⟩
  have hP : va_P D vwCl [cell22_ qm sm tm, cell5_ k qm sm, cell13_ k qm sm, cell8_ k qm sm, cell6_ k qm sm, cell15_ k qm sm, cell14_ k qm tm, cell12_ k qm tm, cell18_ k qm tm, cell17_ k qm tm, cell19_ k qm tm, cell21_ k qm tm, cell20_ k qm sm, cell16_ k qm sm, cell11_ k qm sm, cell10_ k qm sm, cell9_ k qm sm, cell7_ k qm sm] H := by rw [eH]; exact hP
  have hD : va_D A [cell22_ qm sm tm, cell5_ k qm sm, cell13_ k qm sm, cell8_ k qm sm, cell6_ k qm sm, cell15_ k qm sm, cell14_ k qm tm, cell12_ k qm tm, cell18_ k qm tm, cell17_ k qm tm, cell19_ k qm tm, cell21_ k qm tm, cell20_ k qm sm, cell16_ k qm sm, cell11_ k qm sm, cell10_ k qm sm, cell9_ k qm sm, cell7_ k qm sm] := hD
  have hS : va_S A s.heap H locs := by rw [eH, el]; exact hS
  suffices goal : W p l e ({ frames := 4, cells := 0, slots := 0, locals := 92 } : Room) s m ([.ref (qm 0), .int p0] : List Value).toArray below meth c H locs 0 0 Q (F0 m 0 ls []) by rw [eH, el] at goal; exact goal
  refine lv_iload_n hx hb dX12_fault_0 rfl (lv_at hl 1 rfl) ?_
  refine lv_if_eq (tgt := 11) hx hb dX12_fault_1 (by decide) (fun c1 => ?_) (fun c1 => ?_)
  · have f1 : p0.toInt = 0 := f_eq rfl (by decide) c1
    refine lv_aload_n hx hb dX12_fault_11 rfl (lv_at hl 0 rfl) ?_
    refine g_iF (w1 := fun (u : (Nat → Int32) × Int32 × Int32 × Int32 × Int32 × Int32 × Int32 × Int32) => [cell84_ qm sm tm (u.2.1) (u.2.2.1) (u.2.2.2.1) (u.2.2.2.2.1) (u.2.2.2.2.2.1) (u.2.2.2.2.2.2.1) (u.2.2.2.2.2.2.2), cell107_ k qm (u.1), cell13_ k qm sm, cell8_ k qm sm, cell6_ k qm sm, cell15_ k qm sm, cell14_ k qm tm, cell12_ k qm tm, cell18_ k qm tm, cell17_ k qm tm, cell19_ k qm tm, cell21_ k qm tm, cell20_ k qm sm, cell16_ k qm sm, cell11_ k qm sm, cell10_ k qm sm, cell9_ k qm sm, cell7_ k qm sm]) (g_runVF (ws := [cell22_ qm sm tm, cell5_ k qm sm, cell13_ k qm sm, cell8_ k qm sm, cell6_ k qm sm, cell15_ k qm sm, cell14_ k qm tm, cell12_ k qm tm, cell18_ k qm tm, cell17_ k qm tm, cell19_ k qm tm, cell21_ k qm tm, cell20_ k qm sm, cell16_ k qm sm, cell11_ k qm sm, cell10_ k qm sm, cell9_ k qm sm, cell7_ k qm sm]) (rest := []) cx hP hD hS [] (c_X12_readHouse l D k b qm sm tm H.size (show 0 ≤ (sm 0 3).toInt ∧ (sm 0 3).toInt ≤ 64 from by first | decide | omega)) gX12_fault_X12_readHouse rfl rfl rfl nd_X12_readHouse ⟨Nat.le_of_ble_eq_true rfl, Nat.le_of_ble_eq_true rfl⟩ (ci := 10) (q0 := 0) rfl rfl rfl hl.1 rfl (Nat.le_of_ble_eq_true rfl) ⟨Nat.zero_le _, Nat.zero_le _⟩ dX12_fault_12) cx.2.2.1 hD hS (fun r4 u3 H locs hw2 hP hD hS => ?_)
    obtain ⟨m5, m6, m7, m8, m9, m10, m11, m12⟩ := u3
    have hP : va_P D vwCl [cell84_ qm sm tm m6 m7 m8 m9 m10 m11 m12, (qm 1, .inl (k 0, 26, .inl m5)), cell13_ k qm sm, cell8_ k qm sm, cell6_ k qm sm, cell15_ k qm sm, cell14_ k qm tm, cell12_ k qm tm, cell18_ k qm tm, cell17_ k qm tm, cell19_ k qm tm, cell21_ k qm tm, cell20_ k qm sm, cell16_ k qm sm, cell11_ k qm sm, cell10_ k qm sm, cell9_ k qm sm, cell7_ k qm sm] H := hP
    have hD : va_D A [cell84_ qm sm tm m6 m7 m8 m9 m10 m11 m12, (qm 1, .inl (k 0, 26, .inl m5)), cell13_ k qm sm, cell8_ k qm sm, cell6_ k qm sm, cell15_ k qm sm, cell14_ k qm tm, cell12_ k qm tm, cell18_ k qm tm, cell17_ k qm tm, cell19_ k qm tm, cell21_ k qm tm, cell20_ k qm sm, cell16_ k qm sm, cell11_ k qm sm, cell10_ k qm sm, cell9_ k qm sm, cell7_ k qm sm] := hD
    replace hw2 : (0 ≤ (m5 0).toInt ∧ (m5 0).toInt ≤ 5) ∧ (0 ≤ (m5 1).toInt ∧ (m5 1).toInt ≤ 4) ∧ (0 ≤ m6.toInt ∧ m6.toInt ≤ 64) ∧ ((r4, m5, m6, m7, m8, m9, m10, m11, m12) = J_X12_readHouse sm tm) := hw2
    obtain ⟨w13, w14, w15, w16⟩ := hw2
    have k18 : r4 = ((J_X12_readHouse sm tm).1) := congrArg (fun z => (z.1)) w16
    have k19 : m5 = ((J_X12_readHouse sm tm).2.1) := congrArg (fun z => (z.2.1)) w16
    have k20 : m6 = ((J_X12_readHouse sm tm).2.2.1) := congrArg (fun z => (z.2.2.1)) w16
    have k21 : m7 = ((J_X12_readHouse sm tm).2.2.2.1) := congrArg (fun z => (z.2.2.2.1)) w16
    have k22 : m8 = ((J_X12_readHouse sm tm).2.2.2.2.1) := congrArg (fun z => (z.2.2.2.2.1)) w16
    have k23 : m9 = ((J_X12_readHouse sm tm).2.2.2.2.2.1) := congrArg (fun z => (z.2.2.2.2.2.1)) w16
    have k24 : m10 = ((J_X12_readHouse sm tm).2.2.2.2.2.2.1) := congrArg (fun z => (z.2.2.2.2.2.2.1)) w16
    have k25 : m11 = ((J_X12_readHouse sm tm).2.2.2.2.2.2.2.1) := congrArg (fun z => (z.2.2.2.2.2.2.2.1)) w16
    have k26 : m12 = ((J_X12_readHouse sm tm).2.2.2.2.2.2.2.2) := congrArg (fun z => (z.2.2.2.2.2.2.2.2)) w16
    rw [hQ]
    exact x_i cx hr (m5, m6, m7, m8, m9, m10, m11, m12, (sm 0 13), (sm 5)) hP hD hS ⟨(show 0 ≤ (m5 0).toInt ∧ (m5 0).toInt ≤ 5 from by omega), (show 0 ≤ (m5 1).toInt ∧ (m5 1).toInt ≤ 4 from by omega), (show 0 ≤ m6.toInt ∧ m6.toInt ≤ 64 from by omega), (show (r4, m5, m6, m7, m8, m9, m10, m11, m12, (sm 0 13), (sm 5)) = J_X12_fault sm tm p0 from by subst k18 k19 k20 k21 k22 k23 k24 k25 k26; first | (refine Eq.symm ?_; refine Eq.trans (if_pos c1) ?_; rfl) | (unfold J_X12_fault; try dsimp only; rw [if_pos c1]))⟩ dX12_fault_15
  · have f1 : ¬ p0.toInt = 0 := f_ne rfl (by decide) c1
    refine lv_aload_n hx hb dX12_fault_4 rfl (lv_at hl 0 rfl) ?_
    refine g_iF (w1 := fun (u : Int32 × Int32 × Int32 × (Nat → Int32)) => [cell76_ qm sm tm (u.1) (u.2.1) (u.2.2.1), cell5_ k qm sm, cell13_ k qm sm, cell8_ k qm sm, cell6_ k qm sm, cell161_ k qm (u.2.2.2), cell14_ k qm tm, cell12_ k qm tm, cell18_ k qm tm, cell17_ k qm tm, cell19_ k qm tm, cell21_ k qm tm, cell20_ k qm sm, cell16_ k qm sm, cell11_ k qm sm, cell10_ k qm sm, cell9_ k qm sm, cell7_ k qm sm]) (g_runVF (ws := [cell22_ qm sm tm, cell5_ k qm sm, cell13_ k qm sm, cell8_ k qm sm, cell6_ k qm sm, cell15_ k qm sm, cell14_ k qm tm, cell12_ k qm tm, cell18_ k qm tm, cell17_ k qm tm, cell19_ k qm tm, cell21_ k qm tm, cell20_ k qm sm, cell16_ k qm sm, cell11_ k qm sm, cell10_ k qm sm, cell9_ k qm sm, cell7_ k qm sm]) (rest := []) cx hP hD hS [] (c_X12_readRule l D k b qm sm tm H.size (show 0 ≤ (sm 0 3).toInt ∧ (sm 0 3).toInt ≤ 64 from by first | decide | omega)) gX12_fault_X12_readRule rfl rfl rfl nd_X12_readRule ⟨Nat.le_of_ble_eq_true rfl, Nat.le_of_ble_eq_true rfl⟩ (ci := 10) (q0 := 0) rfl rfl rfl hl.1 rfl (Nat.le_of_ble_eq_true rfl) ⟨Nat.zero_le _, Nat.zero_le _⟩ dX12_fault_5) cx.2.2.1 hD hS (fun r29 u28 H locs hw27 hP hD hS => ?_)
    obtain ⟨m30, m31, m32, m33⟩ := u28
    have hP : va_P D vwCl [cell76_ qm sm tm m30 m31 m32, cell5_ k qm sm, cell13_ k qm sm, cell8_ k qm sm, cell6_ k qm sm, (qm 5, .inl (k 0, 5, .inl m33)), cell14_ k qm tm, cell12_ k qm tm, cell18_ k qm tm, cell17_ k qm tm, cell19_ k qm tm, cell21_ k qm tm, cell20_ k qm sm, cell16_ k qm sm, cell11_ k qm sm, cell10_ k qm sm, cell9_ k qm sm, cell7_ k qm sm] H := hP
    have hD : va_D A [cell76_ qm sm tm m30 m31 m32, cell5_ k qm sm, cell13_ k qm sm, cell8_ k qm sm, cell6_ k qm sm, (qm 5, .inl (k 0, 5, .inl m33)), cell14_ k qm tm, cell12_ k qm tm, cell18_ k qm tm, cell17_ k qm tm, cell19_ k qm tm, cell21_ k qm tm, cell20_ k qm sm, cell16_ k qm sm, cell11_ k qm sm, cell10_ k qm sm, cell9_ k qm sm, cell7_ k qm sm] := hD
    replace hw27 : (0 ≤ m30.toInt ∧ m30.toInt ≤ 64) ∧ ((r29, m30, m31, m32, m33) = J_X12_readRule sm tm) := hw27
    obtain ⟨w34, w35⟩ := hw27
    have k37 : r29 = ((J_X12_readRule sm tm).1) := congrArg (fun z => (z.1)) w35
    have k38 : m30 = ((J_X12_readRule sm tm).2.1) := congrArg (fun z => (z.2.1)) w35
    have k39 : m31 = ((J_X12_readRule sm tm).2.2.1) := congrArg (fun z => (z.2.2.1)) w35
    have k40 : m32 = ((J_X12_readRule sm tm).2.2.2.1) := congrArg (fun z => (z.2.2.2.1)) w35
    have k41 : m33 = ((J_X12_readRule sm tm).2.2.2.2) := congrArg (fun z => (z.2.2.2.2)) w35
    refine lv_goto (tgt := 15) hx hb dX12_fault_8 (by decide) ?_
    rw [hQ]
    exact x_i cx hr ((sm 1), m30, m31, (sm 0 6), (sm 0 7), (sm 0 8), (sm 0 9), (sm 0 10), m32, m33) hP hD hS ⟨(show 0 ≤ ((sm 1) 0).toInt ∧ ((sm 1) 0).toInt ≤ 5 from by omega), (show 0 ≤ ((sm 1) 1).toInt ∧ ((sm 1) 1).toInt ≤ 4 from by omega), (show 0 ≤ m30.toInt ∧ m30.toInt ≤ 64 from by omega), (show (r29, (sm 1), m30, m31, (sm 0 6), (sm 0 7), (sm 0 8), (sm 0 9), (sm 0 10), m32, m33) = J_X12_fault sm tm p0 from by subst k37 k38 k39 k40 k41; first | (refine Eq.symm ?_; refine Eq.trans (if_neg c1) ?_; rfl) | (unfold J_X12_fault; try dsimp only; rw [if_neg c1]))⟩ dX12_fault_15
theorem fw_X12_make_13 : Cond.fieldLink RX12 13 "StillInAugustModel" "house" "[I" ∈ wsX12_make := by decide +kernel
theorem fw_X12_make_140 : Cond.fieldLink RX12 140 "StillInAugustModel" "liveOrder" "I" ∈ wsX12_make := by decide +kernel
theorem fw_X12_make_143 : Cond.fieldLink RX12 143 "StillInAugustModel" "liveDid" "I" ∈ wsX12_make := by decide +kernel
theorem fw_X12_make_47 : Cond.fieldLink RX12 47 "StillInAugustModel" "live" "[I" ∈ wsX12_make := by decide +kernel
theorem fw_X12_make_50 : Cond.fieldLink RX12 50 "StillInAugustModel" "isKept" "[Z" ∈ wsX12_make := by decide +kernel
theorem nd_X12_takeHouse : yX12_takeHouse.cls = RX12 ∧ yX12_takeHouse.cls ≠ "java/lang/invoke/MethodHandle" ∧ yX12_takeHouse.cls ≠ "java/lang/invoke/VarHandle" ∧ (parseMethodDescriptor yX12_takeHouse.desc).map (fun d => d.parameters.length) = some 0 := by decide +kernel
theorem iw_X12_make_X12 : ∀ w ∈ u_ws RX12 TX12 33, w ∈ wsX12_make := fun _ h => List.mem_cons_of_mem _ (List.mem_append_right _ h)
def J_X12_make (sm : Nat → Nat → Int32) (tm : Nat → Nat → Int64) : Int32 × (Nat → Int32) × Int32 × Int32 × Int32 × Int32 × Int32 × Int32 × Int32 × (Nat → Int32) × (Nat → Int32) × (Nat → Int32) × Int32 × Int32 := let y16 := J_X12_readHouse sm tm; if (y16.1) = (-9) then let y33 := J_X12_takeHouse (up2 (up2 sm 0 (upd (upd (upd (upd (upd (upd (upd (sm 0) 4 (y16.2.2.1)) 5 (y16.2.2.2.1)) 6 (y16.2.2.2.2.1)) 7 (y16.2.2.2.2.2.1)) 8 (y16.2.2.2.2.2.2.1)) 9 (y16.2.2.2.2.2.2.2.1)) 10 (y16.2.2.2.2.2.2.2.2))) 1 (y16.2.1)) tm; ((y33 (0 : Int32).toNatClampNeg), (y16.2.1), (y16.2.2.1), (y16.2.2.2.1), (y16.2.2.2.2.1), (y16.2.2.2.2.2.1), (y16.2.2.2.2.2.2.1), (y16.2.2.2.2.2.2.2.1), (y16.2.2.2.2.2.2.2.2), y33, (upd (upd (sm 14) (0 : Int32).toNatClampNeg (vp_nar .boolean 0)) (1 : Int32).toNatClampNeg (vp_nar .boolean 0)), (PFn (fun _ => 0) 5 (sm 13)), (0 : Int32), (0 : Int32)) else (((-3) : Int32), (y16.2.1), (y16.2.2.1), (y16.2.2.2.1), (y16.2.2.2.2.1), (y16.2.2.2.2.2.1), (y16.2.2.2.2.2.2.1), (y16.2.2.2.2.2.2.2.1), (y16.2.2.2.2.2.2.2.2), (sm 2), (sm 14), (sm 13), (sm 0 22), (sm 0 23))
set_option maxHeartbeats 4000000 in
set_option maxRecDepth 100000 in
theorem c_X12_make (l : Launch) (D : va_G) (k : Nat → ClassId) (b : Nat → Nat) (qm : Nat → Nat) (sm : Nat → Nat → Int32) (tm : Nat → Nat → Int64) (sz : Nat) (h_len : 0 ≤ (sm 0 3).toInt ∧ (sm 0 3).toInt ≤ 64) (h_w0 : 0 ≤ (sm 2 0).toInt ∧ (sm 2 0).toInt ≤ 5) (h_k1 : 0 ≤ (sm 2 1).toInt ∧ (sm 2 1).toInt ≤ 4) : MetI l D k b yX12_make wsX12_make ({ frames := 4, cells := 0, slots := 0, locals := 92 } : Room) [cell22_ qm sm tm, cell5_ k qm sm, cell13_ k qm sm, cell8_ k qm sm, cell6_ k qm sm, cell15_ k qm sm, cell14_ k qm tm, cell12_ k qm tm, cell18_ k qm tm, cell17_ k qm tm, cell19_ k qm tm, cell21_ k qm tm, cell20_ k qm sm, cell16_ k qm sm, cell11_ k qm sm, cell10_ k qm sm, cell9_ k qm sm, cell7_ k qm sm] sz [.ref (qm 0)] (fun (r : Int32) (u : (Nat → Int32) × Int32 × Int32 × Int32 × Int32 × Int32 × Int32 × Int32 × (Nat → Int32) × (Nat → Int32) × (Nat → Int32) × Int32 × Int32) => (0 ≤ ((u.1) 0).toInt ∧ ((u.1) 0).toInt ≤ 5) ∧ (0 ≤ ((u.1) 1).toInt ∧ ((u.1) 1).toInt ≤ 4) ∧ (0 ≤ (u.2.1).toInt ∧ (u.2.1).toInt ≤ 64) ∧ (0 ≤ ((u.2.2.2.2.2.2.2.2.1) 0).toInt ∧ ((u.2.2.2.2.2.2.2.2.1) 0).toInt ≤ 5) ∧ (0 ≤ ((u.2.2.2.2.2.2.2.2.1) 1).toInt ∧ ((u.2.2.2.2.2.2.2.2.1) 1).toInt ≤ 4) ∧ ((r, (u.1), (u.2.1), (u.2.2.1), (u.2.2.2.1), (u.2.2.2.2.1), (u.2.2.2.2.2.1), (u.2.2.2.2.2.2.1), (u.2.2.2.2.2.2.2.1), (u.2.2.2.2.2.2.2.2.1), (u.2.2.2.2.2.2.2.2.2.1), (u.2.2.2.2.2.2.2.2.2.2.1), (u.2.2.2.2.2.2.2.2.2.2.2.1), (u.2.2.2.2.2.2.2.2.2.2.2.2)) = J_X12_make sm tm)) (fun u => [cell153_ qm sm tm (u.2.1) (u.2.2.1) (u.2.2.2.1) (u.2.2.2.2.1) (u.2.2.2.2.2.1) (u.2.2.2.2.2.2.1) (u.2.2.2.2.2.2.2.1) (u.2.2.2.2.2.2.2.2.2.2.2.1) (u.2.2.2.2.2.2.2.2.2.2.2.2), cell107_ k qm (u.1), cell199_ k qm (u.2.2.2.2.2.2.2.2.1), cell8_ k qm sm, cell6_ k qm sm, cell15_ k qm sm, cell14_ k qm tm, cell12_ k qm tm, cell18_ k qm tm, cell17_ k qm tm, cell19_ k qm tm, cell21_ k qm tm, cell20_ k qm sm, cell168_ k qm (u.2.2.2.2.2.2.2.2.2.2.1), cell200_ k qm (u.2.2.2.2.2.2.2.2.2.1), cell10_ k qm sm, cell9_ k qm sm, cell7_ k qm sm]) := by
  refine g_enter (cc := cX12_make) (maxL := 2) (ret := (some .int)) (by decide) rfl (Nat.le_of_ble_eq_true rfl) ?_
  intro p e s m below meth c A hsz hAe cx hr hP hD hS ls hl
  rw [hAe]
  refine g_q (fun Q hQ => ?_)
  have hx := cx.1.1
  have hb := cx.1.2.1
  have hl : lv_has ls 2 [(0, .ref (qm 0))] := hl
  obtain ⟨H, eH⟩ : ∃ H : Heap, H = s.heap := ⟨_, rfl⟩
  obtain ⟨locs, el⟩ : ∃ L : List Loc, L = [] := ⟨_, rfl⟩
  have hP : va_P D vwCl [cell22_ qm sm tm, cell5_ k qm sm, cell13_ k qm sm, cell8_ k qm sm, cell6_ k qm sm, cell15_ k qm sm, cell14_ k qm tm, cell12_ k qm tm, cell18_ k qm tm, cell17_ k qm tm, cell19_ k qm tm, cell21_ k qm tm, cell20_ k qm sm, cell16_ k qm sm, cell11_ k qm sm, cell10_ k qm sm, cell9_ k qm sm, cell7_ k qm sm] H := by rw [eH]; exact hP
  have hD : va_D A [cell22_ qm sm tm, cell5_ k qm sm, cell13_ k qm sm, cell8_ k qm sm, cell6_ k qm sm, cell15_ k qm sm, cell14_ k qm tm, cell12_ k qm tm, cell18_ k qm tm, cell17_ k qm tm, cell19_ k qm tm, cell21_ k qm tm, cell20_ k qm sm, cell16_ k qm sm, cell11_ k qm sm, cell10_ k qm sm, cell9_ k qm sm, cell7_ k qm sm] := hD
  have hS : va_S A s.heap H locs := by rw [eH, el]; exact hS
  suffices goal : W p l e ({ frames := 4, cells := 0, slots := 0, locals := 92 } : Room) s m ([.ref (qm 0)] : List Value).toArray below meth c H locs 0 0 Q (F0 m 0 ls []) by rw [eH, el] at goal; exact goal
  refine lv_aload_n hx hb dX12_make_0 rfl (lv_at hl 0 rfl) ?_
  refine g_iF (w1 := fun (u : (Nat → Int32) × Int32 × Int32 × Int32 × Int32 × Int32 × Int32 × Int32) => [cell84_ qm sm tm (u.2.1) (u.2.2.1) (u.2.2.2.1) (u.2.2.2.2.1) (u.2.2.2.2.2.1) (u.2.2.2.2.2.2.1) (u.2.2.2.2.2.2.2), cell107_ k qm (u.1), cell13_ k qm sm, cell8_ k qm sm, cell6_ k qm sm, cell15_ k qm sm, cell14_ k qm tm, cell12_ k qm tm, cell18_ k qm tm, cell17_ k qm tm, cell19_ k qm tm, cell21_ k qm tm, cell20_ k qm sm, cell16_ k qm sm, cell11_ k qm sm, cell10_ k qm sm, cell9_ k qm sm, cell7_ k qm sm]) (g_runVF (ws := [cell22_ qm sm tm, cell5_ k qm sm, cell13_ k qm sm, cell8_ k qm sm, cell6_ k qm sm, cell15_ k qm sm, cell14_ k qm tm, cell12_ k qm tm, cell18_ k qm tm, cell17_ k qm tm, cell19_ k qm tm, cell21_ k qm tm, cell20_ k qm sm, cell16_ k qm sm, cell11_ k qm sm, cell10_ k qm sm, cell9_ k qm sm, cell7_ k qm sm]) (rest := []) cx hP hD hS [] (c_X12_readHouse l D k b qm sm tm H.size (show 0 ≤ (sm 0 3).toInt ∧ (sm 0 3).toInt ≤ 64 from by first | decide | omega)) gX12_make_X12_readHouse rfl rfl rfl nd_X12_readHouse ⟨Nat.le_of_ble_eq_true rfl, Nat.le_of_ble_eq_true rfl⟩ (ci := 10) (q0 := 0) rfl rfl rfl hl.1 rfl (Nat.le_of_ble_eq_true rfl) ⟨Nat.zero_le _, Nat.zero_le _⟩ dX12_make_1) cx.2.2.1 hD hS (fun r3 u2 H locs hw1 hP hD hS => ?_)
  obtain ⟨m4, m5, m6, m7, m8, m9, m10, m11⟩ := u2
  have hP : va_P D vwCl [cell84_ qm sm tm m5 m6 m7 m8 m9 m10 m11, (qm 1, .inl (k 0, 26, .inl m4)), cell13_ k qm sm, cell8_ k qm sm, cell6_ k qm sm, cell15_ k qm sm, cell14_ k qm tm, cell12_ k qm tm, cell18_ k qm tm, cell17_ k qm tm, cell19_ k qm tm, cell21_ k qm tm, cell20_ k qm sm, cell16_ k qm sm, cell11_ k qm sm, cell10_ k qm sm, cell9_ k qm sm, cell7_ k qm sm] H := hP
  have hD : va_D A [cell84_ qm sm tm m5 m6 m7 m8 m9 m10 m11, (qm 1, .inl (k 0, 26, .inl m4)), cell13_ k qm sm, cell8_ k qm sm, cell6_ k qm sm, cell15_ k qm sm, cell14_ k qm tm, cell12_ k qm tm, cell18_ k qm tm, cell17_ k qm tm, cell19_ k qm tm, cell21_ k qm tm, cell20_ k qm sm, cell16_ k qm sm, cell11_ k qm sm, cell10_ k qm sm, cell9_ k qm sm, cell7_ k qm sm] := hD
  replace hw1 : (0 ≤ (m4 0).toInt ∧ (m4 0).toInt ≤ 5) ∧ (0 ≤ (m4 1).toInt ∧ (m4 1).toInt ≤ 4) ∧ (0 ≤ m5.toInt ∧ m5.toInt ≤ 64) ∧ ((r3, m4, m5, m6, m7, m8, m9, m10, m11) = J_X12_readHouse sm tm) := hw1
  obtain ⟨w12, w13, w14, w15⟩ := hw1
  have k17 : r3 = ((J_X12_readHouse sm tm).1) := congrArg (fun z => (z.1)) w15
  have k18 : m4 = ((J_X12_readHouse sm tm).2.1) := congrArg (fun z => (z.2.1)) w15
  have k19 : m5 = ((J_X12_readHouse sm tm).2.2.1) := congrArg (fun z => (z.2.2.1)) w15
  have k20 : m6 = ((J_X12_readHouse sm tm).2.2.2.1) := congrArg (fun z => (z.2.2.2.1)) w15
  have k21 : m7 = ((J_X12_readHouse sm tm).2.2.2.2.1) := congrArg (fun z => (z.2.2.2.2.1)) w15
  have k22 : m8 = ((J_X12_readHouse sm tm).2.2.2.2.2.1) := congrArg (fun z => (z.2.2.2.2.2.1)) w15
  have k23 : m9 = ((J_X12_readHouse sm tm).2.2.2.2.2.2.1) := congrArg (fun z => (z.2.2.2.2.2.2.1)) w15
  have k24 : m10 = ((J_X12_readHouse sm tm).2.2.2.2.2.2.2.1) := congrArg (fun z => (z.2.2.2.2.2.2.2.1)) w15
  have k25 : m11 = ((J_X12_readHouse sm tm).2.2.2.2.2.2.2.2) := congrArg (fun z => (z.2.2.2.2.2.2.2.2)) w15
  refine lv_bipush (v := (-9)) hx hb dX12_make_4 (by decide) ?_
  refine lv_icmp_eq (tgt := 12) hx hb dX12_make_6 (by decide) (fun c26 => ?_) (fun c26 => ?_)
  · have f26 : r3.toInt = (-9) := f_eq rfl (by decide) c26
    refine lv_aload_n hx hb dX12_make_12 rfl (lv_at hl 0 rfl) ?_
    refine g_vF (w1 := fun (u : (Nat → Int32)) => [cell84_ qm sm tm m5 m6 m7 m8 m9 m10 m11, (qm 1, .inl (k 0, 26, .inl m4)), (qm 2, .inl (k 0, 26, .inl u)), cell8_ k qm sm, cell6_ k qm sm, cell15_ k qm sm, cell14_ k qm tm, cell12_ k qm tm, cell18_ k qm tm, cell17_ k qm tm, cell19_ k qm tm, cell21_ k qm tm, cell20_ k qm sm, cell16_ k qm sm, cell11_ k qm sm, cell10_ k qm sm, cell9_ k qm sm, cell7_ k qm sm]) (g_runVF (ws := [cell84_ qm sm tm m5 m6 m7 m8 m9 m10 m11, (qm 1, .inl (k 0, 26, .inl m4)), cell13_ k qm sm, cell8_ k qm sm, cell6_ k qm sm, cell15_ k qm sm, cell14_ k qm tm, cell12_ k qm tm, cell18_ k qm tm, cell17_ k qm tm, cell19_ k qm tm, cell21_ k qm tm, cell20_ k qm sm, cell16_ k qm sm, cell11_ k qm sm, cell10_ k qm sm, cell9_ k qm sm, cell7_ k qm sm]) (rest := []) cx hP hD hS [] (c_X12_takeHouse l D k b qm (up2 (up2 sm 0 (upd (upd (upd (upd (upd (upd (upd (sm 0) 4 m5) 5 m6) 6 m7) 7 m8) 8 m9) 9 m10) 10 m11)) 1 m4) tm H.size (show 0 ≤ (m4 0).toInt ∧ (m4 0).toInt ≤ 5 from by first | decide | omega) (show 0 ≤ (m4 1).toInt ∧ (m4 1).toInt ≤ 4 from by first | decide | omega)) gX12_make_X12_takeHouse rfl rfl rfl nd_X12_takeHouse ⟨Nat.le_of_ble_eq_true rfl, Nat.le_of_ble_eq_true rfl⟩ (ci := 10) (q0 := 0) rfl rfl rfl hl.1 rfl (Nat.le_of_ble_eq_true rfl) ⟨Nat.zero_le _, Nat.zero_le _⟩ dX12_make_13) cx.2.2.1 hD hS (fun u28 H locs hw27 hP hD hS => ?_)
    obtain ⟨m29, rfl⟩ : ∃ z, z = u28 := ⟨_, rfl⟩
    have hP : va_P D vwCl [cell84_ qm sm tm m5 m6 m7 m8 m9 m10 m11, (qm 1, .inl (k 0, 26, .inl m4)), (qm 2, .inl (k 0, 26, .inl m29)), cell8_ k qm sm, cell6_ k qm sm, cell15_ k qm sm, cell14_ k qm tm, cell12_ k qm tm, cell18_ k qm tm, cell17_ k qm tm, cell19_ k qm tm, cell21_ k qm tm, cell20_ k qm sm, cell16_ k qm sm, cell11_ k qm sm, cell10_ k qm sm, cell9_ k qm sm, cell7_ k qm sm] H := hP
    have hD : va_D A [cell84_ qm sm tm m5 m6 m7 m8 m9 m10 m11, (qm 1, .inl (k 0, 26, .inl m4)), (qm 2, .inl (k 0, 26, .inl m29)), cell8_ k qm sm, cell6_ k qm sm, cell15_ k qm sm, cell14_ k qm tm, cell12_ k qm tm, cell18_ k qm tm, cell17_ k qm tm, cell19_ k qm tm, cell21_ k qm tm, cell20_ k qm sm, cell16_ k qm sm, cell11_ k qm sm, cell10_ k qm sm, cell9_ k qm sm, cell7_ k qm sm] := hD
    replace hw27 : (0 ≤ (m29 0).toInt ∧ (m29 0).toInt ≤ 5) ∧ (0 ≤ (m29 1).toInt ∧ (m29 1).toInt ≤ 4) ∧ (m29 = J_X12_takeHouse (up2 (up2 sm 0 (upd (upd (upd (upd (upd (upd (upd (sm 0) 4 m5) 5 m6) 6 m7) 7 m8) 8 m9) 9 m10) 10 m11)) 1 m4) tm) := hw27
    obtain ⟨w30, w31, w32⟩ := hw27
    have k34 : m29 = (J_X12_takeHouse (up2 (up2 sm 0 (upd (upd (upd (upd (upd (upd (upd (sm 0) 4 m5) 5 m6) 6 m7) 7 m8) 8 m9) 9 m10) 10 m11)) 1 m4) tm) := congrArg (fun z => z) w32
    refine lv_aload_n hx hb dX12_make_16 rfl (lv_at hl 0 rfl) ?_
    refine g_get cx hP iw_X12_make_X12 0 rfl rfl 24 (by decide) rfl fw_X12_make_50 rfl dX12_make_17 ?_
    refine lv_iconst (v := 0) hx hb dX12_make_20 (by decide) ?_
    refine lv_iconst (v := 0) hx hb dX12_make_21 (by decide) ?_
    have hn35 : vp_in 0 2 := f_in (a := 0) (by decide) (by omega) (by omega)
    refine va_zast hx hb cx.2.1 hP hD hS 14 3 rfl rfl hn35 dX12_make_22 (fun H locs hP hD hS => ?_)
    obtain ⟨g36, eg36⟩ : ∃ g : Nat → Int32, g = upd (sm 14) ((0 : Int32).toNatClampNeg) (vp_nar .boolean 0) := ⟨_, rfl⟩
    rw [← eg36] at hP hD
    have hP : va_P D vwCl [cell84_ qm sm tm m5 m6 m7 m8 m9 m10 m11, (qm 1, .inl (k 0, 26, .inl m4)), (qm 2, .inl (k 0, 26, .inl m29)), cell8_ k qm sm, cell6_ k qm sm, cell15_ k qm sm, cell14_ k qm tm, cell12_ k qm tm, cell18_ k qm tm, cell17_ k qm tm, cell19_ k qm tm, cell21_ k qm tm, cell20_ k qm sm, cell16_ k qm sm, (qm 14, .inl (k 3, 2, .inl g36)), cell10_ k qm sm, cell9_ k qm sm, cell7_ k qm sm] H := hP
    have hD : va_D A [cell84_ qm sm tm m5 m6 m7 m8 m9 m10 m11, (qm 1, .inl (k 0, 26, .inl m4)), (qm 2, .inl (k 0, 26, .inl m29)), cell8_ k qm sm, cell6_ k qm sm, cell15_ k qm sm, cell14_ k qm tm, cell12_ k qm tm, cell18_ k qm tm, cell17_ k qm tm, cell19_ k qm tm, cell21_ k qm tm, cell20_ k qm sm, cell16_ k qm sm, (qm 14, .inl (k 3, 2, .inl g36)), cell10_ k qm sm, cell9_ k qm sm, cell7_ k qm sm] := hD
    refine lv_aload_n hx hb dX12_make_23 rfl (lv_at hl 0 rfl) ?_
    refine g_get cx hP iw_X12_make_X12 0 rfl rfl 24 (by decide) rfl fw_X12_make_50 rfl dX12_make_24 ?_
    refine lv_iconst (v := 1) hx hb dX12_make_27 (by decide) ?_
    refine lv_iconst (v := 0) hx hb dX12_make_28 (by decide) ?_
    have hn37 : vp_in 1 2 := f_in (a := 1) (by decide) (by omega) (by omega)
    refine va_zast hx hb cx.2.1 hP hD hS 14 3 rfl rfl hn37 dX12_make_29 (fun H locs hP hD hS => ?_)
    obtain ⟨g38, eg38⟩ : ∃ g : Nat → Int32, g = upd g36 ((1 : Int32).toNatClampNeg) (vp_nar .boolean 0) := ⟨_, rfl⟩
    rw [← eg38] at hP hD
    have hP : va_P D vwCl [cell84_ qm sm tm m5 m6 m7 m8 m9 m10 m11, (qm 1, .inl (k 0, 26, .inl m4)), (qm 2, .inl (k 0, 26, .inl m29)), cell8_ k qm sm, cell6_ k qm sm, cell15_ k qm sm, cell14_ k qm tm, cell12_ k qm tm, cell18_ k qm tm, cell17_ k qm tm, cell19_ k qm tm, cell21_ k qm tm, cell20_ k qm sm, cell16_ k qm sm, (qm 14, .inl (k 3, 2, .inl g38)), cell10_ k qm sm, cell9_ k qm sm, cell7_ k qm sm] H := hP
    have hD : va_D A [cell84_ qm sm tm m5 m6 m7 m8 m9 m10 m11, (qm 1, .inl (k 0, 26, .inl m4)), (qm 2, .inl (k 0, 26, .inl m29)), cell8_ k qm sm, cell6_ k qm sm, cell15_ k qm sm, cell14_ k qm tm, cell12_ k qm tm, cell18_ k qm tm, cell17_ k qm tm, cell19_ k qm tm, cell21_ k qm tm, cell20_ k qm sm, cell16_ k qm sm, (qm 14, .inl (k 3, 2, .inl g38)), cell10_ k qm sm, cell9_ k qm sm, cell7_ k qm sm] := hD
    refine lv_iconst (v := 0) hx hb dX12_make_30 (by decide) ?_
    refine lv_istore_n (lv' := [(1, .int 0), (0, .ref (qm 0))]) hx hb dX12_make_31 rfl hl (by decide) rfl (fun ls hl => ?_)
    have hL32 : ∀ (n44 : Nat) (v42 : Int32) (g43 : Nat → Int32) (H : Heap) (locs : List Loc) (ls : Array Slot), 5 - v42.toInt < (n44 : Int) → (0 ≤ v42.toInt ∧ v42.toInt ≤ 5) → (g43 = PFn (fun _ => 0) (Int.toNat v42.toInt) (sm 13)) → va_P D vwCl [cell84_ qm sm tm m5 m6 m7 m8 m9 m10 m11, (qm 1, .inl (k 0, 26, .inl m4)), (qm 2, .inl (k 0, 26, .inl m29)), cell8_ k qm sm, cell6_ k qm sm, cell15_ k qm sm, cell14_ k qm tm, cell12_ k qm tm, cell18_ k qm tm, cell17_ k qm tm, cell19_ k qm tm, cell21_ k qm tm, cell20_ k qm sm, (qm 13, .inl (k 0, 5, .inl g43)), (qm 14, .inl (k 3, 2, .inl g38)), cell10_ k qm sm, cell9_ k qm sm, cell7_ k qm sm] H → va_D A [cell84_ qm sm tm m5 m6 m7 m8 m9 m10 m11, (qm 1, .inl (k 0, 26, .inl m4)), (qm 2, .inl (k 0, 26, .inl m29)), cell8_ k qm sm, cell6_ k qm sm, cell15_ k qm sm, cell14_ k qm tm, cell12_ k qm tm, cell18_ k qm tm, cell17_ k qm tm, cell19_ k qm tm, cell21_ k qm tm, cell20_ k qm sm, (qm 13, .inl (k 0, 5, .inl g43)), (qm 14, .inl (k 3, 2, .inl g38)), cell10_ k qm sm, cell9_ k qm sm, cell7_ k qm sm] → va_S A s.heap H locs → lv_has ls 2 [(1, .int v42), (0, .ref (qm 0))] → W p l e ({ frames := 4, cells := 0, slots := 0, locals := 92 } : Room) s m ([.ref (qm 0)] : List Value).toArray below meth c H locs 0 0 Q (F0 m 32 ls []) := by
      intro n44
      induction n44 with
      | zero => intro v42 g43 H locs ls hmn44 bv42 qM hP hD hS hl; exact absurd hmn44 (by omega)
      | succ n44 ih32 =>
        intro v42 g43 H locs ls hmn44 bv42 qM hP hD hS hl
        refine lv_iload_n hx hb dX12_make_32 rfl (lv_at hl 0 rfl) ?_
        refine lv_iconst (v := 5) hx hb dX12_make_33 (by decide) ?_
        refine lv_icmp_ge (tgt := 50) hx hb dX12_make_34 (by decide) (fun c45 => ?_) (fun c45 => ?_)
        · have f45 : 5 ≤ v42.toInt := f_le (by decide) rfl c45
          have qM_e : g43 = (PFn (fun _ => 0) 5 (sm 13)) := by have q : Int.toNat v42.toInt = 5 := (by omega); rw [q] at qM; exact qM
          refine lv_aload_n hx hb dX12_make_50 rfl (lv_at hl 1 rfl) ?_
          refine lv_iconst (v := 0) hx hb dX12_make_51 (by decide) ?_
          refine g_pt cx hP hD hS iw_X12_make_X12 tyX12 tyX12_ok nmX12 0 rfl rfl 22 (by decide) rfl fw_X12_make_140 (ty := .int) rfl rfl rfl (Nat.le_of_ble_eq_true rfl) dX12_make_52 (fun H locs hP hD hS => ?_)
          have hP : va_P D vwCl [(qm 0, .inr (10, [.ref (qm 1), .ref (qm 2), .ref (qm 3), .int (sm 0 3), .int m5, .int m6, .int m7, .int m8, .int m9, .int m10, .int m11, .ref (qm 4), .ref (qm 5), .int (sm 0 13), .ref (qm 6), .ref (qm 7), .ref (qm 8), .ref (qm 9), .ref (qm 10), .ref (qm 11), .ref (qm 12), .ref (qm 13), .int 0, .int (sm 0 23), .ref (qm 14), .ref (qm 15), .int (sm 0 26), .ref (qm 16), .ref (qm 17), .long (tm 0 29), .long (tm 0 30), .long (tm 0 31), .int (sm 0 32)])), (qm 1, .inl (k 0, 26, .inl m4)), (qm 2, .inl (k 0, 26, .inl m29)), cell8_ k qm sm, cell6_ k qm sm, cell15_ k qm sm, cell14_ k qm tm, cell12_ k qm tm, cell18_ k qm tm, cell17_ k qm tm, cell19_ k qm tm, cell21_ k qm tm, cell20_ k qm sm, (qm 13, .inl (k 0, 5, .inl g43)), (qm 14, .inl (k 3, 2, .inl g38)), cell10_ k qm sm, cell9_ k qm sm, cell7_ k qm sm] H := hP
          have hD : va_D A [(qm 0, .inr (10, [.ref (qm 1), .ref (qm 2), .ref (qm 3), .int (sm 0 3), .int m5, .int m6, .int m7, .int m8, .int m9, .int m10, .int m11, .ref (qm 4), .ref (qm 5), .int (sm 0 13), .ref (qm 6), .ref (qm 7), .ref (qm 8), .ref (qm 9), .ref (qm 10), .ref (qm 11), .ref (qm 12), .ref (qm 13), .int 0, .int (sm 0 23), .ref (qm 14), .ref (qm 15), .int (sm 0 26), .ref (qm 16), .ref (qm 17), .long (tm 0 29), .long (tm 0 30), .long (tm 0 31), .int (sm 0 32)])), (qm 1, .inl (k 0, 26, .inl m4)), (qm 2, .inl (k 0, 26, .inl m29)), cell8_ k qm sm, cell6_ k qm sm, cell15_ k qm sm, cell14_ k qm tm, cell12_ k qm tm, cell18_ k qm tm, cell17_ k qm tm, cell19_ k qm tm, cell21_ k qm tm, cell20_ k qm sm, (qm 13, .inl (k 0, 5, .inl g43)), (qm 14, .inl (k 3, 2, .inl g38)), cell10_ k qm sm, cell9_ k qm sm, cell7_ k qm sm] := hD
          have hlit46 : (0 : Int32).toInt = 0 := by decide
          refine lv_aload_n hx hb dX12_make_55 rfl (lv_at hl 1 rfl) ?_
          refine lv_iconst (v := 0) hx hb dX12_make_56 (by decide) ?_
          refine g_pt cx hP hD hS iw_X12_make_X12 tyX12 tyX12_ok nmX12 0 rfl rfl 23 (by decide) rfl fw_X12_make_143 (ty := .int) rfl rfl rfl (Nat.le_of_ble_eq_true rfl) dX12_make_57 (fun H locs hP hD hS => ?_)
          have hP : va_P D vwCl [cell153_ qm sm tm m5 m6 m7 m8 m9 m10 m11 0 0, (qm 1, .inl (k 0, 26, .inl m4)), (qm 2, .inl (k 0, 26, .inl m29)), cell8_ k qm sm, cell6_ k qm sm, cell15_ k qm sm, cell14_ k qm tm, cell12_ k qm tm, cell18_ k qm tm, cell17_ k qm tm, cell19_ k qm tm, cell21_ k qm tm, cell20_ k qm sm, (qm 13, .inl (k 0, 5, .inl g43)), (qm 14, .inl (k 3, 2, .inl g38)), cell10_ k qm sm, cell9_ k qm sm, cell7_ k qm sm] H := hP
          have hD : va_D A [cell153_ qm sm tm m5 m6 m7 m8 m9 m10 m11 0 0, (qm 1, .inl (k 0, 26, .inl m4)), (qm 2, .inl (k 0, 26, .inl m29)), cell8_ k qm sm, cell6_ k qm sm, cell15_ k qm sm, cell14_ k qm tm, cell12_ k qm tm, cell18_ k qm tm, cell17_ k qm tm, cell19_ k qm tm, cell21_ k qm tm, cell20_ k qm sm, (qm 13, .inl (k 0, 5, .inl g43)), (qm 14, .inl (k 3, 2, .inl g38)), cell10_ k qm sm, cell9_ k qm sm, cell7_ k qm sm] := hD
          have hlit47 : (0 : Int32).toInt = 0 := by decide
          refine lv_aload_n hx hb dX12_make_60 rfl (lv_at hl 1 rfl) ?_
          refine g_get cx hP iw_X12_make_X12 0 rfl rfl 1 (by decide) rfl fw_X12_make_13 rfl dX12_make_61 ?_
          refine lv_iconst (v := 0) hx hb dX12_make_64 (by decide) ?_
          have hn48 : vp_in 0 26 := f_in (a := 0) (by decide) (by omega) (by omega)
          refine va_iald hx hb cx.2.1 hP 2 0 rfl rfl hn48 dX12_make_65 (lv_topi (fun v49 e49 => ?_))
          have uv49 : v49.toInt = (m29 0).toInt := congrArg Int32.toInt e49
          have t49 : 0 ≤ v49.toInt ∧ v49.toInt ≤ 5 := by rw [e49]; exact w30
          have hlit50 : (0 : Int32).toInt = 0 := by decide
          have hlit51 : (0 : Int32).toInt = 0 := by decide
          rw [hQ]
          exact x_i cx hr (m4, m5, m6, m7, m8, m9, m10, m11, m29, g38, g43, 0, 0) hP hD hS ⟨(show 0 ≤ (m4 0).toInt ∧ (m4 0).toInt ≤ 5 from by omega), (show 0 ≤ (m4 1).toInt ∧ (m4 1).toInt ≤ 4 from by omega), (show 0 ≤ m5.toInt ∧ m5.toInt ≤ 64 from by omega), (show 0 ≤ (m29 0).toInt ∧ (m29 0).toInt ≤ 5 from by omega), (show 0 ≤ (m29 1).toInt ∧ (m29 1).toInt ≤ 4 from by omega), (show (v49, m4, m5, m6, m7, m8, m9, m10, m11, m29, g38, g43, (0 : Int32), (0 : Int32)) = J_X12_make sm tm from by subst k17 k18 k19 k20 k21 k22 k23 k24 k25 k34 eg36 eg38 qM_e e49; first | (refine Eq.symm ?_; refine Eq.trans (if_pos c26) ?_; rfl) | (unfold J_X12_make; try dsimp only; rw [if_pos c26]))⟩ dX12_make_66
        · have f45 : v42.toInt < 5 := f_nle (by decide) rfl c45
          refine lv_aload_n hx hb dX12_make_37 rfl (lv_at hl 1 rfl) ?_
          refine g_get cx hP iw_X12_make_X12 0 rfl rfl 21 (by decide) rfl fw_X12_make_47 rfl dX12_make_38 ?_
          refine lv_iload_n hx hb dX12_make_41 rfl (lv_at hl 0 rfl) ?_
          refine lv_iconst (v := 0) hx hb dX12_make_42 (by decide) ?_
          have hn52 : vp_in v42 5 := f_in (a := v42.toInt) rfl (by omega) (by omega)
          refine va_iast hx hb cx.2.1 hP hD hS 13 0 rfl rfl hn52 dX12_make_43 (fun H locs hP hD hS => ?_)
          obtain ⟨g53, eg53⟩ : ∃ g : Nat → Int32, g = upd g43 (v42).toNatClampNeg 0 := ⟨_, rfl⟩
          rw [← eg53] at hP hD
          have hP : va_P D vwCl [cell84_ qm sm tm m5 m6 m7 m8 m9 m10 m11, (qm 1, .inl (k 0, 26, .inl m4)), (qm 2, .inl (k 0, 26, .inl m29)), cell8_ k qm sm, cell6_ k qm sm, cell15_ k qm sm, cell14_ k qm tm, cell12_ k qm tm, cell18_ k qm tm, cell17_ k qm tm, cell19_ k qm tm, cell21_ k qm tm, cell20_ k qm sm, (qm 13, .inl (k 0, 5, .inl g53)), (qm 14, .inl (k 3, 2, .inl g38)), cell10_ k qm sm, cell9_ k qm sm, cell7_ k qm sm] H := hP
          have hD : va_D A [cell84_ qm sm tm m5 m6 m7 m8 m9 m10 m11, (qm 1, .inl (k 0, 26, .inl m4)), (qm 2, .inl (k 0, 26, .inl m29)), cell8_ k qm sm, cell6_ k qm sm, cell15_ k qm sm, cell14_ k qm tm, cell12_ k qm tm, cell18_ k qm tm, cell17_ k qm tm, cell19_ k qm tm, cell21_ k qm tm, cell20_ k qm sm, (qm 13, .inl (k 0, 5, .inl g53)), (qm 14, .inl (k 3, 2, .inl g38)), cell10_ k qm sm, cell9_ k qm sm, cell7_ k qm sm] := hD
          have flq := PF_st (P := (fun _ => 0)) eg53 (k := Int.toNat v42.toInt) (show v42.toInt = ((Int.toNat v42.toInt : Nat) : Int) from by omega) (rfl) qM
          obtain ⟨v54, e54⟩ : ∃ z : Int32, z = v42 + 1 := ⟨_, rfl⟩
          refine lv_iinc (v := v54) (lv' := [(1, .int v54), (0, .ref (qm 0))]) hx hb dX12_make_44 hl (k := 0) rfl (by rw [e54]; rfl) (by decide) rfl (fun ls hl => ?_)
          have t54 : v54.toInt = v42.toInt + 1 := by rw [e54]; exact i_add rfl (by decide) (by omega) (by omega)
          refine lv_goto (tgt := 32) hx hb dX12_make_47 (by decide) ?_
          exact ih32 v54 g53 _ _ _ (by omega) (by first | decide | omega) (flq.trans (congrArg (fun n => PFn (fun _ => 0) n (sm 13)) (by omega))) hP hD hS (lv_sub hl [0, 1] rfl)
    have hlit55 : (0 : Int32).toInt = 0 := by decide
    exact hL32 (Int.toNat (5 - 0) + 1) 0 (sm 13) _ _ _ (by omega) (by first | decide | omega) (PF_0 (fun _ => 0) (sm 13)) hP hD hS (lv_sub hl [0, 1] rfl)
  · have f26 : ¬ r3.toInt = (-9) := f_ne rfl (by decide) c26
    refine lv_bipush (v := (-3)) hx hb dX12_make_9 (by decide) ?_
    have hlit56 : ((-3) : Int32).toInt = -3 := by decide
    rw [hQ]
    exact x_i cx hr (m4, m5, m6, m7, m8, m9, m10, m11, (sm 2), (sm 14), (sm 13), (sm 0 22), (sm 0 23)) hP hD hS ⟨(show 0 ≤ (m4 0).toInt ∧ (m4 0).toInt ≤ 5 from by omega), (show 0 ≤ (m4 1).toInt ∧ (m4 1).toInt ≤ 4 from by omega), (show 0 ≤ m5.toInt ∧ m5.toInt ≤ 64 from by omega), (show 0 ≤ ((sm 2) 0).toInt ∧ ((sm 2) 0).toInt ≤ 5 from by omega), (show 0 ≤ ((sm 2) 1).toInt ∧ ((sm 2) 1).toInt ≤ 4 from by omega), (show (((-3) : Int32), m4, m5, m6, m7, m8, m9, m10, m11, (sm 2), (sm 14), (sm 13), (sm 0 22), (sm 0 23)) = J_X12_make sm tm from by subst k17 k18 k19 k20 k21 k22 k23 k24 k25; first | (refine Eq.symm ?_; refine Eq.trans (if_neg c26) ?_; rfl) | (unfold J_X12_make; try dsimp only; rw [if_neg c26]))⟩ dX12_make_11
theorem fw_X12_rule_130 : Cond.fieldLink RX12 130 "StillInAugustModel" "exceptions" "I" ∈ wsX12_rule := by decide +kernel
theorem fw_X12_rule_19 : Cond.fieldLink RX12 19 "StillInAugustModel" "levels" "[I" ∈ wsX12_rule := by decide +kernel
theorem fw_X12_rule_22 : Cond.fieldLink RX12 22 "StillInAugustModel" "readLevels" "[I" ∈ wsX12_rule := by decide +kernel
theorem nd_X12_isRule : yX12_isRule.cls ≠ "java/lang/invoke/MethodHandle" ∧ yX12_isRule.cls ≠ "java/lang/invoke/VarHandle" ∧ (parseMethodDescriptor yX12_isRule.desc).map (fun d => d.parameters.length) = some 1 := by decide +kernel
theorem iw_X12_rule_X12 : ∀ w ∈ u_ws RX12 TX12 33, w ∈ wsX12_rule := fun _ h => List.mem_cons_of_mem _ (List.mem_append_right _ h)
def J_X12_rule (sm : Nat → Nat → Int32) (tm : Nat → Nat → Int64) (p0 : Int32) : Int32 × Int32 × Int32 × Int32 × (Nat → Int32) × (Nat → Int32) := let y6 := J_X12_isRule p0; if y6 = 0 then (((-1) : Int32), (sm 0 4), (sm 0 5), (sm 0 13), (sm 5), (sm 4)) else let y18 := J_X12_readRule sm tm; if (y18.1) = (-9) then ((y18.2.2.2.1), (y18.2.1), (y18.2.2.1), (y18.2.2.2.1), (y18.2.2.2.2), (PFo (Int.toNat (5 * p0.toInt)) (y18.2.2.2.2) 5 (sm 4))) else (((-3) : Int32), (y18.2.1), (y18.2.2.1), (y18.2.2.2.1), (y18.2.2.2.2), (sm 4))
set_option maxHeartbeats 4000000 in
set_option maxRecDepth 100000 in
theorem c_X12_rule (l : Launch) (D : va_G) (k : Nat → ClassId) (b : Nat → Nat) (qm : Nat → Nat) (sm : Nat → Nat → Int32) (tm : Nat → Nat → Int64) (sz : Nat) (p0 : Int32) (h_len : 0 ≤ (sm 0 3).toInt ∧ (sm 0 3).toInt ≤ 64) (h_at : 0 ≤ (sm 0 4).toInt ∧ (sm 0 4).toInt ≤ 64) : MetI l D k b yX12_rule wsX12_rule ({ frames := 3, cells := 0, slots := 0, locals := 70 } : Room) [cell22_ qm sm tm, cell5_ k qm sm, cell13_ k qm sm, cell8_ k qm sm, cell6_ k qm sm, cell15_ k qm sm, cell14_ k qm tm, cell12_ k qm tm, cell18_ k qm tm, cell17_ k qm tm, cell19_ k qm tm, cell21_ k qm tm, cell20_ k qm sm, cell16_ k qm sm, cell11_ k qm sm, cell10_ k qm sm, cell9_ k qm sm, cell7_ k qm sm] sz [.ref (qm 0), .int p0] (fun (r : Int32) (u : Int32 × Int32 × Int32 × (Nat → Int32) × (Nat → Int32)) => (0 ≤ (u.1).toInt ∧ (u.1).toInt ≤ 64) ∧ ((r, (u.1), (u.2.1), (u.2.2.1), (u.2.2.2.1), (u.2.2.2.2)) = J_X12_rule sm tm p0)) (fun u => [cell76_ qm sm tm (u.1) (u.2.1) (u.2.2.1), cell5_ k qm sm, cell13_ k qm sm, cell8_ k qm sm, (qm 4, .inl (k 0, 15, .inl (u.2.2.2.2))), cell161_ k qm (u.2.2.2.1), cell14_ k qm tm, cell12_ k qm tm, cell18_ k qm tm, cell17_ k qm tm, cell19_ k qm tm, cell21_ k qm tm, cell20_ k qm sm, cell16_ k qm sm, cell11_ k qm sm, cell10_ k qm sm, cell9_ k qm sm, cell7_ k qm sm]) := by
  refine g_enter (cc := cX12_rule) (maxL := 3) (ret := (some .int)) (by decide) rfl (Nat.le_of_ble_eq_true rfl) ?_
  intro p e s m below meth c A hsz hAe cx hr hP hD hS ls hl
  rw [hAe]
  refine g_q (fun Q hQ => ?_)
  have hx := cx.1.1
  have hb := cx.1.2.1
  have bp0 := i_rng p0
  have hl : lv_has ls 3 [(0, .ref (qm 0)), (1, .int p0)] := hl
  obtain ⟨H, eH⟩ : ∃ H : Heap, H = s.heap := ⟨_, rfl⟩
  obtain ⟨locs, el⟩ : ∃ L : List Loc, L = [] := ⟨_, rfl⟩
  have hP : va_P D vwCl [cell22_ qm sm tm, cell5_ k qm sm, cell13_ k qm sm, cell8_ k qm sm, cell6_ k qm sm, cell15_ k qm sm, cell14_ k qm tm, cell12_ k qm tm, cell18_ k qm tm, cell17_ k qm tm, cell19_ k qm tm, cell21_ k qm tm, cell20_ k qm sm, cell16_ k qm sm, cell11_ k qm sm, cell10_ k qm sm, cell9_ k qm sm, cell7_ k qm sm] H := by rw [eH]; exact hP
  have hD : va_D A [cell22_ qm sm tm, cell5_ k qm sm, cell13_ k qm sm, cell8_ k qm sm, cell6_ k qm sm, cell15_ k qm sm, cell14_ k qm tm, cell12_ k qm tm, cell18_ k qm tm, cell17_ k qm tm, cell19_ k qm tm, cell21_ k qm tm, cell20_ k qm sm, cell16_ k qm sm, cell11_ k qm sm, cell10_ k qm sm, cell9_ k qm sm, cell7_ k qm sm] := hD
  have hS : va_S A s.heap H locs := by rw [eH, el]; exact hS
  suffices goal : W p l e ({ frames := 3, cells := 0, slots := 0, locals := 70 } : Room) s m ([.ref (qm 0), .int p0] : List Value).toArray below meth c H locs 0 0 Q (F0 m 0 ls []) by rw [eH, el] at goal; exact goal
  refine lv_iload_n hx hb dX12_rule_0 rfl (lv_at hl 1 rfl) ?_
  refine g_ir (g_runS (wc := []) (rest := []) cx hP hD hS [] rfl (by decide) [.int p0] (c_X12_isRule l D k b H.size p0) gX12_rule_X12_isRule rfl rfl rfl nd_X12_isRule ⟨Nat.le_of_ble_eq_true rfl, Nat.le_of_ble_eq_true rfl⟩ rfl hl.1 rfl (Nat.le_of_ble_eq_true rfl) ⟨Nat.zero_le _, Nat.zero_le _⟩ dX12_rule_1) cx.2.2.1 hP hD hS [] rfl rfl (fun r2 H locs hw1 hP hS => ?_)
  replace hw1 : (0 ≤ r2.toInt ∧ r2.toInt ≤ 1) ∧ (Imp (r2.toInt = 1) (0 ≤ p0.toInt ∧ p0.toInt ≤ 2)) ∧ (r2 = J_X12_isRule p0) := hw1
  obtain ⟨w3, w4, w5⟩ := hw1
  have k7 : r2 = (J_X12_isRule p0) := congrArg (fun z => z) w5
  have zr2 : 0 ≤ r2.toInt ∧ r2.toInt ≤ 1 := w3
  refine lv_if_ne (tgt := 9) hx hb dX12_rule_4 (by decide) (fun c8 => ?_) (fun c8 => ?_)
  · have f8 : ¬ r2.toInt = 0 := f_ne rfl (by decide) c8
    have k8 : (0 ≤ p0.toInt ∧ p0.toInt ≤ 2) := w4 (by omega)
    refine lv_aload_n hx hb dX12_rule_9 rfl (lv_at hl 0 rfl) ?_
    refine g_iF (w1 := fun (u : Int32 × Int32 × Int32 × (Nat → Int32)) => [cell76_ qm sm tm (u.1) (u.2.1) (u.2.2.1), cell5_ k qm sm, cell13_ k qm sm, cell8_ k qm sm, cell6_ k qm sm, cell161_ k qm (u.2.2.2), cell14_ k qm tm, cell12_ k qm tm, cell18_ k qm tm, cell17_ k qm tm, cell19_ k qm tm, cell21_ k qm tm, cell20_ k qm sm, cell16_ k qm sm, cell11_ k qm sm, cell10_ k qm sm, cell9_ k qm sm, cell7_ k qm sm]) (g_runVF (ws := [cell22_ qm sm tm, cell5_ k qm sm, cell13_ k qm sm, cell8_ k qm sm, cell6_ k qm sm, cell15_ k qm sm, cell14_ k qm tm, cell12_ k qm tm, cell18_ k qm tm, cell17_ k qm tm, cell19_ k qm tm, cell21_ k qm tm, cell20_ k qm sm, cell16_ k qm sm, cell11_ k qm sm, cell10_ k qm sm, cell9_ k qm sm, cell7_ k qm sm]) (rest := []) cx hP hD hS [] (c_X12_readRule l D k b qm sm tm H.size (show 0 ≤ (sm 0 3).toInt ∧ (sm 0 3).toInt ≤ 64 from by first | decide | omega)) gX12_rule_X12_readRule rfl rfl rfl nd_X12_readRule ⟨Nat.le_of_ble_eq_true rfl, Nat.le_of_ble_eq_true rfl⟩ (ci := 10) (q0 := 0) rfl rfl rfl hl.1 rfl (Nat.le_of_ble_eq_true rfl) ⟨Nat.zero_le _, Nat.zero_le _⟩ dX12_rule_10) cx.2.2.1 hD hS (fun r11 u10 H locs hw9 hP hD hS => ?_)
    obtain ⟨m12, m13, m14, m15⟩ := u10
    have hP : va_P D vwCl [cell76_ qm sm tm m12 m13 m14, cell5_ k qm sm, cell13_ k qm sm, cell8_ k qm sm, cell6_ k qm sm, (qm 5, .inl (k 0, 5, .inl m15)), cell14_ k qm tm, cell12_ k qm tm, cell18_ k qm tm, cell17_ k qm tm, cell19_ k qm tm, cell21_ k qm tm, cell20_ k qm sm, cell16_ k qm sm, cell11_ k qm sm, cell10_ k qm sm, cell9_ k qm sm, cell7_ k qm sm] H := hP
    have hD : va_D A [cell76_ qm sm tm m12 m13 m14, cell5_ k qm sm, cell13_ k qm sm, cell8_ k qm sm, cell6_ k qm sm, (qm 5, .inl (k 0, 5, .inl m15)), cell14_ k qm tm, cell12_ k qm tm, cell18_ k qm tm, cell17_ k qm tm, cell19_ k qm tm, cell21_ k qm tm, cell20_ k qm sm, cell16_ k qm sm, cell11_ k qm sm, cell10_ k qm sm, cell9_ k qm sm, cell7_ k qm sm] := hD
    replace hw9 : (0 ≤ m12.toInt ∧ m12.toInt ≤ 64) ∧ ((r11, m12, m13, m14, m15) = J_X12_readRule sm tm) := hw9
    obtain ⟨w16, w17⟩ := hw9
    have k19 : r11 = ((J_X12_readRule sm tm).1) := congrArg (fun z => (z.1)) w17
    have k20 : m12 = ((J_X12_readRule sm tm).2.1) := congrArg (fun z => (z.2.1)) w17
    have k21 : m13 = ((J_X12_readRule sm tm).2.2.1) := congrArg (fun z => (z.2.2.1)) w17
    have k22 : m14 = ((J_X12_readRule sm tm).2.2.2.1) := congrArg (fun z => (z.2.2.2.1)) w17
    have k23 : m15 = ((J_X12_readRule sm tm).2.2.2.2) := congrArg (fun z => (z.2.2.2.2)) w17
    refine lv_bipush (v := (-9)) hx hb dX12_rule_13 (by decide) ?_
    refine lv_icmp_eq (tgt := 21) hx hb dX12_rule_15 (by decide) (fun c24 => ?_) (fun c24 => ?_)
    · have f24 : r11.toInt = (-9) := f_eq rfl (by decide) c24
      refine lv_iconst (v := 0) hx hb dX12_rule_21 (by decide) ?_
      refine lv_istore_n (lv' := [(2, .int 0), (0, .ref (qm 0)), (1, .int p0)]) hx hb dX12_rule_22 rfl hl (by decide) rfl (fun ls hl => ?_)
      have hL23 : ∀ (n34 : Nat) (v32 : Int32) (g33 : Nat → Int32) (H : Heap) (locs : List Loc) (ls : Array Slot), 5 - v32.toInt < (n34 : Int) → (0 ≤ v32.toInt ∧ v32.toInt ≤ 5) → (g33 = (PFo (Int.toNat (5 * p0.toInt)) m15 (Int.toNat v32.toInt) (sm 4))) → va_P D vwCl [cell76_ qm sm tm m12 m13 m14, cell5_ k qm sm, cell13_ k qm sm, cell8_ k qm sm, (qm 4, .inl (k 0, 15, .inl g33)), (qm 5, .inl (k 0, 5, .inl m15)), cell14_ k qm tm, cell12_ k qm tm, cell18_ k qm tm, cell17_ k qm tm, cell19_ k qm tm, cell21_ k qm tm, cell20_ k qm sm, cell16_ k qm sm, cell11_ k qm sm, cell10_ k qm sm, cell9_ k qm sm, cell7_ k qm sm] H → va_D A [cell76_ qm sm tm m12 m13 m14, cell5_ k qm sm, cell13_ k qm sm, cell8_ k qm sm, (qm 4, .inl (k 0, 15, .inl g33)), (qm 5, .inl (k 0, 5, .inl m15)), cell14_ k qm tm, cell12_ k qm tm, cell18_ k qm tm, cell17_ k qm tm, cell19_ k qm tm, cell21_ k qm tm, cell20_ k qm sm, cell16_ k qm sm, cell11_ k qm sm, cell10_ k qm sm, cell9_ k qm sm, cell7_ k qm sm] → va_S A s.heap H locs → lv_has ls 3 [(2, .int v32), (0, .ref (qm 0)), (1, .int p0)] → W p l e ({ frames := 3, cells := 0, slots := 0, locals := 70 } : Room) s m ([.ref (qm 0), .int p0] : List Value).toArray below meth c H locs 0 0 Q (F0 m 23 ls []) := by
        intro n34
        induction n34 with
        | zero => intro v32 g33 H locs ls hmn34 bv32 qR hP hD hS hl; exact absurd hmn34 (by omega)
        | succ n34 ih23 =>
          intro v32 g33 H locs ls hmn34 bv32 qR hP hD hS hl
          refine lv_iload_n hx hb dX12_rule_23 rfl (lv_at hl 0 rfl) ?_
          refine lv_iconst (v := 5) hx hb dX12_rule_24 (by decide) ?_
          refine lv_icmp_ge (tgt := 50) hx hb dX12_rule_25 (by decide) (fun c35 => ?_) (fun c35 => ?_)
          · have f35 : 5 ≤ v32.toInt := f_le (by decide) rfl c35
            have qR_e : g33 = (PFo (Int.toNat (5 * p0.toInt)) m15 5 (sm 4)) := by have q : Int.toNat v32.toInt = 5 := (by omega); rw [q] at qR; exact qR
            refine lv_aload_n hx hb dX12_rule_50 rfl (lv_at hl 1 rfl) ?_
            refine g_get cx hP iw_X12_rule_X12 0 rfl rfl 13 (by decide) rfl fw_X12_rule_130 rfl dX12_rule_51 ?_
            rw [hQ]
            exact x_i cx hr (m12, m13, m14, m15, g33) hP hD hS ⟨(show 0 ≤ m12.toInt ∧ m12.toInt ≤ 64 from by omega), (show (m14, m12, m13, m14, m15, g33) = J_X12_rule sm tm p0 from by subst k7 k19 k20 k21 k22 k23 qR_e; first | (refine Eq.symm ?_; refine Eq.trans (if_neg c8) ?_; refine Eq.trans (if_pos c24) ?_; rfl) | (unfold J_X12_rule; try dsimp only; rw [if_neg c8, if_pos c24]))⟩ dX12_rule_54
          · have f35 : v32.toInt < 5 := f_nle (by decide) rfl c35
            refine lv_aload_n hx hb dX12_rule_28 rfl (lv_at hl 1 rfl) ?_
            refine g_get cx hP iw_X12_rule_X12 0 rfl rfl 11 (by decide) rfl fw_X12_rule_19 rfl dX12_rule_29 ?_
            refine lv_iconst (v := 5) hx hb dX12_rule_32 (by decide) ?_
            refine lv_iload_n hx hb dX12_rule_33 rfl (lv_at hl 2 rfl) ?_
            refine lv_imul hx hb dX12_rule_34 (lv_topi (fun v36 e36 => ?_))
            have t36 : v36.toInt = 5 * p0.toInt := by rw [e36]; exact i_mul (by decide) rfl (by omega) (by omega)
            refine lv_iload_n hx hb dX12_rule_35 rfl (lv_at hl 0 rfl) ?_
            refine lv_iadd hx hb dX12_rule_36 (lv_topi (fun v37 e37 => ?_))
            have t37 : v37.toInt = v36.toInt + v32.toInt := by rw [e37]; exact i_add rfl rfl (by omega) (by omega)
            refine lv_aload_n hx hb dX12_rule_37 rfl (lv_at hl 1 rfl) ?_
            refine g_get cx hP iw_X12_rule_X12 0 rfl rfl 12 (by decide) rfl fw_X12_rule_22 rfl dX12_rule_38 ?_
            refine lv_iload_n hx hb dX12_rule_41 rfl (lv_at hl 0 rfl) ?_
            have hn38 : vp_in v32 5 := f_in (a := v32.toInt) rfl (by omega) (by omega)
            refine va_iald hx hb cx.2.1 hP 5 0 rfl rfl hn38 dX12_rule_42 (lv_topi (fun v39 e39 => ?_))
            have hn40 : vp_in v37 15 := f_in (a := v37.toInt) rfl (by omega) (by omega)
            refine va_iast hx hb cx.2.1 hP hD hS 4 0 rfl rfl hn40 dX12_rule_43 (fun H locs hP hD hS => ?_)
            obtain ⟨g41, eg41⟩ : ∃ g : Nat → Int32, g = upd g33 (v37).toNatClampNeg v39 := ⟨_, rfl⟩
            rw [← eg41] at hP hD
            have hP : va_P D vwCl [cell76_ qm sm tm m12 m13 m14, cell5_ k qm sm, cell13_ k qm sm, cell8_ k qm sm, (qm 4, .inl (k 0, 15, .inl g41)), (qm 5, .inl (k 0, 5, .inl m15)), cell14_ k qm tm, cell12_ k qm tm, cell18_ k qm tm, cell17_ k qm tm, cell19_ k qm tm, cell21_ k qm tm, cell20_ k qm sm, cell16_ k qm sm, cell11_ k qm sm, cell10_ k qm sm, cell9_ k qm sm, cell7_ k qm sm] H := hP
            have hD : va_D A [cell76_ qm sm tm m12 m13 m14, cell5_ k qm sm, cell13_ k qm sm, cell8_ k qm sm, (qm 4, .inl (k 0, 15, .inl g41)), (qm 5, .inl (k 0, 5, .inl m15)), cell14_ k qm tm, cell12_ k qm tm, cell18_ k qm tm, cell17_ k qm tm, cell19_ k qm tm, cell21_ k qm tm, cell20_ k qm sm, cell16_ k qm sm, cell11_ k qm sm, cell10_ k qm sm, cell9_ k qm sm, cell7_ k qm sm] := hD
            have flq := PFo_st (P := m15) (b := Int.toNat (5 * p0.toInt)) eg41 (k := Int.toNat v32.toInt) (show v37.toInt = ((Int.toNat (5 * p0.toInt) : Nat) : Int) + ((Int.toNat v32.toInt : Nat) : Int) from by omega) ((e39.trans (congrArg m15 (cN_of (show v32.toInt = ((Int.toNat (v32.toInt) : Nat) : Int) from by omega))))) qR
            obtain ⟨v42, e42⟩ : ∃ z : Int32, z = v32 + 1 := ⟨_, rfl⟩
            refine lv_iinc (v := v42) (lv' := [(2, .int v42), (0, .ref (qm 0)), (1, .int p0)]) hx hb dX12_rule_44 hl (k := 0) rfl (by rw [e42]; rfl) (by decide) rfl (fun ls hl => ?_)
            have t42 : v42.toInt = v32.toInt + 1 := by rw [e42]; exact i_add rfl (by decide) (by omega) (by omega)
            refine lv_goto (tgt := 23) hx hb dX12_rule_47 (by decide) ?_
            exact ih23 v42 g41 _ _ _ (by omega) (by first | decide | omega) (flq.trans (congrArg (fun n => (PFo (Int.toNat (5 * p0.toInt)) m15 n (sm 4))) (by omega))) hP hD hS (lv_sub hl [0, 1, 2] rfl)
      have hlit43 : (0 : Int32).toInt = 0 := by decide
      exact hL23 (Int.toNat (5 - 0) + 1) 0 (sm 4) _ _ _ (by omega) (by first | decide | omega) (PFo_0 _ _ _) hP hD hS (lv_sub hl [0, 1, 2] rfl)
    · have f24 : ¬ r11.toInt = (-9) := f_ne rfl (by decide) c24
      refine lv_bipush (v := (-3)) hx hb dX12_rule_18 (by decide) ?_
      have hlit44 : ((-3) : Int32).toInt = -3 := by decide
      rw [hQ]
      exact x_i cx hr (m12, m13, m14, m15, (sm 4)) hP hD hS ⟨(show 0 ≤ m12.toInt ∧ m12.toInt ≤ 64 from by omega), (show (((-3) : Int32), m12, m13, m14, m15, (sm 4)) = J_X12_rule sm tm p0 from by subst k7 k19 k20 k21 k22 k23; first | (refine Eq.symm ?_; refine Eq.trans (if_neg c8) ?_; refine Eq.trans (if_neg c24) ?_; rfl) | (unfold J_X12_rule; try dsimp only; rw [if_neg c8, if_neg c24]))⟩ dX12_rule_20
  · have f8 : r2.toInt = 0 := f_eq rfl (by decide) c8
    refine lv_iconst (v := (-1)) hx hb dX12_rule_7 (by decide) ?_
    have hlit45 : ((-1) : Int32).toInt = -1 := by decide
    rw [hQ]
    exact x_i cx hr ((sm 0 4), (sm 0 5), (sm 0 13), (sm 5), (sm 4)) hP hD hS ⟨(show 0 ≤ (sm 0 4).toInt ∧ (sm 0 4).toInt ≤ 64 from by omega), (show (((-1) : Int32), (sm 0 4), (sm 0 5), (sm 0 13), (sm 5), (sm 4)) = J_X12_rule sm tm p0 from by subst k7; first | (refine Eq.symm ?_; refine Eq.trans (if_pos c8) ?_; rfl) | (unfold J_X12_rule; try dsimp only; rw [if_pos c8]))⟩ dX12_rule_8
theorem fw_X12_level_19 : Cond.fieldLink RX12 19 "StillInAugustModel" "levels" "[I" ∈ wsX12_level := by decide +kernel
theorem kJ_X12_level_69 : Cond.constantLong RX12 69 (4) ∈ wsX12_level := by decide +kernel
theorem iw_X12_level_X12 : ∀ w ∈ u_ws RX12 TX12 33, w ∈ wsX12_level := fun _ h => List.mem_cons_of_mem _ (List.mem_append_right _ h)
def J_X12_level (sm : Nat → Nat → Int32) (tm : Nat → Nat → Int64) (p0 : Int32) (p1 : Int32) : Int32 := let y6 := J_X12_isRule p0; if y6 = 0 then ((-1) : Int32) else if (J_X12_in (p1.toInt64) 0 4) = 0 then ((-1) : Int32) else ((sm 4) ((((5 : Int32) * p0) + p1)).toNatClampNeg)
set_option maxHeartbeats 4000000 in
set_option maxRecDepth 100000 in
theorem c_X12_level (l : Launch) (D : va_G) (k : Nat → ClassId) (b : Nat → Nat) (qm : Nat → Nat) (sm : Nat → Nat → Int32) (tm : Nat → Nat → Int64) (sz : Nat) (p0 : Int32) (p1 : Int32) : MetI l D k b yX12_level wsX12_level ({ frames := 2, cells := 0, slots := 0, locals := 45 } : Room) [cell22_ qm sm tm, cell5_ k qm sm, cell13_ k qm sm, cell8_ k qm sm, cell6_ k qm sm, cell15_ k qm sm, cell14_ k qm tm, cell12_ k qm tm, cell18_ k qm tm, cell17_ k qm tm, cell19_ k qm tm, cell21_ k qm tm, cell20_ k qm sm, cell16_ k qm sm, cell11_ k qm sm, cell10_ k qm sm, cell9_ k qm sm, cell7_ k qm sm] sz [.ref (qm 0), .int p0, .int p1] (fun (r : Int32) (u : Unit) => r = J_X12_level sm tm p0 p1) (fun u => [cell22_ qm sm tm, cell5_ k qm sm, cell13_ k qm sm, cell8_ k qm sm, cell6_ k qm sm, cell15_ k qm sm, cell14_ k qm tm, cell12_ k qm tm, cell18_ k qm tm, cell17_ k qm tm, cell19_ k qm tm, cell21_ k qm tm, cell20_ k qm sm, cell16_ k qm sm, cell11_ k qm sm, cell10_ k qm sm, cell9_ k qm sm, cell7_ k qm sm]) := by
  refine g_enter (cc := cX12_level) (maxL := 3) (ret := (some .int)) (by decide) rfl (Nat.le_of_ble_eq_true rfl) ?_
  intro p e s m below meth c A hsz hAe cx hr hP hD hS ls hl
  rw [hAe]
  refine g_q (fun Q hQ => ?_)
  have hx := cx.1.1
  have hb := cx.1.2.1
  have bp0 := i_rng p0
  have bp1 := i_rng p1
  have hl : lv_has ls 3 [(0, .ref (qm 0)), (1, .int p0), (2, .int p1)] := hl
  obtain ⟨H, eH⟩ : ∃ H : Heap, H = s.heap := ⟨_, rfl⟩
  obtain ⟨locs, el⟩ : ∃ L : List Loc, L = [] := ⟨_, rfl⟩
  have hP : va_P D vwCl [cell22_ qm sm tm, cell5_ k qm sm, cell13_ k qm sm, cell8_ k qm sm, cell6_ k qm sm, cell15_ k qm sm, cell14_ k qm tm, cell12_ k qm tm, cell18_ k qm tm, cell17_ k qm tm, cell19_ k qm tm, cell21_ k qm tm, cell20_ k qm sm, cell16_ k qm sm, cell11_ k qm sm, cell10_ k qm sm, cell9_ k qm sm, cell7_ k qm sm] H := by rw [eH]; exact hP
  have hD : va_D A [cell22_ qm sm tm, cell5_ k qm sm, cell13_ k qm sm, cell8_ k qm sm, cell6_ k qm sm, cell15_ k qm sm, cell14_ k qm tm, cell12_ k qm tm, cell18_ k qm tm, cell17_ k qm tm, cell19_ k qm tm, cell21_ k qm tm, cell20_ k qm sm, cell16_ k qm sm, cell11_ k qm sm, cell10_ k qm sm, cell9_ k qm sm, cell7_ k qm sm] := hD
  have hS : va_S A s.heap H locs := by rw [eH, el]; exact hS
  suffices goal : W p l e ({ frames := 2, cells := 0, slots := 0, locals := 45 } : Room) s m ([.ref (qm 0), .int p0, .int p1] : List Value).toArray below meth c H locs 0 0 Q (F0 m 0 ls []) by rw [eH, el] at goal; exact goal
  refine lv_iload_n hx hb dX12_level_0 rfl (lv_at hl 1 rfl) ?_
  refine g_ir (g_runS (wc := []) (rest := []) cx hP hD hS [] rfl (by decide) [.int p0] (c_X12_isRule l D k b H.size p0) gX12_level_X12_isRule rfl rfl rfl nd_X12_isRule ⟨Nat.le_of_ble_eq_true rfl, Nat.le_of_ble_eq_true rfl⟩ rfl hl.1 rfl (Nat.le_of_ble_eq_true rfl) ⟨Nat.zero_le _, Nat.zero_le _⟩ dX12_level_1) cx.2.2.1 hP hD hS [] rfl rfl (fun r2 H locs hw1 hP hS => ?_)
  replace hw1 : (0 ≤ r2.toInt ∧ r2.toInt ≤ 1) ∧ (Imp (r2.toInt = 1) (0 ≤ p0.toInt ∧ p0.toInt ≤ 2)) ∧ (r2 = J_X12_isRule p0) := hw1
  obtain ⟨w3, w4, w5⟩ := hw1
  have k7 : r2 = (J_X12_isRule p0) := congrArg (fun z => z) w5
  have zr2 : 0 ≤ r2.toInt ∧ r2.toInt ≤ 1 := w3
  refine lv_if_eq (tgt := 32) hx hb dX12_level_4 (by decide) (fun c8 => ?_) (fun c8 => ?_)
  · have f8 : r2.toInt = 0 := f_eq rfl (by decide) c8
    refine lv_iconst (v := (-1)) hx hb dX12_level_32 (by decide) ?_
    have hlit9 : ((-1) : Int32).toInt = -1 := by decide
    rw [hQ]
    exact x_i cx hr () hP hD hS (show ((-1) : Int32) = J_X12_level sm tm p0 p1 from by subst k7; first | (refine Eq.symm ?_; refine Eq.trans (if_pos c8) ?_; rfl) | (unfold J_X12_level; try dsimp only; rw [if_pos c8])) dX12_level_33
  · have f8 : ¬ r2.toInt = 0 := f_ne rfl (by decide) c8
    have k8 : (0 ≤ p0.toInt ∧ p0.toInt ≤ 2) := w4 (by omega)
    refine lv_iload_n hx hb dX12_level_7 rfl (lv_at hl 2 rfl) ?_
    obtain ⟨v10, e10⟩ : ∃ z : Int64, z = (p1 : Int32).toInt64 := ⟨_, rfl⟩
    refine lv_i2l (v := v10) hx hb dX12_level_8 e10.symm ?_
    refine lv_lconst (v := 0) hx hb dX12_level_9 (by decide) ?_
    refine lv_ldc2 (v := 4) hx hb cx.1.2.2.2.1 (cx.1.2.2.2.2 _ kJ_X12_level_69) dX12_level_10 ?_
    refine g_ir (g_runS (wc := []) (rest := []) cx hP hD hS [] rfl (by decide) [.long v10, .long 0, .long 4] (c_X12_in l D k b H.size v10 0 4) gX12_level_X12_in rfl rfl rfl nd_X12_in ⟨Nat.le_of_ble_eq_true rfl, Nat.le_of_ble_eq_true rfl⟩ rfl hl.1 rfl (Nat.le_of_ble_eq_true rfl) ⟨Nat.zero_le _, Nat.zero_le _⟩ dX12_level_13) cx.2.2.1 hP hD hS [] rfl rfl (fun r12 H locs hw11 hP hS => ?_)
    have w13 : r12 = J_X12_in v10 (0 : Int64) (4 : Int64) := hw11
    clear hw11
    have zr12 := in_b w13
    refine lv_if_eq (tgt := 32) hx hb dX12_level_16 (by decide) (fun c14 => ?_) (fun c14 => ?_)
    · have f14 : r12.toInt = 0 := f_eq rfl (by decide) c14
      have k14 : p1.toInt < 0 ∨ 4 < p1.toInt := in_f (i2l_t rfl e10) (by decide) (by decide) w13 c14
      refine lv_iconst (v := (-1)) hx hb dX12_level_32 (by decide) ?_
      have hlit15 : ((-1) : Int32).toInt = -1 := by decide
      rw [hQ]
      exact x_i cx hr () hP hD hS (show ((-1) : Int32) = J_X12_level sm tm p0 p1 from by subst k7 e10 w13; first | (refine Eq.symm ?_; refine Eq.trans (if_neg c8) ?_; refine Eq.trans (if_pos c14) ?_; rfl) | (unfold J_X12_level; try dsimp only; rw [if_neg c8, if_pos c14])) dX12_level_33
    · have f14 : ¬ r12.toInt = 0 := f_ne rfl (by decide) c14
      have k14 : 0 ≤ p1.toInt ∧ p1.toInt ≤ 4 := in_t (i2l_t rfl e10) (by decide) (by decide) w13 c14
      refine lv_aload_n hx hb dX12_level_19 rfl (lv_at hl 0 rfl) ?_
      refine g_get cx hP iw_X12_level_X12 0 rfl rfl 11 (by decide) rfl fw_X12_level_19 rfl dX12_level_20 ?_
      refine lv_iconst (v := 5) hx hb dX12_level_23 (by decide) ?_
      refine lv_iload_n hx hb dX12_level_24 rfl (lv_at hl 1 rfl) ?_
      refine lv_imul hx hb dX12_level_25 (lv_topi (fun v16 e16 => ?_))
      have t16 : v16.toInt = 5 * p0.toInt := by rw [e16]; exact i_mul (by decide) rfl (by omega) (by omega)
      refine lv_iload_n hx hb dX12_level_26 rfl (lv_at hl 2 rfl) ?_
      refine lv_iadd hx hb dX12_level_27 (lv_topi (fun v17 e17 => ?_))
      have t17 : v17.toInt = v16.toInt + p1.toInt := by rw [e17]; exact i_add rfl rfl (by omega) (by omega)
      have hn18 : vp_in v17 15 := f_in (a := v17.toInt) rfl (by omega) (by omega)
      refine va_iald hx hb cx.2.1 hP 4 0 rfl rfl hn18 dX12_level_28 (lv_topi (fun v19 e19 => ?_))
      refine lv_goto (tgt := 33) hx hb dX12_level_29 (by decide) ?_
      rw [hQ]
      exact x_i cx hr () hP hD hS (show v19 = J_X12_level sm tm p0 p1 from by subst k7 e10 w13 e16 e17 e19; first | (refine Eq.symm ?_; refine Eq.trans (if_neg c8) ?_; refine Eq.trans (if_neg c14) ?_; rfl) | (unfold J_X12_level; try dsimp only; rw [if_neg c8, if_neg c14])) dX12_level_33
theorem fw_X12_week_13 : Cond.fieldLink RX12 13 "StillInAugustModel" "house" "[I" ∈ wsX12_week := by decide +kernel
theorem nd_X12_isWeek : yX12_isWeek.cls = RX12 ∧ yX12_isWeek.cls ≠ "java/lang/invoke/MethodHandle" ∧ yX12_isWeek.cls ≠ "java/lang/invoke/VarHandle" ∧ (parseMethodDescriptor yX12_isWeek.desc).map (fun d => d.parameters.length) = some 1 := by decide +kernel
theorem iw_X12_week_X12 : ∀ w ∈ u_ws RX12 TX12 33, w ∈ wsX12_week := fun _ h => List.mem_cons_of_mem _ (List.mem_append_right _ h)
def J_X12_week (sm : Nat → Nat → Int32) (tm : Nat → Nat → Int64) (p0 : Int32) (p1 : Int32) : Int32 := let y6 := J_X12_isWeek sm tm p0; if y6 = 0 then ((-1) : Int32) else if p1 = 0 then ((sm 2) (((10 : Int32) + p0)).toNatClampNeg) else if p1 = 1 then ((sm 2) (((15 : Int32) + p0)).toNatClampNeg) else ((-2) : Int32)
set_option maxHeartbeats 4000000 in
set_option maxRecDepth 100000 in
theorem c_X12_week (l : Launch) (D : va_G) (k : Nat → ClassId) (b : Nat → Nat) (qm : Nat → Nat) (sm : Nat → Nat → Int32) (tm : Nat → Nat → Int64) (sz : Nat) (p0 : Int32) (p1 : Int32) (h_w0 : 0 ≤ (sm 2 0).toInt ∧ (sm 2 0).toInt ≤ 5) : MetI l D k b yX12_week wsX12_week ({ frames := 2, cells := 0, slots := 0, locals := 46 } : Room) [cell22_ qm sm tm, cell5_ k qm sm, cell13_ k qm sm, cell8_ k qm sm, cell6_ k qm sm, cell15_ k qm sm, cell14_ k qm tm, cell12_ k qm tm, cell18_ k qm tm, cell17_ k qm tm, cell19_ k qm tm, cell21_ k qm tm, cell20_ k qm sm, cell16_ k qm sm, cell11_ k qm sm, cell10_ k qm sm, cell9_ k qm sm, cell7_ k qm sm] sz [.ref (qm 0), .int p0, .int p1] (fun (r : Int32) (u : Unit) => r = J_X12_week sm tm p0 p1) (fun u => [cell22_ qm sm tm, cell5_ k qm sm, cell13_ k qm sm, cell8_ k qm sm, cell6_ k qm sm, cell15_ k qm sm, cell14_ k qm tm, cell12_ k qm tm, cell18_ k qm tm, cell17_ k qm tm, cell19_ k qm tm, cell21_ k qm tm, cell20_ k qm sm, cell16_ k qm sm, cell11_ k qm sm, cell10_ k qm sm, cell9_ k qm sm, cell7_ k qm sm]) := by
  refine g_enter (cc := cX12_week) (maxL := 3) (ret := (some .int)) (by decide) rfl (Nat.le_of_ble_eq_true rfl) ?_
  intro p e s m below meth c A hsz hAe cx hr hP hD hS ls hl
  rw [hAe]
  refine g_q (fun Q hQ => ?_)
  have hx := cx.1.1
  have hb := cx.1.2.1
  have bp0 := i_rng p0
  have bp1 := i_rng p1
  have hl : lv_has ls 3 [(0, .ref (qm 0)), (1, .int p0), (2, .int p1)] := hl
  obtain ⟨H, eH⟩ : ∃ H : Heap, H = s.heap := ⟨_, rfl⟩
  obtain ⟨locs, el⟩ : ∃ L : List Loc, L = [] := ⟨_, rfl⟩
  have hP : va_P D vwCl [cell22_ qm sm tm, cell5_ k qm sm, cell13_ k qm sm, cell8_ k qm sm, cell6_ k qm sm, cell15_ k qm sm, cell14_ k qm tm, cell12_ k qm tm, cell18_ k qm tm, cell17_ k qm tm, cell19_ k qm tm, cell21_ k qm tm, cell20_ k qm sm, cell16_ k qm sm, cell11_ k qm sm, cell10_ k qm sm, cell9_ k qm sm, cell7_ k qm sm] H := by rw [eH]; exact hP
  have hD : va_D A [cell22_ qm sm tm, cell5_ k qm sm, cell13_ k qm sm, cell8_ k qm sm, cell6_ k qm sm, cell15_ k qm sm, cell14_ k qm tm, cell12_ k qm tm, cell18_ k qm tm, cell17_ k qm tm, cell19_ k qm tm, cell21_ k qm tm, cell20_ k qm sm, cell16_ k qm sm, cell11_ k qm sm, cell10_ k qm sm, cell9_ k qm sm, cell7_ k qm sm] := hD
  have hS : va_S A s.heap H locs := by rw [eH, el]; exact hS
  suffices goal : W p l e ({ frames := 2, cells := 0, slots := 0, locals := 46 } : Room) s m ([.ref (qm 0), .int p0, .int p1] : List Value).toArray below meth c H locs 0 0 Q (F0 m 0 ls []) by rw [eH, el] at goal; exact goal
  refine lv_aload_n hx hb dX12_week_0 rfl (lv_at hl 0 rfl) ?_
  refine lv_iload_n hx hb dX12_week_1 rfl (lv_at hl 1 rfl) ?_
  refine g_iF (w1 := fun (_ : Unit) => [cell22_ qm sm tm, cell5_ k qm sm, cell13_ k qm sm, cell8_ k qm sm, cell6_ k qm sm, cell15_ k qm sm, cell14_ k qm tm, cell12_ k qm tm, cell18_ k qm tm, cell17_ k qm tm, cell19_ k qm tm, cell21_ k qm tm, cell20_ k qm sm, cell16_ k qm sm, cell11_ k qm sm, cell10_ k qm sm, cell9_ k qm sm, cell7_ k qm sm]) (g_runVF (ws := [cell22_ qm sm tm, cell5_ k qm sm, cell13_ k qm sm, cell8_ k qm sm, cell6_ k qm sm, cell15_ k qm sm, cell14_ k qm tm, cell12_ k qm tm, cell18_ k qm tm, cell17_ k qm tm, cell19_ k qm tm, cell21_ k qm tm, cell20_ k qm sm, cell16_ k qm sm, cell11_ k qm sm, cell10_ k qm sm, cell9_ k qm sm, cell7_ k qm sm]) (rest := []) cx hP hD hS [.int p0] (c_X12_isWeek l D k b qm sm tm H.size p0 (show 0 ≤ ((sm 2) 0).toInt ∧ ((sm 2) 0).toInt ≤ 5 from by first | decide | omega)) gX12_week_X12_isWeek rfl rfl rfl nd_X12_isWeek ⟨Nat.le_of_ble_eq_true rfl, Nat.le_of_ble_eq_true rfl⟩ (ci := 10) (q0 := 0) rfl rfl rfl hl.1 rfl (Nat.le_of_ble_eq_true rfl) ⟨Nat.zero_le _, Nat.zero_le _⟩ dX12_week_2) cx.2.2.1 hD hS (fun r2 _ H locs hw1 hP hD hS => ?_)
  replace hw1 : (0 ≤ r2.toInt ∧ r2.toInt ≤ 1) ∧ (Imp (r2.toInt = 1) (0 ≤ p0.toInt ∧ p0.toInt ≤ 4)) ∧ (r2 = J_X12_isWeek sm tm p0) := hw1
  obtain ⟨w3, w4, w5⟩ := hw1
  have k7 : r2 = (J_X12_isWeek sm tm p0) := congrArg (fun z => z) w5
  have zr2 : 0 ≤ r2.toInt ∧ r2.toInt ≤ 1 := w3
  refine lv_if_ne (tgt := 10) hx hb dX12_week_5 (by decide) (fun c8 => ?_) (fun c8 => ?_)
  · have f8 : ¬ r2.toInt = 0 := f_ne rfl (by decide) c8
    have k8 : (0 ≤ p0.toInt ∧ p0.toInt ≤ 4) := w4 (by omega)
    refine lv_iload_n hx hb dX12_week_10 rfl (lv_at hl 2 rfl) ?_
    refine lv_if_ne (tgt := 26) hx hb dX12_week_11 (by decide) (fun c9 => ?_) (fun c9 => ?_)
    · have f9 : ¬ p1.toInt = 0 := f_ne rfl (by decide) c9
      refine lv_iload_n hx hb dX12_week_26 rfl (lv_at hl 2 rfl) ?_
      refine lv_iconst (v := 1) hx hb dX12_week_27 (by decide) ?_
      refine lv_icmp_ne (tgt := 43) hx hb dX12_week_28 (by decide) (fun c10 => ?_) (fun c10 => ?_)
      · have f10 : ¬ p1.toInt = 1 := f_ne rfl (by decide) c10
        refine lv_bipush (v := (-2)) hx hb dX12_week_43 (by decide) ?_
        have hlit11 : ((-2) : Int32).toInt = -2 := by decide
        rw [hQ]
        exact x_i cx hr () hP hD hS (show ((-2) : Int32) = J_X12_week sm tm p0 p1 from by subst k7; first | (refine Eq.symm ?_; refine Eq.trans (if_neg c8) ?_; refine Eq.trans (if_neg c9) ?_; refine Eq.trans (if_neg c10) ?_; rfl) | (unfold J_X12_week; try dsimp only; rw [if_neg c8, if_neg c9, if_neg c10])) dX12_week_45
      · have f10 : p1.toInt = 1 := f_eq rfl (by decide) c10
        refine lv_aload_n hx hb dX12_week_31 rfl (lv_at hl 0 rfl) ?_
        refine g_get cx hP iw_X12_week_X12 0 rfl rfl 1 (by decide) rfl fw_X12_week_13 rfl dX12_week_32 ?_
        refine lv_bipush (v := 15) hx hb dX12_week_35 (by decide) ?_
        refine lv_iload_n hx hb dX12_week_37 rfl (lv_at hl 1 rfl) ?_
        refine lv_iadd hx hb dX12_week_38 (lv_topi (fun v12 e12 => ?_))
        have t12 : v12.toInt = 15 + p0.toInt := by rw [e12]; exact i_add (by decide) rfl (by omega) (by omega)
        have hn13 : vp_in v12 26 := f_in (a := v12.toInt) rfl (by omega) (by omega)
        refine va_iald hx hb cx.2.1 hP 2 0 rfl rfl hn13 dX12_week_39 (lv_topi (fun v14 e14 => ?_))
        refine lv_goto (tgt := 45) hx hb dX12_week_40 (by decide) ?_
        rw [hQ]
        exact x_i cx hr () hP hD hS (show v14 = J_X12_week sm tm p0 p1 from by subst k7 e12 e14; first | (refine Eq.symm ?_; refine Eq.trans (if_neg c8) ?_; refine Eq.trans (if_neg c9) ?_; refine Eq.trans (if_pos c10) ?_; rfl) | (unfold J_X12_week; try dsimp only; rw [if_neg c8, if_neg c9, if_pos c10])) dX12_week_45
    · have f9 : p1.toInt = 0 := f_eq rfl (by decide) c9
      refine lv_aload_n hx hb dX12_week_14 rfl (lv_at hl 0 rfl) ?_
      refine g_get cx hP iw_X12_week_X12 0 rfl rfl 1 (by decide) rfl fw_X12_week_13 rfl dX12_week_15 ?_
      refine lv_bipush (v := 10) hx hb dX12_week_18 (by decide) ?_
      refine lv_iload_n hx hb dX12_week_20 rfl (lv_at hl 1 rfl) ?_
      refine lv_iadd hx hb dX12_week_21 (lv_topi (fun v15 e15 => ?_))
      have t15 : v15.toInt = 10 + p0.toInt := by rw [e15]; exact i_add (by decide) rfl (by omega) (by omega)
      have hn16 : vp_in v15 26 := f_in (a := v15.toInt) rfl (by omega) (by omega)
      refine va_iald hx hb cx.2.1 hP 2 0 rfl rfl hn16 dX12_week_22 (lv_topi (fun v17 e17 => ?_))
      refine lv_goto (tgt := 45) hx hb dX12_week_23 (by decide) ?_
      rw [hQ]
      exact x_i cx hr () hP hD hS (show v17 = J_X12_week sm tm p0 p1 from by subst k7 e15 e17; first | (refine Eq.symm ?_; refine Eq.trans (if_neg c8) ?_; refine Eq.trans (if_pos c9) ?_; rfl) | (unfold J_X12_week; try dsimp only; rw [if_neg c8, if_pos c9])) dX12_week_45
  · have f8 : r2.toInt = 0 := f_eq rfl (by decide) c8
    refine lv_iconst (v := (-1)) hx hb dX12_week_8 (by decide) ?_
    have hlit18 : ((-1) : Int32).toInt = -1 := by decide
    rw [hQ]
    exact x_i cx hr () hP hD hS (show ((-1) : Int32) = J_X12_week sm tm p0 p1 from by subst k7; first | (refine Eq.symm ?_; refine Eq.trans (if_pos c8) ?_; rfl) | (unfold J_X12_week; try dsimp only; rw [if_pos c8])) dX12_week_9
theorem fw_X12_aged_13 : Cond.fieldLink RX12 13 "StillInAugustModel" "house" "[I" ∈ wsX12_aged := by decide +kernel
theorem kJ_X12_aged_146 : Cond.constantLong RX12 146 (2) ∈ wsX12_aged := by decide +kernel
theorem iw_X12_aged_X12 : ∀ w ∈ u_ws RX12 TX12 33, w ∈ wsX12_aged := fun _ h => List.mem_cons_of_mem _ (List.mem_append_right _ h)
def J_X12_aged (sm : Nat → Nat → Int32) (tm : Nat → Nat → Int64) (p0 : Int32) (p1 : Int32) : Int32 := if (J_X12_in (p0.toInt64) 0 2) = 0 then ((-2) : Int32) else if p1 = 0 then let y15 := J_X12_goes sm tm p0; y15 else if p1 = 1 then ((sm 2) (((23 : Int32) + p0)).toNatClampNeg) else ((-2) : Int32)
set_option maxHeartbeats 4000000 in
set_option maxRecDepth 100000 in
theorem c_X12_aged (l : Launch) (D : va_G) (k : Nat → ClassId) (b : Nat → Nat) (qm : Nat → Nat) (sm : Nat → Nat → Int32) (tm : Nat → Nat → Int64) (sz : Nat) (p0 : Int32) (p1 : Int32) : MetI l D k b yX12_aged wsX12_aged ({ frames := 1, cells := 0, slots := 0, locals := 25 } : Room) [cell22_ qm sm tm, cell5_ k qm sm, cell13_ k qm sm, cell8_ k qm sm, cell6_ k qm sm, cell15_ k qm sm, cell14_ k qm tm, cell12_ k qm tm, cell18_ k qm tm, cell17_ k qm tm, cell19_ k qm tm, cell21_ k qm tm, cell20_ k qm sm, cell16_ k qm sm, cell11_ k qm sm, cell10_ k qm sm, cell9_ k qm sm, cell7_ k qm sm] sz [.ref (qm 0), .int p0, .int p1] (fun (r : Int32) (u : Unit) => r = J_X12_aged sm tm p0 p1) (fun u => [cell22_ qm sm tm, cell5_ k qm sm, cell13_ k qm sm, cell8_ k qm sm, cell6_ k qm sm, cell15_ k qm sm, cell14_ k qm tm, cell12_ k qm tm, cell18_ k qm tm, cell17_ k qm tm, cell19_ k qm tm, cell21_ k qm tm, cell20_ k qm sm, cell16_ k qm sm, cell11_ k qm sm, cell10_ k qm sm, cell9_ k qm sm, cell7_ k qm sm]) := by
  refine g_enter (cc := cX12_aged) (maxL := 3) (ret := (some .int)) (by decide) rfl (Nat.le_of_ble_eq_true rfl) ?_
  intro p e s m below meth c A hsz hAe cx hr hP hD hS ls hl
  rw [hAe]
  refine g_q (fun Q hQ => ?_)
  have hx := cx.1.1
  have hb := cx.1.2.1
  have bp0 := i_rng p0
  have bp1 := i_rng p1
  have hl : lv_has ls 3 [(0, .ref (qm 0)), (1, .int p0), (2, .int p1)] := hl
  obtain ⟨H, eH⟩ : ∃ H : Heap, H = s.heap := ⟨_, rfl⟩
  obtain ⟨locs, el⟩ : ∃ L : List Loc, L = [] := ⟨_, rfl⟩
  have hP : va_P D vwCl [cell22_ qm sm tm, cell5_ k qm sm, cell13_ k qm sm, cell8_ k qm sm, cell6_ k qm sm, cell15_ k qm sm, cell14_ k qm tm, cell12_ k qm tm, cell18_ k qm tm, cell17_ k qm tm, cell19_ k qm tm, cell21_ k qm tm, cell20_ k qm sm, cell16_ k qm sm, cell11_ k qm sm, cell10_ k qm sm, cell9_ k qm sm, cell7_ k qm sm] H := by rw [eH]; exact hP
  have hD : va_D A [cell22_ qm sm tm, cell5_ k qm sm, cell13_ k qm sm, cell8_ k qm sm, cell6_ k qm sm, cell15_ k qm sm, cell14_ k qm tm, cell12_ k qm tm, cell18_ k qm tm, cell17_ k qm tm, cell19_ k qm tm, cell21_ k qm tm, cell20_ k qm sm, cell16_ k qm sm, cell11_ k qm sm, cell10_ k qm sm, cell9_ k qm sm, cell7_ k qm sm] := hD
  have hS : va_S A s.heap H locs := by rw [eH, el]; exact hS
  suffices goal : W p l e ({ frames := 1, cells := 0, slots := 0, locals := 25 } : Room) s m ([.ref (qm 0), .int p0, .int p1] : List Value).toArray below meth c H locs 0 0 Q (F0 m 0 ls []) by rw [eH, el] at goal; exact goal
  refine lv_iload_n hx hb dX12_aged_0 rfl (lv_at hl 1 rfl) ?_
  obtain ⟨v1, e1⟩ : ∃ z : Int64, z = (p0 : Int32).toInt64 := ⟨_, rfl⟩
  refine lv_i2l (v := v1) hx hb dX12_aged_1 e1.symm ?_
  refine lv_lconst (v := 0) hx hb dX12_aged_2 (by decide) ?_
  refine lv_ldc2 (v := 2) hx hb cx.1.2.2.2.1 (cx.1.2.2.2.2 _ kJ_X12_aged_146) dX12_aged_3 ?_
  refine g_ir (g_runS (wc := []) (rest := []) cx hP hD hS [] rfl (by decide) [.long v1, .long 0, .long 2] (c_X12_in l D k b H.size v1 0 2) gX12_aged_X12_in rfl rfl rfl nd_X12_in ⟨Nat.le_of_ble_eq_true rfl, Nat.le_of_ble_eq_true rfl⟩ rfl hl.1 rfl (Nat.le_of_ble_eq_true rfl) ⟨Nat.zero_le _, Nat.zero_le _⟩ dX12_aged_6) cx.2.2.1 hP hD hS [] rfl rfl (fun r3 H locs hw2 hP hS => ?_)
  have w4 : r3 = J_X12_in v1 (0 : Int64) (2 : Int64) := hw2
  clear hw2
  have zr3 := in_b w4
  refine lv_if_ne (tgt := 15) hx hb dX12_aged_9 (by decide) (fun c5 => ?_) (fun c5 => ?_)
  · have f5 : ¬ r3.toInt = 0 := f_ne rfl (by decide) c5
    have k5 : 0 ≤ p0.toInt ∧ p0.toInt ≤ 2 := in_t (i2l_t rfl e1) (by decide) (by decide) w4 c5
    refine lv_iload_n hx hb dX12_aged_15 rfl (lv_at hl 2 rfl) ?_
    refine lv_if_ne (tgt := 27) hx hb dX12_aged_16 (by decide) (fun c6 => ?_) (fun c6 => ?_)
    · have f6 : ¬ p1.toInt = 0 := f_ne rfl (by decide) c6
      refine lv_iload_n hx hb dX12_aged_27 rfl (lv_at hl 2 rfl) ?_
      refine lv_iconst (v := 1) hx hb dX12_aged_28 (by decide) ?_
      refine lv_icmp_ne (tgt := 44) hx hb dX12_aged_29 (by decide) (fun c7 => ?_) (fun c7 => ?_)
      · have f7 : ¬ p1.toInt = 1 := f_ne rfl (by decide) c7
        refine lv_bipush (v := (-2)) hx hb dX12_aged_44 (by decide) ?_
        have hlit8 : ((-2) : Int32).toInt = -2 := by decide
        rw [hQ]
        exact x_i cx hr () hP hD hS (show ((-2) : Int32) = J_X12_aged sm tm p0 p1 from by subst e1 w4; first | (refine Eq.symm ?_; refine Eq.trans (if_neg c5) ?_; refine Eq.trans (if_neg c6) ?_; refine Eq.trans (if_neg c7) ?_; rfl) | (unfold J_X12_aged; try dsimp only; rw [if_neg c5, if_neg c6, if_neg c7])) dX12_aged_46
      · have f7 : p1.toInt = 1 := f_eq rfl (by decide) c7
        refine lv_aload_n hx hb dX12_aged_32 rfl (lv_at hl 0 rfl) ?_
        refine g_get cx hP iw_X12_aged_X12 0 rfl rfl 1 (by decide) rfl fw_X12_aged_13 rfl dX12_aged_33 ?_
        refine lv_bipush (v := 23) hx hb dX12_aged_36 (by decide) ?_
        refine lv_iload_n hx hb dX12_aged_38 rfl (lv_at hl 1 rfl) ?_
        refine lv_iadd hx hb dX12_aged_39 (lv_topi (fun v9 e9 => ?_))
        have t9 : v9.toInt = 23 + p0.toInt := by rw [e9]; exact i_add (by decide) rfl (by omega) (by omega)
        have hn10 : vp_in v9 26 := f_in (a := v9.toInt) rfl (by omega) (by omega)
        refine va_iald hx hb cx.2.1 hP 2 0 rfl rfl hn10 dX12_aged_40 (lv_topi (fun v11 e11 => ?_))
        refine lv_goto (tgt := 46) hx hb dX12_aged_41 (by decide) ?_
        rw [hQ]
        exact x_i cx hr () hP hD hS (show v11 = J_X12_aged sm tm p0 p1 from by subst e1 w4 e9 e11; first | (refine Eq.symm ?_; refine Eq.trans (if_neg c5) ?_; refine Eq.trans (if_neg c6) ?_; refine Eq.trans (if_pos c7) ?_; rfl) | (unfold J_X12_aged; try dsimp only; rw [if_neg c5, if_neg c6, if_pos c7])) dX12_aged_46
    · have f6 : p1.toInt = 0 := f_eq rfl (by decide) c6
      refine lv_aload_n hx hb dX12_aged_19 rfl (lv_at hl 0 rfl) ?_
      refine lv_iload_n hx hb dX12_aged_20 rfl (lv_at hl 1 rfl) ?_
      refine g_iF (w1 := fun (_ : Unit) => [cell22_ qm sm tm, cell5_ k qm sm, cell13_ k qm sm, cell8_ k qm sm, cell6_ k qm sm, cell15_ k qm sm, cell14_ k qm tm, cell12_ k qm tm, cell18_ k qm tm, cell17_ k qm tm, cell19_ k qm tm, cell21_ k qm tm, cell20_ k qm sm, cell16_ k qm sm, cell11_ k qm sm, cell10_ k qm sm, cell9_ k qm sm, cell7_ k qm sm]) (g_runVF (ws := [cell22_ qm sm tm, cell5_ k qm sm, cell13_ k qm sm, cell8_ k qm sm, cell6_ k qm sm, cell15_ k qm sm, cell14_ k qm tm, cell12_ k qm tm, cell18_ k qm tm, cell17_ k qm tm, cell19_ k qm tm, cell21_ k qm tm, cell20_ k qm sm, cell16_ k qm sm, cell11_ k qm sm, cell10_ k qm sm, cell9_ k qm sm, cell7_ k qm sm]) (rest := []) cx hP hD hS [.int p0] (c_X12_goes l D k b qm sm tm H.size p0 (show 0 ≤ p0.toInt ∧ p0.toInt ≤ 2 from by first | decide | omega)) gX12_aged_X12_goes rfl rfl rfl nd_X12_goes ⟨Nat.le_of_ble_eq_true rfl, Nat.le_of_ble_eq_true rfl⟩ (ci := 10) (q0 := 0) rfl rfl rfl hl.1 rfl (Nat.le_of_ble_eq_true rfl) ⟨Nat.zero_le _, Nat.zero_le _⟩ dX12_aged_21) cx.2.2.1 hD hS (fun r13 _ H locs hw12 hP hD hS => ?_)
      have w14 : r13 = J_X12_goes sm tm p0 := hw12
      clear hw12
      have k16 : r13 = (J_X12_goes sm tm p0) := congrArg (fun z => z) w14
      refine lv_goto (tgt := 46) hx hb dX12_aged_24 (by decide) ?_
      rw [hQ]
      exact x_i cx hr () hP hD hS (show r13 = J_X12_aged sm tm p0 p1 from by subst e1 w4 k16; first | (refine Eq.symm ?_; refine Eq.trans (if_neg c5) ?_; refine Eq.trans (if_pos c6) ?_; rfl) | (unfold J_X12_aged; try dsimp only; rw [if_neg c5, if_pos c6])) dX12_aged_46
  · have f5 : r3.toInt = 0 := f_eq rfl (by decide) c5
    have k5 : p0.toInt < 0 ∨ 2 < p0.toInt := in_f (i2l_t rfl e1) (by decide) (by decide) w4 c5
    refine lv_bipush (v := (-2)) hx hb dX12_aged_12 (by decide) ?_
    have hlit17 : ((-2) : Int32).toInt = -2 := by decide
    rw [hQ]
    exact x_i cx hr () hP hD hS (show ((-2) : Int32) = J_X12_aged sm tm p0 p1 from by subst e1 w4; first | (refine Eq.symm ?_; refine Eq.trans (if_pos c5) ?_; rfl) | (unfold J_X12_aged; try dsimp only; rw [if_pos c5])) dX12_aged_14
theorem fw_X12_about_13 : Cond.fieldLink RX12 13 "StillInAugustModel" "house" "[I" ∈ wsX12_about := by decide +kernel
theorem kJ_X12_about_71 : Cond.constantLong RX12 71 (7) ∈ wsX12_about := by decide +kernel
theorem iw_X12_about_X12 : ∀ w ∈ u_ws RX12 TX12 33, w ∈ wsX12_about := fun _ h => List.mem_cons_of_mem _ (List.mem_append_right _ h)
def J_X12_about (sm : Nat → Nat → Int32) (tm : Nat → Nat → Int64) (p0 : Int32) : Int32 := if (J_X12_in (p0.toInt64) 0 7) = 0 then ((-2) : Int32) else ((sm 2) (p0).toNatClampNeg)
set_option maxHeartbeats 4000000 in
set_option maxRecDepth 100000 in
theorem c_X12_about (l : Launch) (D : va_G) (k : Nat → ClassId) (b : Nat → Nat) (qm : Nat → Nat) (sm : Nat → Nat → Int32) (tm : Nat → Nat → Int64) (sz : Nat) (p0 : Int32) : MetI l D k b yX12_about wsX12_about ({ frames := 1, cells := 0, slots := 0, locals := 25 } : Room) [cell22_ qm sm tm, cell5_ k qm sm, cell13_ k qm sm, cell8_ k qm sm, cell6_ k qm sm, cell15_ k qm sm, cell14_ k qm tm, cell12_ k qm tm, cell18_ k qm tm, cell17_ k qm tm, cell19_ k qm tm, cell21_ k qm tm, cell20_ k qm sm, cell16_ k qm sm, cell11_ k qm sm, cell10_ k qm sm, cell9_ k qm sm, cell7_ k qm sm] sz [.ref (qm 0), .int p0] (fun (r : Int32) (u : Unit) => r = J_X12_about sm tm p0) (fun u => [cell22_ qm sm tm, cell5_ k qm sm, cell13_ k qm sm, cell8_ k qm sm, cell6_ k qm sm, cell15_ k qm sm, cell14_ k qm tm, cell12_ k qm tm, cell18_ k qm tm, cell17_ k qm tm, cell19_ k qm tm, cell21_ k qm tm, cell20_ k qm sm, cell16_ k qm sm, cell11_ k qm sm, cell10_ k qm sm, cell9_ k qm sm, cell7_ k qm sm]) := by
  refine g_enter (cc := cX12_about) (maxL := 2) (ret := (some .int)) (by decide) rfl (Nat.le_of_ble_eq_true rfl) ?_
  intro p e s m below meth c A hsz hAe cx hr hP hD hS ls hl
  rw [hAe]
  refine g_q (fun Q hQ => ?_)
  have hx := cx.1.1
  have hb := cx.1.2.1
  have bp0 := i_rng p0
  have hl : lv_has ls 2 [(0, .ref (qm 0)), (1, .int p0)] := hl
  obtain ⟨H, eH⟩ : ∃ H : Heap, H = s.heap := ⟨_, rfl⟩
  obtain ⟨locs, el⟩ : ∃ L : List Loc, L = [] := ⟨_, rfl⟩
  have hP : va_P D vwCl [cell22_ qm sm tm, cell5_ k qm sm, cell13_ k qm sm, cell8_ k qm sm, cell6_ k qm sm, cell15_ k qm sm, cell14_ k qm tm, cell12_ k qm tm, cell18_ k qm tm, cell17_ k qm tm, cell19_ k qm tm, cell21_ k qm tm, cell20_ k qm sm, cell16_ k qm sm, cell11_ k qm sm, cell10_ k qm sm, cell9_ k qm sm, cell7_ k qm sm] H := by rw [eH]; exact hP
  have hD : va_D A [cell22_ qm sm tm, cell5_ k qm sm, cell13_ k qm sm, cell8_ k qm sm, cell6_ k qm sm, cell15_ k qm sm, cell14_ k qm tm, cell12_ k qm tm, cell18_ k qm tm, cell17_ k qm tm, cell19_ k qm tm, cell21_ k qm tm, cell20_ k qm sm, cell16_ k qm sm, cell11_ k qm sm, cell10_ k qm sm, cell9_ k qm sm, cell7_ k qm sm] := hD
  have hS : va_S A s.heap H locs := by rw [eH, el]; exact hS
  suffices goal : W p l e ({ frames := 1, cells := 0, slots := 0, locals := 25 } : Room) s m ([.ref (qm 0), .int p0] : List Value).toArray below meth c H locs 0 0 Q (F0 m 0 ls []) by rw [eH, el] at goal; exact goal
  refine lv_iload_n hx hb dX12_about_0 rfl (lv_at hl 1 rfl) ?_
  obtain ⟨v1, e1⟩ : ∃ z : Int64, z = (p0 : Int32).toInt64 := ⟨_, rfl⟩
  refine lv_i2l (v := v1) hx hb dX12_about_1 e1.symm ?_
  refine lv_lconst (v := 0) hx hb dX12_about_2 (by decide) ?_
  refine lv_ldc2 (v := 7) hx hb cx.1.2.2.2.1 (cx.1.2.2.2.2 _ kJ_X12_about_71) dX12_about_3 ?_
  refine g_ir (g_runS (wc := []) (rest := []) cx hP hD hS [] rfl (by decide) [.long v1, .long 0, .long 7] (c_X12_in l D k b H.size v1 0 7) gX12_about_X12_in rfl rfl rfl nd_X12_in ⟨Nat.le_of_ble_eq_true rfl, Nat.le_of_ble_eq_true rfl⟩ rfl hl.1 rfl (Nat.le_of_ble_eq_true rfl) ⟨Nat.zero_le _, Nat.zero_le _⟩ dX12_about_6) cx.2.2.1 hP hD hS [] rfl rfl (fun r3 H locs hw2 hP hS => ?_)
  have w4 : r3 = J_X12_in v1 (0 : Int64) (7 : Int64) := hw2
  clear hw2
  have zr3 := in_b w4
  refine lv_if_eq (tgt := 21) hx hb dX12_about_9 (by decide) (fun c5 => ?_) (fun c5 => ?_)
  · have f5 : r3.toInt = 0 := f_eq rfl (by decide) c5
    have k5 : p0.toInt < 0 ∨ 7 < p0.toInt := in_f (i2l_t rfl e1) (by decide) (by decide) w4 c5
    refine lv_bipush (v := (-2)) hx hb dX12_about_21 (by decide) ?_
    have hlit6 : ((-2) : Int32).toInt = -2 := by decide
    rw [hQ]
    exact x_i cx hr () hP hD hS (show ((-2) : Int32) = J_X12_about sm tm p0 from by subst e1 w4; first | (refine Eq.symm ?_; refine Eq.trans (if_pos c5) ?_; rfl) | (unfold J_X12_about; try dsimp only; rw [if_pos c5])) dX12_about_23
  · have f5 : ¬ r3.toInt = 0 := f_ne rfl (by decide) c5
    have k5 : 0 ≤ p0.toInt ∧ p0.toInt ≤ 7 := in_t (i2l_t rfl e1) (by decide) (by decide) w4 c5
    refine lv_aload_n hx hb dX12_about_12 rfl (lv_at hl 0 rfl) ?_
    refine g_get cx hP iw_X12_about_X12 0 rfl rfl 1 (by decide) rfl fw_X12_about_13 rfl dX12_about_13 ?_
    refine lv_iload_n hx hb dX12_about_16 rfl (lv_at hl 1 rfl) ?_
    have hn7 : vp_in p0 26 := f_in (a := p0.toInt) rfl (by omega) (by omega)
    refine va_iald hx hb cx.2.1 hP 2 0 rfl rfl hn7 dX12_about_17 (lv_topi (fun v8 e8 => ?_))
    refine lv_goto (tgt := 23) hx hb dX12_about_18 (by decide) ?_
    rw [hQ]
    exact x_i cx hr () hP hD hS (show v8 = J_X12_about sm tm p0 from by subst e1 w4 e8; first | (refine Eq.symm ?_; refine Eq.trans (if_neg c5) ?_; rfl) | (unfold J_X12_about; try dsimp only; rw [if_neg c5])) dX12_about_23
theorem nd_X12_after : yX12_after.cls = RX12 ∧ yX12_after.cls ≠ "java/lang/invoke/MethodHandle" ∧ yX12_after.cls ≠ "java/lang/invoke/VarHandle" ∧ (parseMethodDescriptor yX12_after.desc).map (fun d => d.parameters.length) = some 3 := by decide +kernel
theorem nd_X12_isHands : yX12_isHands.cls = RX12 ∧ yX12_isHands.cls ≠ "java/lang/invoke/MethodHandle" ∧ yX12_isHands.cls ≠ "java/lang/invoke/VarHandle" ∧ (parseMethodDescriptor yX12_isHands.desc).map (fun d => d.parameters.length) = some 1 := by decide +kernel
def J_X12_may (sm : Nat → Nat → Int32) (tm : Nat → Nat → Int64) (p0 : Int32) (p1 : Int32) (p2 : Int32) : Int32 := let y6 := J_X12_isWeek sm tm p0; if y6 = 0 then ((-1) : Int32) else let y14 := J_X12_isHands sm tm p1; if y14 = 0 then ((-2) : Int32) else if 0 ≤ p2 then let y22 := J_X12_after sm tm p0 p1 p2; if y22 = (-9) then (0 : Int32) else (1 : Int32) else ((-2) : Int32)
set_option maxHeartbeats 4000000 in
set_option maxRecDepth 100000 in
theorem c_X12_may (l : Launch) (D : va_G) (k : Nat → ClassId) (b : Nat → Nat) (qm : Nat → Nat) (sm : Nat → Nat → Int32) (tm : Nat → Nat → Int64) (sz : Nat) (p0 : Int32) (p1 : Int32) (p2 : Int32) (h_w0 : 0 ≤ (sm 2 0).toInt ∧ (sm 2 0).toInt ≤ 5) (h_k1 : 0 ≤ (sm 2 1).toInt ∧ (sm 2 1).toInt ≤ 4) : MetI l D k b yX12_may wsX12_may ({ frames := 2, cells := 0, slots := 0, locals := 55 } : Room) [cell22_ qm sm tm, cell5_ k qm sm, cell13_ k qm sm, cell8_ k qm sm, cell6_ k qm sm, cell15_ k qm sm, cell14_ k qm tm, cell12_ k qm tm, cell18_ k qm tm, cell17_ k qm tm, cell19_ k qm tm, cell21_ k qm tm, cell20_ k qm sm, cell16_ k qm sm, cell11_ k qm sm, cell10_ k qm sm, cell9_ k qm sm, cell7_ k qm sm] sz [.ref (qm 0), .int p0, .int p1, .int p2] (fun (r : Int32) (u : Unit) => r = J_X12_may sm tm p0 p1 p2) (fun u => [cell22_ qm sm tm, cell5_ k qm sm, cell13_ k qm sm, cell8_ k qm sm, cell6_ k qm sm, cell15_ k qm sm, cell14_ k qm tm, cell12_ k qm tm, cell18_ k qm tm, cell17_ k qm tm, cell19_ k qm tm, cell21_ k qm tm, cell20_ k qm sm, cell16_ k qm sm, cell11_ k qm sm, cell10_ k qm sm, cell9_ k qm sm, cell7_ k qm sm]) := by
  refine g_enter (cc := cX12_may) (maxL := 4) (ret := (some .int)) (by decide) rfl (Nat.le_of_ble_eq_true rfl) ?_
  intro p e s m below meth c A hsz hAe cx hr hP hD hS ls hl
  rw [hAe]
  refine g_q (fun Q hQ => ?_)
  have hx := cx.1.1
  have hb := cx.1.2.1
  have bp0 := i_rng p0
  have bp1 := i_rng p1
  have bp2 := i_rng p2
  have hl : lv_has ls 4 [(0, .ref (qm 0)), (1, .int p0), (2, .int p1), (3, .int p2)] := hl
  obtain ⟨H, eH⟩ : ∃ H : Heap, H = s.heap := ⟨_, rfl⟩
  obtain ⟨locs, el⟩ : ∃ L : List Loc, L = [] := ⟨_, rfl⟩
  have hP : va_P D vwCl [cell22_ qm sm tm, cell5_ k qm sm, cell13_ k qm sm, cell8_ k qm sm, cell6_ k qm sm, cell15_ k qm sm, cell14_ k qm tm, cell12_ k qm tm, cell18_ k qm tm, cell17_ k qm tm, cell19_ k qm tm, cell21_ k qm tm, cell20_ k qm sm, cell16_ k qm sm, cell11_ k qm sm, cell10_ k qm sm, cell9_ k qm sm, cell7_ k qm sm] H := by rw [eH]; exact hP
  have hD : va_D A [cell22_ qm sm tm, cell5_ k qm sm, cell13_ k qm sm, cell8_ k qm sm, cell6_ k qm sm, cell15_ k qm sm, cell14_ k qm tm, cell12_ k qm tm, cell18_ k qm tm, cell17_ k qm tm, cell19_ k qm tm, cell21_ k qm tm, cell20_ k qm sm, cell16_ k qm sm, cell11_ k qm sm, cell10_ k qm sm, cell9_ k qm sm, cell7_ k qm sm] := hD
  have hS : va_S A s.heap H locs := by rw [eH, el]; exact hS
  suffices goal : W p l e ({ frames := 2, cells := 0, slots := 0, locals := 55 } : Room) s m ([.ref (qm 0), .int p0, .int p1, .int p2] : List Value).toArray below meth c H locs 0 0 Q (F0 m 0 ls []) by rw [eH, el] at goal; exact goal
  refine lv_aload_n hx hb dX12_may_0 rfl (lv_at hl 0 rfl) ?_
  refine lv_iload_n hx hb dX12_may_1 rfl (lv_at hl 1 rfl) ?_
  refine g_iF (w1 := fun (_ : Unit) => [cell22_ qm sm tm, cell5_ k qm sm, cell13_ k qm sm, cell8_ k qm sm, cell6_ k qm sm, cell15_ k qm sm, cell14_ k qm tm, cell12_ k qm tm, cell18_ k qm tm, cell17_ k qm tm, cell19_ k qm tm, cell21_ k qm tm, cell20_ k qm sm, cell16_ k qm sm, cell11_ k qm sm, cell10_ k qm sm, cell9_ k qm sm, cell7_ k qm sm]) (g_runVF (ws := [cell22_ qm sm tm, cell5_ k qm sm, cell13_ k qm sm, cell8_ k qm sm, cell6_ k qm sm, cell15_ k qm sm, cell14_ k qm tm, cell12_ k qm tm, cell18_ k qm tm, cell17_ k qm tm, cell19_ k qm tm, cell21_ k qm tm, cell20_ k qm sm, cell16_ k qm sm, cell11_ k qm sm, cell10_ k qm sm, cell9_ k qm sm, cell7_ k qm sm]) (rest := []) cx hP hD hS [.int p0] (c_X12_isWeek l D k b qm sm tm H.size p0 (show 0 ≤ ((sm 2) 0).toInt ∧ ((sm 2) 0).toInt ≤ 5 from by first | decide | omega)) gX12_may_X12_isWeek rfl rfl rfl nd_X12_isWeek ⟨Nat.le_of_ble_eq_true rfl, Nat.le_of_ble_eq_true rfl⟩ (ci := 10) (q0 := 0) rfl rfl rfl hl.1 rfl (Nat.le_of_ble_eq_true rfl) ⟨Nat.zero_le _, Nat.zero_le _⟩ dX12_may_2) cx.2.2.1 hD hS (fun r2 _ H locs hw1 hP hD hS => ?_)
  replace hw1 : (0 ≤ r2.toInt ∧ r2.toInt ≤ 1) ∧ (Imp (r2.toInt = 1) (0 ≤ p0.toInt ∧ p0.toInt ≤ 4)) ∧ (r2 = J_X12_isWeek sm tm p0) := hw1
  obtain ⟨w3, w4, w5⟩ := hw1
  have k7 : r2 = (J_X12_isWeek sm tm p0) := congrArg (fun z => z) w5
  have zr2 : 0 ≤ r2.toInt ∧ r2.toInt ≤ 1 := w3
  refine lv_if_ne (tgt := 10) hx hb dX12_may_5 (by decide) (fun c8 => ?_) (fun c8 => ?_)
  · have f8 : ¬ r2.toInt = 0 := f_ne rfl (by decide) c8
    have k8 : (0 ≤ p0.toInt ∧ p0.toInt ≤ 4) := w4 (by omega)
    refine lv_aload_n hx hb dX12_may_10 rfl (lv_at hl 0 rfl) ?_
    refine lv_iload_n hx hb dX12_may_11 rfl (lv_at hl 2 rfl) ?_
    refine g_iF (w1 := fun (_ : Unit) => [cell22_ qm sm tm, cell5_ k qm sm, cell13_ k qm sm, cell8_ k qm sm, cell6_ k qm sm, cell15_ k qm sm, cell14_ k qm tm, cell12_ k qm tm, cell18_ k qm tm, cell17_ k qm tm, cell19_ k qm tm, cell21_ k qm tm, cell20_ k qm sm, cell16_ k qm sm, cell11_ k qm sm, cell10_ k qm sm, cell9_ k qm sm, cell7_ k qm sm]) (g_runVF (ws := [cell22_ qm sm tm, cell5_ k qm sm, cell13_ k qm sm, cell8_ k qm sm, cell6_ k qm sm, cell15_ k qm sm, cell14_ k qm tm, cell12_ k qm tm, cell18_ k qm tm, cell17_ k qm tm, cell19_ k qm tm, cell21_ k qm tm, cell20_ k qm sm, cell16_ k qm sm, cell11_ k qm sm, cell10_ k qm sm, cell9_ k qm sm, cell7_ k qm sm]) (rest := []) cx hP hD hS [.int p1] (c_X12_isHands l D k b qm sm tm H.size p1 (show 0 ≤ ((sm 2) 1).toInt ∧ ((sm 2) 1).toInt ≤ 4 from by first | decide | omega)) gX12_may_X12_isHands rfl rfl rfl nd_X12_isHands ⟨Nat.le_of_ble_eq_true rfl, Nat.le_of_ble_eq_true rfl⟩ (ci := 10) (q0 := 0) rfl rfl rfl hl.1 rfl (Nat.le_of_ble_eq_true rfl) ⟨Nat.zero_le _, Nat.zero_le _⟩ dX12_may_12) cx.2.2.1 hD hS (fun r10 _ H locs hw9 hP hD hS => ?_)
    replace hw9 : (0 ≤ r10.toInt ∧ r10.toInt ≤ 1) ∧ (Imp (r10.toInt = 1) (0 ≤ p1.toInt ∧ p1.toInt ≤ 400)) ∧ (r10 = J_X12_isHands sm tm p1) := hw9
    obtain ⟨w11, w12, w13⟩ := hw9
    have k15 : r10 = (J_X12_isHands sm tm p1) := congrArg (fun z => z) w13
    have zr10 : 0 ≤ r10.toInt ∧ r10.toInt ≤ 1 := w11
    refine lv_if_eq (tgt := 22) hx hb dX12_may_15 (by decide) (fun c16 => ?_) (fun c16 => ?_)
    · have f16 : r10.toInt = 0 := f_eq rfl (by decide) c16
      refine lv_bipush (v := (-2)) hx hb dX12_may_22 (by decide) ?_
      refine lv_goto (tgt := 44) hx hb dX12_may_24 (by decide) ?_
      have hlit17 : ((-2) : Int32).toInt = -2 := by decide
      rw [hQ]
      exact x_i cx hr () hP hD hS (show ((-2) : Int32) = J_X12_may sm tm p0 p1 p2 from by subst k7 k15; first | (refine Eq.symm ?_; refine Eq.trans (if_neg c8) ?_; refine Eq.trans (if_pos c16) ?_; rfl) | (unfold J_X12_may; try dsimp only; rw [if_neg c8, if_pos c16])) dX12_may_44
    · have f16 : ¬ r10.toInt = 0 := f_ne rfl (by decide) c16
      have k16 : (0 ≤ p1.toInt ∧ p1.toInt ≤ 400) := w12 (by omega)
      refine lv_iload_n hx hb dX12_may_18 rfl (lv_at hl 3 rfl) ?_
      refine lv_if_ge (tgt := 27) hx hb dX12_may_19 (by decide) (fun c18 => ?_) (fun c18 => ?_)
      · have f18 : 0 ≤ p2.toInt := f_le (by decide) rfl c18
        refine lv_aload_n hx hb dX12_may_27 rfl (lv_at hl 0 rfl) ?_
        refine lv_iload_n hx hb dX12_may_28 rfl (lv_at hl 1 rfl) ?_
        refine lv_iload_n hx hb dX12_may_29 rfl (lv_at hl 2 rfl) ?_
        refine lv_iload_n hx hb dX12_may_30 rfl (lv_at hl 3 rfl) ?_
        refine g_iF (w1 := fun (_ : Unit) => [cell22_ qm sm tm, cell5_ k qm sm, cell13_ k qm sm, cell8_ k qm sm, cell6_ k qm sm, cell15_ k qm sm, cell14_ k qm tm, cell12_ k qm tm, cell18_ k qm tm, cell17_ k qm tm, cell19_ k qm tm, cell21_ k qm tm, cell20_ k qm sm, cell16_ k qm sm, cell11_ k qm sm, cell10_ k qm sm, cell9_ k qm sm, cell7_ k qm sm]) (g_runVF (ws := [cell22_ qm sm tm, cell5_ k qm sm, cell13_ k qm sm, cell8_ k qm sm, cell6_ k qm sm, cell15_ k qm sm, cell14_ k qm tm, cell12_ k qm tm, cell18_ k qm tm, cell17_ k qm tm, cell19_ k qm tm, cell21_ k qm tm, cell20_ k qm sm, cell16_ k qm sm, cell11_ k qm sm, cell10_ k qm sm, cell9_ k qm sm, cell7_ k qm sm]) (rest := []) cx hP hD hS [.int p0, .int p1, .int p2] (c_X12_after l D k b qm sm tm H.size p0 p1 p2 (show 0 ≤ ((sm 2) 0).toInt ∧ ((sm 2) 0).toInt ≤ 5 from by first | decide | omega) (show 0 ≤ p0.toInt ∧ p0.toInt ≤ 4 from by first | decide | omega)) gX12_may_X12_after rfl rfl rfl nd_X12_after ⟨Nat.le_of_ble_eq_true rfl, Nat.le_of_ble_eq_true rfl⟩ (ci := 10) (q0 := 0) rfl rfl rfl hl.1 rfl (Nat.le_of_ble_eq_true rfl) ⟨Nat.zero_le _, Nat.zero_le _⟩ dX12_may_31) cx.2.2.1 hD hS (fun r20 _ H locs hw19 hP hD hS => ?_)
        have w21 : r20 = J_X12_after sm tm p0 p1 p2 := hw19
        clear hw19
        have k23 : r20 = (J_X12_after sm tm p0 p1 p2) := congrArg (fun z => z) w21
        refine lv_bipush (v := (-9)) hx hb dX12_may_34 (by decide) ?_
        refine lv_icmp_ne (tgt := 43) hx hb dX12_may_36 (by decide) (fun c24 => ?_) (fun c24 => ?_)
        · have f24 : ¬ r20.toInt = (-9) := f_ne rfl (by decide) c24
          refine lv_iconst (v := 1) hx hb dX12_may_43 (by decide) ?_
          have hlit25 : (1 : Int32).toInt = 1 := by decide
          rw [hQ]
          exact x_i cx hr () hP hD hS (show (1 : Int32) = J_X12_may sm tm p0 p1 p2 from by subst k7 k15 k23; first | (refine Eq.symm ?_; refine Eq.trans (if_neg c8) ?_; refine Eq.trans (if_neg c16) ?_; refine Eq.trans (if_pos c18) ?_; refine Eq.trans (if_neg c24) ?_; rfl) | (unfold J_X12_may; try dsimp only; rw [if_neg c8, if_neg c16, if_pos c18, if_neg c24])) dX12_may_44
        · have f24 : r20.toInt = (-9) := f_eq rfl (by decide) c24
          refine lv_iconst (v := 0) hx hb dX12_may_39 (by decide) ?_
          refine lv_goto (tgt := 44) hx hb dX12_may_40 (by decide) ?_
          have hlit26 : (0 : Int32).toInt = 0 := by decide
          rw [hQ]
          exact x_i cx hr () hP hD hS (show (0 : Int32) = J_X12_may sm tm p0 p1 p2 from by subst k7 k15 k23; first | (refine Eq.symm ?_; refine Eq.trans (if_neg c8) ?_; refine Eq.trans (if_neg c16) ?_; refine Eq.trans (if_pos c18) ?_; refine Eq.trans (if_pos c24) ?_; rfl) | (unfold J_X12_may; try dsimp only; rw [if_neg c8, if_neg c16, if_pos c18, if_pos c24])) dX12_may_44
      · have f18 : p2.toInt < 0 := f_nle (by decide) rfl c18
        refine lv_bipush (v := (-2)) hx hb dX12_may_22 (by decide) ?_
        refine lv_goto (tgt := 44) hx hb dX12_may_24 (by decide) ?_
        have hlit27 : ((-2) : Int32).toInt = -2 := by decide
        rw [hQ]
        exact x_i cx hr () hP hD hS (show ((-2) : Int32) = J_X12_may sm tm p0 p1 p2 from by subst k7 k15; first | (refine Eq.symm ?_; refine Eq.trans (if_neg c8) ?_; refine Eq.trans (if_neg c16) ?_; refine Eq.trans (if_neg c18) ?_; rfl) | (unfold J_X12_may; try dsimp only; rw [if_neg c8, if_neg c16, if_neg c18])) dX12_may_44
  · have f8 : r2.toInt = 0 := f_eq rfl (by decide) c8
    refine lv_iconst (v := (-1)) hx hb dX12_may_8 (by decide) ?_
    have hlit28 : ((-1) : Int32).toInt = -1 := by decide
    rw [hQ]
    exact x_i cx hr () hP hD hS (show ((-1) : Int32) = J_X12_may sm tm p0 p1 p2 from by subst k7; first | (refine Eq.symm ?_; refine Eq.trans (if_pos c8) ?_; rfl) | (unfold J_X12_may; try dsimp only; rw [if_pos c8])) dX12_may_9
def J_X12_then (sm : Nat → Nat → Int32) (tm : Nat → Nat → Int64) (p0 : Int32) (p1 : Int32) (p2 : Int32) : Int32 := let y6 := J_X12_isWeek sm tm p0; if y6 = 0 then ((-1) : Int32) else let y14 := J_X12_isHands sm tm p1; if y14 = 0 then ((-2) : Int32) else if 0 ≤ p2 then let y22 := J_X12_after sm tm p0 p1 p2; if y22 = (-9) then ((-3) : Int32) else y22 else ((-2) : Int32)
set_option maxHeartbeats 4000000 in
set_option maxRecDepth 100000 in
theorem c_X12_then (l : Launch) (D : va_G) (k : Nat → ClassId) (b : Nat → Nat) (qm : Nat → Nat) (sm : Nat → Nat → Int32) (tm : Nat → Nat → Int64) (sz : Nat) (p0 : Int32) (p1 : Int32) (p2 : Int32) (h_w0 : 0 ≤ (sm 2 0).toInt ∧ (sm 2 0).toInt ≤ 5) (h_k1 : 0 ≤ (sm 2 1).toInt ∧ (sm 2 1).toInt ≤ 4) : MetI l D k b yX12_then wsX12_then ({ frames := 2, cells := 0, slots := 0, locals := 55 } : Room) [cell22_ qm sm tm, cell5_ k qm sm, cell13_ k qm sm, cell8_ k qm sm, cell6_ k qm sm, cell15_ k qm sm, cell14_ k qm tm, cell12_ k qm tm, cell18_ k qm tm, cell17_ k qm tm, cell19_ k qm tm, cell21_ k qm tm, cell20_ k qm sm, cell16_ k qm sm, cell11_ k qm sm, cell10_ k qm sm, cell9_ k qm sm, cell7_ k qm sm] sz [.ref (qm 0), .int p0, .int p1, .int p2] (fun (r : Int32) (u : Unit) => r = J_X12_then sm tm p0 p1 p2) (fun u => [cell22_ qm sm tm, cell5_ k qm sm, cell13_ k qm sm, cell8_ k qm sm, cell6_ k qm sm, cell15_ k qm sm, cell14_ k qm tm, cell12_ k qm tm, cell18_ k qm tm, cell17_ k qm tm, cell19_ k qm tm, cell21_ k qm tm, cell20_ k qm sm, cell16_ k qm sm, cell11_ k qm sm, cell10_ k qm sm, cell9_ k qm sm, cell7_ k qm sm]) := by
  refine g_enter (cc := cX12_then) (maxL := 5) (ret := (some .int)) (by decide) rfl (Nat.le_of_ble_eq_true rfl) ?_
  intro p e s m below meth c A hsz hAe cx hr hP hD hS ls hl
  rw [hAe]
  refine g_q (fun Q hQ => ?_)
  have hx := cx.1.1
  have hb := cx.1.2.1
  have bp0 := i_rng p0
  have bp1 := i_rng p1
  have bp2 := i_rng p2
  have hl : lv_has ls 5 [(0, .ref (qm 0)), (1, .int p0), (2, .int p1), (3, .int p2)] := hl
  obtain ⟨H, eH⟩ : ∃ H : Heap, H = s.heap := ⟨_, rfl⟩
  obtain ⟨locs, el⟩ : ∃ L : List Loc, L = [] := ⟨_, rfl⟩
  have hP : va_P D vwCl [cell22_ qm sm tm, cell5_ k qm sm, cell13_ k qm sm, cell8_ k qm sm, cell6_ k qm sm, cell15_ k qm sm, cell14_ k qm tm, cell12_ k qm tm, cell18_ k qm tm, cell17_ k qm tm, cell19_ k qm tm, cell21_ k qm tm, cell20_ k qm sm, cell16_ k qm sm, cell11_ k qm sm, cell10_ k qm sm, cell9_ k qm sm, cell7_ k qm sm] H := by rw [eH]; exact hP
  have hD : va_D A [cell22_ qm sm tm, cell5_ k qm sm, cell13_ k qm sm, cell8_ k qm sm, cell6_ k qm sm, cell15_ k qm sm, cell14_ k qm tm, cell12_ k qm tm, cell18_ k qm tm, cell17_ k qm tm, cell19_ k qm tm, cell21_ k qm tm, cell20_ k qm sm, cell16_ k qm sm, cell11_ k qm sm, cell10_ k qm sm, cell9_ k qm sm, cell7_ k qm sm] := hD
  have hS : va_S A s.heap H locs := by rw [eH, el]; exact hS
  suffices goal : W p l e ({ frames := 2, cells := 0, slots := 0, locals := 55 } : Room) s m ([.ref (qm 0), .int p0, .int p1, .int p2] : List Value).toArray below meth c H locs 0 0 Q (F0 m 0 ls []) by rw [eH, el] at goal; exact goal
  refine lv_aload_n hx hb dX12_then_0 rfl (lv_at hl 0 rfl) ?_
  refine lv_iload_n hx hb dX12_then_1 rfl (lv_at hl 1 rfl) ?_
  refine g_iF (w1 := fun (_ : Unit) => [cell22_ qm sm tm, cell5_ k qm sm, cell13_ k qm sm, cell8_ k qm sm, cell6_ k qm sm, cell15_ k qm sm, cell14_ k qm tm, cell12_ k qm tm, cell18_ k qm tm, cell17_ k qm tm, cell19_ k qm tm, cell21_ k qm tm, cell20_ k qm sm, cell16_ k qm sm, cell11_ k qm sm, cell10_ k qm sm, cell9_ k qm sm, cell7_ k qm sm]) (g_runVF (ws := [cell22_ qm sm tm, cell5_ k qm sm, cell13_ k qm sm, cell8_ k qm sm, cell6_ k qm sm, cell15_ k qm sm, cell14_ k qm tm, cell12_ k qm tm, cell18_ k qm tm, cell17_ k qm tm, cell19_ k qm tm, cell21_ k qm tm, cell20_ k qm sm, cell16_ k qm sm, cell11_ k qm sm, cell10_ k qm sm, cell9_ k qm sm, cell7_ k qm sm]) (rest := []) cx hP hD hS [.int p0] (c_X12_isWeek l D k b qm sm tm H.size p0 (show 0 ≤ ((sm 2) 0).toInt ∧ ((sm 2) 0).toInt ≤ 5 from by first | decide | omega)) gX12_then_X12_isWeek rfl rfl rfl nd_X12_isWeek ⟨Nat.le_of_ble_eq_true rfl, Nat.le_of_ble_eq_true rfl⟩ (ci := 10) (q0 := 0) rfl rfl rfl hl.1 rfl (Nat.le_of_ble_eq_true rfl) ⟨Nat.zero_le _, Nat.zero_le _⟩ dX12_then_2) cx.2.2.1 hD hS (fun r2 _ H locs hw1 hP hD hS => ?_)
  replace hw1 : (0 ≤ r2.toInt ∧ r2.toInt ≤ 1) ∧ (Imp (r2.toInt = 1) (0 ≤ p0.toInt ∧ p0.toInt ≤ 4)) ∧ (r2 = J_X12_isWeek sm tm p0) := hw1
  obtain ⟨w3, w4, w5⟩ := hw1
  have k7 : r2 = (J_X12_isWeek sm tm p0) := congrArg (fun z => z) w5
  have zr2 : 0 ≤ r2.toInt ∧ r2.toInt ≤ 1 := w3
  refine lv_if_ne (tgt := 10) hx hb dX12_then_5 (by decide) (fun c8 => ?_) (fun c8 => ?_)
  · have f8 : ¬ r2.toInt = 0 := f_ne rfl (by decide) c8
    have k8 : (0 ≤ p0.toInt ∧ p0.toInt ≤ 4) := w4 (by omega)
    refine lv_aload_n hx hb dX12_then_10 rfl (lv_at hl 0 rfl) ?_
    refine lv_iload_n hx hb dX12_then_11 rfl (lv_at hl 2 rfl) ?_
    refine g_iF (w1 := fun (_ : Unit) => [cell22_ qm sm tm, cell5_ k qm sm, cell13_ k qm sm, cell8_ k qm sm, cell6_ k qm sm, cell15_ k qm sm, cell14_ k qm tm, cell12_ k qm tm, cell18_ k qm tm, cell17_ k qm tm, cell19_ k qm tm, cell21_ k qm tm, cell20_ k qm sm, cell16_ k qm sm, cell11_ k qm sm, cell10_ k qm sm, cell9_ k qm sm, cell7_ k qm sm]) (g_runVF (ws := [cell22_ qm sm tm, cell5_ k qm sm, cell13_ k qm sm, cell8_ k qm sm, cell6_ k qm sm, cell15_ k qm sm, cell14_ k qm tm, cell12_ k qm tm, cell18_ k qm tm, cell17_ k qm tm, cell19_ k qm tm, cell21_ k qm tm, cell20_ k qm sm, cell16_ k qm sm, cell11_ k qm sm, cell10_ k qm sm, cell9_ k qm sm, cell7_ k qm sm]) (rest := []) cx hP hD hS [.int p1] (c_X12_isHands l D k b qm sm tm H.size p1 (show 0 ≤ ((sm 2) 1).toInt ∧ ((sm 2) 1).toInt ≤ 4 from by first | decide | omega)) gX12_then_X12_isHands rfl rfl rfl nd_X12_isHands ⟨Nat.le_of_ble_eq_true rfl, Nat.le_of_ble_eq_true rfl⟩ (ci := 10) (q0 := 0) rfl rfl rfl hl.1 rfl (Nat.le_of_ble_eq_true rfl) ⟨Nat.zero_le _, Nat.zero_le _⟩ dX12_then_12) cx.2.2.1 hD hS (fun r10 _ H locs hw9 hP hD hS => ?_)
    replace hw9 : (0 ≤ r10.toInt ∧ r10.toInt ≤ 1) ∧ (Imp (r10.toInt = 1) (0 ≤ p1.toInt ∧ p1.toInt ≤ 400)) ∧ (r10 = J_X12_isHands sm tm p1) := hw9
    obtain ⟨w11, w12, w13⟩ := hw9
    have k15 : r10 = (J_X12_isHands sm tm p1) := congrArg (fun z => z) w13
    have zr10 : 0 ≤ r10.toInt ∧ r10.toInt ≤ 1 := w11
    refine lv_if_eq (tgt := 22) hx hb dX12_then_15 (by decide) (fun c16 => ?_) (fun c16 => ?_)
    · have f16 : r10.toInt = 0 := f_eq rfl (by decide) c16
      refine lv_bipush (v := (-2)) hx hb dX12_then_22 (by decide) ?_
      have hlit17 : ((-2) : Int32).toInt = -2 := by decide
      rw [hQ]
      exact x_i cx hr () hP hD hS (show ((-2) : Int32) = J_X12_then sm tm p0 p1 p2 from by subst k7 k15; first | (refine Eq.symm ?_; refine Eq.trans (if_neg c8) ?_; refine Eq.trans (if_pos c16) ?_; rfl) | (unfold J_X12_then; try dsimp only; rw [if_neg c8, if_pos c16])) dX12_then_24
    · have f16 : ¬ r10.toInt = 0 := f_ne rfl (by decide) c16
      have k16 : (0 ≤ p1.toInt ∧ p1.toInt ≤ 400) := w12 (by omega)
      refine lv_iload_n hx hb dX12_then_18 rfl (lv_at hl 3 rfl) ?_
      refine lv_if_ge (tgt := 25) hx hb dX12_then_19 (by decide) (fun c18 => ?_) (fun c18 => ?_)
      · have f18 : 0 ≤ p2.toInt := f_le (by decide) rfl c18
        refine lv_aload_n hx hb dX12_then_25 rfl (lv_at hl 0 rfl) ?_
        refine lv_iload_n hx hb dX12_then_26 rfl (lv_at hl 1 rfl) ?_
        refine lv_iload_n hx hb dX12_then_27 rfl (lv_at hl 2 rfl) ?_
        refine lv_iload_n hx hb dX12_then_28 rfl (lv_at hl 3 rfl) ?_
        refine g_iF (w1 := fun (_ : Unit) => [cell22_ qm sm tm, cell5_ k qm sm, cell13_ k qm sm, cell8_ k qm sm, cell6_ k qm sm, cell15_ k qm sm, cell14_ k qm tm, cell12_ k qm tm, cell18_ k qm tm, cell17_ k qm tm, cell19_ k qm tm, cell21_ k qm tm, cell20_ k qm sm, cell16_ k qm sm, cell11_ k qm sm, cell10_ k qm sm, cell9_ k qm sm, cell7_ k qm sm]) (g_runVF (ws := [cell22_ qm sm tm, cell5_ k qm sm, cell13_ k qm sm, cell8_ k qm sm, cell6_ k qm sm, cell15_ k qm sm, cell14_ k qm tm, cell12_ k qm tm, cell18_ k qm tm, cell17_ k qm tm, cell19_ k qm tm, cell21_ k qm tm, cell20_ k qm sm, cell16_ k qm sm, cell11_ k qm sm, cell10_ k qm sm, cell9_ k qm sm, cell7_ k qm sm]) (rest := []) cx hP hD hS [.int p0, .int p1, .int p2] (c_X12_after l D k b qm sm tm H.size p0 p1 p2 (show 0 ≤ ((sm 2) 0).toInt ∧ ((sm 2) 0).toInt ≤ 5 from by first | decide | omega) (show 0 ≤ p0.toInt ∧ p0.toInt ≤ 4 from by first | decide | omega)) gX12_then_X12_after rfl rfl rfl nd_X12_after ⟨Nat.le_of_ble_eq_true rfl, Nat.le_of_ble_eq_true rfl⟩ (ci := 10) (q0 := 0) rfl rfl rfl hl.1 rfl (Nat.le_of_ble_eq_true rfl) ⟨Nat.zero_le _, Nat.zero_le _⟩ dX12_then_29) cx.2.2.1 hD hS (fun r20 _ H locs hw19 hP hD hS => ?_)
        have w21 : r20 = J_X12_after sm tm p0 p1 p2 := hw19
        clear hw19
        have k23 : r20 = (J_X12_after sm tm p0 p1 p2) := congrArg (fun z => z) w21
        refine lv_istore (lv' := [(4, .int r20), (0, .ref (qm 0)), (1, .int p0), (2, .int p1), (3, .int p2)]) hx hb dX12_then_32 hl (by decide) rfl (fun ls hl => ?_)
        refine lv_iload hx hb dX12_then_34 (lv_at hl 0 rfl) ?_
        refine lv_bipush (v := (-9)) hx hb dX12_then_36 (by decide) ?_
        refine lv_icmp_ne (tgt := 46) hx hb dX12_then_38 (by decide) (fun c24 => ?_) (fun c24 => ?_)
        · have f24 : ¬ r20.toInt = (-9) := f_ne rfl (by decide) c24
          refine lv_iload hx hb dX12_then_46 (lv_at hl 0 rfl) ?_
          rw [hQ]
          exact x_i cx hr () hP hD hS (show r20 = J_X12_then sm tm p0 p1 p2 from by subst k7 k15 k23; first | (refine Eq.symm ?_; refine Eq.trans (if_neg c8) ?_; refine Eq.trans (if_neg c16) ?_; refine Eq.trans (if_pos c18) ?_; refine Eq.trans (if_neg c24) ?_; rfl) | (unfold J_X12_then; try dsimp only; rw [if_neg c8, if_neg c16, if_pos c18, if_neg c24])) dX12_then_48
        · have f24 : r20.toInt = (-9) := f_eq rfl (by decide) c24
          refine lv_bipush (v := (-3)) hx hb dX12_then_41 (by decide) ?_
          refine lv_goto (tgt := 48) hx hb dX12_then_43 (by decide) ?_
          have hlit25 : ((-3) : Int32).toInt = -3 := by decide
          rw [hQ]
          exact x_i cx hr () hP hD hS (show ((-3) : Int32) = J_X12_then sm tm p0 p1 p2 from by subst k7 k15 k23; first | (refine Eq.symm ?_; refine Eq.trans (if_neg c8) ?_; refine Eq.trans (if_neg c16) ?_; refine Eq.trans (if_pos c18) ?_; refine Eq.trans (if_pos c24) ?_; rfl) | (unfold J_X12_then; try dsimp only; rw [if_neg c8, if_neg c16, if_pos c18, if_pos c24])) dX12_then_48
      · have f18 : p2.toInt < 0 := f_nle (by decide) rfl c18
        refine lv_bipush (v := (-2)) hx hb dX12_then_22 (by decide) ?_
        have hlit26 : ((-2) : Int32).toInt = -2 := by decide
        rw [hQ]
        exact x_i cx hr () hP hD hS (show ((-2) : Int32) = J_X12_then sm tm p0 p1 p2 from by subst k7 k15; first | (refine Eq.symm ?_; refine Eq.trans (if_neg c8) ?_; refine Eq.trans (if_neg c16) ?_; refine Eq.trans (if_neg c18) ?_; rfl) | (unfold J_X12_then; try dsimp only; rw [if_neg c8, if_neg c16, if_neg c18])) dX12_then_24
  · have f8 : r2.toInt = 0 := f_eq rfl (by decide) c8
    refine lv_iconst (v := (-1)) hx hb dX12_then_8 (by decide) ?_
    have hlit27 : ((-1) : Int32).toInt = -1 := by decide
    rw [hQ]
    exact x_i cx hr () hP hD hS (show ((-1) : Int32) = J_X12_then sm tm p0 p1 p2 from by subst k7; first | (refine Eq.symm ?_; refine Eq.trans (if_pos c8) ?_; rfl) | (unfold J_X12_then; try dsimp only; rw [if_pos c8])) dX12_then_9
theorem nd_X12_costOf : yX12_costOf.cls = RX12 ∧ yX12_costOf.cls ≠ "java/lang/invoke/MethodHandle" ∧ yX12_costOf.cls ≠ "java/lang/invoke/VarHandle" ∧ (parseMethodDescriptor yX12_costOf.desc).map (fun d => d.parameters.length) = some 4 := by decide +kernel
theorem nd_X12_isComing : yX12_isComing.cls = RX12 ∧ yX12_isComing.cls ≠ "java/lang/invoke/MethodHandle" ∧ yX12_isComing.cls ≠ "java/lang/invoke/VarHandle" ∧ (parseMethodDescriptor yX12_isComing.desc).map (fun d => d.parameters.length) = some 1 := by decide +kernel
def J_X12_costs (sm : Nat → Nat → Int32) (tm : Nat → Nat → Int64) (p0 : Int32) (p1 : Int32) (p2 : Int32) (p3 : Int32) : Int32 := let y6 := J_X12_isWeek sm tm p0; if y6 = 0 then ((-1) : Int32) else let y14 := J_X12_isHands sm tm p1; if y14 = 0 then ((-2) : Int32) else let y23 := J_X12_isComing sm tm p2; if y23 = 0 then ((-2) : Int32) else if 0 ≤ p3 then let y31 := J_X12_after sm tm p0 p1 p3; if y31 = (-9) then ((-3) : Int32) else let y37 := J_X12_costOf sm tm p0 y31 p2 p3; y37 else ((-2) : Int32)
set_option maxHeartbeats 4000000 in
set_option maxRecDepth 100000 in
theorem c_X12_costs (l : Launch) (D : va_G) (k : Nat → ClassId) (b : Nat → Nat) (qm : Nat → Nat) (sm : Nat → Nat → Int32) (tm : Nat → Nat → Int64) (sz : Nat) (p0 : Int32) (p1 : Int32) (p2 : Int32) (p3 : Int32) (h_w0 : 0 ≤ (sm 2 0).toInt ∧ (sm 2 0).toInt ≤ 5) (h_k1 : 0 ≤ (sm 2 1).toInt ∧ (sm 2 1).toInt ≤ 4) : MetI l D k b yX12_costs wsX12_costs ({ frames := 2, cells := 0, slots := 0, locals := 55 } : Room) [cell22_ qm sm tm, cell5_ k qm sm, cell13_ k qm sm, cell8_ k qm sm, cell6_ k qm sm, cell15_ k qm sm, cell14_ k qm tm, cell12_ k qm tm, cell18_ k qm tm, cell17_ k qm tm, cell19_ k qm tm, cell21_ k qm tm, cell20_ k qm sm, cell16_ k qm sm, cell11_ k qm sm, cell10_ k qm sm, cell9_ k qm sm, cell7_ k qm sm] sz [.ref (qm 0), .int p0, .int p1, .int p2, .int p3] (fun (r : Int32) (u : Unit) => r = J_X12_costs sm tm p0 p1 p2 p3) (fun u => [cell22_ qm sm tm, cell5_ k qm sm, cell13_ k qm sm, cell8_ k qm sm, cell6_ k qm sm, cell15_ k qm sm, cell14_ k qm tm, cell12_ k qm tm, cell18_ k qm tm, cell17_ k qm tm, cell19_ k qm tm, cell21_ k qm tm, cell20_ k qm sm, cell16_ k qm sm, cell11_ k qm sm, cell10_ k qm sm, cell9_ k qm sm, cell7_ k qm sm]) := by
  refine g_enter (cc := cX12_costs) (maxL := 6) (ret := (some .int)) (by decide) rfl (Nat.le_of_ble_eq_true rfl) ?_
  intro p e s m below meth c A hsz hAe cx hr hP hD hS ls hl
  rw [hAe]
  refine g_q (fun Q hQ => ?_)
  have hx := cx.1.1
  have hb := cx.1.2.1
  have bp0 := i_rng p0
  have bp1 := i_rng p1
  have bp2 := i_rng p2
  have bp3 := i_rng p3
  have hl : lv_has ls 6 [(0, .ref (qm 0)), (1, .int p0), (2, .int p1), (3, .int p2), (4, .int p3)] := hl
  obtain ⟨H, eH⟩ : ∃ H : Heap, H = s.heap := ⟨_, rfl⟩
  obtain ⟨locs, el⟩ : ∃ L : List Loc, L = [] := ⟨_, rfl⟩
  have hP : va_P D vwCl [cell22_ qm sm tm, cell5_ k qm sm, cell13_ k qm sm, cell8_ k qm sm, cell6_ k qm sm, cell15_ k qm sm, cell14_ k qm tm, cell12_ k qm tm, cell18_ k qm tm, cell17_ k qm tm, cell19_ k qm tm, cell21_ k qm tm, cell20_ k qm sm, cell16_ k qm sm, cell11_ k qm sm, cell10_ k qm sm, cell9_ k qm sm, cell7_ k qm sm] H := by rw [eH]; exact hP
  have hD : va_D A [cell22_ qm sm tm, cell5_ k qm sm, cell13_ k qm sm, cell8_ k qm sm, cell6_ k qm sm, cell15_ k qm sm, cell14_ k qm tm, cell12_ k qm tm, cell18_ k qm tm, cell17_ k qm tm, cell19_ k qm tm, cell21_ k qm tm, cell20_ k qm sm, cell16_ k qm sm, cell11_ k qm sm, cell10_ k qm sm, cell9_ k qm sm, cell7_ k qm sm] := hD
  have hS : va_S A s.heap H locs := by rw [eH, el]; exact hS
  suffices goal : W p l e ({ frames := 2, cells := 0, slots := 0, locals := 55 } : Room) s m ([.ref (qm 0), .int p0, .int p1, .int p2, .int p3] : List Value).toArray below meth c H locs 0 0 Q (F0 m 0 ls []) by rw [eH, el] at goal; exact goal
  refine lv_aload_n hx hb dX12_costs_0 rfl (lv_at hl 0 rfl) ?_
  refine lv_iload_n hx hb dX12_costs_1 rfl (lv_at hl 1 rfl) ?_
  refine g_iF (w1 := fun (_ : Unit) => [cell22_ qm sm tm, cell5_ k qm sm, cell13_ k qm sm, cell8_ k qm sm, cell6_ k qm sm, cell15_ k qm sm, cell14_ k qm tm, cell12_ k qm tm, cell18_ k qm tm, cell17_ k qm tm, cell19_ k qm tm, cell21_ k qm tm, cell20_ k qm sm, cell16_ k qm sm, cell11_ k qm sm, cell10_ k qm sm, cell9_ k qm sm, cell7_ k qm sm]) (g_runVF (ws := [cell22_ qm sm tm, cell5_ k qm sm, cell13_ k qm sm, cell8_ k qm sm, cell6_ k qm sm, cell15_ k qm sm, cell14_ k qm tm, cell12_ k qm tm, cell18_ k qm tm, cell17_ k qm tm, cell19_ k qm tm, cell21_ k qm tm, cell20_ k qm sm, cell16_ k qm sm, cell11_ k qm sm, cell10_ k qm sm, cell9_ k qm sm, cell7_ k qm sm]) (rest := []) cx hP hD hS [.int p0] (c_X12_isWeek l D k b qm sm tm H.size p0 (show 0 ≤ ((sm 2) 0).toInt ∧ ((sm 2) 0).toInt ≤ 5 from by first | decide | omega)) gX12_costs_X12_isWeek rfl rfl rfl nd_X12_isWeek ⟨Nat.le_of_ble_eq_true rfl, Nat.le_of_ble_eq_true rfl⟩ (ci := 10) (q0 := 0) rfl rfl rfl hl.1 rfl (Nat.le_of_ble_eq_true rfl) ⟨Nat.zero_le _, Nat.zero_le _⟩ dX12_costs_2) cx.2.2.1 hD hS (fun r2 _ H locs hw1 hP hD hS => ?_)
  replace hw1 : (0 ≤ r2.toInt ∧ r2.toInt ≤ 1) ∧ (Imp (r2.toInt = 1) (0 ≤ p0.toInt ∧ p0.toInt ≤ 4)) ∧ (r2 = J_X12_isWeek sm tm p0) := hw1
  obtain ⟨w3, w4, w5⟩ := hw1
  have k7 : r2 = (J_X12_isWeek sm tm p0) := congrArg (fun z => z) w5
  have zr2 : 0 ≤ r2.toInt ∧ r2.toInt ≤ 1 := w3
  refine lv_if_ne (tgt := 10) hx hb dX12_costs_5 (by decide) (fun c8 => ?_) (fun c8 => ?_)
  · have f8 : ¬ r2.toInt = 0 := f_ne rfl (by decide) c8
    have k8 : (0 ≤ p0.toInt ∧ p0.toInt ≤ 4) := w4 (by omega)
    refine lv_aload_n hx hb dX12_costs_10 rfl (lv_at hl 0 rfl) ?_
    refine lv_iload_n hx hb dX12_costs_11 rfl (lv_at hl 2 rfl) ?_
    refine g_iF (w1 := fun (_ : Unit) => [cell22_ qm sm tm, cell5_ k qm sm, cell13_ k qm sm, cell8_ k qm sm, cell6_ k qm sm, cell15_ k qm sm, cell14_ k qm tm, cell12_ k qm tm, cell18_ k qm tm, cell17_ k qm tm, cell19_ k qm tm, cell21_ k qm tm, cell20_ k qm sm, cell16_ k qm sm, cell11_ k qm sm, cell10_ k qm sm, cell9_ k qm sm, cell7_ k qm sm]) (g_runVF (ws := [cell22_ qm sm tm, cell5_ k qm sm, cell13_ k qm sm, cell8_ k qm sm, cell6_ k qm sm, cell15_ k qm sm, cell14_ k qm tm, cell12_ k qm tm, cell18_ k qm tm, cell17_ k qm tm, cell19_ k qm tm, cell21_ k qm tm, cell20_ k qm sm, cell16_ k qm sm, cell11_ k qm sm, cell10_ k qm sm, cell9_ k qm sm, cell7_ k qm sm]) (rest := []) cx hP hD hS [.int p1] (c_X12_isHands l D k b qm sm tm H.size p1 (show 0 ≤ ((sm 2) 1).toInt ∧ ((sm 2) 1).toInt ≤ 4 from by first | decide | omega)) gX12_costs_X12_isHands rfl rfl rfl nd_X12_isHands ⟨Nat.le_of_ble_eq_true rfl, Nat.le_of_ble_eq_true rfl⟩ (ci := 10) (q0 := 0) rfl rfl rfl hl.1 rfl (Nat.le_of_ble_eq_true rfl) ⟨Nat.zero_le _, Nat.zero_le _⟩ dX12_costs_12) cx.2.2.1 hD hS (fun r10 _ H locs hw9 hP hD hS => ?_)
    replace hw9 : (0 ≤ r10.toInt ∧ r10.toInt ≤ 1) ∧ (Imp (r10.toInt = 1) (0 ≤ p1.toInt ∧ p1.toInt ≤ 400)) ∧ (r10 = J_X12_isHands sm tm p1) := hw9
    obtain ⟨w11, w12, w13⟩ := hw9
    have k15 : r10 = (J_X12_isHands sm tm p1) := congrArg (fun z => z) w13
    have zr10 : 0 ≤ r10.toInt ∧ r10.toInt ≤ 1 := w11
    refine lv_if_eq (tgt := 31) hx hb dX12_costs_15 (by decide) (fun c16 => ?_) (fun c16 => ?_)
    · have f16 : r10.toInt = 0 := f_eq rfl (by decide) c16
      refine lv_bipush (v := (-2)) hx hb dX12_costs_31 (by decide) ?_
      have hlit17 : ((-2) : Int32).toInt = -2 := by decide
      rw [hQ]
      exact x_i cx hr () hP hD hS (show ((-2) : Int32) = J_X12_costs sm tm p0 p1 p2 p3 from by subst k7 k15; first | (refine Eq.symm ?_; refine Eq.trans (if_neg c8) ?_; refine Eq.trans (if_pos c16) ?_; rfl) | (unfold J_X12_costs; try dsimp only; rw [if_neg c8, if_pos c16])) dX12_costs_33
    · have f16 : ¬ r10.toInt = 0 := f_ne rfl (by decide) c16
      have k16 : (0 ≤ p1.toInt ∧ p1.toInt ≤ 400) := w12 (by omega)
      refine lv_aload_n hx hb dX12_costs_18 rfl (lv_at hl 0 rfl) ?_
      refine lv_iload_n hx hb dX12_costs_19 rfl (lv_at hl 3 rfl) ?_
      refine g_iF (w1 := fun (_ : Unit) => [cell22_ qm sm tm, cell5_ k qm sm, cell13_ k qm sm, cell8_ k qm sm, cell6_ k qm sm, cell15_ k qm sm, cell14_ k qm tm, cell12_ k qm tm, cell18_ k qm tm, cell17_ k qm tm, cell19_ k qm tm, cell21_ k qm tm, cell20_ k qm sm, cell16_ k qm sm, cell11_ k qm sm, cell10_ k qm sm, cell9_ k qm sm, cell7_ k qm sm]) (g_runVF (ws := [cell22_ qm sm tm, cell5_ k qm sm, cell13_ k qm sm, cell8_ k qm sm, cell6_ k qm sm, cell15_ k qm sm, cell14_ k qm tm, cell12_ k qm tm, cell18_ k qm tm, cell17_ k qm tm, cell19_ k qm tm, cell21_ k qm tm, cell20_ k qm sm, cell16_ k qm sm, cell11_ k qm sm, cell10_ k qm sm, cell9_ k qm sm, cell7_ k qm sm]) (rest := []) cx hP hD hS [.int p2] (c_X12_isComing l D k b qm sm tm H.size p2) gX12_costs_X12_isComing rfl rfl rfl nd_X12_isComing ⟨Nat.le_of_ble_eq_true rfl, Nat.le_of_ble_eq_true rfl⟩ (ci := 10) (q0 := 0) rfl rfl rfl hl.1 rfl (Nat.le_of_ble_eq_true rfl) ⟨Nat.zero_le _, Nat.zero_le _⟩ dX12_costs_20) cx.2.2.1 hD hS (fun r19 _ H locs hw18 hP hD hS => ?_)
      replace hw18 : (0 ≤ r19.toInt ∧ r19.toInt ≤ 1) ∧ (Imp (r19.toInt = 1) (0 ≤ p2.toInt ∧ p2.toInt ≤ 2)) ∧ (r19 = J_X12_isComing sm tm p2) := hw18
      obtain ⟨w20, w21, w22⟩ := hw18
      have k24 : r19 = (J_X12_isComing sm tm p2) := congrArg (fun z => z) w22
      have zr19 : 0 ≤ r19.toInt ∧ r19.toInt ≤ 1 := w20
      refine lv_if_eq (tgt := 31) hx hb dX12_costs_23 (by decide) (fun c25 => ?_) (fun c25 => ?_)
      · have f25 : r19.toInt = 0 := f_eq rfl (by decide) c25
        refine lv_bipush (v := (-2)) hx hb dX12_costs_31 (by decide) ?_
        have hlit26 : ((-2) : Int32).toInt = -2 := by decide
        rw [hQ]
        exact x_i cx hr () hP hD hS (show ((-2) : Int32) = J_X12_costs sm tm p0 p1 p2 p3 from by subst k7 k15 k24; first | (refine Eq.symm ?_; refine Eq.trans (if_neg c8) ?_; refine Eq.trans (if_neg c16) ?_; refine Eq.trans (if_pos c25) ?_; rfl) | (unfold J_X12_costs; try dsimp only; rw [if_neg c8, if_neg c16, if_pos c25])) dX12_costs_33
      · have f25 : ¬ r19.toInt = 0 := f_ne rfl (by decide) c25
        have k25 : (0 ≤ p2.toInt ∧ p2.toInt ≤ 2) := w21 (by omega)
        refine lv_iload hx hb dX12_costs_26 (lv_at hl 4 rfl) ?_
        refine lv_if_ge (tgt := 34) hx hb dX12_costs_28 (by decide) (fun c27 => ?_) (fun c27 => ?_)
        · have f27 : 0 ≤ p3.toInt := f_le (by decide) rfl c27
          refine lv_aload_n hx hb dX12_costs_34 rfl (lv_at hl 0 rfl) ?_
          refine lv_iload_n hx hb dX12_costs_35 rfl (lv_at hl 1 rfl) ?_
          refine lv_iload_n hx hb dX12_costs_36 rfl (lv_at hl 2 rfl) ?_
          refine lv_iload hx hb dX12_costs_37 (lv_at hl 4 rfl) ?_
          refine g_iF (w1 := fun (_ : Unit) => [cell22_ qm sm tm, cell5_ k qm sm, cell13_ k qm sm, cell8_ k qm sm, cell6_ k qm sm, cell15_ k qm sm, cell14_ k qm tm, cell12_ k qm tm, cell18_ k qm tm, cell17_ k qm tm, cell19_ k qm tm, cell21_ k qm tm, cell20_ k qm sm, cell16_ k qm sm, cell11_ k qm sm, cell10_ k qm sm, cell9_ k qm sm, cell7_ k qm sm]) (g_runVF (ws := [cell22_ qm sm tm, cell5_ k qm sm, cell13_ k qm sm, cell8_ k qm sm, cell6_ k qm sm, cell15_ k qm sm, cell14_ k qm tm, cell12_ k qm tm, cell18_ k qm tm, cell17_ k qm tm, cell19_ k qm tm, cell21_ k qm tm, cell20_ k qm sm, cell16_ k qm sm, cell11_ k qm sm, cell10_ k qm sm, cell9_ k qm sm, cell7_ k qm sm]) (rest := []) cx hP hD hS [.int p0, .int p1, .int p3] (c_X12_after l D k b qm sm tm H.size p0 p1 p3 (show 0 ≤ ((sm 2) 0).toInt ∧ ((sm 2) 0).toInt ≤ 5 from by first | decide | omega) (show 0 ≤ p0.toInt ∧ p0.toInt ≤ 4 from by first | decide | omega)) gX12_costs_X12_after rfl rfl rfl nd_X12_after ⟨Nat.le_of_ble_eq_true rfl, Nat.le_of_ble_eq_true rfl⟩ (ci := 10) (q0 := 0) rfl rfl rfl hl.1 rfl (Nat.le_of_ble_eq_true rfl) ⟨Nat.zero_le _, Nat.zero_le _⟩ dX12_costs_39) cx.2.2.1 hD hS (fun r29 _ H locs hw28 hP hD hS => ?_)
          have w30 : r29 = J_X12_after sm tm p0 p1 p3 := hw28
          clear hw28
          have k32 : r29 = (J_X12_after sm tm p0 p1 p3) := congrArg (fun z => z) w30
          refine lv_istore (lv' := [(5, .int r29), (0, .ref (qm 0)), (1, .int p0), (2, .int p1), (3, .int p2), (4, .int p3)]) hx hb dX12_costs_42 hl (by decide) rfl (fun ls hl => ?_)
          refine lv_iload hx hb dX12_costs_44 (lv_at hl 0 rfl) ?_
          refine lv_bipush (v := (-9)) hx hb dX12_costs_46 (by decide) ?_
          refine lv_icmp_ne (tgt := 56) hx hb dX12_costs_48 (by decide) (fun c33 => ?_) (fun c33 => ?_)
          · have f33 : ¬ r29.toInt = (-9) := f_ne rfl (by decide) c33
            refine lv_aload_n hx hb dX12_costs_56 rfl (lv_at hl 1 rfl) ?_
            refine lv_iload_n hx hb dX12_costs_57 rfl (lv_at hl 2 rfl) ?_
            refine lv_iload hx hb dX12_costs_58 (lv_at hl 0 rfl) ?_
            refine lv_iload_n hx hb dX12_costs_60 rfl (lv_at hl 4 rfl) ?_
            refine lv_iload hx hb dX12_costs_61 (lv_at hl 5 rfl) ?_
            refine g_iF (w1 := fun (_ : Unit) => [cell22_ qm sm tm, cell5_ k qm sm, cell13_ k qm sm, cell8_ k qm sm, cell6_ k qm sm, cell15_ k qm sm, cell14_ k qm tm, cell12_ k qm tm, cell18_ k qm tm, cell17_ k qm tm, cell19_ k qm tm, cell21_ k qm tm, cell20_ k qm sm, cell16_ k qm sm, cell11_ k qm sm, cell10_ k qm sm, cell9_ k qm sm, cell7_ k qm sm]) (g_runVF (ws := [cell22_ qm sm tm, cell5_ k qm sm, cell13_ k qm sm, cell8_ k qm sm, cell6_ k qm sm, cell15_ k qm sm, cell14_ k qm tm, cell12_ k qm tm, cell18_ k qm tm, cell17_ k qm tm, cell19_ k qm tm, cell21_ k qm tm, cell20_ k qm sm, cell16_ k qm sm, cell11_ k qm sm, cell10_ k qm sm, cell9_ k qm sm, cell7_ k qm sm]) (rest := []) cx hP hD hS [.int p0, .int r29, .int p2, .int p3] (c_X12_costOf l D k b qm sm tm H.size p0 r29 p2 p3 (show 0 ≤ p0.toInt ∧ p0.toInt ≤ 4 from by first | decide | omega)) gX12_costs_X12_costOf rfl rfl rfl nd_X12_costOf ⟨Nat.le_of_ble_eq_true rfl, Nat.le_of_ble_eq_true rfl⟩ (ci := 10) (q0 := 0) rfl rfl rfl hl.1 rfl (Nat.le_of_ble_eq_true rfl) ⟨Nat.zero_le _, Nat.zero_le _⟩ dX12_costs_63) cx.2.2.1 hD hS (fun r35 _ H locs hw34 hP hD hS => ?_)
            have w36 : r35 = J_X12_costOf sm tm p0 r29 p2 p3 := hw34
            clear hw34
            have k38 : r35 = (J_X12_costOf sm tm p0 r29 p2 p3) := congrArg (fun z => z) w36
            rw [hQ]
            exact x_i cx hr () hP hD hS (show r35 = J_X12_costs sm tm p0 p1 p2 p3 from by subst k7 k15 k24 k32 k38; first | (refine Eq.symm ?_; refine Eq.trans (if_neg c8) ?_; refine Eq.trans (if_neg c16) ?_; refine Eq.trans (if_neg c25) ?_; refine Eq.trans (if_pos c27) ?_; refine Eq.trans (if_neg c33) ?_; rfl) | (unfold J_X12_costs; try dsimp only; rw [if_neg c8, if_neg c16, if_neg c25, if_pos c27, if_neg c33])) dX12_costs_66
          · have f33 : r29.toInt = (-9) := f_eq rfl (by decide) c33
            refine lv_bipush (v := (-3)) hx hb dX12_costs_51 (by decide) ?_
            refine lv_goto (tgt := 66) hx hb dX12_costs_53 (by decide) ?_
            have hlit39 : ((-3) : Int32).toInt = -3 := by decide
            rw [hQ]
            exact x_i cx hr () hP hD hS (show ((-3) : Int32) = J_X12_costs sm tm p0 p1 p2 p3 from by subst k7 k15 k24 k32; first | (refine Eq.symm ?_; refine Eq.trans (if_neg c8) ?_; refine Eq.trans (if_neg c16) ?_; refine Eq.trans (if_neg c25) ?_; refine Eq.trans (if_pos c27) ?_; refine Eq.trans (if_pos c33) ?_; rfl) | (unfold J_X12_costs; try dsimp only; rw [if_neg c8, if_neg c16, if_neg c25, if_pos c27, if_pos c33])) dX12_costs_66
        · have f27 : p3.toInt < 0 := f_nle (by decide) rfl c27
          refine lv_bipush (v := (-2)) hx hb dX12_costs_31 (by decide) ?_
          have hlit40 : ((-2) : Int32).toInt = -2 := by decide
          rw [hQ]
          exact x_i cx hr () hP hD hS (show ((-2) : Int32) = J_X12_costs sm tm p0 p1 p2 p3 from by subst k7 k15 k24; first | (refine Eq.symm ?_; refine Eq.trans (if_neg c8) ?_; refine Eq.trans (if_neg c16) ?_; refine Eq.trans (if_neg c25) ?_; refine Eq.trans (if_neg c27) ?_; rfl) | (unfold J_X12_costs; try dsimp only; rw [if_neg c8, if_neg c16, if_neg c25, if_neg c27])) dX12_costs_33
  · have f8 : r2.toInt = 0 := f_eq rfl (by decide) c8
    refine lv_iconst (v := (-1)) hx hb dX12_costs_8 (by decide) ?_
    have hlit41 : ((-1) : Int32).toInt = -1 := by decide
    rw [hQ]
    exact x_i cx hr () hP hD hS (show ((-1) : Int32) = J_X12_costs sm tm p0 p1 p2 p3 from by subst k7; first | (refine Eq.symm ?_; refine Eq.trans (if_pos c8) ?_; rfl) | (unfold J_X12_costs; try dsimp only; rw [if_pos c8])) dX12_costs_9
def J_X12_work (sm : Nat → Nat → Int32) (tm : Nat → Nat → Int64) (p0 : Int32) (p1 : Int32) (p2 : Int32) (p3 : Int32) (p4 : Int32) : Int32 := let y6 := J_X12_isWeek sm tm p0; if y6 = 0 then ((-1) : Int32) else let y14 := J_X12_isHands sm tm p1; if y14 = 0 then ((-2) : Int32) else let y23 := J_X12_isComing sm tm p2; if y23 = 0 then ((-2) : Int32) else if 0 ≤ p3 then let y31 := J_X12_after sm tm p0 p1 p3; if y31 = (-9) then ((-3) : Int32) else let y37 := J_X12_over sm tm p0 y31 p2 p3; if p4 = 0 then if 0 ≤ y37 then (0 : Int32) else (-y37) else if y37 ≤ 0 then (0 : Int32) else y37 else ((-2) : Int32)
set_option maxHeartbeats 4000000 in
set_option maxRecDepth 100000 in
theorem c_X12_work (l : Launch) (D : va_G) (k : Nat → ClassId) (b : Nat → Nat) (qm : Nat → Nat) (sm : Nat → Nat → Int32) (tm : Nat → Nat → Int64) (sz : Nat) (p0 : Int32) (p1 : Int32) (p2 : Int32) (p3 : Int32) (p4 : Int32) (h_w0 : 0 ≤ (sm 2 0).toInt ∧ (sm 2 0).toInt ≤ 5) (h_k1 : 0 ≤ (sm 2 1).toInt ∧ (sm 2 1).toInt ≤ 4) : MetI l D k b yX12_work wsX12_work ({ frames := 2, cells := 0, slots := 0, locals := 55 } : Room) [cell22_ qm sm tm, cell5_ k qm sm, cell13_ k qm sm, cell8_ k qm sm, cell6_ k qm sm, cell15_ k qm sm, cell14_ k qm tm, cell12_ k qm tm, cell18_ k qm tm, cell17_ k qm tm, cell19_ k qm tm, cell21_ k qm tm, cell20_ k qm sm, cell16_ k qm sm, cell11_ k qm sm, cell10_ k qm sm, cell9_ k qm sm, cell7_ k qm sm] sz [.ref (qm 0), .int p0, .int p1, .int p2, .int p3, .int p4] (fun (r : Int32) (u : Unit) => r = J_X12_work sm tm p0 p1 p2 p3 p4) (fun u => [cell22_ qm sm tm, cell5_ k qm sm, cell13_ k qm sm, cell8_ k qm sm, cell6_ k qm sm, cell15_ k qm sm, cell14_ k qm tm, cell12_ k qm tm, cell18_ k qm tm, cell17_ k qm tm, cell19_ k qm tm, cell21_ k qm tm, cell20_ k qm sm, cell16_ k qm sm, cell11_ k qm sm, cell10_ k qm sm, cell9_ k qm sm, cell7_ k qm sm]) := by
  refine g_enter (cc := cX12_work) (maxL := 8) (ret := (some .int)) (by decide) rfl (Nat.le_of_ble_eq_true rfl) ?_
  intro p e s m below meth c A hsz hAe cx hr hP hD hS ls hl
  rw [hAe]
  refine g_q (fun Q hQ => ?_)
  have hx := cx.1.1
  have hb := cx.1.2.1
  have bp0 := i_rng p0
  have bp1 := i_rng p1
  have bp2 := i_rng p2
  have bp3 := i_rng p3
  have bp4 := i_rng p4
  have hl : lv_has ls 8 [(0, .ref (qm 0)), (1, .int p0), (2, .int p1), (3, .int p2), (4, .int p3), (5, .int p4)] := hl
  obtain ⟨H, eH⟩ : ∃ H : Heap, H = s.heap := ⟨_, rfl⟩
  obtain ⟨locs, el⟩ : ∃ L : List Loc, L = [] := ⟨_, rfl⟩
  have hP : va_P D vwCl [cell22_ qm sm tm, cell5_ k qm sm, cell13_ k qm sm, cell8_ k qm sm, cell6_ k qm sm, cell15_ k qm sm, cell14_ k qm tm, cell12_ k qm tm, cell18_ k qm tm, cell17_ k qm tm, cell19_ k qm tm, cell21_ k qm tm, cell20_ k qm sm, cell16_ k qm sm, cell11_ k qm sm, cell10_ k qm sm, cell9_ k qm sm, cell7_ k qm sm] H := by rw [eH]; exact hP
  have hD : va_D A [cell22_ qm sm tm, cell5_ k qm sm, cell13_ k qm sm, cell8_ k qm sm, cell6_ k qm sm, cell15_ k qm sm, cell14_ k qm tm, cell12_ k qm tm, cell18_ k qm tm, cell17_ k qm tm, cell19_ k qm tm, cell21_ k qm tm, cell20_ k qm sm, cell16_ k qm sm, cell11_ k qm sm, cell10_ k qm sm, cell9_ k qm sm, cell7_ k qm sm] := hD
  have hS : va_S A s.heap H locs := by rw [eH, el]; exact hS
  suffices goal : W p l e ({ frames := 2, cells := 0, slots := 0, locals := 55 } : Room) s m ([.ref (qm 0), .int p0, .int p1, .int p2, .int p3, .int p4] : List Value).toArray below meth c H locs 0 0 Q (F0 m 0 ls []) by rw [eH, el] at goal; exact goal
  refine lv_aload_n hx hb dX12_work_0 rfl (lv_at hl 0 rfl) ?_
  refine lv_iload_n hx hb dX12_work_1 rfl (lv_at hl 1 rfl) ?_
  refine g_iF (w1 := fun (_ : Unit) => [cell22_ qm sm tm, cell5_ k qm sm, cell13_ k qm sm, cell8_ k qm sm, cell6_ k qm sm, cell15_ k qm sm, cell14_ k qm tm, cell12_ k qm tm, cell18_ k qm tm, cell17_ k qm tm, cell19_ k qm tm, cell21_ k qm tm, cell20_ k qm sm, cell16_ k qm sm, cell11_ k qm sm, cell10_ k qm sm, cell9_ k qm sm, cell7_ k qm sm]) (g_runVF (ws := [cell22_ qm sm tm, cell5_ k qm sm, cell13_ k qm sm, cell8_ k qm sm, cell6_ k qm sm, cell15_ k qm sm, cell14_ k qm tm, cell12_ k qm tm, cell18_ k qm tm, cell17_ k qm tm, cell19_ k qm tm, cell21_ k qm tm, cell20_ k qm sm, cell16_ k qm sm, cell11_ k qm sm, cell10_ k qm sm, cell9_ k qm sm, cell7_ k qm sm]) (rest := []) cx hP hD hS [.int p0] (c_X12_isWeek l D k b qm sm tm H.size p0 (show 0 ≤ ((sm 2) 0).toInt ∧ ((sm 2) 0).toInt ≤ 5 from by first | decide | omega)) gX12_work_X12_isWeek rfl rfl rfl nd_X12_isWeek ⟨Nat.le_of_ble_eq_true rfl, Nat.le_of_ble_eq_true rfl⟩ (ci := 10) (q0 := 0) rfl rfl rfl hl.1 rfl (Nat.le_of_ble_eq_true rfl) ⟨Nat.zero_le _, Nat.zero_le _⟩ dX12_work_2) cx.2.2.1 hD hS (fun r2 _ H locs hw1 hP hD hS => ?_)
  replace hw1 : (0 ≤ r2.toInt ∧ r2.toInt ≤ 1) ∧ (Imp (r2.toInt = 1) (0 ≤ p0.toInt ∧ p0.toInt ≤ 4)) ∧ (r2 = J_X12_isWeek sm tm p0) := hw1
  obtain ⟨w3, w4, w5⟩ := hw1
  have k7 : r2 = (J_X12_isWeek sm tm p0) := congrArg (fun z => z) w5
  have zr2 : 0 ≤ r2.toInt ∧ r2.toInt ≤ 1 := w3
  refine lv_if_ne (tgt := 10) hx hb dX12_work_5 (by decide) (fun c8 => ?_) (fun c8 => ?_)
  · have f8 : ¬ r2.toInt = 0 := f_ne rfl (by decide) c8
    have k8 : (0 ≤ p0.toInt ∧ p0.toInt ≤ 4) := w4 (by omega)
    refine lv_aload_n hx hb dX12_work_10 rfl (lv_at hl 0 rfl) ?_
    refine lv_iload_n hx hb dX12_work_11 rfl (lv_at hl 2 rfl) ?_
    refine g_iF (w1 := fun (_ : Unit) => [cell22_ qm sm tm, cell5_ k qm sm, cell13_ k qm sm, cell8_ k qm sm, cell6_ k qm sm, cell15_ k qm sm, cell14_ k qm tm, cell12_ k qm tm, cell18_ k qm tm, cell17_ k qm tm, cell19_ k qm tm, cell21_ k qm tm, cell20_ k qm sm, cell16_ k qm sm, cell11_ k qm sm, cell10_ k qm sm, cell9_ k qm sm, cell7_ k qm sm]) (g_runVF (ws := [cell22_ qm sm tm, cell5_ k qm sm, cell13_ k qm sm, cell8_ k qm sm, cell6_ k qm sm, cell15_ k qm sm, cell14_ k qm tm, cell12_ k qm tm, cell18_ k qm tm, cell17_ k qm tm, cell19_ k qm tm, cell21_ k qm tm, cell20_ k qm sm, cell16_ k qm sm, cell11_ k qm sm, cell10_ k qm sm, cell9_ k qm sm, cell7_ k qm sm]) (rest := []) cx hP hD hS [.int p1] (c_X12_isHands l D k b qm sm tm H.size p1 (show 0 ≤ ((sm 2) 1).toInt ∧ ((sm 2) 1).toInt ≤ 4 from by first | decide | omega)) gX12_work_X12_isHands rfl rfl rfl nd_X12_isHands ⟨Nat.le_of_ble_eq_true rfl, Nat.le_of_ble_eq_true rfl⟩ (ci := 10) (q0 := 0) rfl rfl rfl hl.1 rfl (Nat.le_of_ble_eq_true rfl) ⟨Nat.zero_le _, Nat.zero_le _⟩ dX12_work_12) cx.2.2.1 hD hS (fun r10 _ H locs hw9 hP hD hS => ?_)
    replace hw9 : (0 ≤ r10.toInt ∧ r10.toInt ≤ 1) ∧ (Imp (r10.toInt = 1) (0 ≤ p1.toInt ∧ p1.toInt ≤ 400)) ∧ (r10 = J_X12_isHands sm tm p1) := hw9
    obtain ⟨w11, w12, w13⟩ := hw9
    have k15 : r10 = (J_X12_isHands sm tm p1) := congrArg (fun z => z) w13
    have zr10 : 0 ≤ r10.toInt ∧ r10.toInt ≤ 1 := w11
    refine lv_if_eq (tgt := 31) hx hb dX12_work_15 (by decide) (fun c16 => ?_) (fun c16 => ?_)
    · have f16 : r10.toInt = 0 := f_eq rfl (by decide) c16
      refine lv_bipush (v := (-2)) hx hb dX12_work_31 (by decide) ?_
      have hlit17 : ((-2) : Int32).toInt = -2 := by decide
      rw [hQ]
      exact x_i cx hr () hP hD hS (show ((-2) : Int32) = J_X12_work sm tm p0 p1 p2 p3 p4 from by subst k7 k15; first | (refine Eq.symm ?_; refine Eq.trans (if_neg c8) ?_; refine Eq.trans (if_pos c16) ?_; rfl) | (unfold J_X12_work; try dsimp only; rw [if_neg c8, if_pos c16])) dX12_work_33
    · have f16 : ¬ r10.toInt = 0 := f_ne rfl (by decide) c16
      have k16 : (0 ≤ p1.toInt ∧ p1.toInt ≤ 400) := w12 (by omega)
      refine lv_aload_n hx hb dX12_work_18 rfl (lv_at hl 0 rfl) ?_
      refine lv_iload_n hx hb dX12_work_19 rfl (lv_at hl 3 rfl) ?_
      refine g_iF (w1 := fun (_ : Unit) => [cell22_ qm sm tm, cell5_ k qm sm, cell13_ k qm sm, cell8_ k qm sm, cell6_ k qm sm, cell15_ k qm sm, cell14_ k qm tm, cell12_ k qm tm, cell18_ k qm tm, cell17_ k qm tm, cell19_ k qm tm, cell21_ k qm tm, cell20_ k qm sm, cell16_ k qm sm, cell11_ k qm sm, cell10_ k qm sm, cell9_ k qm sm, cell7_ k qm sm]) (g_runVF (ws := [cell22_ qm sm tm, cell5_ k qm sm, cell13_ k qm sm, cell8_ k qm sm, cell6_ k qm sm, cell15_ k qm sm, cell14_ k qm tm, cell12_ k qm tm, cell18_ k qm tm, cell17_ k qm tm, cell19_ k qm tm, cell21_ k qm tm, cell20_ k qm sm, cell16_ k qm sm, cell11_ k qm sm, cell10_ k qm sm, cell9_ k qm sm, cell7_ k qm sm]) (rest := []) cx hP hD hS [.int p2] (c_X12_isComing l D k b qm sm tm H.size p2) gX12_work_X12_isComing rfl rfl rfl nd_X12_isComing ⟨Nat.le_of_ble_eq_true rfl, Nat.le_of_ble_eq_true rfl⟩ (ci := 10) (q0 := 0) rfl rfl rfl hl.1 rfl (Nat.le_of_ble_eq_true rfl) ⟨Nat.zero_le _, Nat.zero_le _⟩ dX12_work_20) cx.2.2.1 hD hS (fun r19 _ H locs hw18 hP hD hS => ?_)
      replace hw18 : (0 ≤ r19.toInt ∧ r19.toInt ≤ 1) ∧ (Imp (r19.toInt = 1) (0 ≤ p2.toInt ∧ p2.toInt ≤ 2)) ∧ (r19 = J_X12_isComing sm tm p2) := hw18
      obtain ⟨w20, w21, w22⟩ := hw18
      have k24 : r19 = (J_X12_isComing sm tm p2) := congrArg (fun z => z) w22
      have zr19 : 0 ≤ r19.toInt ∧ r19.toInt ≤ 1 := w20
      refine lv_if_eq (tgt := 31) hx hb dX12_work_23 (by decide) (fun c25 => ?_) (fun c25 => ?_)
      · have f25 : r19.toInt = 0 := f_eq rfl (by decide) c25
        refine lv_bipush (v := (-2)) hx hb dX12_work_31 (by decide) ?_
        have hlit26 : ((-2) : Int32).toInt = -2 := by decide
        rw [hQ]
        exact x_i cx hr () hP hD hS (show ((-2) : Int32) = J_X12_work sm tm p0 p1 p2 p3 p4 from by subst k7 k15 k24; first | (refine Eq.symm ?_; refine Eq.trans (if_neg c8) ?_; refine Eq.trans (if_neg c16) ?_; refine Eq.trans (if_pos c25) ?_; rfl) | (unfold J_X12_work; try dsimp only; rw [if_neg c8, if_neg c16, if_pos c25])) dX12_work_33
      · have f25 : ¬ r19.toInt = 0 := f_ne rfl (by decide) c25
        have k25 : (0 ≤ p2.toInt ∧ p2.toInt ≤ 2) := w21 (by omega)
        refine lv_iload hx hb dX12_work_26 (lv_at hl 4 rfl) ?_
        refine lv_if_ge (tgt := 34) hx hb dX12_work_28 (by decide) (fun c27 => ?_) (fun c27 => ?_)
        · have f27 : 0 ≤ p3.toInt := f_le (by decide) rfl c27
          refine lv_aload_n hx hb dX12_work_34 rfl (lv_at hl 0 rfl) ?_
          refine lv_iload_n hx hb dX12_work_35 rfl (lv_at hl 1 rfl) ?_
          refine lv_iload_n hx hb dX12_work_36 rfl (lv_at hl 2 rfl) ?_
          refine lv_iload hx hb dX12_work_37 (lv_at hl 4 rfl) ?_
          refine g_iF (w1 := fun (_ : Unit) => [cell22_ qm sm tm, cell5_ k qm sm, cell13_ k qm sm, cell8_ k qm sm, cell6_ k qm sm, cell15_ k qm sm, cell14_ k qm tm, cell12_ k qm tm, cell18_ k qm tm, cell17_ k qm tm, cell19_ k qm tm, cell21_ k qm tm, cell20_ k qm sm, cell16_ k qm sm, cell11_ k qm sm, cell10_ k qm sm, cell9_ k qm sm, cell7_ k qm sm]) (g_runVF (ws := [cell22_ qm sm tm, cell5_ k qm sm, cell13_ k qm sm, cell8_ k qm sm, cell6_ k qm sm, cell15_ k qm sm, cell14_ k qm tm, cell12_ k qm tm, cell18_ k qm tm, cell17_ k qm tm, cell19_ k qm tm, cell21_ k qm tm, cell20_ k qm sm, cell16_ k qm sm, cell11_ k qm sm, cell10_ k qm sm, cell9_ k qm sm, cell7_ k qm sm]) (rest := []) cx hP hD hS [.int p0, .int p1, .int p3] (c_X12_after l D k b qm sm tm H.size p0 p1 p3 (show 0 ≤ ((sm 2) 0).toInt ∧ ((sm 2) 0).toInt ≤ 5 from by first | decide | omega) (show 0 ≤ p0.toInt ∧ p0.toInt ≤ 4 from by first | decide | omega)) gX12_work_X12_after rfl rfl rfl nd_X12_after ⟨Nat.le_of_ble_eq_true rfl, Nat.le_of_ble_eq_true rfl⟩ (ci := 10) (q0 := 0) rfl rfl rfl hl.1 rfl (Nat.le_of_ble_eq_true rfl) ⟨Nat.zero_le _, Nat.zero_le _⟩ dX12_work_39) cx.2.2.1 hD hS (fun r29 _ H locs hw28 hP hD hS => ?_)
          have w30 : r29 = J_X12_after sm tm p0 p1 p3 := hw28
          clear hw28
          have k32 : r29 = (J_X12_after sm tm p0 p1 p3) := congrArg (fun z => z) w30
          refine lv_istore (lv' := [(6, .int r29), (0, .ref (qm 0)), (1, .int p0), (2, .int p1), (3, .int p2), (4, .int p3), (5, .int p4)]) hx hb dX12_work_42 hl (by decide) rfl (fun ls hl => ?_)
          refine lv_iload hx hb dX12_work_44 (lv_at hl 0 rfl) ?_
          refine lv_bipush (v := (-9)) hx hb dX12_work_46 (by decide) ?_
          refine lv_icmp_ne (tgt := 54) hx hb dX12_work_48 (by decide) (fun c33 => ?_) (fun c33 => ?_)
          · have f33 : ¬ r29.toInt = (-9) := f_ne rfl (by decide) c33
            refine lv_aload_n hx hb dX12_work_54 rfl (lv_at hl 1 rfl) ?_
            refine lv_iload_n hx hb dX12_work_55 rfl (lv_at hl 2 rfl) ?_
            refine lv_iload hx hb dX12_work_56 (lv_at hl 0 rfl) ?_
            refine lv_iload_n hx hb dX12_work_58 rfl (lv_at hl 4 rfl) ?_
            refine lv_iload hx hb dX12_work_59 (lv_at hl 5 rfl) ?_
            refine g_iF (w1 := fun (_ : Unit) => [cell22_ qm sm tm, cell5_ k qm sm, cell13_ k qm sm, cell8_ k qm sm, cell6_ k qm sm, cell15_ k qm sm, cell14_ k qm tm, cell12_ k qm tm, cell18_ k qm tm, cell17_ k qm tm, cell19_ k qm tm, cell21_ k qm tm, cell20_ k qm sm, cell16_ k qm sm, cell11_ k qm sm, cell10_ k qm sm, cell9_ k qm sm, cell7_ k qm sm]) (g_runVF (ws := [cell22_ qm sm tm, cell5_ k qm sm, cell13_ k qm sm, cell8_ k qm sm, cell6_ k qm sm, cell15_ k qm sm, cell14_ k qm tm, cell12_ k qm tm, cell18_ k qm tm, cell17_ k qm tm, cell19_ k qm tm, cell21_ k qm tm, cell20_ k qm sm, cell16_ k qm sm, cell11_ k qm sm, cell10_ k qm sm, cell9_ k qm sm, cell7_ k qm sm]) (rest := []) cx hP hD hS [.int p0, .int r29, .int p2, .int p3] (c_X12_over l D k b qm sm tm H.size p0 r29 p2 p3 (show 0 ≤ p0.toInt ∧ p0.toInt ≤ 4 from by first | decide | omega)) gX12_work_X12_over rfl rfl rfl nd_X12_over ⟨Nat.le_of_ble_eq_true rfl, Nat.le_of_ble_eq_true rfl⟩ (ci := 10) (q0 := 0) rfl rfl rfl hl.1 rfl (Nat.le_of_ble_eq_true rfl) ⟨Nat.zero_le _, Nat.zero_le _⟩ dX12_work_61) cx.2.2.1 hD hS (fun r35 _ H locs hw34 hP hD hS => ?_)
            have w36 : r35 = J_X12_over sm tm p0 r29 p2 p3 := hw34
            clear hw34
            have k38 : r35 = (J_X12_over sm tm p0 r29 p2 p3) := congrArg (fun z => z) w36
            refine lv_istore (lv' := [(7, .int r35), (6, .int r29), (0, .ref (qm 0)), (1, .int p0), (2, .int p1), (3, .int p2), (4, .int p3), (5, .int p4)]) hx hb dX12_work_64 hl (by decide) rfl (fun ls hl => ?_)
            refine lv_iload hx hb dX12_work_66 (lv_at hl 7 rfl) ?_
            refine lv_if_eq (tgt := 85) hx hb dX12_work_68 (by decide) (fun c39 => ?_) (fun c39 => ?_)
            · have f39 : p4.toInt = 0 := f_eq rfl (by decide) c39
              refine lv_iload hx hb dX12_work_85 (lv_at hl 0 rfl) ?_
              refine lv_if_ge (tgt := 96) hx hb dX12_work_87 (by decide) (fun c40 => ?_) (fun c40 => ?_)
              · have f40 : 0 ≤ r35.toInt := f_le (by decide) rfl c40
                refine lv_iconst (v := 0) hx hb dX12_work_96 (by decide) ?_
                have hlit41 : (0 : Int32).toInt = 0 := by decide
                rw [hQ]
                exact x_i cx hr () hP hD hS (show (0 : Int32) = J_X12_work sm tm p0 p1 p2 p3 p4 from by subst k7 k15 k24 k32 k38; first | (refine Eq.symm ?_; refine Eq.trans (if_neg c8) ?_; refine Eq.trans (if_neg c16) ?_; refine Eq.trans (if_neg c25) ?_; refine Eq.trans (if_pos c27) ?_; refine Eq.trans (if_neg c33) ?_; refine Eq.trans (if_pos c39) ?_; refine Eq.trans (if_pos c40) ?_; rfl) | (unfold J_X12_work; try dsimp only; rw [if_neg c8, if_neg c16, if_neg c25, if_pos c27, if_neg c33, if_pos c39, if_pos c40])) dX12_work_97
              · have f40 : r35.toInt < 0 := f_nle (by decide) rfl c40
                refine lv_iload hx hb dX12_work_90 (lv_at hl 0 rfl) ?_
                refine lv_ineg hx hb dX12_work_92 (lv_topi (fun v42 e42 => ?_))
                refine lv_goto (tgt := 97) hx hb dX12_work_93 (by decide) ?_
                rw [hQ]
                exact x_i cx hr () hP hD hS (show v42 = J_X12_work sm tm p0 p1 p2 p3 p4 from by subst k7 k15 k24 k32 k38 e42; first | (refine Eq.symm ?_; refine Eq.trans (if_neg c8) ?_; refine Eq.trans (if_neg c16) ?_; refine Eq.trans (if_neg c25) ?_; refine Eq.trans (if_pos c27) ?_; refine Eq.trans (if_neg c33) ?_; refine Eq.trans (if_pos c39) ?_; refine Eq.trans (if_neg c40) ?_; rfl) | (unfold J_X12_work; try dsimp only; rw [if_neg c8, if_neg c16, if_neg c25, if_pos c27, if_neg c33, if_pos c39, if_neg c40])) dX12_work_97
            · have f39 : ¬ p4.toInt = 0 := f_ne rfl (by decide) c39
              refine lv_iload hx hb dX12_work_71 (lv_at hl 0 rfl) ?_
              refine lv_if_le (tgt := 81) hx hb dX12_work_73 (by decide) (fun c43 => ?_) (fun c43 => ?_)
              · have f43 : r35.toInt ≤ 0 := f_le rfl (by decide) c43
                refine lv_iconst (v := 0) hx hb dX12_work_81 (by decide) ?_
                refine lv_goto (tgt := 97) hx hb dX12_work_82 (by decide) ?_
                have hlit44 : (0 : Int32).toInt = 0 := by decide
                rw [hQ]
                exact x_i cx hr () hP hD hS (show (0 : Int32) = J_X12_work sm tm p0 p1 p2 p3 p4 from by subst k7 k15 k24 k32 k38; first | (refine Eq.symm ?_; refine Eq.trans (if_neg c8) ?_; refine Eq.trans (if_neg c16) ?_; refine Eq.trans (if_neg c25) ?_; refine Eq.trans (if_pos c27) ?_; refine Eq.trans (if_neg c33) ?_; refine Eq.trans (if_neg c39) ?_; refine Eq.trans (if_pos c43) ?_; rfl) | (unfold J_X12_work; try dsimp only; rw [if_neg c8, if_neg c16, if_neg c25, if_pos c27, if_neg c33, if_neg c39, if_pos c43])) dX12_work_97
              · have f43 : 0 < r35.toInt := f_nle rfl (by decide) c43
                refine lv_iload hx hb dX12_work_76 (lv_at hl 0 rfl) ?_
                refine lv_goto (tgt := 97) hx hb dX12_work_78 (by decide) ?_
                rw [hQ]
                exact x_i cx hr () hP hD hS (show r35 = J_X12_work sm tm p0 p1 p2 p3 p4 from by subst k7 k15 k24 k32 k38; first | (refine Eq.symm ?_; refine Eq.trans (if_neg c8) ?_; refine Eq.trans (if_neg c16) ?_; refine Eq.trans (if_neg c25) ?_; refine Eq.trans (if_pos c27) ?_; refine Eq.trans (if_neg c33) ?_; refine Eq.trans (if_neg c39) ?_; refine Eq.trans (if_neg c43) ?_; rfl) | (unfold J_X12_work; try dsimp only; rw [if_neg c8, if_neg c16, if_neg c25, if_pos c27, if_neg c33, if_neg c39, if_neg c43])) dX12_work_97
          · have f33 : r29.toInt = (-9) := f_eq rfl (by decide) c33
            refine lv_bipush (v := (-3)) hx hb dX12_work_51 (by decide) ?_
            have hlit45 : ((-3) : Int32).toInt = -3 := by decide
            rw [hQ]
            exact x_i cx hr () hP hD hS (show ((-3) : Int32) = J_X12_work sm tm p0 p1 p2 p3 p4 from by subst k7 k15 k24 k32; first | (refine Eq.symm ?_; refine Eq.trans (if_neg c8) ?_; refine Eq.trans (if_neg c16) ?_; refine Eq.trans (if_neg c25) ?_; refine Eq.trans (if_pos c27) ?_; refine Eq.trans (if_pos c33) ?_; rfl) | (unfold J_X12_work; try dsimp only; rw [if_neg c8, if_neg c16, if_neg c25, if_pos c27, if_pos c33])) dX12_work_53
        · have f27 : p3.toInt < 0 := f_nle (by decide) rfl c27
          refine lv_bipush (v := (-2)) hx hb dX12_work_31 (by decide) ?_
          have hlit46 : ((-2) : Int32).toInt = -2 := by decide
          rw [hQ]
          exact x_i cx hr () hP hD hS (show ((-2) : Int32) = J_X12_work sm tm p0 p1 p2 p3 p4 from by subst k7 k15 k24; first | (refine Eq.symm ?_; refine Eq.trans (if_neg c8) ?_; refine Eq.trans (if_neg c16) ?_; refine Eq.trans (if_neg c25) ?_; refine Eq.trans (if_neg c27) ?_; rfl) | (unfold J_X12_work; try dsimp only; rw [if_neg c8, if_neg c16, if_neg c25, if_neg c27])) dX12_work_33
  · have f8 : r2.toInt = 0 := f_eq rfl (by decide) c8
    refine lv_iconst (v := (-1)) hx hb dX12_work_8 (by decide) ?_
    have hlit47 : ((-1) : Int32).toInt = -1 := by decide
    rw [hQ]
    exact x_i cx hr () hP hD hS (show ((-1) : Int32) = J_X12_work sm tm p0 p1 p2 p3 p4 from by subst k7; first | (refine Eq.symm ?_; refine Eq.trans (if_pos c8) ?_; rfl) | (unfold J_X12_work; try dsimp only; rw [if_pos c8])) dX12_work_9
theorem kJ_X12_sunday_200 : Cond.constantLong RX12 200 (625) ∈ wsX12_sunday := by decide +kernel
theorem kJ_X12_sunday_206 : Cond.constantLong RX12 206 (-2) ∈ wsX12_sunday := by decide +kernel
theorem nd_X12_sundayOf : yX12_sundayOf.cls = RX12 ∧ yX12_sundayOf.cls ≠ "java/lang/invoke/MethodHandle" ∧ yX12_sundayOf.cls ≠ "java/lang/invoke/VarHandle" ∧ (parseMethodDescriptor yX12_sundayOf.desc).map (fun d => d.parameters.length) = some 2 := by decide +kernel
theorem nd_X12_told : yX12_told.cls ≠ "java/lang/invoke/MethodHandle" ∧ yX12_told.cls ≠ "java/lang/invoke/VarHandle" ∧ (parseMethodDescriptor yX12_told.desc).map (fun d => d.parameters.length) = some 3 := by decide +kernel
set_option maxHeartbeats 4000000 in
set_option maxRecDepth 100000 in
theorem c_X12_sunday (l : Launch) (D : va_G) (k : Nat → ClassId) (b : Nat → Nat) (qm : Nat → Nat) (sm : Nat → Nat → Int32) (tm : Nat → Nat → Int64) (sz : Nat) (p0 : Int32) (p1 : Int32) (p2 : Int32) (h_k1 : 0 ≤ (sm 2 1).toInt ∧ (sm 2 1).toInt ≤ 4) : MetL l D k b yX12_sunday wsX12_sunday ({ frames := 3, cells := 0, slots := 0, locals := 75 } : Room) [cell22_ qm sm tm, cell5_ k qm sm, cell13_ k qm sm, cell8_ k qm sm, cell6_ k qm sm, cell15_ k qm sm, cell14_ k qm tm, cell12_ k qm tm, cell18_ k qm tm, cell17_ k qm tm, cell19_ k qm tm, cell21_ k qm tm, cell20_ k qm sm, cell16_ k qm sm, cell11_ k qm sm, cell10_ k qm sm, cell9_ k qm sm, cell7_ k qm sm] sz [.ref (qm 0), .int p0, .int p1, .int p2] (fun (r : Int64) (u : Unit) => True) (fun u => [cell22_ qm sm tm, cell5_ k qm sm, cell13_ k qm sm, cell8_ k qm sm, cell6_ k qm sm, cell15_ k qm sm, cell14_ k qm tm, cell12_ k qm tm, cell18_ k qm tm, cell17_ k qm tm, cell19_ k qm tm, cell21_ k qm tm, cell20_ k qm sm, cell16_ k qm sm, cell11_ k qm sm, cell10_ k qm sm, cell9_ k qm sm, cell7_ k qm sm]) := by
  refine g_enter (cc := cX12_sunday) (maxL := 4) (ret := (some .long)) (by decide) rfl (Nat.le_of_ble_eq_true rfl) ?_
  intro p e s m below meth c A hsz hAe cx hr hP hD hS ls hl
  rw [hAe]
  refine g_q (fun Q hQ => ?_)
  have hx := cx.1.1
  have hb := cx.1.2.1
  have bp0 := i_rng p0
  have bp1 := i_rng p1
  have bp2 := i_rng p2
  have hl : lv_has ls 4 [(0, .ref (qm 0)), (1, .int p0), (2, .int p1), (3, .int p2)] := hl
  obtain ⟨H, eH⟩ : ∃ H : Heap, H = s.heap := ⟨_, rfl⟩
  obtain ⟨locs, el⟩ : ∃ L : List Loc, L = [] := ⟨_, rfl⟩
  have hP : va_P D vwCl [cell22_ qm sm tm, cell5_ k qm sm, cell13_ k qm sm, cell8_ k qm sm, cell6_ k qm sm, cell15_ k qm sm, cell14_ k qm tm, cell12_ k qm tm, cell18_ k qm tm, cell17_ k qm tm, cell19_ k qm tm, cell21_ k qm tm, cell20_ k qm sm, cell16_ k qm sm, cell11_ k qm sm, cell10_ k qm sm, cell9_ k qm sm, cell7_ k qm sm] H := by rw [eH]; exact hP
  have hD : va_D A [cell22_ qm sm tm, cell5_ k qm sm, cell13_ k qm sm, cell8_ k qm sm, cell6_ k qm sm, cell15_ k qm sm, cell14_ k qm tm, cell12_ k qm tm, cell18_ k qm tm, cell17_ k qm tm, cell19_ k qm tm, cell21_ k qm tm, cell20_ k qm sm, cell16_ k qm sm, cell11_ k qm sm, cell10_ k qm sm, cell9_ k qm sm, cell7_ k qm sm] := hD
  have hS : va_S A s.heap H locs := by rw [eH, el]; exact hS
  suffices goal : W p l e ({ frames := 3, cells := 0, slots := 0, locals := 75 } : Room) s m ([.ref (qm 0), .int p0, .int p1, .int p2] : List Value).toArray below meth c H locs 0 0 Q (F0 m 0 ls []) by rw [eH, el] at goal; exact goal
  refine lv_aload_n hx hb dX12_sunday_0 rfl (lv_at hl 0 rfl) ?_
  refine lv_iload_n hx hb dX12_sunday_1 rfl (lv_at hl 1 rfl) ?_
  refine g_iF (w1 := fun (_ : Unit) => [cell22_ qm sm tm, cell5_ k qm sm, cell13_ k qm sm, cell8_ k qm sm, cell6_ k qm sm, cell15_ k qm sm, cell14_ k qm tm, cell12_ k qm tm, cell18_ k qm tm, cell17_ k qm tm, cell19_ k qm tm, cell21_ k qm tm, cell20_ k qm sm, cell16_ k qm sm, cell11_ k qm sm, cell10_ k qm sm, cell9_ k qm sm, cell7_ k qm sm]) (g_runVF (ws := [cell22_ qm sm tm, cell5_ k qm sm, cell13_ k qm sm, cell8_ k qm sm, cell6_ k qm sm, cell15_ k qm sm, cell14_ k qm tm, cell12_ k qm tm, cell18_ k qm tm, cell17_ k qm tm, cell19_ k qm tm, cell21_ k qm tm, cell20_ k qm sm, cell16_ k qm sm, cell11_ k qm sm, cell10_ k qm sm, cell9_ k qm sm, cell7_ k qm sm]) (rest := []) cx hP hD hS [.int p0] (c_X12_isHands l D k b qm sm tm H.size p0 (show 0 ≤ ((sm 2) 1).toInt ∧ ((sm 2) 1).toInt ≤ 4 from by first | decide | omega)) gX12_sunday_X12_isHands rfl rfl rfl nd_X12_isHands ⟨Nat.le_of_ble_eq_true rfl, Nat.le_of_ble_eq_true rfl⟩ (ci := 10) (q0 := 0) rfl rfl rfl hl.1 rfl (Nat.le_of_ble_eq_true rfl) ⟨Nat.zero_le _, Nat.zero_le _⟩ dX12_sunday_2) cx.2.2.1 hD hS (fun r2 _ H locs hw1 hP hD hS => ?_)
  replace hw1 : (0 ≤ r2.toInt ∧ r2.toInt ≤ 1) ∧ (Imp (r2.toInt = 1) (0 ≤ p0.toInt ∧ p0.toInt ≤ 400)) ∧ (r2 = J_X12_isHands sm tm p0) := hw1
  obtain ⟨w3, w4, w5⟩ := hw1
  have k7 : r2 = (J_X12_isHands sm tm p0) := congrArg (fun z => z) w5
  have zr2 : 0 ≤ r2.toInt ∧ r2.toInt ≤ 1 := w3
  refine lv_if_eq (tgt := 33) hx hb dX12_sunday_5 (by decide) (fun c8 => ?_) (fun c8 => ?_)
  · have f8 : r2.toInt = 0 := f_eq rfl (by decide) c8
    refine lv_ldc2 (v := (-2)) hx hb cx.1.2.2.2.1 (cx.1.2.2.2.2 _ kJ_X12_sunday_206) dX12_sunday_33 ?_
    rw [hQ]
    exact x_l cx hr () hP hD hS trivial dX12_sunday_36
  · have f8 : ¬ r2.toInt = 0 := f_ne rfl (by decide) c8
    have k8 : (0 ≤ p0.toInt ∧ p0.toInt ≤ 400) := w4 (by omega)
    refine lv_aload_n hx hb dX12_sunday_8 rfl (lv_at hl 0 rfl) ?_
    refine lv_iload_n hx hb dX12_sunday_9 rfl (lv_at hl 2 rfl) ?_
    refine g_iF (w1 := fun (_ : Unit) => [cell22_ qm sm tm, cell5_ k qm sm, cell13_ k qm sm, cell8_ k qm sm, cell6_ k qm sm, cell15_ k qm sm, cell14_ k qm tm, cell12_ k qm tm, cell18_ k qm tm, cell17_ k qm tm, cell19_ k qm tm, cell21_ k qm tm, cell20_ k qm sm, cell16_ k qm sm, cell11_ k qm sm, cell10_ k qm sm, cell9_ k qm sm, cell7_ k qm sm]) (g_runVF (ws := [cell22_ qm sm tm, cell5_ k qm sm, cell13_ k qm sm, cell8_ k qm sm, cell6_ k qm sm, cell15_ k qm sm, cell14_ k qm tm, cell12_ k qm tm, cell18_ k qm tm, cell17_ k qm tm, cell19_ k qm tm, cell21_ k qm tm, cell20_ k qm sm, cell16_ k qm sm, cell11_ k qm sm, cell10_ k qm sm, cell9_ k qm sm, cell7_ k qm sm]) (rest := []) cx hP hD hS [.int p1] (c_X12_isHands l D k b qm sm tm H.size p1 (show 0 ≤ ((sm 2) 1).toInt ∧ ((sm 2) 1).toInt ≤ 4 from by first | decide | omega)) gX12_sunday_X12_isHands rfl rfl rfl nd_X12_isHands ⟨Nat.le_of_ble_eq_true rfl, Nat.le_of_ble_eq_true rfl⟩ (ci := 10) (q0 := 0) rfl rfl rfl hl.1 rfl (Nat.le_of_ble_eq_true rfl) ⟨Nat.zero_le _, Nat.zero_le _⟩ dX12_sunday_10) cx.2.2.1 hD hS (fun r10 _ H locs hw9 hP hD hS => ?_)
    replace hw9 : (0 ≤ r10.toInt ∧ r10.toInt ≤ 1) ∧ (Imp (r10.toInt = 1) (0 ≤ p1.toInt ∧ p1.toInt ≤ 400)) ∧ (r10 = J_X12_isHands sm tm p1) := hw9
    obtain ⟨w11, w12, w13⟩ := hw9
    have k15 : r10 = (J_X12_isHands sm tm p1) := congrArg (fun z => z) w13
    have zr10 : 0 ≤ r10.toInt ∧ r10.toInt ≤ 1 := w11
    refine lv_if_eq (tgt := 33) hx hb dX12_sunday_13 (by decide) (fun c16 => ?_) (fun c16 => ?_)
    · have f16 : r10.toInt = 0 := f_eq rfl (by decide) c16
      refine lv_ldc2 (v := (-2)) hx hb cx.1.2.2.2.1 (cx.1.2.2.2.2 _ kJ_X12_sunday_206) dX12_sunday_33 ?_
      rw [hQ]
      exact x_l cx hr () hP hD hS trivial dX12_sunday_36
    · have f16 : ¬ r10.toInt = 0 := f_ne rfl (by decide) c16
      have k16 : (0 ≤ p1.toInt ∧ p1.toInt ≤ 400) := w12 (by omega)
      refine lv_aload_n hx hb dX12_sunday_16 rfl (lv_at hl 0 rfl) ?_
      refine lv_iload_n hx hb dX12_sunday_17 rfl (lv_at hl 1 rfl) ?_
      refine lv_iload_n hx hb dX12_sunday_18 rfl (lv_at hl 2 rfl) ?_
      refine g_iF (w1 := fun (_ : Unit) => [cell22_ qm sm tm, cell5_ k qm sm, cell13_ k qm sm, cell8_ k qm sm, cell6_ k qm sm, cell15_ k qm sm, cell14_ k qm tm, cell12_ k qm tm, cell18_ k qm tm, cell17_ k qm tm, cell19_ k qm tm, cell21_ k qm tm, cell20_ k qm sm, cell16_ k qm sm, cell11_ k qm sm, cell10_ k qm sm, cell9_ k qm sm, cell7_ k qm sm]) (g_runVF (ws := [cell22_ qm sm tm, cell5_ k qm sm, cell13_ k qm sm, cell8_ k qm sm, cell6_ k qm sm, cell15_ k qm sm, cell14_ k qm tm, cell12_ k qm tm, cell18_ k qm tm, cell17_ k qm tm, cell19_ k qm tm, cell21_ k qm tm, cell20_ k qm sm, cell16_ k qm sm, cell11_ k qm sm, cell10_ k qm sm, cell9_ k qm sm, cell7_ k qm sm]) (rest := []) cx hP hD hS [.int p0, .int p1] (c_X12_sundayOf l D k b qm sm tm H.size p0 p1) gX12_sunday_X12_sundayOf rfl rfl rfl nd_X12_sundayOf ⟨Nat.le_of_ble_eq_true rfl, Nat.le_of_ble_eq_true rfl⟩ (ci := 10) (q0 := 0) rfl rfl rfl hl.1 rfl (Nat.le_of_ble_eq_true rfl) ⟨Nat.zero_le _, Nat.zero_le _⟩ dX12_sunday_19) cx.2.2.1 hD hS (fun r18 _ H locs hw17 hP hD hS => ?_)
      have w19 : r18 = J_X12_sundayOf sm tm p0 p1 := hw17
      clear hw17
      have k21 : r18 = (J_X12_sundayOf sm tm p0 p1) := congrArg (fun z => z) w19
      obtain ⟨v22, e22⟩ : ∃ z : Int64, z = (r18 : Int32).toInt64 := ⟨_, rfl⟩
      refine lv_i2l (v := v22) hx hb dX12_sunday_22 e22.symm ?_
      refine lv_ldc2 (v := 625) hx hb cx.1.2.2.2.1 (cx.1.2.2.2.2 _ kJ_X12_sunday_200) dX12_sunday_23 ?_
      refine lv_iload_n hx hb dX12_sunday_26 rfl (lv_at hl 3 rfl) ?_
      refine g_lr (g_runS (wc := []) (rest := []) cx hP hD hS [] rfl (by decide) [.long v22, .long 625, .int p2] (c_X12_told l D k b H.size v22 625 p2 (show ¬ (625 : Int64).toInt = 0 from by first | decide | omega)) gX12_sunday_X12_told rfl rfl rfl nd_X12_told ⟨Nat.le_of_ble_eq_true rfl, Nat.le_of_ble_eq_true rfl⟩ rfl hl.1 rfl (Nat.le_of_ble_eq_true rfl) ⟨Nat.zero_le _, Nat.zero_le _⟩ dX12_sunday_27) cx.2.2.1 hP hD hS [] rfl rfl (fun r24 H locs hw23 hP hS => ?_)
      have w25 : r24 = J_X12_told v22 (625 : Int64) p2 := hw23
      clear hw23
      have k27 : r24 = (J_X12_told v22 (625 : Int64) p2) := congrArg (fun z => z) w25
      refine lv_goto (tgt := 36) hx hb dX12_sunday_30 (by decide) ?_
      rw [hQ]
      exact x_l cx hr () hP hD hS trivial dX12_sunday_36
theorem nd_X12_ruleAct : yX12_ruleAct.cls = RX12 ∧ yX12_ruleAct.cls ≠ "java/lang/invoke/MethodHandle" ∧ yX12_ruleAct.cls ≠ "java/lang/invoke/VarHandle" ∧ (parseMethodDescriptor yX12_ruleAct.desc).map (fun d => d.parameters.length) = some 3 := by decide +kernel
def J_X12_takes (sm : Nat → Nat → Int32) (tm : Nat → Nat → Int64) (p0 : Int32) (p1 : Int32) (p2 : Int32) : Int32 := let y6 := J_X12_isRule p0; if y6 = 0 then ((-1) : Int32) else let y15 := J_X12_isWeek sm tm p1; if y15 = 0 then ((-1) : Int32) else let y23 := J_X12_isHands sm tm p2; if y23 = 0 then ((-2) : Int32) else let y30 := J_X12_ruleAct sm tm p0 p1 p2; (y30 / (100 : Int32))
set_option maxHeartbeats 4000000 in
set_option maxRecDepth 100000 in
theorem c_X12_takes (l : Launch) (D : va_G) (k : Nat → ClassId) (b : Nat → Nat) (qm : Nat → Nat) (sm : Nat → Nat → Int32) (tm : Nat → Nat → Int64) (sz : Nat) (p0 : Int32) (p1 : Int32) (p2 : Int32) (h_w0 : 0 ≤ (sm 2 0).toInt ∧ (sm 2 0).toInt ≤ 5) (h_k1 : 0 ≤ (sm 2 1).toInt ∧ (sm 2 1).toInt ≤ 4) : MetI l D k b yX12_takes wsX12_takes ({ frames := 2, cells := 0, slots := 0, locals := 46 } : Room) [cell22_ qm sm tm, cell5_ k qm sm, cell13_ k qm sm, cell8_ k qm sm, cell6_ k qm sm, cell15_ k qm sm, cell14_ k qm tm, cell12_ k qm tm, cell18_ k qm tm, cell17_ k qm tm, cell19_ k qm tm, cell21_ k qm tm, cell20_ k qm sm, cell16_ k qm sm, cell11_ k qm sm, cell10_ k qm sm, cell9_ k qm sm, cell7_ k qm sm] sz [.ref (qm 0), .int p0, .int p1, .int p2] (fun (r : Int32) (u : Unit) => r = J_X12_takes sm tm p0 p1 p2) (fun u => [cell22_ qm sm tm, cell5_ k qm sm, cell13_ k qm sm, cell8_ k qm sm, cell6_ k qm sm, cell15_ k qm sm, cell14_ k qm tm, cell12_ k qm tm, cell18_ k qm tm, cell17_ k qm tm, cell19_ k qm tm, cell21_ k qm tm, cell20_ k qm sm, cell16_ k qm sm, cell11_ k qm sm, cell10_ k qm sm, cell9_ k qm sm, cell7_ k qm sm]) := by
  refine g_enter (cc := cX12_takes) (maxL := 4) (ret := (some .int)) (by decide) rfl (Nat.le_of_ble_eq_true rfl) ?_
  intro p e s m below meth c A hsz hAe cx hr hP hD hS ls hl
  rw [hAe]
  refine g_q (fun Q hQ => ?_)
  have hx := cx.1.1
  have hb := cx.1.2.1
  have bp0 := i_rng p0
  have bp1 := i_rng p1
  have bp2 := i_rng p2
  have hl : lv_has ls 4 [(0, .ref (qm 0)), (1, .int p0), (2, .int p1), (3, .int p2)] := hl
  obtain ⟨H, eH⟩ : ∃ H : Heap, H = s.heap := ⟨_, rfl⟩
  obtain ⟨locs, el⟩ : ∃ L : List Loc, L = [] := ⟨_, rfl⟩
  have hP : va_P D vwCl [cell22_ qm sm tm, cell5_ k qm sm, cell13_ k qm sm, cell8_ k qm sm, cell6_ k qm sm, cell15_ k qm sm, cell14_ k qm tm, cell12_ k qm tm, cell18_ k qm tm, cell17_ k qm tm, cell19_ k qm tm, cell21_ k qm tm, cell20_ k qm sm, cell16_ k qm sm, cell11_ k qm sm, cell10_ k qm sm, cell9_ k qm sm, cell7_ k qm sm] H := by rw [eH]; exact hP
  have hD : va_D A [cell22_ qm sm tm, cell5_ k qm sm, cell13_ k qm sm, cell8_ k qm sm, cell6_ k qm sm, cell15_ k qm sm, cell14_ k qm tm, cell12_ k qm tm, cell18_ k qm tm, cell17_ k qm tm, cell19_ k qm tm, cell21_ k qm tm, cell20_ k qm sm, cell16_ k qm sm, cell11_ k qm sm, cell10_ k qm sm, cell9_ k qm sm, cell7_ k qm sm] := hD
  have hS : va_S A s.heap H locs := by rw [eH, el]; exact hS
  suffices goal : W p l e ({ frames := 2, cells := 0, slots := 0, locals := 46 } : Room) s m ([.ref (qm 0), .int p0, .int p1, .int p2] : List Value).toArray below meth c H locs 0 0 Q (F0 m 0 ls []) by rw [eH, el] at goal; exact goal
  refine lv_iload_n hx hb dX12_takes_0 rfl (lv_at hl 1 rfl) ?_
  refine g_ir (g_runS (wc := []) (rest := []) cx hP hD hS [] rfl (by decide) [.int p0] (c_X12_isRule l D k b H.size p0) gX12_takes_X12_isRule rfl rfl rfl nd_X12_isRule ⟨Nat.le_of_ble_eq_true rfl, Nat.le_of_ble_eq_true rfl⟩ rfl hl.1 rfl (Nat.le_of_ble_eq_true rfl) ⟨Nat.zero_le _, Nat.zero_le _⟩ dX12_takes_1) cx.2.2.1 hP hD hS [] rfl rfl (fun r2 H locs hw1 hP hS => ?_)
  replace hw1 : (0 ≤ r2.toInt ∧ r2.toInt ≤ 1) ∧ (Imp (r2.toInt = 1) (0 ≤ p0.toInt ∧ p0.toInt ≤ 2)) ∧ (r2 = J_X12_isRule p0) := hw1
  obtain ⟨w3, w4, w5⟩ := hw1
  have k7 : r2 = (J_X12_isRule p0) := congrArg (fun z => z) w5
  have zr2 : 0 ≤ r2.toInt ∧ r2.toInt ≤ 1 := w3
  refine lv_if_eq (tgt := 15) hx hb dX12_takes_4 (by decide) (fun c8 => ?_) (fun c8 => ?_)
  · have f8 : r2.toInt = 0 := f_eq rfl (by decide) c8
    refine lv_iconst (v := (-1)) hx hb dX12_takes_15 (by decide) ?_
    have hlit9 : ((-1) : Int32).toInt = -1 := by decide
    rw [hQ]
    exact x_i cx hr () hP hD hS (show ((-1) : Int32) = J_X12_takes sm tm p0 p1 p2 from by subst k7; first | (refine Eq.symm ?_; refine Eq.trans (if_pos c8) ?_; rfl) | (unfold J_X12_takes; try dsimp only; rw [if_pos c8])) dX12_takes_16
  · have f8 : ¬ r2.toInt = 0 := f_ne rfl (by decide) c8
    have k8 : (0 ≤ p0.toInt ∧ p0.toInt ≤ 2) := w4 (by omega)
    refine lv_aload_n hx hb dX12_takes_7 rfl (lv_at hl 0 rfl) ?_
    refine lv_iload_n hx hb dX12_takes_8 rfl (lv_at hl 2 rfl) ?_
    refine g_iF (w1 := fun (_ : Unit) => [cell22_ qm sm tm, cell5_ k qm sm, cell13_ k qm sm, cell8_ k qm sm, cell6_ k qm sm, cell15_ k qm sm, cell14_ k qm tm, cell12_ k qm tm, cell18_ k qm tm, cell17_ k qm tm, cell19_ k qm tm, cell21_ k qm tm, cell20_ k qm sm, cell16_ k qm sm, cell11_ k qm sm, cell10_ k qm sm, cell9_ k qm sm, cell7_ k qm sm]) (g_runVF (ws := [cell22_ qm sm tm, cell5_ k qm sm, cell13_ k qm sm, cell8_ k qm sm, cell6_ k qm sm, cell15_ k qm sm, cell14_ k qm tm, cell12_ k qm tm, cell18_ k qm tm, cell17_ k qm tm, cell19_ k qm tm, cell21_ k qm tm, cell20_ k qm sm, cell16_ k qm sm, cell11_ k qm sm, cell10_ k qm sm, cell9_ k qm sm, cell7_ k qm sm]) (rest := []) cx hP hD hS [.int p1] (c_X12_isWeek l D k b qm sm tm H.size p1 (show 0 ≤ ((sm 2) 0).toInt ∧ ((sm 2) 0).toInt ≤ 5 from by first | decide | omega)) gX12_takes_X12_isWeek rfl rfl rfl nd_X12_isWeek ⟨Nat.le_of_ble_eq_true rfl, Nat.le_of_ble_eq_true rfl⟩ (ci := 10) (q0 := 0) rfl rfl rfl hl.1 rfl (Nat.le_of_ble_eq_true rfl) ⟨Nat.zero_le _, Nat.zero_le _⟩ dX12_takes_9) cx.2.2.1 hD hS (fun r11 _ H locs hw10 hP hD hS => ?_)
    replace hw10 : (0 ≤ r11.toInt ∧ r11.toInt ≤ 1) ∧ (Imp (r11.toInt = 1) (0 ≤ p1.toInt ∧ p1.toInt ≤ 4)) ∧ (r11 = J_X12_isWeek sm tm p1) := hw10
    obtain ⟨w12, w13, w14⟩ := hw10
    have k16 : r11 = (J_X12_isWeek sm tm p1) := congrArg (fun z => z) w14
    have zr11 : 0 ≤ r11.toInt ∧ r11.toInt ≤ 1 := w12
    refine lv_if_ne (tgt := 17) hx hb dX12_takes_12 (by decide) (fun c17 => ?_) (fun c17 => ?_)
    · have f17 : ¬ r11.toInt = 0 := f_ne rfl (by decide) c17
      have k17 : (0 ≤ p1.toInt ∧ p1.toInt ≤ 4) := w13 (by omega)
      refine lv_aload_n hx hb dX12_takes_17 rfl (lv_at hl 0 rfl) ?_
      refine lv_iload_n hx hb dX12_takes_18 rfl (lv_at hl 3 rfl) ?_
      refine g_iF (w1 := fun (_ : Unit) => [cell22_ qm sm tm, cell5_ k qm sm, cell13_ k qm sm, cell8_ k qm sm, cell6_ k qm sm, cell15_ k qm sm, cell14_ k qm tm, cell12_ k qm tm, cell18_ k qm tm, cell17_ k qm tm, cell19_ k qm tm, cell21_ k qm tm, cell20_ k qm sm, cell16_ k qm sm, cell11_ k qm sm, cell10_ k qm sm, cell9_ k qm sm, cell7_ k qm sm]) (g_runVF (ws := [cell22_ qm sm tm, cell5_ k qm sm, cell13_ k qm sm, cell8_ k qm sm, cell6_ k qm sm, cell15_ k qm sm, cell14_ k qm tm, cell12_ k qm tm, cell18_ k qm tm, cell17_ k qm tm, cell19_ k qm tm, cell21_ k qm tm, cell20_ k qm sm, cell16_ k qm sm, cell11_ k qm sm, cell10_ k qm sm, cell9_ k qm sm, cell7_ k qm sm]) (rest := []) cx hP hD hS [.int p2] (c_X12_isHands l D k b qm sm tm H.size p2 (show 0 ≤ ((sm 2) 1).toInt ∧ ((sm 2) 1).toInt ≤ 4 from by first | decide | omega)) gX12_takes_X12_isHands rfl rfl rfl nd_X12_isHands ⟨Nat.le_of_ble_eq_true rfl, Nat.le_of_ble_eq_true rfl⟩ (ci := 10) (q0 := 0) rfl rfl rfl hl.1 rfl (Nat.le_of_ble_eq_true rfl) ⟨Nat.zero_le _, Nat.zero_le _⟩ dX12_takes_19) cx.2.2.1 hD hS (fun r19 _ H locs hw18 hP hD hS => ?_)
      replace hw18 : (0 ≤ r19.toInt ∧ r19.toInt ≤ 1) ∧ (Imp (r19.toInt = 1) (0 ≤ p2.toInt ∧ p2.toInt ≤ 400)) ∧ (r19 = J_X12_isHands sm tm p2) := hw18
      obtain ⟨w20, w21, w22⟩ := hw18
      have k24 : r19 = (J_X12_isHands sm tm p2) := congrArg (fun z => z) w22
      have zr19 : 0 ≤ r19.toInt ∧ r19.toInt ≤ 1 := w20
      refine lv_if_eq (tgt := 38) hx hb dX12_takes_22 (by decide) (fun c25 => ?_) (fun c25 => ?_)
      · have f25 : r19.toInt = 0 := f_eq rfl (by decide) c25
        refine lv_bipush (v := (-2)) hx hb dX12_takes_38 (by decide) ?_
        have hlit26 : ((-2) : Int32).toInt = -2 := by decide
        rw [hQ]
        exact x_i cx hr () hP hD hS (show ((-2) : Int32) = J_X12_takes sm tm p0 p1 p2 from by subst k7 k16 k24; first | (refine Eq.symm ?_; refine Eq.trans (if_neg c8) ?_; refine Eq.trans (if_neg c17) ?_; refine Eq.trans (if_pos c25) ?_; rfl) | (unfold J_X12_takes; try dsimp only; rw [if_neg c8, if_neg c17, if_pos c25])) dX12_takes_40
      · have f25 : ¬ r19.toInt = 0 := f_ne rfl (by decide) c25
        have k25 : (0 ≤ p2.toInt ∧ p2.toInt ≤ 400) := w21 (by omega)
        refine lv_aload_n hx hb dX12_takes_25 rfl (lv_at hl 0 rfl) ?_
        refine lv_iload_n hx hb dX12_takes_26 rfl (lv_at hl 1 rfl) ?_
        refine lv_iload_n hx hb dX12_takes_27 rfl (lv_at hl 2 rfl) ?_
        refine lv_iload_n hx hb dX12_takes_28 rfl (lv_at hl 3 rfl) ?_
        refine g_iF (w1 := fun (_ : Unit) => [cell22_ qm sm tm, cell5_ k qm sm, cell13_ k qm sm, cell8_ k qm sm, cell6_ k qm sm, cell15_ k qm sm, cell14_ k qm tm, cell12_ k qm tm, cell18_ k qm tm, cell17_ k qm tm, cell19_ k qm tm, cell21_ k qm tm, cell20_ k qm sm, cell16_ k qm sm, cell11_ k qm sm, cell10_ k qm sm, cell9_ k qm sm, cell7_ k qm sm]) (g_runVF (ws := [cell22_ qm sm tm, cell5_ k qm sm, cell13_ k qm sm, cell8_ k qm sm, cell6_ k qm sm, cell15_ k qm sm, cell14_ k qm tm, cell12_ k qm tm, cell18_ k qm tm, cell17_ k qm tm, cell19_ k qm tm, cell21_ k qm tm, cell20_ k qm sm, cell16_ k qm sm, cell11_ k qm sm, cell10_ k qm sm, cell9_ k qm sm, cell7_ k qm sm]) (rest := []) cx hP hD hS [.int p0, .int p1, .int p2] (c_X12_ruleAct l D k b qm sm tm H.size p0 p1 p2 (show 0 ≤ p0.toInt ∧ p0.toInt ≤ 2 from by first | decide | omega) (show 0 ≤ p1.toInt ∧ p1.toInt ≤ 4 from by first | decide | omega)) gX12_takes_X12_ruleAct rfl rfl rfl nd_X12_ruleAct ⟨Nat.le_of_ble_eq_true rfl, Nat.le_of_ble_eq_true rfl⟩ (ci := 10) (q0 := 0) rfl rfl rfl hl.1 rfl (Nat.le_of_ble_eq_true rfl) ⟨Nat.zero_le _, Nat.zero_le _⟩ dX12_takes_29) cx.2.2.1 hD hS (fun r28 _ H locs hw27 hP hD hS => ?_)
        have w29 : r28 = J_X12_ruleAct sm tm p0 p1 p2 := hw27
        clear hw27
        have k31 : r28 = (J_X12_ruleAct sm tm p0 p1 p2) := congrArg (fun z => z) w29
        refine lv_bipush (v := 100) hx hb dX12_takes_32 (by decide) ?_
        refine lv_idiv hx hb dX12_takes_34 (by decide) (lv_topi (fun v32 e32 => ?_))
        refine lv_goto (tgt := 40) hx hb dX12_takes_35 (by decide) ?_
        rw [hQ]
        exact x_i cx hr () hP hD hS (show v32 = J_X12_takes sm tm p0 p1 p2 from by subst k7 k16 k24 k31 e32; first | (refine Eq.symm ?_; refine Eq.trans (if_neg c8) ?_; refine Eq.trans (if_neg c17) ?_; refine Eq.trans (if_neg c25) ?_; rfl) | (unfold J_X12_takes; try dsimp only; rw [if_neg c8, if_neg c17, if_neg c25])) dX12_takes_40
    · have f17 : r11.toInt = 0 := f_eq rfl (by decide) c17
      refine lv_iconst (v := (-1)) hx hb dX12_takes_15 (by decide) ?_
      have hlit33 : ((-1) : Int32).toInt = -1 := by decide
      rw [hQ]
      exact x_i cx hr () hP hD hS (show ((-1) : Int32) = J_X12_takes sm tm p0 p1 p2 from by subst k7 k16; first | (refine Eq.symm ?_; refine Eq.trans (if_neg c8) ?_; refine Eq.trans (if_pos c17) ?_; rfl) | (unfold J_X12_takes; try dsimp only; rw [if_neg c8, if_pos c17])) dX12_takes_16
