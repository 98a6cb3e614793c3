theorem fw_X12_readRule_103 : Cond.fieldLink RX12 103 "StillInAugustModel" "length" "I" ∈ wsX12_readRule := by decide +kernel
theorem fw_X12_readRule_108 : Cond.fieldLink RX12 108 "StillInAugustModel" "faultAt" "I" ∈ wsX12_readRule := by decide +kernel
theorem fw_X12_readRule_111 : Cond.fieldLink RX12 111 "StillInAugustModel" "at" "I" ∈ wsX12_readRule := by decide +kernel
theorem fw_X12_readRule_130 : Cond.fieldLink RX12 130 "StillInAugustModel" "exceptions" "I" ∈ wsX12_readRule := by decide +kernel
theorem fw_X12_readRule_16 : Cond.fieldLink RX12 16 "StillInAugustModel" "text" "[I" ∈ wsX12_readRule := by decide +kernel
theorem fw_X12_readRule_22 : Cond.fieldLink RX12 22 "StillInAugustModel" "readLevels" "[I" ∈ wsX12_readRule := by decide +kernel
theorem iw_X12_readRule_X12 : ∀ w ∈ u_ws RX12 TX12 33, w ∈ wsX12_readRule := fun _ h => List.mem_cons_of_mem _ (List.mem_append_right _ h)
set_option maxHeartbeats 4000000 in
set_option maxRecDepth 100000 in
theorem c_X12_readRule (l : Launch) (D : va_G) (k : Nat → ClassId) (b : Nat → Nat) (qm : Nat → Nat) (sm : Nat → Nat → Int32) (tm : Nat → Nat → Int64) (sz : Nat) (h_len : 0 ≤ (sm 0 3).toInt ∧ (sm 0 3).toInt ≤ 64) : MetI l D k b yX12_readRule wsX12_readRule ({ frames := 2, cells := 0, slots := 0, locals := 47 } : Room) [cell22_ qm sm tm, cell5_ k qm sm, cell13_ k qm sm, cell8_ k qm sm, cell6_ k qm sm, cell14_ k qm sm, cell15_ k qm tm, cell12_ k qm tm, cell18_ k qm tm, cell17_ k qm tm, cell19_ k qm tm, cell21_ k qm tm, cell20_ k qm sm, cell16_ k qm sm, cell11_ k qm sm, cell10_ k qm sm, cell9_ k qm sm, cell7_ k qm sm] sz [.ref (qm 0)] (fun (r : Int32) (u : Int32 × Int32 × Int32 × (Nat → Int32)) => (0 ≤ (u.1).toInt ∧ (u.1).toInt ≤ 64) ∧ ((r, (u.1), (u.2.1), (u.2.2.1), (u.2.2.2)) = J_X12_readRule sm tm)) (fun u => [cell76_ qm sm tm (u.1) (u.2.1) (u.2.2.1), cell5_ k qm sm, cell13_ k qm sm, cell8_ k qm sm, cell6_ k qm sm, cell162_ k qm (u.2.2.2), cell15_ k qm tm, cell12_ k qm tm, cell18_ k qm tm, cell17_ k qm tm, cell19_ k qm tm, cell21_ k qm tm, cell20_ k qm sm, cell16_ k qm sm, cell11_ k qm sm, cell10_ k qm sm, cell9_ k qm sm, cell7_ k qm sm]) := by
  refine g_enter (cc := cX12_readRule) (maxL := 4) (ret := (some .int)) (by decide) rfl (Nat.le_of_ble_eq_true rfl) ?_
  intro p e s m below meth c A hsz hAe cx hr hP hD hS ls hl
  rw [hAe]
  refine g_q (fun Q hQ => ?_)
  have hx := cx.1.1
  have hb := cx.1.2.1
  have hl : lv_has ls 4 [(0, .ref (qm 0))] := hl
  obtain ⟨H, eH⟩ : ∃ H : Heap, H = s.heap := ⟨_, rfl⟩
  obtain ⟨locs, el⟩ : ∃ L : List Loc, L = [] := ⟨_, rfl⟩
  have hP : va_P D vwCl [cell22_ qm sm tm, cell5_ k qm sm, cell13_ k qm sm, cell8_ k qm sm, cell6_ k qm sm, cell14_ k qm sm, cell15_ k qm tm, cell12_ k qm tm, cell18_ k qm tm, cell17_ k qm tm, cell19_ k qm tm, cell21_ k qm tm, cell20_ k qm sm, cell16_ k qm sm, cell11_ k qm sm, cell10_ k qm sm, cell9_ k qm sm, cell7_ k qm sm] H := by rw [eH]; exact hP
  have hD : va_D A [cell22_ qm sm tm, cell5_ k qm sm, cell13_ k qm sm, cell8_ k qm sm, cell6_ k qm sm, cell14_ k qm sm, cell15_ k qm tm, cell12_ k qm tm, cell18_ k qm tm, cell17_ k qm tm, cell19_ k qm tm, cell21_ k qm tm, cell20_ k qm sm, cell16_ k qm sm, cell11_ k qm sm, cell10_ k qm sm, cell9_ k qm sm, cell7_ k qm sm] := hD
  have hS : va_S A s.heap H locs := by rw [eH, el]; exact hS
  suffices goal : W p l e ({ frames := 2, cells := 0, slots := 0, locals := 47 } : Room) s m ([.ref (qm 0)] : List Value).toArray below meth c H locs 0 0 Q (F0 m 0 ls []) by rw [eH, el] at goal; exact goal
  refine lv_aload_n hx hb dX12_readRule_0 rfl (lv_at hl 0 rfl) ?_
  refine lv_iconst (v := 0) hx hb dX12_readRule_1 (by decide) ?_
  refine g_pt cx hP hD hS iw_X12_readRule_X12 tyX12 tyX12_ok nmX12 0 rfl rfl 4 (by decide) rfl fw_X12_readRule_111 (ty := .int) rfl rfl rfl (Nat.le_of_ble_eq_true rfl) dX12_readRule_2 (fun H locs hP hD hS => ?_)
  have hP : va_P D vwCl [cell88_ qm sm tm 0, cell5_ k qm sm, cell13_ k qm sm, cell8_ k qm sm, cell6_ k qm sm, cell14_ k qm sm, cell15_ k qm tm, cell12_ k qm tm, cell18_ k qm tm, cell17_ k qm tm, cell19_ k qm tm, cell21_ k qm tm, cell20_ k qm sm, cell16_ k qm sm, cell11_ k qm sm, cell10_ k qm sm, cell9_ k qm sm, cell7_ k qm sm] H := hP
  have hD : va_D A [cell88_ qm sm tm 0, cell5_ k qm sm, cell13_ k qm sm, cell8_ k qm sm, cell6_ k qm sm, cell14_ k qm sm, cell15_ k qm tm, cell12_ k qm tm, cell18_ k qm tm, cell17_ k qm tm, cell19_ k qm tm, cell21_ k qm tm, cell20_ k qm sm, cell16_ k qm sm, cell11_ k qm sm, cell10_ k qm sm, cell9_ k qm sm, cell7_ k qm sm] := hD
  have hlit1 : (0 : Int32).toInt = 0 := by decide
  refine lv_aload_n hx hb dX12_readRule_5 rfl (lv_at hl 0 rfl) ?_
  refine lv_bipush (v := (-9)) hx hb dX12_readRule_6 (by decide) ?_
  refine g_pt cx hP hD hS iw_X12_readRule_X12 tyX12 tyX12_ok nmX12 0 rfl rfl 5 (by decide) rfl fw_X12_readRule_108 (ty := .int) rfl rfl rfl (Nat.le_of_ble_eq_true rfl) dX12_readRule_8 (fun H locs hP hD hS => ?_)
  have hP : va_P D vwCl [cell95_ qm sm tm 0 (-9), cell5_ k qm sm, cell13_ k qm sm, cell8_ k qm sm, cell6_ k qm sm, cell14_ k qm sm, cell15_ k qm tm, cell12_ k qm tm, cell18_ k qm tm, cell17_ k qm tm, cell19_ k qm tm, cell21_ k qm tm, cell20_ k qm sm, cell16_ k qm sm, cell11_ k qm sm, cell10_ k qm sm, cell9_ k qm sm, cell7_ k qm sm] H := hP
  have hD : va_D A [cell95_ qm sm tm 0 (-9), cell5_ k qm sm, cell13_ k qm sm, cell8_ k qm sm, cell6_ k qm sm, cell14_ k qm sm, cell15_ k qm tm, cell12_ k qm tm, cell18_ k qm tm, cell17_ k qm tm, cell19_ k qm tm, cell21_ k qm tm, cell20_ k qm sm, cell16_ k qm sm, cell11_ k qm sm, cell10_ k qm sm, cell9_ k qm sm, cell7_ k qm sm] := hD
  have hlit2 : ((-9) : Int32).toInt = -9 := by decide
  refine lv_aload_n hx hb dX12_readRule_11 rfl (lv_at hl 0 rfl) ?_
  refine lv_iconst (v := 0) hx hb dX12_readRule_12 (by decide) ?_
  refine g_pt cx hP hD hS iw_X12_readRule_X12 tyX12 tyX12_ok nmX12 0 rfl rfl 13 (by decide) rfl fw_X12_readRule_130 (ty := .int) rfl rfl rfl (Nat.le_of_ble_eq_true rfl) dX12_readRule_13 (fun H locs hP hD hS => ?_)
  have hP : va_P D vwCl [cell76_ qm sm tm 0 (-9) 0, cell5_ k qm sm, cell13_ k qm sm, cell8_ k qm sm, cell6_ k qm sm, cell14_ k qm sm, cell15_ k qm tm, cell12_ k qm tm, cell18_ k qm tm, cell17_ k qm tm, cell19_ k qm tm, cell21_ k qm tm, cell20_ k qm sm, cell16_ k qm sm, cell11_ k qm sm, cell10_ k qm sm, cell9_ k qm sm, cell7_ k qm sm] H := hP
  have hD : va_D A [cell76_ qm sm tm 0 (-9) 0, cell5_ k qm sm, cell13_ k qm sm, cell8_ k qm sm, cell6_ k qm sm, cell14_ k qm sm, cell15_ k qm tm, cell12_ k qm tm, cell18_ k qm tm, cell17_ k qm tm, cell19_ k qm tm, cell21_ k qm tm, cell20_ k qm sm, cell16_ k qm sm, cell11_ k qm sm, cell10_ k qm sm, cell9_ k qm sm, cell7_ k qm sm] := hD
  have hlit3 : (0 : Int32).toInt = 0 := by decide
  refine lv_bipush (v := 31) hx hb dX12_readRule_16 (by decide) ?_
  refine lv_istore_n (lv' := [(1, .int 31), (0, .ref (qm 0))]) hx hb dX12_readRule_18 rfl hl (by decide) rfl (fun ls hl => ?_)
  have hL19 : ∀ (n49 : Nat) (v44 : Int32) (x45 : Int32) (x46 : Int32) (x47 : Int32) (g48 : Nat → Int32) (H : Heap) (locs : List Loc) (ls : Array Slot), ((1 ≤ (n49 : Int) ∧ (¬ x46.toInt = -9 ∨ 65 - x45.toInt < (n49 : Int))) ∧ QIT sm tm n49 (x45, x46, x47, g48, v44) = QIT sm tm 200 (Q0 sm)) → (0 ≤ v44.toInt ∧ v44.toInt ≤ 31) → (0 ≤ x45.toInt ∧ x45.toInt ≤ 64) → va_P D vwCl [cell76_ qm sm tm x45 x46 x47, cell5_ k qm sm, cell13_ k qm sm, cell8_ k qm sm, cell6_ k qm sm, (qm 5, .inl (k 0, 5, .inl g48)), cell15_ k qm tm, cell12_ k qm tm, cell18_ k qm tm, cell17_ k qm tm, cell19_ k qm tm, cell21_ k qm tm, cell20_ k qm sm, cell16_ k qm sm, cell11_ k qm sm, cell10_ k qm sm, cell9_ k qm sm, cell7_ k qm sm] H → va_D A [cell76_ qm sm tm x45 x46 x47, cell5_ k qm sm, cell13_ k qm sm, cell8_ k qm sm, cell6_ k qm sm, (qm 5, .inl (k 0, 5, .inl g48)), cell15_ k qm tm, cell12_ k qm tm, cell18_ k qm tm, cell17_ k qm tm, cell19_ k qm tm, cell21_ k qm tm, cell20_ k qm sm, cell16_ k qm sm, cell11_ k qm sm, cell10_ k qm sm, cell9_ k qm sm, cell7_ k qm sm] → va_S A s.heap H locs → lv_has ls 4 [(1, .int v44), (0, .ref (qm 0))] → W p l e ({ frames := 2, cells := 0, slots := 0, locals := 47 } : Room) s m ([.ref (qm 0)] : List Value).toArray below meth c H locs 0 0 Q (F0 m 19 ls []) := by
    intro n49
    induction n49 with
    | zero => intro v44 x45 x46 x47 g48 H locs ls hmn49 bv44 bx45 hP hD hS hl; exact absurd hmn49 (by omega)
    | succ n49 ih19 =>
      intro v44 x45 x46 x47 g48 H locs ls hmn49 bv44 bx45 hP hD hS hl
      have hmN_ := hmn49
      refine lv_aload_n hx hb dX12_readRule_19 rfl (lv_at hl 1 rfl) ?_
      refine g_get cx hP iw_X12_readRule_X12 0 rfl rfl 5 (by decide) rfl fw_X12_readRule_108 rfl dX12_readRule_20 ?_
      refine lv_bipush (v := (-9)) hx hb dX12_readRule_23 (by decide) ?_
      have hJ92 : ∀  (H : Heap) (locs : List Loc) (ls : Array Slot), ((x45, x46, x47, g48, v44) = QIT sm tm 200 (Q0 sm)) → va_P D vwCl [cell76_ qm sm tm x45 x46 x47, cell5_ k qm sm, cell13_ k qm sm, cell8_ k qm sm, cell6_ k qm sm, (qm 5, .inl (k 0, 5, .inl g48)), cell15_ k qm tm, cell12_ k qm tm, cell18_ k qm tm, cell17_ k qm tm, cell19_ k qm tm, cell21_ k qm tm, cell20_ k qm sm, cell16_ k qm sm, cell11_ k qm sm, cell10_ k qm sm, cell9_ k qm sm, cell7_ k qm sm] H → va_D A [cell76_ qm sm tm x45 x46 x47, cell5_ k qm sm, cell13_ k qm sm, cell8_ k qm sm, cell6_ k qm sm, (qm 5, .inl (k 0, 5, .inl g48)), cell15_ k qm tm, cell12_ k qm tm, cell18_ k qm tm, cell17_ k qm tm, cell19_ k qm tm, cell21_ k qm tm, cell20_ k qm sm, cell16_ k qm sm, cell11_ k qm sm, cell10_ k qm sm, cell9_ k qm sm, cell7_ k qm sm] → va_S A s.heap H locs → lv_has ls 4 [(1, .int v44), (0, .ref (qm 0))] → W p l e ({ frames := 2, cells := 0, slots := 0, locals := 47 } : Room) s m ([.ref (qm 0)] : List Value).toArray below meth c H locs 0 0 Q (F0 m 92 ls []) := by
        intro  H locs ls qe hP hD hS hl
        obtain ⟨cu_, ecu_⟩ : ∃ z : SQ, z = (x45, x46, x47, g48, v44) := ⟨_, rfl⟩
        refine lv_aload_n hx hb dX12_readRule_92 rfl (lv_at hl 1 rfl) ?_
        refine g_get cx hP iw_X12_readRule_X12 0 rfl rfl 5 (by decide) rfl fw_X12_readRule_108 rfl dX12_readRule_93 ?_
        refine lv_bipush (v := (-9)) hx hb dX12_readRule_96 (by decide) ?_
        have hJ143 : ∀ (x114 : Int32) (x115 : Int32) (H : Heap) (locs : List Loc) (ls : Array Slot), (0 ≤ x114.toInt ∧ x114.toInt ≤ 64) → ((x114, x115) = QB sm tm cu_) → va_P D vwCl [cell76_ qm sm tm x114 x115 x47, cell5_ k qm sm, cell13_ k qm sm, cell8_ k qm sm, cell6_ k qm sm, (qm 5, .inl (k 0, 5, .inl g48)), cell15_ k qm tm, cell12_ k qm tm, cell18_ k qm tm, cell17_ k qm tm, cell19_ k qm tm, cell21_ k qm tm, cell20_ k qm sm, cell16_ k qm sm, cell11_ k qm sm, cell10_ k qm sm, cell9_ k qm sm, cell7_ k qm sm] H → va_D A [cell76_ qm sm tm x114 x115 x47, cell5_ k qm sm, cell13_ k qm sm, cell8_ k qm sm, cell6_ k qm sm, (qm 5, .inl (k 0, 5, .inl g48)), cell15_ k qm tm, cell12_ k qm tm, cell18_ k qm tm, cell17_ k qm tm, cell19_ k qm tm, cell21_ k qm tm, cell20_ k qm sm, cell16_ k qm sm, cell11_ k qm sm, cell10_ k qm sm, cell9_ k qm sm, cell7_ k qm sm] → va_S A s.heap H locs → lv_has ls 4 [(1, .int v44), (0, .ref (qm 0))] → W p l e ({ frames := 2, cells := 0, slots := 0, locals := 47 } : Room) s m ([.ref (qm 0)] : List Value).toArray below meth c H locs 0 0 Q (F0 m 143 ls []) := by
          intro x114 x115 H locs ls bx114 q3 hP hD hS hl
          refine lv_aload_n hx hb dX12_readRule_143 rfl (lv_at hl 1 rfl) ?_
          refine lv_bipush (v := 31) hx hb dX12_readRule_144 (by decide) ?_
          refine g_iF (w1 := fun (u : Int32 × Int32) => [cell76_ qm sm tm (u.1) (u.2) x47, cell5_ k qm sm, cell13_ k qm sm, cell8_ k qm sm, cell6_ k qm sm, (qm 5, .inl (k 0, 5, .inl g48)), cell15_ k qm tm, cell12_ k qm tm, cell18_ k qm tm, cell17_ k qm tm, cell19_ k qm tm, cell21_ k qm tm, cell20_ k qm sm, cell16_ k qm sm, cell11_ k qm sm, cell10_ k qm sm, cell9_ k qm sm, cell7_ k qm sm]) (g_runVF (ws := [cell76_ qm sm tm x114 x115 x47, cell5_ k qm sm, cell13_ k qm sm, cell8_ k qm sm, cell6_ k qm sm, (qm 5, .inl (k 0, 5, .inl g48)), cell15_ k qm tm, cell12_ k qm tm, cell18_ k qm tm, cell17_ k qm tm, cell19_ k qm tm, cell21_ k qm tm, cell20_ k qm sm, cell16_ k qm sm, cell11_ k qm sm, cell10_ k qm sm, cell9_ k qm sm, cell7_ k qm sm]) (rest := []) cx hP hD hS [.int 31] (c_X12_figure l D k b qm (up2 (up2 sm 0 (upd (upd (upd (sm 0) 4 x114) 5 x115) 13 x47)) 5 g48) tm H.size 31 (show 0 ≤ (sm 0 3).toInt ∧ (sm 0 3).toInt ≤ 64 from by first | decide | omega) (show 0 ≤ x114.toInt ∧ x114.toInt ≤ 64 from by first | decide | omega)) gX12_readRule_X12_figure rfl rfl rfl nd_X12_figure ⟨Nat.le_of_ble_eq_true rfl, Nat.le_of_ble_eq_true rfl⟩ (ci := 10) (q0 := 0) rfl rfl rfl hl.1 rfl (Nat.le_of_ble_eq_true rfl) ⟨Nat.zero_le _, Nat.zero_le _⟩ dX12_readRule_146) cx.2.2.1 hD hS (fun r118 u117 H locs hw116 hP hD hS => ?_)
          obtain ⟨m119, m120⟩ := u117
          have hP : va_P D vwCl [cell76_ qm sm tm m119 m120 x47, cell5_ k qm sm, cell13_ k qm sm, cell8_ k qm sm, cell6_ k qm sm, (qm 5, .inl (k 0, 5, .inl g48)), cell15_ k qm tm, cell12_ k qm tm, cell18_ k qm tm, cell17_ k qm tm, cell19_ k qm tm, cell21_ k qm tm, cell20_ k qm sm, cell16_ k qm sm, cell11_ k qm sm, cell10_ k qm sm, cell9_ k qm sm, cell7_ k qm sm] H := hP
          have hD : va_D A [cell76_ qm sm tm m119 m120 x47, cell5_ k qm sm, cell13_ k qm sm, cell8_ k qm sm, cell6_ k qm sm, (qm 5, .inl (k 0, 5, .inl g48)), cell15_ k qm tm, cell12_ k qm tm, cell18_ k qm tm, cell17_ k qm tm, cell19_ k qm tm, cell21_ k qm tm, cell20_ k qm sm, cell16_ k qm sm, cell11_ k qm sm, cell10_ k qm sm, cell9_ k qm sm, cell7_ k qm sm] := hD
          replace hw116 : (0 ≤ r118.toInt ∧ r118.toInt ≤ 9) ∧ (x114.toInt ≤ m119.toInt ∧ m119.toInt ≤ 64) ∧ (x114.toInt + 1 ≤ m119.toInt ∨ ¬ m120.toInt = -9) ∧ (Imp (0 ≤ (31 : Int32).toInt ∧ (31 : Int32).toInt ≤ 63) (r118.toInt ≤ 5)) ∧ (Imp (0 ≤ (31 : Int32).toInt ∧ (31 : Int32).toInt ≤ 31) (r118.toInt ≤ 4)) ∧ (Imp (0 ≤ (31 : Int32).toInt ∧ (31 : Int32).toInt ≤ 7) (r118.toInt ≤ 2)) ∧ ((r118, m119, m120) = J_X12_figure (up2 (up2 sm 0 (upd (upd (upd (sm 0) 4 x114) 5 x115) 13 x47)) 5 g48) tm (31 : Int32)) := hw116
          obtain ⟨w121, w122, w123, w124, w125, w126, w127⟩ := hw116
          have k129 : r118 = ((J_X12_figure (up2 (up2 sm 0 (upd (upd (upd (sm 0) 4 x114) 5 x115) 13 x47)) 5 g48) tm (31 : Int32)).1) := congrArg (fun z => (z.1)) w127
          have k130 : m119 = ((J_X12_figure (up2 (up2 sm 0 (upd (upd (upd (sm 0) 4 x114) 5 x115) 13 x47)) 5 g48) tm (31 : Int32)).2.1) := congrArg (fun z => (z.2.1)) w127
          have k131 : m120 = ((J_X12_figure (up2 (up2 sm 0 (upd (upd (upd (sm 0) 4 x114) 5 x115) 13 x47)) 5 g48) tm (31 : Int32)).2.2) := congrArg (fun z => (z.2.2)) w127
          have xr118 : r118.toInt ≤ 4 := w125 ⟨by decide, by decide⟩
          have hf3_ := w127
          refine lv_istore_n (lv' := [(2, .int r118), (1, .int v44), (0, .ref (qm 0))]) hx hb dX12_readRule_149 rfl hl (by decide) rfl (fun ls hl => ?_)
          refine lv_iconst (v := 0) hx hb dX12_readRule_150 (by decide) ?_
          refine lv_istore_n (lv' := [(3, .int 0), (2, .int r118), (1, .int v44), (0, .ref (qm 0))]) hx hb dX12_readRule_151 rfl hl (by decide) rfl (fun ls hl => ?_)
          have hL152 : ∀ (n141 : Nat) (v139 : Int32) (g140 : Nat → Int32) (H : Heap) (locs : List Loc) (ls : Array Slot), 5 - v139.toInt < (n141 : Int) → (0 ≤ v139.toInt ∧ v139.toInt ≤ 5) → (g140 = PFn (LVP v44 r118 cu_.2.2.2.1) (Int.toNat v139.toInt) cu_.2.2.2.1) → va_P D vwCl [cell76_ qm sm tm m119 m120 x47, cell5_ k qm sm, cell13_ k qm sm, cell8_ k qm sm, cell6_ k qm sm, (qm 5, .inl (k 0, 5, .inl g140)), cell15_ k qm tm, cell12_ k qm tm, cell18_ k qm tm, cell17_ k qm tm, cell19_ k qm tm, cell21_ k qm tm, cell20_ k qm sm, cell16_ k qm sm, cell11_ k qm sm, cell10_ k qm sm, cell9_ k qm sm, cell7_ k qm sm] H → va_D A [cell76_ qm sm tm m119 m120 x47, cell5_ k qm sm, cell13_ k qm sm, cell8_ k qm sm, cell6_ k qm sm, (qm 5, .inl (k 0, 5, .inl g140)), cell15_ k qm tm, cell12_ k qm tm, cell18_ k qm tm, cell17_ k qm tm, cell19_ k qm tm, cell21_ k qm tm, cell20_ k qm sm, cell16_ k qm sm, cell11_ k qm sm, cell10_ k qm sm, cell9_ k qm sm, cell7_ k qm sm] → va_S A s.heap H locs → lv_has ls 4 [(3, .int v139), (2, .int r118), (1, .int v44), (0, .ref (qm 0))] → W p l e ({ frames := 2, cells := 0, slots := 0, locals := 47 } : Room) s m ([.ref (qm 0)] : List Value).toArray below meth c H locs 0 0 Q (F0 m 152 ls []) := by
            intro n141
            induction n141 with
            | zero => intro v139 g140 H locs ls hmn141 bv139 qL hP hD hS hl; exact absurd hmn141 (by omega)
            | succ n141 ih152 =>
              intro v139 g140 H locs ls hmn141 bv139 qL hP hD hS hl
              refine lv_iload_n hx hb dX12_readRule_152 rfl (lv_at hl 0 rfl) ?_
              refine lv_iconst (v := 5) hx hb dX12_readRule_153 (by decide) ?_
              refine lv_icmp_ge (tgt := 188) hx hb dX12_readRule_154 (by decide) (fun c142 => ?_) (fun c142 => ?_)
              · have f142 : 5 ≤ v139.toInt := f_le (by decide) rfl c142
                refine lv_aload_n hx hb dX12_readRule_188 rfl (lv_at hl 3 rfl) ?_
                refine g_get cx hP iw_X12_readRule_X12 0 rfl rfl 5 (by decide) rfl fw_X12_readRule_108 rfl dX12_readRule_189 ?_
                refine lv_bipush (v := (-9)) hx hb dX12_readRule_192 (by decide) ?_
                refine lv_icmp_ne (tgt := 212) hx hb dX12_readRule_194 (by decide) (fun c143 => ?_) (fun c143 => ?_)
                · have f143 : ¬ m120.toInt = (-9) := f_ne rfl (by decide) c143
                  refine lv_aload_n hx hb dX12_readRule_212 rfl (lv_at hl 3 rfl) ?_
                  refine g_get cx hP iw_X12_readRule_X12 0 rfl rfl 5 (by decide) rfl fw_X12_readRule_108 rfl dX12_readRule_213 ?_
                  rw [hQ]
                  exact x_i cx hr (m119, m120, x47, g140) hP hD hS ⟨(show 0 ≤ m119.toInt ∧ m119.toInt ≤ 64 from by omega), (show (m120, m119, m120, x47, g140) = J_X12_readRule sm tm from by have qn_ : Int.toNat v139.toInt = 5 := (by omega); rw [qn_] at qL; subst ecu_; exact q_end qe q3 hf3_ qL (by first | exact (if_neg (by assumption)).symm | exact ((if_pos (by assumption)).trans (if_pos (by assumption))).symm | exact hfe_.trans ((if_pos (by assumption)).trans (if_neg (by assumption))).symm))⟩ dX12_readRule_216
                · have f143 : m120.toInt = (-9) := f_eq rfl (by decide) c143
                  refine lv_aload_n hx hb dX12_readRule_197 rfl (lv_at hl 3 rfl) ?_
                  refine g_get cx hP iw_X12_readRule_X12 0 rfl rfl 4 (by decide) rfl fw_X12_readRule_111 rfl dX12_readRule_198 ?_
                  refine lv_aload_n hx hb dX12_readRule_201 rfl (lv_at hl 3 rfl) ?_
                  refine g_get cx hP iw_X12_readRule_X12 0 rfl rfl 3 (by decide) rfl fw_X12_readRule_103 rfl dX12_readRule_202 ?_
                  refine lv_icmp_ge (tgt := 212) hx hb dX12_readRule_205 (by decide) (fun c144 => ?_) (fun c144 => ?_)
                  · have f144 : (sm 0 3).toInt ≤ m119.toInt := f_le rfl rfl c144
                    refine lv_aload_n hx hb dX12_readRule_212 rfl (lv_at hl 3 rfl) ?_
                    refine g_get cx hP iw_X12_readRule_X12 0 rfl rfl 5 (by decide) rfl fw_X12_readRule_108 rfl dX12_readRule_213 ?_
                    rw [hQ]
                    exact x_i cx hr (m119, m120, x47, g140) hP hD hS ⟨(show 0 ≤ m119.toInt ∧ m119.toInt ≤ 64 from by omega), (show (m120, m119, m120, x47, g140) = J_X12_readRule sm tm from by have qn_ : Int.toNat v139.toInt = 5 := (by omega); rw [qn_] at qL; subst ecu_; exact q_end qe q3 hf3_ qL (by first | exact (if_neg (by assumption)).symm | exact ((if_pos (by assumption)).trans (if_pos (by assumption))).symm | exact hfe_.trans ((if_pos (by assumption)).trans (if_neg (by assumption))).symm))⟩ dX12_readRule_216
                  · have f144 : m119.toInt < (sm 0 3).toInt := f_nle rfl rfl c144
                    refine lv_aload_n hx hb dX12_readRule_208 rfl (lv_at hl 3 rfl) ?_
                    refine g_vF (w1 := fun (u : Int32) => [cell76_ qm sm tm m119 u x47, cell5_ k qm sm, cell13_ k qm sm, cell8_ k qm sm, cell6_ k qm sm, (qm 5, .inl (k 0, 5, .inl g140)), cell15_ k qm tm, cell12_ k qm tm, cell18_ k qm tm, cell17_ k qm tm, cell19_ k qm tm, cell21_ k qm tm, cell20_ k qm sm, cell16_ k qm sm, cell11_ k qm sm, cell10_ k qm sm, cell9_ k qm sm, cell7_ k qm sm]) (g_runVF (ws := [cell76_ qm sm tm m119 m120 x47, cell5_ k qm sm, cell13_ k qm sm, cell8_ k qm sm, cell6_ k qm sm, (qm 5, .inl (k 0, 5, .inl g140)), cell15_ k qm tm, cell12_ k qm tm, cell18_ k qm tm, cell17_ k qm tm, cell19_ k qm tm, cell21_ k qm tm, cell20_ k qm sm, cell16_ k qm sm, cell11_ k qm sm, cell10_ k qm sm, cell9_ k qm sm, cell7_ k qm sm]) (rest := []) cx hP hD hS [] (c_X12_fail l D k b qm (up2 (up2 sm 0 (upd (upd (upd (sm 0) 4 m119) 5 m120) 13 x47)) 5 g140) tm H.size (show 0 ≤ m119.toInt ∧ m119.toInt ≤ 64 from by first | decide | omega)) gX12_readRule_X12_fail rfl rfl rfl nd_X12_fail ⟨Nat.le_of_ble_eq_true rfl, Nat.le_of_ble_eq_true rfl⟩ (ci := 10) (q0 := 0) rfl rfl rfl hl.1 rfl (Nat.le_of_ble_eq_true rfl) ⟨Nat.zero_le _, Nat.zero_le _⟩ dX12_readRule_209) cx.2.2.1 hD hS (fun u146 H locs hw145 hP hD hS => ?_)
                    obtain ⟨m147, rfl⟩ : ∃ z, z = u146 := ⟨_, rfl⟩
                    have hP : va_P D vwCl [cell76_ qm sm tm m119 m147 x47, cell5_ k qm sm, cell13_ k qm sm, cell8_ k qm sm, cell6_ k qm sm, (qm 5, .inl (k 0, 5, .inl g140)), cell15_ k qm tm, cell12_ k qm tm, cell18_ k qm tm, cell17_ k qm tm, cell19_ k qm tm, cell21_ k qm tm, cell20_ k qm sm, cell16_ k qm sm, cell11_ k qm sm, cell10_ k qm sm, cell9_ k qm sm, cell7_ k qm sm] H := hP
                    have hD : va_D A [cell76_ qm sm tm m119 m147 x47, cell5_ k qm sm, cell13_ k qm sm, cell8_ k qm sm, cell6_ k qm sm, (qm 5, .inl (k 0, 5, .inl g140)), cell15_ k qm tm, cell12_ k qm tm, cell18_ k qm tm, cell17_ k qm tm, cell19_ k qm tm, cell21_ k qm tm, cell20_ k qm sm, cell16_ k qm sm, cell11_ k qm sm, cell10_ k qm sm, cell9_ k qm sm, cell7_ k qm sm] := hD
                    replace hw145 : (¬ m147.toInt = -9) ∧ (m147 = J_X12_fail (up2 (up2 sm 0 (upd (upd (upd (sm 0) 4 m119) 5 m120) 13 x47)) 5 g140) tm) := hw145
                    obtain ⟨w148, w149⟩ := hw145
                    have k151 : m147 = (J_X12_fail (up2 (up2 sm 0 (upd (upd (upd (sm 0) 4 m119) 5 m120) 13 x47)) 5 g140) tm) := congrArg (fun z => z) w149
                    have hfe_ := w149
                    refine lv_aload_n hx hb dX12_readRule_212 rfl (lv_at hl 3 rfl) ?_
                    refine g_get cx hP iw_X12_readRule_X12 0 rfl rfl 5 (by decide) rfl fw_X12_readRule_108 rfl dX12_readRule_213 ?_
                    rw [hQ]
                    exact x_i cx hr (m119, m147, x47, g140) hP hD hS ⟨(show 0 ≤ m119.toInt ∧ m119.toInt ≤ 64 from by omega), (show (m147, m119, m147, x47, g140) = J_X12_readRule sm tm from by have qn_ : Int.toNat v139.toInt = 5 := (by omega); rw [qn_] at qL; subst ecu_; exact q_end qe q3 hf3_ qL (by first | exact (if_neg (by assumption)).symm | exact ((if_pos (by assumption)).trans (if_pos (by assumption))).symm | exact hfe_.trans ((if_pos (by assumption)).trans (if_neg (by assumption))).symm))⟩ dX12_readRule_216
              · have f142 : v139.toInt < 5 := f_nle (by decide) rfl c142
                refine lv_aload_n hx hb dX12_readRule_157 rfl (lv_at hl 3 rfl) ?_
                refine g_get cx hP iw_X12_readRule_X12 0 rfl rfl 12 (by decide) rfl fw_X12_readRule_22 rfl dX12_readRule_158 ?_
                refine lv_iload_n hx hb dX12_readRule_161 rfl (lv_at hl 0 rfl) ?_
                refine lv_iload_n hx hb dX12_readRule_162 rfl (lv_at hl 2 rfl) ?_
                refine lv_iload_n hx hb dX12_readRule_163 rfl (lv_at hl 0 rfl) ?_
                refine lv_ishr hx hb dX12_readRule_164 (lv_topi (fun v152 e152 => ?_))
                refine lv_iconst (v := 1) hx hb dX12_readRule_165 (by decide) ?_
                refine lv_iand hx hb dX12_readRule_166 (lv_topi (fun v153 e153 => ?_))
                have t153 : 0 ≤ v153.toInt ∧ v153.toInt ≤ 1 := by rw [e153]; exact and_r (by decide) (by omega)
                refine lv_iconst (v := 1) hx hb dX12_readRule_167 (by decide) ?_
                have hJ181 : ∀ (v156 : Int32) (H : Heap) (locs : List Loc) (ls : Array Slot), (v156 = LVP v44 r118 cu_.2.2.2.1 (Int.toNat v139.toInt)) → va_P D vwCl [cell76_ qm sm tm m119 m120 x47, cell5_ k qm sm, cell13_ k qm sm, cell8_ k qm sm, cell6_ k qm sm, (qm 5, .inl (k 0, 5, .inl g140)), cell15_ k qm tm, cell12_ k qm tm, cell18_ k qm tm, cell17_ k qm tm, cell19_ k qm tm, cell21_ k qm tm, cell20_ k qm sm, cell16_ k qm sm, cell11_ k qm sm, cell10_ k qm sm, cell9_ k qm sm, cell7_ k qm sm] H → va_D A [cell76_ qm sm tm m119 m120 x47, cell5_ k qm sm, cell13_ k qm sm, cell8_ k qm sm, cell6_ k qm sm, (qm 5, .inl (k 0, 5, .inl g140)), cell15_ k qm tm, cell12_ k qm tm, cell18_ k qm tm, cell17_ k qm tm, cell19_ k qm tm, cell21_ k qm tm, cell20_ k qm sm, cell16_ k qm sm, cell11_ k qm sm, cell10_ k qm sm, cell9_ k qm sm, cell7_ k qm sm] → va_S A s.heap H locs → lv_has ls 4 [(3, .int v139), (2, .int r118), (1, .int v44), (0, .ref (qm 0))] → W p l e ({ frames := 2, cells := 0, slots := 0, locals := 47 } : Room) s m ([.ref (qm 0)] : List Value).toArray below meth c H locs 0 0 Q (F0 m 181 ls [.int v156, .int v139, .ref (qm 5)]) := by
                  intro v156 H locs ls qv hP hD hS hl
                  have hn157 : vp_in v139 5 := f_in (a := v139.toInt) rfl (by omega) (by omega)
                  refine va_iast hx hb cx.2.1 hP hD hS 5 0 rfl rfl hn157 dX12_readRule_181 (fun H locs hP hD hS => ?_)
                  obtain ⟨g158, eg158⟩ : ∃ g : Nat → Int32, g = upd g140 (v139).toNatClampNeg v156 := ⟨_, rfl⟩
                  rw [← eg158] at hP hD
                  have hP : va_P D vwCl [cell76_ qm sm tm m119 m120 x47, cell5_ k qm sm, cell13_ k qm sm, cell8_ k qm sm, cell6_ k qm sm, (qm 5, .inl (k 0, 5, .inl g158)), cell15_ k qm tm, cell12_ k qm tm, cell18_ k qm tm, cell17_ k qm tm, cell19_ k qm tm, cell21_ k qm tm, cell20_ k qm sm, cell16_ k qm sm, cell11_ k qm sm, cell10_ k qm sm, cell9_ k qm sm, cell7_ k qm sm] H := hP
                  have hD : va_D A [cell76_ qm sm tm m119 m120 x47, cell5_ k qm sm, cell13_ k qm sm, cell8_ k qm sm, cell6_ k qm sm, (qm 5, .inl (k 0, 5, .inl g158)), cell15_ k qm tm, cell12_ k qm tm, cell18_ k qm tm, cell17_ k qm tm, cell19_ k qm tm, cell21_ k qm tm, cell20_ k qm sm, cell16_ k qm sm, cell11_ k qm sm, cell10_ k qm sm, cell9_ k qm sm, cell7_ k qm sm] := hD
                  have flq := PF_st (P := (LVP v44 r118 cu_.2.2.2.1)) eg158 (k := Int.toNat v139.toInt) (show v139.toInt = ((Int.toNat v139.toInt : Nat) : Int) from by omega) (qv) qL
                  obtain ⟨v159, e159⟩ : ∃ z : Int32, z = v139 + 1 := ⟨_, rfl⟩
                  refine lv_iinc (v := v159) (lv' := [(3, .int v159), (2, .int r118), (1, .int v44), (0, .ref (qm 0))]) hx hb dX12_readRule_182 hl (k := 0) rfl (by rw [e159]; rfl) (by decide) rfl (fun ls hl => ?_)
                  have t159 : v159.toInt = v139.toInt + 1 := by rw [e159]; exact i_add rfl (by decide) (by omega) (by omega)
                  refine lv_goto (tgt := 152) hx hb dX12_readRule_185 (by decide) ?_
                  exact ih152 v159 g158 _ _ _ (by omega) (by first | decide | omega) (flq.trans (congrArg (fun n => PFn (LVP v44 r118 cu_.2.2.2.1) n cu_.2.2.2.1) (by omega))) hP hD hS (lv_sub hl [0, 1, 2, 3] rfl)
                refine lv_icmp_ne (tgt := 175) hx hb dX12_readRule_168 (by decide) (fun c160 => ?_) (fun c160 => ?_)
                · have f160 : ¬ v153.toInt = 1 := f_ne rfl (by decide) c160
                  have lvn_ := fun (w : Int32) (hw : w = g140 (v139).toNatClampNeg) => lv_2 (lev := r118) (f := cu_.2.2.2.1) e152 e153 c160 (show 0 ≤ v139.toInt from by omega) hw qL
                  refine lv_aload_n hx hb dX12_readRule_175 rfl (lv_at hl 3 rfl) ?_
                  refine g_get cx hP iw_X12_readRule_X12 0 rfl rfl 12 (by decide) rfl fw_X12_readRule_22 rfl dX12_readRule_176 ?_
                  refine lv_iload_n hx hb dX12_readRule_179 rfl (lv_at hl 0 rfl) ?_
                  have hn161 : vp_in v139 5 := f_in (a := v139.toInt) rfl (by omega) (by omega)
                  refine va_iald hx hb cx.2.1 hP 5 0 rfl rfl hn161 dX12_readRule_180 (lv_topi (fun v162 e162 => ?_))
                  have lvq_ := lvn_ _ e162
                  exact hJ181 v162 _ _ _ lvq_ hP hD hS (lv_sub hl [0, 1, 2, 3] rfl)
                · have f160 : v153.toInt = 1 := f_eq rfl (by decide) c160
                  have lvq_ := lv_1 (lev := r118) (f := cu_.2.2.2.1) e152 e153 c160 (show 0 ≤ v139.toInt from by omega)
                  refine lv_iload_n hx hb dX12_readRule_171 rfl (lv_at hl 1 rfl) ?_
                  refine lv_goto (tgt := 181) hx hb dX12_readRule_172 (by decide) ?_
                  exact hJ181 r118 _ _ _ lvq_ hP hD hS (lv_sub hl [0, 1, 2, 3] rfl)
          have hlit163 : (0 : Int32).toInt = 0 := by decide
          exact hL152 (Int.toNat (5 - 0) + 1) 0 g48 _ _ _ (by omega) (by first | decide | omega) (by rw [ecu_]; exact PF_0 _ _) hP hD hS (lv_sub hl [0, 1, 2, 3] rfl)
        have hJ139 : ∀  (H : Heap) (locs : List Loc) (ls : Array Slot), (QB sm tm cu_ = (cu_.1, J_X12_fail (QS sm cu_) tm)) → va_P D vwCl [cell76_ qm sm tm x45 x46 x47, cell5_ k qm sm, cell13_ k qm sm, cell8_ k qm sm, cell6_ k qm sm, (qm 5, .inl (k 0, 5, .inl g48)), cell15_ k qm tm, cell12_ k qm tm, cell18_ k qm tm, cell17_ k qm tm, cell19_ k qm tm, cell21_ k qm tm, cell20_ k qm sm, cell16_ k qm sm, cell11_ k qm sm, cell10_ k qm sm, cell9_ k qm sm, cell7_ k qm sm] H → va_D A [cell76_ qm sm tm x45 x46 x47, cell5_ k qm sm, cell13_ k qm sm, cell8_ k qm sm, cell6_ k qm sm, (qm 5, .inl (k 0, 5, .inl g48)), cell15_ k qm tm, cell12_ k qm tm, cell18_ k qm tm, cell17_ k qm tm, cell19_ k qm tm, cell21_ k qm tm, cell20_ k qm sm, cell16_ k qm sm, cell11_ k qm sm, cell10_ k qm sm, cell9_ k qm sm, cell7_ k qm sm] → va_S A s.heap H locs → lv_has ls 4 [(1, .int v44), (0, .ref (qm 0))] → W p l e ({ frames := 2, cells := 0, slots := 0, locals := 47 } : Room) s m ([.ref (qm 0)] : List Value).toArray below meth c H locs 0 0 Q (F0 m 139 ls []) := by
          intro  H locs ls q9 hP hD hS hl
          refine lv_aload_n hx hb dX12_readRule_139 rfl (lv_at hl 1 rfl) ?_
          refine g_vF (w1 := fun (u : Int32) => [cell76_ qm sm tm x45 u x47, cell5_ k qm sm, cell13_ k qm sm, cell8_ k qm sm, cell6_ k qm sm, (qm 5, .inl (k 0, 5, .inl g48)), cell15_ k qm tm, cell12_ k qm tm, cell18_ k qm tm, cell17_ k qm tm, cell19_ k qm tm, cell21_ k qm tm, cell20_ k qm sm, cell16_ k qm sm, cell11_ k qm sm, cell10_ k qm sm, cell9_ k qm sm, cell7_ k qm sm]) (g_runVF (ws := [cell76_ qm sm tm x45 x46 x47, cell5_ k qm sm, cell13_ k qm sm, cell8_ k qm sm, cell6_ k qm sm, (qm 5, .inl (k 0, 5, .inl g48)), cell15_ k qm tm, cell12_ k qm tm, cell18_ k qm tm, cell17_ k qm tm, cell19_ k qm tm, cell21_ k qm tm, cell20_ k qm sm, cell16_ k qm sm, cell11_ k qm sm, cell10_ k qm sm, cell9_ k qm sm, cell7_ k qm sm]) (rest := []) cx hP hD hS [] (c_X12_fail l D k b qm (up2 (up2 sm 0 (upd (upd (upd (sm 0) 4 x45) 5 x46) 13 x47)) 5 g48) tm H.size (show 0 ≤ x45.toInt ∧ x45.toInt ≤ 64 from by first | decide | omega)) gX12_readRule_X12_fail rfl rfl rfl nd_X12_fail ⟨Nat.le_of_ble_eq_true rfl, Nat.le_of_ble_eq_true rfl⟩ (ci := 10) (q0 := 0) rfl rfl rfl hl.1 rfl (Nat.le_of_ble_eq_true rfl) ⟨Nat.zero_le _, Nat.zero_le _⟩ dX12_readRule_140) cx.2.2.1 hD hS (fun u168 H locs hw167 hP hD hS => ?_)
          obtain ⟨m169, rfl⟩ : ∃ z, z = u168 := ⟨_, rfl⟩
          have hP : va_P D vwCl [cell76_ qm sm tm x45 m169 x47, cell5_ k qm sm, cell13_ k qm sm, cell8_ k qm sm, cell6_ k qm sm, (qm 5, .inl (k 0, 5, .inl g48)), cell15_ k qm tm, cell12_ k qm tm, cell18_ k qm tm, cell17_ k qm tm, cell19_ k qm tm, cell21_ k qm tm, cell20_ k qm sm, cell16_ k qm sm, cell11_ k qm sm, cell10_ k qm sm, cell9_ k qm sm, cell7_ k qm sm] H := hP
          have hD : va_D A [cell76_ qm sm tm x45 m169 x47, cell5_ k qm sm, cell13_ k qm sm, cell8_ k qm sm, cell6_ k qm sm, (qm 5, .inl (k 0, 5, .inl g48)), cell15_ k qm tm, cell12_ k qm tm, cell18_ k qm tm, cell17_ k qm tm, cell19_ k qm tm, cell21_ k qm tm, cell20_ k qm sm, cell16_ k qm sm, cell11_ k qm sm, cell10_ k qm sm, cell9_ k qm sm, cell7_ k qm sm] := hD
          replace hw167 : (¬ m169.toInt = -9) ∧ (m169 = J_X12_fail (up2 (up2 sm 0 (upd (upd (upd (sm 0) 4 x45) 5 x46) 13 x47)) 5 g48) tm) := hw167
          obtain ⟨w170, w171⟩ := hw167
          have k173 : m169 = (J_X12_fail (up2 (up2 sm 0 (upd (upd (upd (sm 0) 4 x45) 5 x46) 13 x47)) 5 g48) tm) := congrArg (fun z => z) w171
          have hfl_ := w171
          exact hJ143 x45 m169 _ _ _ (by first | decide | omega) (by first | exact qb_5 ecu_ (by assumption) (by assumption) z8_ hat_ | (rw [q9, hfl_]; subst ecu_; rfl)) hP hD hS (lv_sub hl [0, 1] rfl)
        refine lv_icmp_ne (tgt := 139) hx hb dX12_readRule_98 (by decide) (fun c174 => ?_) (fun c174 => ?_)
        · have f174 : ¬ x46.toInt = (-9) := f_ne rfl (by decide) c174
          exact hJ139  _ _ _ (by subst ecu_; first | exact qb_1 (by assumption) | exact qb_2 (by assumption) | exact qb_3 z8_) hP hD hS (lv_sub hl [0, 1] rfl)
        · have f174 : x46.toInt = (-9) := f_eq rfl (by decide) c174
          refine lv_aload_n hx hb dX12_readRule_101 rfl (lv_at hl 1 rfl) ?_
          refine g_get cx hP iw_X12_readRule_X12 0 rfl rfl 4 (by decide) rfl fw_X12_readRule_111 rfl dX12_readRule_102 ?_
          refine lv_aload_n hx hb dX12_readRule_105 rfl (lv_at hl 1 rfl) ?_
          refine g_get cx hP iw_X12_readRule_X12 0 rfl rfl 3 (by decide) rfl fw_X12_readRule_103 rfl dX12_readRule_106 ?_
          refine lv_icmp_ge (tgt := 139) hx hb dX12_readRule_109 (by decide) (fun c175 => ?_) (fun c175 => ?_)
          · have f175 : (sm 0 3).toInt ≤ x45.toInt := f_le rfl rfl c175
            exact hJ139  _ _ _ (by subst ecu_; first | exact qb_1 (by assumption) | exact qb_2 (by assumption) | exact qb_3 z8_) hP hD hS (lv_sub hl [0, 1] rfl)
          · have f175 : x45.toInt < (sm 0 3).toInt := f_nle rfl rfl c175
            refine lv_aload_n hx hb dX12_readRule_112 rfl (lv_at hl 1 rfl) ?_
            refine g_get cx hP iw_X12_readRule_X12 0 rfl rfl 2 (by decide) rfl fw_X12_readRule_16 rfl dX12_readRule_113 ?_
            refine lv_aload_n hx hb dX12_readRule_116 rfl (lv_at hl 1 rfl) ?_
            refine g_get cx hP iw_X12_readRule_X12 0 rfl rfl 4 (by decide) rfl fw_X12_readRule_111 rfl dX12_readRule_117 ?_
            have hn176 : vp_in x45 64 := f_in (a := x45.toInt) rfl (by omega) (by omega)
            refine va_iald hx hb cx.2.1 hP 3 0 rfl rfl hn176 dX12_readRule_120 (lv_topi (fun v177 e177 => ?_))
            refine lv_bipush (v := 76) hx hb dX12_readRule_121 (by decide) ?_
            refine lv_icmp_ne (tgt := 139) hx hb dX12_readRule_123 (by decide) (fun c178 => ?_) (fun c178 => ?_)
            · have f178 : ¬ v177.toInt = 76 := f_ne rfl (by decide) c178
              have z8_ : ¬ sm 3 (x45).toNatClampNeg = 76 := fun q => c178 (e177.trans q)
              exact hJ139  _ _ _ (by subst ecu_; first | exact qb_1 (by assumption) | exact qb_2 (by assumption) | exact qb_3 z8_) hP hD hS (lv_sub hl [0, 1] rfl)
            · have f178 : v177.toInt = 76 := f_eq rfl (by decide) c178
              have z8_ : sm 3 (x45).toNatClampNeg = 76 := e177.symm.trans c178
              refine lv_aload_n hx hb dX12_readRule_126 rfl (lv_at hl 1 rfl) ?_
              refine lv_dup hx hb dX12_readRule_127 rfl ?_
              refine g_get cx hP iw_X12_readRule_X12 0 rfl rfl 4 (by decide) rfl fw_X12_readRule_111 rfl dX12_readRule_128 ?_
              refine lv_iconst (v := 1) hx hb dX12_readRule_131 (by decide) ?_
              refine lv_iadd hx hb dX12_readRule_132 (lv_topi (fun v179 e179 => ?_))
              have t179 : v179.toInt = x45.toInt + 1 := by rw [e179]; exact i_add rfl (by decide) (by omega) (by omega)
              have hat_ := e179
              refine g_pt cx hP hD hS iw_X12_readRule_X12 tyX12 tyX12_ok nmX12 0 rfl rfl 4 (by decide) rfl fw_X12_readRule_111 (ty := .int) rfl rfl rfl (Nat.le_of_ble_eq_true rfl) dX12_readRule_133 (fun H locs hP hD hS => ?_)
              have hP : va_P D vwCl [cell76_ qm sm tm v179 x46 x47, cell5_ k qm sm, cell13_ k qm sm, cell8_ k qm sm, cell6_ k qm sm, (qm 5, .inl (k 0, 5, .inl g48)), cell15_ k qm tm, cell12_ k qm tm, cell18_ k qm tm, cell17_ k qm tm, cell19_ k qm tm, cell21_ k qm tm, cell20_ k qm sm, cell16_ k qm sm, cell11_ k qm sm, cell10_ k qm sm, cell9_ k qm sm, cell7_ k qm sm] H := hP
              have hD : va_D A [cell76_ qm sm tm v179 x46 x47, cell5_ k qm sm, cell13_ k qm sm, cell8_ k qm sm, cell6_ k qm sm, (qm 5, .inl (k 0, 5, .inl g48)), cell15_ k qm tm, cell12_ k qm tm, cell18_ k qm tm, cell17_ k qm tm, cell19_ k qm tm, cell21_ k qm tm, cell20_ k qm sm, cell16_ k qm sm, cell11_ k qm sm, cell10_ k qm sm, cell9_ k qm sm, cell7_ k qm sm] := hD
              refine lv_goto (tgt := 143) hx hb dX12_readRule_136 (by decide) ?_
              exact hJ143 v179 x46 _ _ _ (by first | decide | omega) (by first | exact qb_5 ecu_ (by assumption) (by assumption) z8_ hat_ | (rw [q9, hfl_]; subst ecu_; rfl)) hP hD hS (lv_sub hl [0, 1] rfl)
      refine lv_icmp_ne (tgt := 92) hx hb dX12_readRule_25 (by decide) (fun c180 => ?_) (fun c180 => ?_)
      · have f180 : ¬ x46.toInt = (-9) := f_ne rfl (by decide) c180
        exact hJ92  _ _ _ (by first | exact (qit_e1 (by assumption)).symm.trans hmN_.2 | exact (qit_e2 (by assumption)).symm.trans hmN_.2 | exact (qit_e3 z7_).symm.trans hmN_.2) hP hD hS (lv_sub hl [0, 1] rfl)
      · have f180 : x46.toInt = (-9) := f_eq rfl (by decide) c180
        refine lv_aload_n hx hb dX12_readRule_28 rfl (lv_at hl 1 rfl) ?_
        refine g_get cx hP iw_X12_readRule_X12 0 rfl rfl 4 (by decide) rfl fw_X12_readRule_111 rfl dX12_readRule_29 ?_
        refine lv_aload_n hx hb dX12_readRule_32 rfl (lv_at hl 1 rfl) ?_
        refine g_get cx hP iw_X12_readRule_X12 0 rfl rfl 3 (by decide) rfl fw_X12_readRule_103 rfl dX12_readRule_33 ?_
        refine lv_icmp_ge (tgt := 92) hx hb dX12_readRule_36 (by decide) (fun c181 => ?_) (fun c181 => ?_)
        · have f181 : (sm 0 3).toInt ≤ x45.toInt := f_le rfl rfl c181
          exact hJ92  _ _ _ (by first | exact (qit_e1 (by assumption)).symm.trans hmN_.2 | exact (qit_e2 (by assumption)).symm.trans hmN_.2 | exact (qit_e3 z7_).symm.trans hmN_.2) hP hD hS (lv_sub hl [0, 1] rfl)
        · have f181 : x45.toInt < (sm 0 3).toInt := f_nle rfl rfl c181
          refine lv_aload_n hx hb dX12_readRule_39 rfl (lv_at hl 1 rfl) ?_
          refine g_get cx hP iw_X12_readRule_X12 0 rfl rfl 2 (by decide) rfl fw_X12_readRule_16 rfl dX12_readRule_40 ?_
          refine lv_aload_n hx hb dX12_readRule_43 rfl (lv_at hl 1 rfl) ?_
          refine g_get cx hP iw_X12_readRule_X12 0 rfl rfl 4 (by decide) rfl fw_X12_readRule_111 rfl dX12_readRule_44 ?_
          have hn182 : vp_in x45 64 := f_in (a := x45.toInt) rfl (by omega) (by omega)
          refine va_iald hx hb cx.2.1 hP 3 0 rfl rfl hn182 dX12_readRule_47 (lv_topi (fun v183 e183 => ?_))
          refine lv_bipush (v := 76) hx hb dX12_readRule_48 (by decide) ?_
          refine lv_icmp_eq (tgt := 92) hx hb dX12_readRule_50 (by decide) (fun c184 => ?_) (fun c184 => ?_)
          · have f184 : v183.toInt = 76 := f_eq rfl (by decide) c184
            have z7_ : sm 3 (x45).toNatClampNeg = 76 := e183.symm.trans c184
            exact hJ92  _ _ _ (by first | exact (qit_e1 (by assumption)).symm.trans hmN_.2 | exact (qit_e2 (by assumption)).symm.trans hmN_.2 | exact (qit_e3 z7_).symm.trans hmN_.2) hP hD hS (lv_sub hl [0, 1] rfl)
          · have f184 : ¬ v183.toInt = 76 := f_ne rfl (by decide) c184
            have z7_ : ¬ sm 3 (x45).toNatClampNeg = 76 := fun q => c184 (e183.trans q)
            refine lv_aload_n hx hb dX12_readRule_53 rfl (lv_at hl 1 rfl) ?_
            refine lv_iload_n hx hb dX12_readRule_54 rfl (lv_at hl 0 rfl) ?_
            refine g_iF (w1 := fun (u : Int32 × Int32) => [cell76_ qm sm tm (u.1) (u.2) x47, cell5_ k qm sm, cell13_ k qm sm, cell8_ k qm sm, cell6_ k qm sm, (qm 5, .inl (k 0, 5, .inl g48)), cell15_ k qm tm, cell12_ k qm tm, cell18_ k qm tm, cell17_ k qm tm, cell19_ k qm tm, cell21_ k qm tm, cell20_ k qm sm, cell16_ k qm sm, cell11_ k qm sm, cell10_ k qm sm, cell9_ k qm sm, cell7_ k qm sm]) (g_runVF (ws := [cell76_ qm sm tm x45 x46 x47, cell5_ k qm sm, cell13_ k qm sm, cell8_ k qm sm, cell6_ k qm sm, (qm 5, .inl (k 0, 5, .inl g48)), cell15_ k qm tm, cell12_ k qm tm, cell18_ k qm tm, cell17_ k qm tm, cell19_ k qm tm, cell21_ k qm tm, cell20_ k qm sm, cell16_ k qm sm, cell11_ k qm sm, cell10_ k qm sm, cell9_ k qm sm, cell7_ k qm sm]) (rest := []) cx hP hD hS [.int v44] (c_X12_figure l D k b qm (up2 (up2 sm 0 (upd (upd (upd (sm 0) 4 x45) 5 x46) 13 x47)) 5 g48) tm H.size v44 (show 0 ≤ (sm 0 3).toInt ∧ (sm 0 3).toInt ≤ 64 from by first | decide | omega) (show 0 ≤ x45.toInt ∧ x45.toInt ≤ 64 from by first | decide | omega)) gX12_readRule_X12_figure rfl rfl rfl nd_X12_figure ⟨Nat.le_of_ble_eq_true rfl, Nat.le_of_ble_eq_true rfl⟩ (ci := 10) (q0 := 0) rfl rfl rfl hl.1 rfl (Nat.le_of_ble_eq_true rfl) ⟨Nat.zero_le _, Nat.zero_le _⟩ dX12_readRule_55) cx.2.2.1 hD hS (fun r187 u186 H locs hw185 hP hD hS => ?_)
            obtain ⟨m188, m189⟩ := u186
            have hP : va_P D vwCl [cell76_ qm sm tm m188 m189 x47, cell5_ k qm sm, cell13_ k qm sm, cell8_ k qm sm, cell6_ k qm sm, (qm 5, .inl (k 0, 5, .inl g48)), cell15_ k qm tm, cell12_ k qm tm, cell18_ k qm tm, cell17_ k qm tm, cell19_ k qm tm, cell21_ k qm tm, cell20_ k qm sm, cell16_ k qm sm, cell11_ k qm sm, cell10_ k qm sm, cell9_ k qm sm, cell7_ k qm sm] H := hP
            have hD : va_D A [cell76_ qm sm tm m188 m189 x47, cell5_ k qm sm, cell13_ k qm sm, cell8_ k qm sm, cell6_ k qm sm, (qm 5, .inl (k 0, 5, .inl g48)), cell15_ k qm tm, cell12_ k qm tm, cell18_ k qm tm, cell17_ k qm tm, cell19_ k qm tm, cell21_ k qm tm, cell20_ k qm sm, cell16_ k qm sm, cell11_ k qm sm, cell10_ k qm sm, cell9_ k qm sm, cell7_ k qm sm] := hD
            replace hw185 : (0 ≤ r187.toInt ∧ r187.toInt ≤ 9) ∧ (x45.toInt ≤ m188.toInt ∧ m188.toInt ≤ 64) ∧ (x45.toInt + 1 ≤ m188.toInt ∨ ¬ m189.toInt = -9) ∧ (Imp (0 ≤ v44.toInt ∧ v44.toInt ≤ 63) (r187.toInt ≤ 5)) ∧ (Imp (0 ≤ v44.toInt ∧ v44.toInt ≤ 31) (r187.toInt ≤ 4)) ∧ (Imp (0 ≤ v44.toInt ∧ v44.toInt ≤ 7) (r187.toInt ≤ 2)) ∧ ((r187, m188, m189) = J_X12_figure (up2 (up2 sm 0 (upd (upd (upd (sm 0) 4 x45) 5 x46) 13 x47)) 5 g48) tm v44) := hw185
            obtain ⟨w190, w191, w192, w193, w194, w195, w196⟩ := hw185
            have k198 : r187 = ((J_X12_figure (up2 (up2 sm 0 (upd (upd (upd (sm 0) 4 x45) 5 x46) 13 x47)) 5 g48) tm v44).1) := congrArg (fun z => (z.1)) w196
            have k199 : m188 = ((J_X12_figure (up2 (up2 sm 0 (upd (upd (upd (sm 0) 4 x45) 5 x46) 13 x47)) 5 g48) tm v44).2.1) := congrArg (fun z => (z.2.1)) w196
            have k200 : m189 = ((J_X12_figure (up2 (up2 sm 0 (upd (upd (upd (sm 0) 4 x45) 5 x46) 13 x47)) 5 g48) tm v44).2.2) := congrArg (fun z => (z.2.2)) w196
            have xr187 : r187.toInt ≤ 4 := w194 ⟨by omega, by omega⟩
            have hf1_ := w196
            refine lv_istore_n (lv' := [(2, .int r187), (1, .int v44), (0, .ref (qm 0))]) hx hb dX12_readRule_58 rfl hl (by decide) rfl (fun ls hl => ?_)
            refine lv_iload_n hx hb dX12_readRule_59 rfl (lv_at hl 1 rfl) ?_
            refine lv_iconst (v := 1) hx hb dX12_readRule_60 (by decide) ?_
            refine lv_iload_n hx hb dX12_readRule_61 rfl (lv_at hl 0 rfl) ?_
            refine lv_ishl hx hb dX12_readRule_62 (lv_topi (fun v201 e201 => ?_))
            refine lv_iconst (v := (-1)) hx hb dX12_readRule_63 (by decide) ?_
            refine lv_ixor hx hb dX12_readRule_64 (lv_topi (fun v202 e202 => ?_))
            refine lv_iand hx hb dX12_readRule_65 (lv_topi (fun v203 e203 => ?_))
            have t203 : 0 ≤ v203.toInt ∧ v203.toInt ≤ v44.toInt := by rw [e203]; exact and_l rfl (by omega)
            refine lv_istore_n (lv' := [(1, .int v203), (2, .int r187), (0, .ref (qm 0))]) hx hb dX12_readRule_66 rfl hl (by decide) rfl (fun ls hl => ?_)
            refine lv_aload_n hx hb dX12_readRule_67 rfl (lv_at hl 2 rfl) ?_
            refine g_get cx hP iw_X12_readRule_X12 0 rfl rfl 12 (by decide) rfl fw_X12_readRule_22 rfl dX12_readRule_68 ?_
            refine lv_iload_n hx hb dX12_readRule_71 rfl (lv_at hl 1 rfl) ?_
            refine lv_aload_n hx hb dX12_readRule_72 rfl (lv_at hl 2 rfl) ?_
            refine lv_bipush (v := 31) hx hb dX12_readRule_73 (by decide) ?_
            refine g_iF (w1 := fun (u : Int32 × Int32) => [cell76_ qm sm tm (u.1) (u.2) x47, cell5_ k qm sm, cell13_ k qm sm, cell8_ k qm sm, cell6_ k qm sm, (qm 5, .inl (k 0, 5, .inl g48)), cell15_ k qm tm, cell12_ k qm tm, cell18_ k qm tm, cell17_ k qm tm, cell19_ k qm tm, cell21_ k qm tm, cell20_ k qm sm, cell16_ k qm sm, cell11_ k qm sm, cell10_ k qm sm, cell9_ k qm sm, cell7_ k qm sm]) (g_runVF (ws := [cell76_ qm sm tm m188 m189 x47, cell5_ k qm sm, cell13_ k qm sm, cell8_ k qm sm, cell6_ k qm sm, (qm 5, .inl (k 0, 5, .inl g48)), cell15_ k qm tm, cell12_ k qm tm, cell18_ k qm tm, cell17_ k qm tm, cell19_ k qm tm, cell21_ k qm tm, cell20_ k qm sm, cell16_ k qm sm, cell11_ k qm sm, cell10_ k qm sm, cell9_ k qm sm, cell7_ k qm sm]) (rest := [.int r187, .ref (qm 5)]) cx hP hD hS [.int 31] (c_X12_figure l D k b qm (up2 (up2 sm 0 (upd (upd (upd (sm 0) 4 m188) 5 m189) 13 x47)) 5 g48) tm H.size 31 (show 0 ≤ (sm 0 3).toInt ∧ (sm 0 3).toInt ≤ 64 from by first | decide | omega) (show 0 ≤ m188.toInt ∧ m188.toInt ≤ 64 from by first | decide | omega)) gX12_readRule_X12_figure rfl rfl rfl nd_X12_figure ⟨Nat.le_of_ble_eq_true rfl, Nat.le_of_ble_eq_true rfl⟩ (ci := 10) (q0 := 0) rfl rfl rfl hl.1 rfl (Nat.le_of_ble_eq_true rfl) ⟨Nat.zero_le _, Nat.zero_le _⟩ dX12_readRule_75) cx.2.2.1 hD hS (fun r206 u205 H locs hw204 hP hD hS => ?_)
            obtain ⟨m207, m208⟩ := u205
            have hP : va_P D vwCl [cell76_ qm sm tm m207 m208 x47, cell5_ k qm sm, cell13_ k qm sm, cell8_ k qm sm, cell6_ k qm sm, (qm 5, .inl (k 0, 5, .inl g48)), cell15_ k qm tm, cell12_ k qm tm, cell18_ k qm tm, cell17_ k qm tm, cell19_ k qm tm, cell21_ k qm tm, cell20_ k qm sm, cell16_ k qm sm, cell11_ k qm sm, cell10_ k qm sm, cell9_ k qm sm, cell7_ k qm sm] H := hP
            have hD : va_D A [cell76_ qm sm tm m207 m208 x47, cell5_ k qm sm, cell13_ k qm sm, cell8_ k qm sm, cell6_ k qm sm, (qm 5, .inl (k 0, 5, .inl g48)), cell15_ k qm tm, cell12_ k qm tm, cell18_ k qm tm, cell17_ k qm tm, cell19_ k qm tm, cell21_ k qm tm, cell20_ k qm sm, cell16_ k qm sm, cell11_ k qm sm, cell10_ k qm sm, cell9_ k qm sm, cell7_ k qm sm] := hD
            replace hw204 : (0 ≤ r206.toInt ∧ r206.toInt ≤ 9) ∧ (m188.toInt ≤ m207.toInt ∧ m207.toInt ≤ 64) ∧ (m188.toInt + 1 ≤ m207.toInt ∨ ¬ m208.toInt = -9) ∧ (Imp (0 ≤ (31 : Int32).toInt ∧ (31 : Int32).toInt ≤ 63) (r206.toInt ≤ 5)) ∧ (Imp (0 ≤ (31 : Int32).toInt ∧ (31 : Int32).toInt ≤ 31) (r206.toInt ≤ 4)) ∧ (Imp (0 ≤ (31 : Int32).toInt ∧ (31 : Int32).toInt ≤ 7) (r206.toInt ≤ 2)) ∧ ((r206, m207, m208) = J_X12_figure (up2 (up2 sm 0 (upd (upd (upd (sm 0) 4 m188) 5 m189) 13 x47)) 5 g48) tm (31 : Int32)) := hw204
            obtain ⟨w209, w210, w211, w212, w213, w214, w215⟩ := hw204
            have k217 : r206 = ((J_X12_figure (up2 (up2 sm 0 (upd (upd (upd (sm 0) 4 m188) 5 m189) 13 x47)) 5 g48) tm (31 : Int32)).1) := congrArg (fun z => (z.1)) w215
            have k218 : m207 = ((J_X12_figure (up2 (up2 sm 0 (upd (upd (upd (sm 0) 4 m188) 5 m189) 13 x47)) 5 g48) tm (31 : Int32)).2.1) := congrArg (fun z => (z.2.1)) w215
            have k219 : m208 = ((J_X12_figure (up2 (up2 sm 0 (upd (upd (upd (sm 0) 4 m188) 5 m189) 13 x47)) 5 g48) tm (31 : Int32)).2.2) := congrArg (fun z => (z.2.2)) w215
            have xr206 : r206.toInt ≤ 4 := w213 ⟨by decide, by decide⟩
            have hf2_ := w215
            have hn220 : vp_in r187 5 := f_in (a := r187.toInt) rfl (by omega) (by omega)
            refine va_iast hx hb cx.2.1 hP hD hS 5 0 rfl rfl hn220 dX12_readRule_78 (fun H locs hP hD hS => ?_)
            obtain ⟨g221, eg221⟩ : ∃ g : Nat → Int32, g = upd g48 (r187).toNatClampNeg r206 := ⟨_, rfl⟩
            rw [← eg221] at hP hD
            have hP : va_P D vwCl [cell76_ qm sm tm m207 m208 x47, cell5_ k qm sm, cell13_ k qm sm, cell8_ k qm sm, cell6_ k qm sm, (qm 5, .inl (k 0, 5, .inl g221)), cell15_ k qm tm, cell12_ k qm tm, cell18_ k qm tm, cell17_ k qm tm, cell19_ k qm tm, cell21_ k qm tm, cell20_ k qm sm, cell16_ k qm sm, cell11_ k qm sm, cell10_ k qm sm, cell9_ k qm sm, cell7_ k qm sm] H := hP
            have hD : va_D A [cell76_ qm sm tm m207 m208 x47, cell5_ k qm sm, cell13_ k qm sm, cell8_ k qm sm, cell6_ k qm sm, (qm 5, .inl (k 0, 5, .inl g221)), cell15_ k qm tm, cell12_ k qm tm, cell18_ k qm tm, cell17_ k qm tm, cell19_ k qm tm, cell21_ k qm tm, cell20_ k qm sm, cell16_ k qm sm, cell11_ k qm sm, cell10_ k qm sm, cell9_ k qm sm, cell7_ k qm sm] := hD
            refine lv_aload_n hx hb dX12_readRule_79 rfl (lv_at hl 2 rfl) ?_
            refine lv_dup hx hb dX12_readRule_80 rfl ?_
            refine g_get cx hP iw_X12_readRule_X12 0 rfl rfl 13 (by decide) rfl fw_X12_readRule_130 rfl dX12_readRule_81 ?_
            refine lv_iconst (v := 1) hx hb dX12_readRule_84 (by decide) ?_
            refine lv_iadd hx hb dX12_readRule_85 (lv_topi (fun v222 e222 => ?_))
            refine g_pt cx hP hD hS iw_X12_readRule_X12 tyX12 tyX12_ok nmX12 0 rfl rfl 13 (by decide) rfl fw_X12_readRule_130 (ty := .int) rfl rfl rfl (Nat.le_of_ble_eq_true rfl) dX12_readRule_86 (fun H locs hP hD hS => ?_)
            have hP : va_P D vwCl [cell76_ qm sm tm m207 m208 v222, cell5_ k qm sm, cell13_ k qm sm, cell8_ k qm sm, cell6_ k qm sm, (qm 5, .inl (k 0, 5, .inl g221)), cell15_ k qm tm, cell12_ k qm tm, cell18_ k qm tm, cell17_ k qm tm, cell19_ k qm tm, cell21_ k qm tm, cell20_ k qm sm, cell16_ k qm sm, cell11_ k qm sm, cell10_ k qm sm, cell9_ k qm sm, cell7_ k qm sm] H := hP
            have hD : va_D A [cell76_ qm sm tm m207 m208 v222, cell5_ k qm sm, cell13_ k qm sm, cell8_ k qm sm, cell6_ k qm sm, (qm 5, .inl (k 0, 5, .inl g221)), cell15_ k qm tm, cell12_ k qm tm, cell18_ k qm tm, cell17_ k qm tm, cell19_ k qm tm, cell21_ k qm tm, cell20_ k qm sm, cell16_ k qm sm, cell11_ k qm sm, cell10_ k qm sm, cell9_ k qm sm, cell7_ k qm sm] := hD
            refine lv_goto (tgt := 19) hx hb dX12_readRule_89 (by decide) ?_
            exact ih19 v203 m207 m208 v222 g221 _ _ _ ⟨by omega, (qit_go (by assumption) (by assumption) z7_ (by unfold QP; subst e183 k198 k199 k200 e201 e202 e203 k217 k218 k219 eg221 e222; rfl)).symm.trans hmN_.2⟩ (by first | decide | omega) (by first | decide | omega) hP hD hS (lv_sub hl [0, 2] rfl)
  have hlit223 : (31 : Int32).toInt = 31 := by decide
  have hlit224 : (0 : Int32).toInt = 0 := by decide
  have hlit225 : (-9 : Int32).toInt = -9 := by decide
  have hlit226 : (0 : Int32).toInt = 0 := by decide
  exact hL19 (200) 31 0 (-9) 0 (sm 5) _ _ _ ⟨by omega, rfl⟩ (by first | decide | omega) (by first | decide | omega) hP hD hS (lv_sub hl [0, 1] rfl)
