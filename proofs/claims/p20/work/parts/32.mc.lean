theorem fw_X12_readRule_103 : Cond.fieldLink RX12 103 "StillInAugustModel" "length" "I" ∈ wsX12_readRule := by decide +kernel
theorem fw_X12_readRule_108 : Cond.fieldLink RX12 108 "StillInAugustModel" "faultAt" "I" ∈ wsX12_readRule := by decide +kernel
theorem fw_X12_readRule_111 : Cond.fieldLink RX12 111 "StillInAugustModel" "at" "I" ∈ wsX12_readRule := by decide +kernel
theorem fw_X12_readRule_130 : Cond.fieldLink RX12 130 "StillInAugustModel" "exceptions" "I" ∈ wsX12_readRule := by decide +kernel
theorem fw_X12_readRule_16 : Cond.fieldLink RX12 16 "StillInAugustModel" "text" "[I" ∈ wsX12_readRule := by decide +kernel
theorem fw_X12_readRule_22 : Cond.fieldLink RX12 22 "StillInAugustModel" "readLevels" "[I" ∈ wsX12_readRule := by decide +kernel
theorem iw_X12_readRule_X12 : ∀ w ∈ u_ws RX12 TX12 33, w ∈ wsX12_readRule := fun _ h => List.mem_cons_of_mem _ (List.mem_append_right _ h)
set_option maxHeartbeats 4000000 in
set_option maxRecDepth 100000 in
theorem c_X12_readRule (l : Launch) (D : va_G) (k : Nat → ClassId) (b : Nat → Nat) (qm : Nat → Nat) (sm : Nat → Nat → Int32) (tm : Nat → Nat → Int64) (sz : Nat) (h_len : 0 ≤ (sm 0 3).toInt ∧ (sm 0 3).toInt ≤ 64) : MetI l D k b yX12_readRule wsX12_readRule ({ frames := 2, cells := 0, slots := 0, locals := 47 } : Room) [cell22_ qm sm tm, cell5_ k qm sm, cell13_ k qm sm, cell8_ k qm sm, cell6_ k qm sm, cell15_ k qm sm, cell14_ k qm tm, cell12_ k qm tm, cell18_ k qm tm, cell17_ k qm tm, cell19_ k qm tm, cell21_ k qm tm, cell20_ k qm sm, cell16_ k qm sm, cell11_ k qm sm, cell10_ k qm sm, cell9_ k qm sm, cell7_ k qm sm] sz [.ref (qm 0)] (fun (r : Int32) (u : Int32 × Int32 × Int32 × (Nat → Int32)) => (0 ≤ (u.1).toInt ∧ (u.1).toInt ≤ 64) ∧ ((r, (u.1), (u.2.1), (u.2.2.1), (u.2.2.2)) = J_X12_readRule sm tm)) (fun u => [cell76_ qm sm tm (u.1) (u.2.1) (u.2.2.1), cell5_ k qm sm, cell13_ k qm sm, cell8_ k qm sm, cell6_ k qm sm, cell161_ k qm (u.2.2.2), cell14_ k qm tm, cell12_ k qm tm, cell18_ k qm tm, cell17_ k qm tm, cell19_ k qm tm, cell21_ k qm tm, cell20_ k qm sm, cell16_ k qm sm, cell11_ k qm sm, cell10_ k qm sm, cell9_ k qm sm, cell7_ k qm sm]) := by
  refine g_enter (cc := cX12_readRule) (maxL := 4) (ret := (some .int)) (by decide) rfl (Nat.le_of_ble_eq_true rfl) ?_
  intro p e s m below meth c A hsz hAe cx hr hP hD hS ls hl
  rw [hAe]
  refine g_q (fun Q hQ => ?_)
  have hx := cx.1.1
  have hb := cx.1.2.1
  have hl : lv_has ls 4 [(0, .ref (qm 0))] := hl
  obtain ⟨H, eH⟩ : ∃ H : Heap, H = s.heap := ⟨_, rfl⟩
  obtain ⟨locs, el⟩ : ∃ L : List Loc, L = [] := ⟨_, rfl⟩
  have hP : va_P D vwCl [cell22_ qm sm tm, cell5_ k qm sm, cell13_ k qm sm, cell8_ k qm sm, cell6_ k qm sm, cell15_ k qm sm, cell14_ k qm tm, cell12_ k qm tm, cell18_ k qm tm, cell17_ k qm tm, cell19_ k qm tm, cell21_ k qm tm, cell20_ k qm sm, cell16_ k qm sm, cell11_ k qm sm, cell10_ k qm sm, cell9_ k qm sm, cell7_ k qm sm] H := by rw [eH]; exact hP
  have hD : va_D A [cell22_ qm sm tm, cell5_ k qm sm, cell13_ k qm sm, cell8_ k qm sm, cell6_ k qm sm, cell15_ k qm sm, cell14_ k qm tm, cell12_ k qm tm, cell18_ k qm tm, cell17_ k qm tm, cell19_ k qm tm, cell21_ k qm tm, cell20_ k qm sm, cell16_ k qm sm, cell11_ k qm sm, cell10_ k qm sm, cell9_ k qm sm, cell7_ k qm sm] := hD
  have hS : va_S A s.heap H locs := by rw [eH, el]; exact hS
  suffices goal : W p l e ({ frames := 2, cells := 0, slots := 0, locals := 47 } : Room) s m ([.ref (qm 0)] : List Value).toArray below meth c H locs 0 0 Q (F0 m 0 ls []) by rw [eH, el] at goal; exact goal
  refine lv_aload_n hx hb dX12_readRule_0 rfl (lv_at hl 0 rfl) ?_
  refine lv_iconst (v := 0) hx hb dX12_readRule_1 (by decide) ?_
  refine g_pt cx hP hD hS iw_X12_readRule_X12 tyX12 tyX12_ok nmX12 0 rfl rfl 4 (by decide) rfl fw_X12_readRule_111 (ty := .int) rfl rfl rfl (Nat.le_of_ble_eq_true rfl) dX12_readRule_2 (fun H locs hP hD hS => ?_)
  have hP : va_P D vwCl [cell88_ qm sm tm 0, cell5_ k qm sm, cell13_ k qm sm, cell8_ k qm sm, cell6_ k qm sm, cell15_ k qm sm, cell14_ k qm tm, cell12_ k qm tm, cell18_ k qm tm, cell17_ k qm tm, cell19_ k qm tm, cell21_ k qm tm, cell20_ k qm sm, cell16_ k qm sm, cell11_ k qm sm, cell10_ k qm sm, cell9_ k qm sm, cell7_ k qm sm] H := hP
  have hD : va_D A [cell88_ qm sm tm 0, cell5_ k qm sm, cell13_ k qm sm, cell8_ k qm sm, cell6_ k qm sm, cell15_ k qm sm, cell14_ k qm tm, cell12_ k qm tm, cell18_ k qm tm, cell17_ k qm tm, cell19_ k qm tm, cell21_ k qm tm, cell20_ k qm sm, cell16_ k qm sm, cell11_ k qm sm, cell10_ k qm sm, cell9_ k qm sm, cell7_ k qm sm] := hD
  have hlit1 : (0 : Int32).toInt = 0 := by decide
  refine lv_aload_n hx hb dX12_readRule_5 rfl (lv_at hl 0 rfl) ?_
  refine lv_bipush (v := (-9)) hx hb dX12_readRule_6 (by decide) ?_
  refine g_pt cx hP hD hS iw_X12_readRule_X12 tyX12 tyX12_ok nmX12 0 rfl rfl 5 (by decide) rfl fw_X12_readRule_108 (ty := .int) rfl rfl rfl (Nat.le_of_ble_eq_true rfl) dX12_readRule_8 (fun H locs hP hD hS => ?_)
  have hP : va_P D vwCl [cell95_ qm sm tm 0 (-9), cell5_ k qm sm, cell13_ k qm sm, cell8_ k qm sm, cell6_ k qm sm, cell15_ k qm sm, cell14_ k qm tm, cell12_ k qm tm, cell18_ k qm tm, cell17_ k qm tm, cell19_ k qm tm, cell21_ k qm tm, cell20_ k qm sm, cell16_ k qm sm, cell11_ k qm sm, cell10_ k qm sm, cell9_ k qm sm, cell7_ k qm sm] H := hP
  have hD : va_D A [cell95_ qm sm tm 0 (-9), cell5_ k qm sm, cell13_ k qm sm, cell8_ k qm sm, cell6_ k qm sm, cell15_ k qm sm, cell14_ k qm tm, cell12_ k qm tm, cell18_ k qm tm, cell17_ k qm tm, cell19_ k qm tm, cell21_ k qm tm, cell20_ k qm sm, cell16_ k qm sm, cell11_ k qm sm, cell10_ k qm sm, cell9_ k qm sm, cell7_ k qm sm] := hD
  have hlit2 : ((-9) : Int32).toInt = -9 := by decide
  refine lv_aload_n hx hb dX12_readRule_11 rfl (lv_at hl 0 rfl) ?_
  refine lv_iconst (v := 0) hx hb dX12_readRule_12 (by decide) ?_
  refine g_pt cx hP hD hS iw_X12_readRule_X12 tyX12 tyX12_ok nmX12 0 rfl rfl 13 (by decide) rfl fw_X12_readRule_130 (ty := .int) rfl rfl rfl (Nat.le_of_ble_eq_true rfl) dX12_readRule_13 (fun H locs hP hD hS => ?_)
  have hP : va_P D vwCl [cell76_ qm sm tm 0 (-9) 0, cell5_ k qm sm, cell13_ k qm sm, cell8_ k qm sm, cell6_ k qm sm, cell15_ k qm sm, cell14_ k qm tm, cell12_ k qm tm, cell18_ k qm tm, cell17_ k qm tm, cell19_ k qm tm, cell21_ k qm tm, cell20_ k qm sm, cell16_ k qm sm, cell11_ k qm sm, cell10_ k qm sm, cell9_ k qm sm, cell7_ k qm sm] H := hP
  have hD : va_D A [cell76_ qm sm tm 0 (-9) 0, cell5_ k qm sm, cell13_ k qm sm, cell8_ k qm sm, cell6_ k qm sm, cell15_ k qm sm, cell14_ k qm tm, cell12_ k qm tm, cell18_ k qm tm, cell17_ k qm tm, cell19_ k qm tm, cell21_ k qm tm, cell20_ k qm sm, cell16_ k qm sm, cell11_ k qm sm, cell10_ k qm sm, cell9_ k qm sm, cell7_ k qm sm] := hD
  have hlit3 : (0 : Int32).toInt = 0 := by decide
  refine lv_bipush (v := 31) hx hb dX12_readRule_16 (by decide) ?_
  refine lv_istore_n (lv' := [(1, .int 31), (0, .ref (qm 0))]) hx hb dX12_readRule_18 rfl hl (by decide) rfl (fun ls hl => ?_)
  have hL19 : ∀ (n49 : Nat) (v44 : Int32) (x45 : Int32) (x46 : Int32) (x47 : Int32) (g48 : Nat → Int32) (H : Heap) (locs : List Loc) (ls : Array Slot), ((1 ≤ (n49 : Int) ∧ (¬ x46.toInt = -9 ∨ 65 - x45.toInt < (n49 : Int))) ∧ QIT sm tm n49 (x45, x46, x47, g48, v44) = QIT sm tm 200 (Q0 sm)) → (0 ≤ v44.toInt ∧ v44.toInt ≤ 31) → (0 ≤ x45.toInt ∧ x45.toInt ≤ 64) → va_P D vwCl [cell76_ qm sm tm x45 x46 x47, cell5_ k qm sm, cell13_ k qm sm, cell8_ k qm sm, cell6_ k qm sm, (qm 5, .inl (k 0, 5, .inl g48)), cell14_ k qm tm, cell12_ k qm tm, cell18_ k qm tm, cell17_ k qm tm, cell19_ k qm tm, cell21_ k qm tm, cell20_ k qm sm, cell16_ k qm sm, cell11_ k qm sm, cell10_ k qm sm, cell9_ k qm sm, cell7_ k qm sm] H → va_D A [cell76_ qm sm tm x45 x46 x47, cell5_ k qm sm, cell13_ k qm sm, cell8_ k qm sm, cell6_ k qm sm, (qm 5, .inl (k 0, 5, .inl g48)), cell14_ k qm tm, cell12_ k qm tm, cell18_ k qm tm, cell17_ k qm tm, cell19_ k qm tm, cell21_ k qm tm, cell20_ k qm sm, cell16_ k qm sm, cell11_ k qm sm, cell10_ k qm sm, cell9_ k qm sm, cell7_ k qm sm] → va_S A s.heap H locs → lv_has ls 4 [(1, .int v44), (0, .ref (qm 0))] → W p l e ({ frames := 2, cells := 0, slots := 0, locals := 47 } : Room) s m ([.ref (qm 0)] : List Value).toArray below meth c H locs 0 0 Q (F0 m 19 ls []) := by
    intro n49
    induction n49 with
    | zero => intro v44 x45 x46 x47 g48 H locs ls hmn49 bv44 bx45 hP hD hS hl; exact absurd hmn49 (by omega)
    | succ n49 ih19 =>
      intro v44 x45 x46 x47 g48 H locs ls hmn49 bv44 bx45 hP hD hS hl
      have hmN_ := hmn49
      refine lv_aload_n hx hb dX12_readRule_19 rfl (lv_at hl 1 rfl) ?_
      refine g_get cx hP iw_X12_readRule_X12 0 rfl rfl 5 (by decide) rfl fw_X12_readRule_108 rfl dX12_readRule_20 ?_
      refine lv_bipush (v := (-9)) hx hb dX12_readRule_23 (by decide) ?_
      have hJ92 : ∀  (H : Heap) (locs : List Loc) (ls : Array Slot), ((x45, x46, x47, g48, v44) = QIT sm tm 200 (Q0 sm)) → va_P D vwCl [cell76_ qm sm tm x45 x46 x47, cell5_ k qm sm, cell13_ k qm sm, cell8_ k qm sm, cell6_ k qm sm, (qm 5, .inl (k 0, 5, .inl g48)), cell14_ k qm tm, cell12_ k qm tm, cell18_ k qm tm, cell17_ k qm tm, cell19_ k qm tm, cell21_ k qm tm, cell20_ k qm sm, cell16_ k qm sm, cell11_ k qm sm, cell10_ k qm sm, cell9_ k qm sm, cell7_ k qm sm] H → va_D A [cell76_ qm sm tm x45 x46 x47, cell5_ k qm sm, cell13_ k qm sm, cell8_ k qm sm, cell6_ k qm sm, (qm 5, .inl (k 0, 5, .inl g48)), cell14_ k qm tm, cell12_ k qm tm, cell18_ k qm tm, cell17_ k qm tm, cell19_ k qm tm, cell21_ k qm tm, cell20_ k qm sm, cell16_ k qm sm, cell11_ k qm sm, cell10_ k qm sm, cell9_ k qm sm, cell7_ k qm sm] → va_S A s.heap H locs → lv_has ls 4 [(1, .int v44), (0, .ref (qm 0))] → W p l e ({ frames := 2, cells := 0, slots := 0, locals := 47 } : Room) s m ([.ref (qm 0)] : List Value).toArray below meth c H locs 0 0 Q (F0 m 92 ls []) := by
        intro  H locs ls qe hP hD hS hl
        obtain ⟨cu_, ecu_⟩ : ∃ z : SQ, z = (x45, x46, x47, g48, v44) := ⟨_, rfl⟩
        refine lv_aload_n hx hb dX12_readRule_92 rfl (lv_at hl 1 rfl) ?_
        refine g_get cx hP iw_X12_readRule_X12 0 rfl rfl 5 (by decide) rfl fw_X12_readRule_108 rfl dX12_readRule_93 ?_
        refine lv_bipush (v := (-9)) hx hb dX12_readRule_96 (by decide) ?_
        have hJ143 : ∀ (x114 : Int32) (x115 : Int32) (H : Heap) (locs : List Loc) (ls : Array Slot), (0 ≤ x114.toInt ∧ x114.toInt ≤ 64) → ((x114, x115) = QB sm tm cu_) → va_P D vwCl [cell76_ qm sm tm x114 x115 x47, cell5_ k qm sm, cell13_ k qm sm, cell8_ k qm sm, cell6_ k qm sm, (qm 5, .inl (k 0, 5, .inl g48)), cell14_ k qm tm, cell12_ k qm tm, cell18_ k qm tm, cell17_ k qm tm, cell19_ k qm tm, cell21_ k qm tm, cell20_ k qm sm, cell16_ k qm sm, cell11_ k qm sm, cell10_ k qm sm, cell9_ k qm sm, cell7_ k qm sm] H → va_D A [cell76_ qm sm tm x114 x115 x47, cell5_ k qm sm, cell13_ k qm sm, cell8_ k qm sm, cell6_ k qm sm, (qm 5, .inl (k 0, 5, .inl g48)), cell14_ k qm tm, cell12_ k qm tm, cell18_ k qm tm, cell17_ k qm tm, cell19_ k qm tm, cell21_ k qm tm, cell20_ k qm sm, cell16_ k qm sm, cell11_ k qm sm, cell10_ k qm sm, cell9_ k qm sm, cell7_ k qm sm] → va_S A s.heap H locs → lv_has ls 4 [(1, .int v44), (0, .ref (qm 0))] → W p l e ({ frames := 2, cells := 0, slots := 0, locals := 47 } : Room) s m ([.ref (qm 0)] : List Value).toArray below meth c H locs 0 0 Q (F0 m 143 ls []) := by
          intro x114 x115 H locs ls bx114 q3 hP hD hS hl
          refine lv_aload_n hx hb dX12_readRule_143 rfl (lv_at hl 1 rfl) ?_
          refine lv_bipush (v := 31) hx hb dX12_readRule_144 (by decide) ?_
          refine g_iF (w1 := fun (u : Int32 × Int32) => [cell76_ qm sm tm (u.1) (u.2) x47, cell5_ k qm sm, cell13_ k qm sm, cell8_ k qm sm, cell6_ k qm sm, (qm 5, .inl (k 0, 5, .inl g48)), cell14_ k qm tm, cell12_ k qm tm, cell18_ k qm tm, cell17_ k qm tm, cell19_ k qm tm, cell21_ k qm tm, cell20_ k qm sm, cell16_ k qm sm, cell11_ k qm sm, cell10_ k qm sm, cell9_ k qm sm, cell7_ k qm sm]) (g_runVF (ws := [cell76_ qm sm tm x114 x115 x47, cell5_ k qm sm, cell13_ k qm sm, cell8_ k qm sm, cell6_ k qm sm, (qm 5, .inl (k 0, 5, .inl g48)), cell14_ k qm tm, cell12_ k qm tm, cell18_ k qm tm, cell17_ k qm tm, cell19_ k qm tm, cell21_ k qm tm, cell20_ k qm sm, cell16_ k qm sm, cell11_ k qm sm, cell10_ k qm sm, cell9_ k qm sm, cell7_ k qm sm]) (rest := []) cx hP hD hS [.int 31] (c_X12_figure l D k b qm (up2 (up2 sm 0 (upd (upd (upd (sm 0) 4 x114) 5 x115) 13 x47)) 5 g48) tm H.size 31 (show 0 ≤ (sm 0 3).toInt ∧ (sm 0 3).toInt ≤ 64 from by first | decide | omega) (show 0 ≤ x114.toInt ∧ x114.toInt ≤ 64 from by first | decide | omega)) gX12_readRule_X12_figure rfl rfl rfl nd_X12_figure ⟨Nat.le_of_ble_eq_true rfl, Nat.le_of_ble_eq_true rfl⟩ (ci := 10) (q0 := 0) rfl rfl rfl hl.1 rfl (Nat.le_of_ble_eq_true rfl) ⟨Nat.zero_le _, Nat.zero_le _⟩ dX12_readRule_146) cx.2.2.1 hD hS (fun r118 u117 H locs hw116 hP hD hS => ?_)
          obtain ⟨m119, m120⟩ := u117
          have hP : va_P D vwCl [cell76_ qm sm tm m119 m120 x47, cell5_ k qm sm, cell13_ k qm sm, cell8_ k qm sm, cell6_ k qm sm, (qm 5, .inl (k 0, 5, .inl g48)), cell14_ k qm tm, cell12_ k qm tm, cell18_ k qm tm, cell17_ k qm tm, cell19_ k qm tm, cell21_ k qm tm, cell20_ k qm sm, cell16_ k qm sm, cell11_ k qm sm, cell10_ k qm sm, cell9_ k qm sm, cell7_ k qm sm] H := hP
          have hD : va_D A [cell76_ qm sm tm m119 m120 x47, cell5_ k qm sm, cell13_ k qm sm, cell8_ k qm sm, cell6_ k qm sm, (qm 5, .inl (k 0, 5, .inl g48)), cell14_ k qm tm, cell12_ k qm tm, cell18_ k qm tm, cell17_ k qm tm, cell19_ k qm tm, cell21_ k qm tm, cell20_ k qm sm, cell16_ k qm sm, cell11_ k qm sm, cell10_ k qm sm, cell9_ k qm sm, cell7_ k qm sm] := hD
          replace hw116 : (0 ≤ r118.toInt ∧ r118.toInt ≤ 9) ∧ (x114.toInt ≤ m119.toInt ∧ m119.toInt ≤ 64) ∧ (x114.toInt + 1 ≤ m119.toInt ∨ ¬ m120.toInt = -9) ∧ (Imp (0 ≤ (31 : Int32).toInt ∧ (31 : Int32).toInt ≤ 63) (r118.toInt ≤ 5)) ∧ (Imp (0 ≤ (31 : Int32).toInt ∧ (31 : Int32).toInt ≤ 31) (r118.toInt ≤ 4)) ∧ (Imp (0 ≤ (31 : Int32).toInt ∧ (31 : Int32).toInt ≤ 7) (r118.toInt ≤ 2)) ∧ ((r118, m119, m120) = J_X12_figure (up2 (up2 sm 0 (upd (upd (upd (sm 0) 4 x114) 5 x115) 13 x47)) 5 g48) tm (31 : Int32)) := hw116
          obtain ⟨w121, w122, w123, w124, w125, w126, w127⟩ := hw116
          have k129 : r118 = ((J_X12_figure (up2 (up2 sm 0 (upd (upd (upd (sm 0) 4 x114) 5 x115) 13 x47)) 5 g48) tm (31 : Int32)).1) := congrArg (fun z => (z.1)) w127
          have k130 : m119 = ((J_X12_figure (up2 (up2 sm 0 (upd (upd (upd (sm 0) 4 x114) 5 x115) 13 x47)) 5 g48) tm (31 : Int32)).2.1) := congrArg (fun z => (z.2.1)) w127
          have k131 : m120 = ((J_X12_figure (up2 (up2 sm 0 (upd (upd (upd (sm 0) 4 x114) 5 x115) 13 x47)) 5 g48) tm (31 : Int32)).2.2) := congrArg (fun z => (z.2.2)) w127
          have xr118 : r118.toInt ≤ 4 := w125 ⟨by decide, by decide⟩
          have hf3_ := w127
          refine lv_istore_n (lv' := [(2, .int r118), (1, .int v44), (0, .ref (qm 0))]) hx hb dX12_readRule_149 rfl hl (by decide) rfl (fun ls hl => ?_)
          refine lv_iconst (v := 0) hx hb dX12_readRule_150 (by decide) ?_
          refine lv_istore_n (lv' := [(3, .int 0), (2, .int r118), (1, .int v44), (0, .ref (qm 0))]) hx hb dX12_readRule_151 rfl hl (by decide) rfl (fun ls hl => ?_)
          have hL152 : ∀ (n141 : Nat) (v139 : Int32) (g140 : Nat → Int32) (H : Heap) (locs : List Loc) (ls : Array Slot), 5 - v139.toInt < (n141 : Int) → (0 ≤ v139.toInt ∧ v139.toInt ≤ 5) → (g140 = PFn (LVP v44 r118 cu_.2.2.2.1) (Int.toNat v139.toInt) cu_.2.2.2.1) → va_P D vwCl [cell76_ qm sm tm m119 m120 x47, cell5_ k qm sm, cell13_ k qm sm, cell8_ k qm sm, cell6_ k qm sm, (qm 5, .inl (k 0, 5, .inl g140)), cell14_ k qm tm, cell12_ k qm tm, cell18_ k qm tm, cell17_ k qm tm, cell19_ k qm tm, cell21_ k qm tm, cell20_ k qm sm, cell16_ k qm sm, cell11_ k qm sm, cell10_ k qm sm, cell9_ k qm sm, cell7_ k qm sm] H → va_D A [cell76_ qm sm tm m119 m120 x47, cell5_ k qm sm, cell13_ k qm sm, cell8_ k qm sm, cell6_ k qm sm, (qm 5, .inl (k 0, 5, .inl g140)), cell14_ k qm tm, cell12_ k qm tm, cell18_ k qm tm, cell17_ k qm tm, cell19_ k qm tm, cell21_ k qm tm, cell20_ k qm sm, cell16_ k qm sm, cell11_ k qm sm, cell10_ k qm sm, cell9_ k qm sm, cell7_ k qm sm] → va_S A s.heap H locs → lv_has ls 4 [(3, .int v139), (2, .int r118), (1, .int v44), (0, .ref (qm 0))] → W p l e ({ frames := 2, cells := 0, slots := 0, locals := 47 } : Room) s m ([.ref (qm 0)] : List Value).toArray below meth c H locs 0 0 Q (F0 m 152 ls []) := by
            intro n141
            induction n141 with
            | zero => intro v139 g140 H locs ls hmn141 bv139 qL hP hD hS hl; exact absurd hmn141 (by omega)
            | succ n141 ih152 =>
              intro v139 g140 H locs ls hmn141 bv139 qL hP hD hS hl
              refine lv_iload_n hx hb dX12_readRule_152 rfl (lv_at hl 0 rfl) ?_
              refine lv_iconst (v := 5) hx hb dX12_readRule_153 (by decide) ?_
              refine lv_icmp_ge (tgt := 188) hx hb dX12_readRule_154 (by decide) (fun c142 => ?_) (fun c142 => ?_)
              · have f142 : 5 ≤ v139.toInt := f_le (by decide) rfl c142
                refine lv_aload_n hx hb dX12_readRule_188 rfl (lv_at hl 3 rfl) ?_
                refine g_get cx hP iw_X12_readRule_X12 0 rfl rfl 5 (by decide) rfl fw_X12_readRule_108 rfl dX12_readRule_189 ?_
                refine lv_bipush (v := (-9)) hx hb dX12_readRule_192 (by decide) ?_
                refine lv_icmp_ne (tgt := 212) hx hb dX12_readRule_194 (by decide) (fun c143 => ?_) (fun c143 => ?_)
                · have f143 : ¬ m120.toInt = (-9) := f_ne rfl (by decide) c143
                  refine lv_aload_n hx hb dX12_readRule_212 rfl (lv_at hl 3 rfl) ?_
                  refine g_get cx hP iw_X12_readRule_X12 0 rfl rfl 5 (by decide) rfl fw_X12_readRule_108 rfl dX12_readRule_213 ?_
                  rw [hQ]
                  exact x_i cx hr (m119, m120, x47, g140) hP hD hS ⟨(show 0 ≤ m119.toInt ∧ m119.toInt ≤ 64 from by omega), (show (m120, m119, m120, x47, g140) = J_X12_readRule sm tm from by have qn_ : Int.toNat v139.toInt = 5 := (by omega); rw [qn_] at qL; subst ecu_; exact q_end qe q3 hf3_ qL (by first | exact (if_neg (by assumption)).symm | exact ((if_pos (by assumption)).trans (if_pos (by assumption))).symm | exact hfe_.trans ((if_pos (by assumption)).trans (if_neg (by assumption))).symm))⟩ dX12_readRule_216
                · have f143 : m120.toInt = (-9) := f_eq rfl (by decide) c143
                  refine lv_aload_n hx hb dX12_readRule_197 rfl (lv_at hl 3 rfl) ?_
                  refine g_get cx hP iw_X12_readRule_X12 0 rfl rfl 4 (by decide) rfl fw_X12_readRule_111 rfl dX12_readRule_198 ?_
                  refine lv_aload_n hx hb dX12_readRule_201 rfl (lv_at hl 3 rfl) ?_
                  refine g_get cx hP iw_X12_readRule_X12 0 rfl rfl 3 (by decide) rfl fw_X12_readRule_103 rfl dX12_readRule_202 ?_
                  refine lv_icmp_ge (tgt := 212) hx hb dX12_readRule_205 (by decide) (fun c144 => ?_) (fun c144 => ?_)
                  · have f144 : (sm 0 3).toInt ≤ m119.toInt := f_le rfl rfl c144
                    refine lv_aload_n hx hb dX12_readRule_212 rfl (lv_at hl 3 rfl) ?_
                    refine g_get cx hP iw_X12_readRule_X12 0 rfl rfl 5 (by decide) rfl fw_X12_readRule_108 rfl dX12_readRule_213 ?_
                    rw [hQ]
                    exact x_i cx hr (m119, m120, x47, g140) hP hD hS ⟨(show 0 ≤ m119.toInt ∧ m119.toInt ≤ 64 from by omega), (show (m120, m119, m120, x47, g140) = J_X12_readRule sm tm from by have qn_ : Int.toNat v139.toInt = 5 := (by omega); rw [qn_] at qL; subst ecu_; exact q_end qe q3 hf3_ qL (by first | exact (if_neg (by assumption)).symm | exact ((if_pos (by assumption)).trans (if_pos (by assumption))).symm | exact hfe_.trans ((if_pos (by assumption)).trans (if_neg (by assumption))).symm))⟩ dX12_readRule_216
                  · have f144 : m119.toInt < (sm 0 3).toInt := f_nle rfl rfl c144
                    refine lv_aload_n hx hb dX12_readRule_208 rfl (lv_at hl 3 rfl) ?_
                    refine g_vF (w1 := fun (u : Int32) => [cell76_ qm sm tm m119 u x47, cell5_ k qm sm, cell13_ k qm sm, cell8_ k qm sm, cell6_ k qm sm, (qm 5, .inl (k 0, 5, .inl g140)), cell14_ k qm tm, cell12_ k qm tm, cell18_ k qm tm, cell17_ k qm tm, cell19_ k qm tm, cell21_ k qm tm, cell20_ k qm sm, cell16_ k qm sm, cell11_ k qm sm, cell10_ k qm sm, cell9_ k qm sm, cell7_ k qm sm]) (g_runVF (ws := [cell76_ qm sm tm m119 m120 x47, cell5_ k qm sm, cell13_ k qm sm, cell8_ k qm sm, cell6_ k qm sm, (qm 5, .inl (k 0, 5, .inl g140)), cell14_ k qm tm, cell12_ k qm tm, cell18_ k qm tm, cell17_ k qm tm, cell19_ k qm tm, cell21_ k qm tm, cell20_ k qm sm, cell16_ k qm sm, cell11_ k qm sm, cell10_ k qm sm, cell9_ k qm sm, cell7_ k qm sm]) (rest := []) cx hP hD hS [] (c_X12_fail l D k b qm (up2 (up2 sm 0 (upd (upd (upd (sm 0) 4 m119) 5 m120) 13 x47)) 5 g140) tm H.size (show 0 ≤ m119.toInt ∧ m119.toInt ≤ 64 from by first | decide | omega)) gX12_readRule_X12_fail rfl rfl rfl nd_X12_fail ⟨Nat.le_of_ble_eq_true rfl, Nat.le_of_ble_eq_true rfl⟩ (ci := 10) (q0 := 0) rfl rfl rfl hl.1 rfl (Nat.le_of_ble_eq_true rfl) ⟨Nat.zero_le _, Nat.zero_le _⟩ dX12_readRule_209) cx.2.2.1 hD hS (fun u146 H locs hw145 hP hD hS => ?_)
                    obtain ⟨m147, rfl⟩ : ∃ z, z = u146 := ⟨_, rfl⟩
                    have hP : va_P D vwCl [cell76_ qm sm tm m119 m147 x47, cell5_ k qm sm, cell13_ k qm sm, cell8_ k qm sm, cell6_ k qm sm, (qm 5, .inl (k 0, 5, .inl g140)), cell14_ k qm tm, cell12_ k qm tm, cell18_ k qm tm, cell17_ k qm tm, cell19_ k qm tm, cell21_ k qm tm, cell20_ k qm sm, cell16_ k qm sm, cell11_ k qm sm, cell10_ k qm sm, cell9_ k qm sm, cell7_ k qm sm] H := hP
                    have hD : va_D A [cell76_ qm sm tm m119 m147 x47, cell5_ k qm sm, cell13_ k qm sm, cell8_ k qm sm, cell6_ k qm sm, (qm 5, .inl (k 0, 5, .inl g140)), cell14_ k qm tm, cell12_ k qm tm, cell18_ k qm tm, cell17_ k qm tm, cell19_ k qm tm, cell21_ k qm tm, cell20_ k qm sm, cell16_ k qm sm, cell11_ k qm sm, cell10_ k qm sm, cell9_ k qm sm, cell7_ k qm sm] := hD
                    replace hw145 : (¬ m147.toInt = -9) ∧ (m147 = J_X12_fail (up2 (up2 sm 0 (upd (upd (upd (sm 0) 4 m119) 5 m120) 13 x47)) 5 g140) tm) := hw145
                    obtain ⟨w148, w149⟩ := hw145
                    have k151 : m147 = (J_X12_fail (up2 (up2 sm 0 (upd (upd (upd (sm 0) 4 m119) 5 m120) 13 x47)) 5 g140) tm) := congrArg (fun z => z) w149
                    have hfe_ := w149
                    refine lv_aload_n hx hb dX12_readRule_212 rfl (lv_at hl 3 rfl) ?_
                    refine g_get cx hP iw_X12_readRule_X12 0 rfl rfl 5 (by decide) rfl fw_X12_readRule_108 rfl dX12_readRule_213 ?_
                    rw [hQ]
                    exact x_i cx hr (m119, m147, x47, g140) hP hD hS ⟨(show 0 ≤ m119.toInt ∧ m119.toInt ≤ 64 from by omega), (show (m147, m119, m147, x47, g140) = J_X12_readRule sm tm from by have qn_ : Int.toNat v139.toInt = 5 := (by omega); rw [qn_] at qL; subst ecu_; exact q_end qe q3 hf3_ qL (by first | exact (if_neg (by assumption)).symm | exact ((if_pos (by assumption)).trans (if_pos (by assumption))).symm | exact hfe_.trans ((if_pos (by assumption)).trans (if_neg (by assumption))).symm))⟩ dX12_readRule_216
              · have f142 : v139.toInt < 5 := f_nle (by decide) rfl c142
                refine lv_aload_n hx hb dX12_readRule_157 rfl (lv_at hl 3 rfl) ?_
                refine g_get cx hP iw_X12_readRule_X12 0 rfl rfl 12 (by decide) rfl fw_X12_readRule_22 rfl dX12_readRule_158 ?_
                refine lv_iload_n hx hb dX12_readRule_161 rfl (lv_at hl 0 rfl) ?_
                refine lv_iload_n hx hb dX12_readRule_162 rfl (lv_at hl 2 rfl) ?_
                refine lv_iload_n hx hb dX12_readRule_163 rfl (lv_at hl 0 rfl) ?_
                refine lv_ishr hx hb dX12_readRule_164 (lv_topi (fun v152 e152 => ?_))
                refine lv_iconst (v := 1) hx hb dX12_readRule_165 (by decide) ?_
                refine lv_iand hx hb dX12_readRule_166 (lv_topi (fun v153 e153 => ?_))
                have t153 : 0 ≤ v153.toInt ∧ v153.toInt ≤ 1 := by rw [e153]; exact and_r (by decide) (by omega)
                refine lv_iconst (v := 1) hx hb dX12_readRule_167 (by decide) ?_
                have hJ181 : ∀ (v156 : Int32) (H : Heap) (locs : List Loc) (ls : Array Slot), (v156 = LVP v44 r118 cu_.2.2.2.1 (Int.toNat v139.toInt)) → va_P D vwCl [cell76_ qm sm tm m119 m120 x47, cell5_ k qm sm, cell13_ k qm sm, cell8_ k qm sm, cell6_ k qm sm, (qm 5, .inl (k 0, 5, .inl g140)), cell14_ k qm tm, cell12_ k qm tm, cell18_ k qm tm, cell17_ k qm tm, cell19_ k qm tm, cell21_ k qm tm, cell20_ k qm sm, cell16_ k qm sm, cell11_ k qm sm, cell10_ k qm sm, cell9_ k qm sm, cell7_ k qm sm] H → va_D A [cell76_ qm sm tm m119 m120 x47, cell5_ k qm sm, cell13_ k qm sm, cell8_ k qm sm, cell6_ k qm sm, (qm 5, .inl (k 0, 5, .inl g140)), cell14_ k qm tm, cell12_ k qm tm, cell18_ k qm tm, cell17_ k qm tm, cell19_ k qm tm, cell21_ k qm tm, cell20_ k qm sm, cell16_ k qm sm, cell11_ k qm sm, cell10_ k qm sm, cell9_ k qm sm, cell7_ k qm sm] → va_S A s.heap H locs → lv_has ls 4 [(3, .int v139), (2, .int r118), (1, .int v44), (0, .ref (qm 0))] → W p l e ({ frames := 2, cells := 0, slots := 0, locals := 47 } : Room) s m ([.ref (qm 0)] : List Value).toArray below meth c H locs 0 0 Q (F0 m 181 ls [.int v156, .int v139, .ref (qm 5)]) := by
                  intro v156 H locs ls qv hP hD hS hl
                  have hn157 : vp_in v139 5 := f_in (a := v139.toInt) rfl (by omega) (by omega)
                  refine va_iast hx hb cx.2.1 hP hD hS 5 0 rfl rfl hn157 dX12_readRule_181 (fun H locs hP hD hS => ?_)
                  obtain ⟨g158, eg158⟩ : ∃ g : Nat → Int32, g = upd g140 (v139).toNatClampNeg v156 := ⟨_, rfl⟩
                  rw [← eg158] at hP hD
                  have hP : va_P D vwCl [cell76_ qm sm tm m119 m120 x47, cell5_ k qm sm, cell13_ k qm sm, cell8_ k qm sm, cell6_ k qm sm, (qm 5, .inl (k 0, 5, .inl g158)), cell14_ k qm tm, cell12_ k qm tm, cell18_ k qm tm, cell17_ k qm tm, cell19_ k qm tm, cell21_ k qm tm, cell20_ k qm sm, cell16_ k qm sm, cell11_ k qm sm, cell10_ k qm sm, cell9_ k qm sm, cell7_ k qm sm] H := hP
                  have hD : va_D A [cell76_ qm sm tm m119 m120 x47, cell5_ k qm sm, cell13_ k qm sm, cell8_ k qm sm, cell6_ k qm sm, (qm 5, .inl (k 0, 5, .inl g158)), cell14_ k qm tm, cell12_ k qm tm, cell18_ k qm tm, cell17_ k qm tm, cell19_ k qm tm, cell21_ k qm tm, cell20_ k qm sm, cell16_ k qm sm, cell11_ k qm sm, cell10_ k qm sm, cell9_ k qm sm, cell7_ k qm sm] := hD
                  have flq := PF_st (P := (LVP v44 r118 cu_.2.2.2.1)) eg158 (k := Int.toNat v139.toInt) (show v139.toInt = ((Int.toNat v139.toInt : Nat) : Int) from by omega) (qv) qL
                  obtain ⟨v159, e159⟩ : ∃ z : Int32, z = v139 + 1 := ⟨_, rfl⟩
                  refine lv_iinc (v := v159) (lv' := [(3, .int v159), (2, .int r118), (1, .int v44), (0, .ref (qm 0))]) hx hb dX12_readRule_182 hl (k := 0) rfl (by rw [e159]; rfl) (by decide) rfl (fun ls hl => ?_)
                  have t159 : v159.toInt = v139.toInt + 1 := by rw [e159]; exact i_add rfl (by decide) (by omega) (by omega)
                  refine lv_goto (tgt := 152) hx hb dX12_readRule_185 (by decide) ?_
                  exact ih152 v159 g158 _ _ _ (by omega) (by first | decide | omega) (flq.trans (congrArg (fun n => PFn (LVP v44 r118 cu_.2.2.2.1) n cu_.2.2.2.1) (by omega))) hP hD hS (lv_sub hl [0, 1, 2, 3] rfl)
                refine lv_icmp_ne (tgt := 175) hx hb dX12_readRule_168 (by decide) (fun c160 => ?_) (fun c160 => ?_)
                · have f160 : ¬ v153.toInt = 1 := f_ne rfl (by decide) c160
                  have lvn_ := fun (w : Int32) (hw : w = g140 (v139).toNatClampNeg) => lv_2 (lev := r118) (f := cu_.2.2.2.1) e152 e153 c160 (show 0 ≤ v139.toInt from by omega) hw qL
                  refine lv_aload_n hx hb dX12_readRule_175 rfl (lv_at hl 3 rfl) ?_
                  refine g_get cx hP iw_X12_readRule_X12 0 rfl rfl 12 (by decide) rfl fw_X12_readRule_22 rfl dX12_readRule_176 ?_
                  refine lv_iload_n hx hb dX12_readRule_179 rfl (lv_at hl 0 rfl) ?_
                  have hn161 : vp_in v139 5 := f_in (a := v139.toInt) rfl (by omega) (by omega)
                  refine va_iald hx hb cx.2.1 hP 5 0 rfl rfl hn161 dX12_readRule_180 (lv_topi (fun v162 e162 => ?_))
                  have lvq_ := lvn_ _ e162
                  exact hJ181 v162 _ _ _ lvq_ hP hD hS (lv_sub hl [0, 1, 2, 3] rfl)
                · have f160 : v153.toInt = 1 := f_eq rfl (by decide) c160
                  have lvq_ := lv_1 (lev := r118) (f := cu_.2.2.2.1) e152 e153 c160 (show 0 ≤ v139.toInt from by omega)
                  refine lv_iload_n hx hb dX12_readRule_171 rfl (lv_at hl 1 rfl) ?_
                  refine lv_goto (tgt := 181) hx hb dX12_readRule_172 (by decide) ?_
                  exact hJ181 r118 _ _ _ lvq_ hP hD hS (lv_sub hl [0, 1, 2, 3] rfl)
          have hlit163 : (0 : Int32).toInt = 0 := by decide
          exact hL152 (Int.toNat (5 - 0) + 1) 0 g48 _ _ _ (by omega) (by first | decide | omega) (by rw [ecu_]; exact PF_0 _ _) hP hD hS (lv_sub hl [0, 1, 2, 3] rfl)
        have hJ139 : ∀  (H : Heap) (locs : List Loc) (ls : Array Slot), (QB sm tm cu_ = (cu_.1, J_X12_fail (QS sm cu_) tm)) → va_P D vwCl [cell76_ qm sm tm x45 x46 x47, cell5_ k qm sm, cell13_ k qm sm, cell8_ k qm sm, cell6_ k qm sm, (qm 5, .inl (k 0, 5, .inl g48)), cell14_ k qm tm, cell12_ k qm tm, cell18_ k qm tm, cell17_ k qm tm, cell19_ k qm tm, cell21_ k qm tm, cell20_ k qm sm, cell16_ k qm sm, cell11_ k qm sm, cell10_ k qm sm, cell9_ k qm sm, cell7_ k qm sm] H → va_D A [cell76_ qm sm tm x45 x46 x47, cell5_ k qm sm, cell13_ k qm sm, cell8_ k qm sm, cell6_ k qm sm, (qm 5, .inl (k 0, 5, .inl g48)), cell14_ k qm tm, cell12_ k qm tm, cell18_ k qm tm, cell17_ k qm tm, cell19_ k qm tm, cell21_ k qm tm, cell20_ k qm sm, cell16_ k qm sm, cell11_ k qm sm, cell10_ k qm sm, cell9_ k qm sm, cell7_ k qm sm] → va_S A s.heap H locs → lv_has ls 4 [(1, .int v44), (0, .ref (qm 0))] → W p l e ({ frames := 2, cells := 0, slots := 0, locals := 47 } : Room) s m ([.ref (qm 0)] : List Value).toArray below meth c H locs 0 0 Q (F0 m 139 ls []) := by
          intro  H locs ls q9 hP hD hS hl
          refine lv_aload_n hx hb dX12_readRule_139 rfl (lv_at hl 1 rfl) ?_
          refine g_vF (w1 := fun (u : Int32) => [cell76_ qm sm tm x45 u x47, cell5_ k qm sm, cell13_ k qm sm, cell8_ k qm sm, cell6_ k qm sm, (qm 5, .inl (k 0, 5, .inl g48)), cell14_ k qm tm, cell12_ k qm tm, cell18_ k qm tm, cell17_ k qm tm, cell19_ k qm tm, cell21_ k qm tm, cell20_ k qm sm, cell16_ k qm sm, cell11_ k qm sm, cell10_ k qm sm, cell9_ k qm sm, cell7_ k qm sm]) (g_runVF (ws := [cell76_ qm sm tm x45 x46 x47, cell5_ k qm sm, cell13_ k qm sm, cell8_ k qm sm, cell6_ k qm sm, (qm 5, .inl (k 0, 5, .inl g48)), cell14_ k qm tm, cell12_ k qm tm, cell18_ k qm tm, cell17_ k qm tm, cell19_ k qm tm, cell21_ k qm tm, cell20_ k qm sm, cell16_ k qm sm, cell11_ k qm sm, cell10_ k qm sm, cell9_ k qm sm, cell7_ k qm sm]) (rest := []) cx hP hD hS [] (c_X12_fail l D k b qm (up2 (up2 sm 0 (upd (upd (upd (sm 0) 4 x45) 5 x46) 13 x47)) 5 g48) tm H.size (show 0 ≤ x45.toInt ∧ x45.toInt ≤ 64 from by first | decide | omega)) gX12_readRule_X12_fail rfl rfl rfl nd_X12_fail ⟨Nat.le_of_ble_eq_true rfl, Nat.le_of_ble_eq_true rfl⟩ (ci := 10) (q0 := 0) rfl rfl rfl hl.1 rfl (Nat.le_of_ble_eq_true rfl) ⟨Nat.zero_le _, Nat.zero_le _⟩ dX12_readRule_140) cx.2.2.1 hD hS (fun u168 H locs hw167 hP hD hS => ?_)
          obtain ⟨m169, rfl⟩ : ∃ z, z = u168 := ⟨_, rfl⟩
          have hP : va_P D vwCl [cell76_ qm sm tm x45 m169 x47, cell5_ k qm sm, cell13_ k qm sm, cell8_ k qm sm, cell6_ k qm sm, (qm 5, .inl (k 0, 5, .inl g48)), cell14_ k qm tm, cell12_ k qm tm, cell18_ k qm tm, cell17_ k qm tm, cell19_ k qm tm, cell21_ k qm tm, cell20_ k qm sm, cell16_ k qm sm, cell11_ k qm sm, cell10_ k qm sm, cell9_ k qm sm, cell7_ k qm sm] H := hP
          have hD : va_D A [cell76_ qm sm tm x45 m169 x47, cell5_ k qm sm, cell13_ k qm sm, cell8_ k qm sm, cell6_ k qm sm, (qm 5, .inl (k 0, 5, .inl g48)), cell14_ k qm tm, cell12_ k qm tm, cell18_ k qm tm, cell17_ k qm tm, cell19_ k qm tm, cell21_ k qm tm, cell20_ k qm sm, cell16_ k qm sm, cell11_ k qm sm, cell10_ k qm sm, cell9_ k qm sm, cell7_ k qm sm] := hD
          replace hw167 : (¬ m169.toInt = -9) ∧ (m169 = J_X12_fail (up2 (up2 sm 0 (upd (upd (upd (sm 0) 4 x45) 5 x46) 13 x47)) 5 g48) tm) := hw167
          obtain ⟨w170, w171⟩ := hw167
          have k173 : m169 = (J_X12_fail (up2 (up2 sm 0 (upd (upd (upd (sm 0) 4 x45) 5 x46) 13 x47)) 5 g48) tm) := congrArg (fun z => z) w171
          have hfl_ := w171
          exact hJ143 x45 m169 _ _ _ (by first | decide | omega) (by first | exact qb_5 ecu_ (by assumption) (by assumption) z8_ hat_ | (rw [q9, hfl_]; subst ecu_; rfl)) hP hD hS (lv_sub hl [0, 1] rfl)
        refine lv_icmp_ne (tgt := 139) hx hb dX12_readRule_98 (by decide) (fun c174 => ?_) (fun c174 => ?_)
        · have f174 : ¬ x46.toInt = (-9) := f_ne rfl (by decide) c174
          exact hJ139  _ _ _ (by subst ecu_; first | exact qb_1 (by assumption) | exact qb_2 (by assumption) | exact qb_3 z8_) hP hD hS (lv_sub hl [0, 1] rfl)
        · have f174 : x46.toInt = (-9) := f_eq rfl (by decide) c174
          refine lv_aload_n hx hb dX12_readRule_101 rfl (lv_at hl 1 rfl) ?_
          refine g_get cx hP iw_X12_readRule_X12 0 rfl rfl 4 (by decide) rfl fw_X12_readRule_111 rfl dX12_readRule_102 ?_
          refine lv_aload_n hx hb dX12_readRule_105 rfl (lv_at hl 1 rfl) ?_
          refine g_get cx hP iw_X12_readRule_X12 0 rfl rfl 3 (by decide) rfl fw_X12_readRule_103 rfl dX12_readRule_106 ?_
          refine lv_icmp_ge (tgt := 139) hx hb dX12_readRule_109 (by decide) (fun c175 => ?_) (fun c175 => ?_)
          · have f175 : (sm 0 3).toInt ≤ x45.toInt := f_le rfl rfl c175
            exact hJ139  _ _ _ (by subst ecu_; first | exact qb_1 (by assumption) | exact qb_2 (by assumption) | exact qb_3 z8_) hP hD hS (lv_sub hl [0, 1] rfl)
          · have f175 : x45.toInt < (sm 0 3).toInt := f_nle rfl rfl c175
            refine lv_aload_n hx hb dX12_readRule_112 rfl (lv_at hl 1 rfl) ?_
            refine g_get cx hP iw_X12_readRule_X12 0 rfl rfl 2 (by decide) rfl fw_X12_readRule_16 rfl dX12_readRule_113 ?_
            refine lv_aload_n hx hb dX12_readRule_116 rfl (lv_at hl 1 rfl) ?_
            refine g_get cx hP iw_X12_readRule_X12 0 rfl rfl 4 (by decide) rfl fw_X12_readRule_111 rfl dX12_readRule_117 ?_
            have hn176 : vp_in x45 64 := f_in (a := x45.toInt) rfl (by omega) (by omega)
            refine va_iald hx hb cx.2.1 hP 3 0 rfl rfl hn176 dX12_readRule_120 (lv_topi (fun v177 e177 => ?_))
            refine lv_bipush (v := 76) hx hb dX12_readRule_121 (by decide) ?_
            refine lv_icmp_ne (tgt := 139) hx hb dX12_readRule_123 (by decide) (fun c178 => ?_) (fun c178 => ?_)
            · have f178 : ¬ v177.toInt = 76 := f_ne rfl (by decide) c178
              have z8_ : ¬ sm 3 (x45).toNatClampNeg = 76 := fun q => c178 (e177.trans q)
              exact hJ139  _ _ _ (by subst ecu_; first | exact qb_1 (by assumption) | exact qb_2 (by assumption) | exact qb_3 z8_) hP hD hS (lv_sub hl [0, 1] rfl)
            · have f178 : v177.toInt = 76 := f_eq rfl (by decide) c178
              have z8_ : sm 3 (x45).toNatClampNeg = 76 := e177.symm.trans c178
              refine lv_aload_n hx hb dX12_readRule_126 rfl (lv_at hl 1 rfl) ?_
              refine lv_dup hx hb dX12_readRule_127 rfl ?_
              refine g_get cx hP iw_X12_readRule_X12 0 rfl rfl 4 (by decide) rfl fw_X12_readRule_111 rfl dX12_readRule_128 ?_
              refine lv_iconst (v := 1) hx hb dX12_readRule_131 (by decide) ?_
              refine lv_iadd hx hb dX12_readRule_132 (lv_topi (fun v179 e179 => ?_))
              have t179 : v179.toInt = x45.toInt + 1 := by rw [e179]; exact i_add rfl (by decide) (by omega) (by omega)
              have hat_ := e179
              refine g_pt cx hP hD hS iw_X12_readRule_X12 tyX12 tyX12_ok nmX12 0 rfl rfl 4 (by decide) rfl fw_X12_readRule_111 (ty := .int) rfl rfl rfl (Nat.le_of_ble_eq_true rfl) dX12_readRule_133 (fun H locs hP hD hS => ?_)
              have hP : va_P D vwCl [cell76_ qm sm tm v179 x46 x47, cell5_ k qm sm, cell13_ k qm sm, cell8_ k qm sm, cell6_ k qm sm, (qm 5, .inl (k 0, 5, .inl g48)), cell14_ k qm tm, cell12_ k qm tm, cell18_ k qm tm, cell17_ k qm tm, cell19_ k qm tm, cell21_ k qm tm, cell20_ k qm sm, cell16_ k qm sm, cell11_ k qm sm, cell10_ k qm sm, cell9_ k qm sm, cell7_ k qm sm] H := hP
              have hD : va_D A [cell76_ qm sm tm v179 x46 x47, cell5_ k qm sm, cell13_ k qm sm, cell8_ k qm sm, cell6_ k qm sm, (qm 5, .inl (k 0, 5, .inl g48)), cell14_ k qm tm, cell12_ k qm tm, cell18_ k qm tm, cell17_ k qm tm, cell19_ k qm tm, cell21_ k qm tm, cell20_ k qm sm, cell16_ k qm sm, cell11_ k qm sm, cell10_ k qm sm, cell9_ k qm sm, cell7_ k qm sm] := hD
              refine lv_goto (tgt := 143) hx hb dX12_readRule_136 (by decide) ?_
              exact hJ143 v179 x46 _ _ _ (by first | decide | omega) (by first | exact qb_5 ecu_ (by assumption) (by assumption) z8_ hat_ | (rw [q9, hfl_]; subst ecu_; rfl)) hP hD hS (lv_sub hl [0, 1] rfl)
      refine lv_icmp_ne (tgt := 92) hx hb dX12_readRule_25 (by decide) (fun c180 => ?_) (fun c180 => ?_)
      · have f180 : ¬ x46.toInt = (-9) := f_ne rfl (by decide) c180
        exact hJ92  _ _ _ (by first | exact (qit_e1 (by assumption)).symm.trans hmN_.2 | exact (qit_e2 (by assumption)).symm.trans hmN_.2 | exact (qit_e3 z7_).symm.trans hmN_.2) hP hD hS (lv_sub hl [0, 1] rfl)
      · have f180 : x46.toInt = (-9) := f_eq rfl (by decide) c180
        refine lv_aload_n hx hb dX12_readRule_28 rfl (lv_at hl 1 rfl) ?_
        refine g_get cx hP iw_X12_readRule_X12 0 rfl rfl 4 (by decide) rfl fw_X12_readRule_111 rfl dX12_readRule_29 ?_
        refine lv_aload_n hx hb dX12_readRule_32 rfl (lv_at hl 1 rfl) ?_
        refine g_get cx hP iw_X12_readRule_X12 0 rfl rfl 3 (by decide) rfl fw_X12_readRule_103 rfl dX12_readRule_33 ?_
        refine lv_icmp_ge (tgt := 92) hx hb dX12_readRule_36 (by decide) (fun c181 => ?_) (fun c181 => ?_)
        · have f181 : (sm 0 3).toInt ≤ x45.toInt := f_le rfl rfl c181
          exact hJ92  _ _ _ (by first | exact (qit_e1 (by assumption)).symm.trans hmN_.2 | exact (qit_e2 (by assumption)).symm.trans hmN_.2 | exact (qit_e3 z7_).symm.trans hmN_.2) hP hD hS (lv_sub hl [0, 1] rfl)
        · have f181 : x45.toInt < (sm 0 3).toInt := f_nle rfl rfl c181
          refine lv_aload_n hx hb dX12_readRule_39 rfl (lv_at hl 1 rfl) ?_
          refine g_get cx hP iw_X12_readRule_X12 0 rfl rfl 2 (by decide) rfl fw_X12_readRule_16 rfl dX12_readRule_40 ?_
          refine lv_aload_n hx hb dX12_readRule_43 rfl (lv_at hl 1 rfl) ?_
          refine g_get cx hP iw_X12_readRule_X12 0 rfl rfl 4 (by decide) rfl fw_X12_readRule_111 rfl dX12_readRule_44 ?_
          have hn182 : vp_in x45 64 := f_in (a := x45.toInt) rfl (by omega) (by omega)
          refine va_iald hx hb cx.2.1 hP 3 0 rfl rfl hn182 dX12_readRule_47 (lv_topi (fun v183 e183 => ?_))
          refine lv_bipush (v := 76) hx hb dX12_readRule_48 (by decide) ?_
          refine lv_icmp_eq (tgt := 92) hx hb dX12_readRule_50 (by decide) (fun c184 => ?_) (fun c184 => ?_)
          · have f184 : v183.toInt = 76 := f_eq rfl (by decide) c184
            have z7_ : sm 3 (x45).toNatClampNeg = 76 := e183.symm.trans c184
            exact hJ92  _ _ _ (by first | exact (qit_e1 (by assumption)).symm.trans hmN_.2 | exact (qit_e2 (by assumption)).symm.trans hmN_.2 | exact (qit_e3 z7_).symm.trans hmN_.2) hP hD hS (lv_sub hl [0, 1] rfl)
          · have f184 : ¬ v183.toInt = 76 := f_ne rfl (by decide) c184
            have z7_ : ¬ sm 3 (x45).toNatClampNeg = 76 := fun q => c184 (e183.trans q)
            refine lv_aload_n hx hb dX12_readRule_53 rfl (lv_at hl 1 rfl) ?_
            refine lv_iload_n hx hb dX12_readRule_54 rfl (lv_at hl 0 rfl) ?_
            refine g_iF (w1 := fun (u : Int32 × Int32) => [cell76_ qm sm tm (u.1) (u.2) x47, cell5_ k qm sm, cell13_ k qm sm, cell8_ k qm sm, cell6_ k qm sm, (qm 5, .inl (k 0, 5, .inl g48)), cell14_ k qm tm, cell12_ k qm tm, cell18_ k qm tm, cell17_ k qm tm, cell19_ k qm tm, cell21_ k qm tm, cell20_ k qm sm, cell16_ k qm sm, cell11_ k qm sm, cell10_ k qm sm, cell9_ k qm sm, cell7_ k qm sm]) (g_runVF (ws := [cell76_ qm sm tm x45 x46 x47, cell5_ k qm sm, cell13_ k qm sm, cell8_ k qm sm, cell6_ k qm sm, (qm 5, .inl (k 0, 5, .inl g48)), cell14_ k qm tm, cell12_ k qm tm, cell18_ k qm tm, cell17_ k qm tm, cell19_ k qm tm, cell21_ k qm tm, cell20_ k qm sm, cell16_ k qm sm, cell11_ k qm sm, cell10_ k qm sm, cell9_ k qm sm, cell7_ k qm sm]) (rest := []) cx hP hD hS [.int v44] (c_X12_figure l D k b qm (up2 (up2 sm 0 (upd (upd (upd (sm 0) 4 x45) 5 x46) 13 x47)) 5 g48) tm H.size v44 (show 0 ≤ (sm 0 3).toInt ∧ (sm 0 3).toInt ≤ 64 from by first | decide | omega) (show 0 ≤ x45.toInt ∧ x45.toInt ≤ 64 from by first | decide | omega)) gX12_readRule_X12_figure rfl rfl rfl nd_X12_figure ⟨Nat.le_of_ble_eq_true rfl, Nat.le_of_ble_eq_true rfl⟩ (ci := 10) (q0 := 0) rfl rfl rfl hl.1 rfl (Nat.le_of_ble_eq_true rfl) ⟨Nat.zero_le _, Nat.zero_le _⟩ dX12_readRule_55) cx.2.2.1 hD hS (fun r187 u186 H locs hw185 hP hD hS => ?_)
            obtain ⟨m188, m189⟩ := u186
            have hP : va_P D vwCl [cell76_ qm sm tm m188 m189 x47, cell5_ k qm sm, cell13_ k qm sm, cell8_ k qm sm, cell6_ k qm sm, (qm 5, .inl (k 0, 5, .inl g48)), cell14_ k qm tm, cell12_ k qm tm, cell18_ k qm tm, cell17_ k qm tm, cell19_ k qm tm, cell21_ k qm tm, cell20_ k qm sm, cell16_ k qm sm, cell11_ k qm sm, cell10_ k qm sm, cell9_ k qm sm, cell7_ k qm sm] H := hP
            have hD : va_D A [cell76_ qm sm tm m188 m189 x47, cell5_ k qm sm, cell13_ k qm sm, cell8_ k qm sm, cell6_ k qm sm, (qm 5, .inl (k 0, 5, .inl g48)), cell14_ k qm tm, cell12_ k qm tm, cell18_ k qm tm, cell17_ k qm tm, cell19_ k qm tm, cell21_ k qm tm, cell20_ k qm sm, cell16_ k qm sm, cell11_ k qm sm, cell10_ k qm sm, cell9_ k qm sm, cell7_ k qm sm] := hD
            replace hw185 : (0 ≤ r187.toInt ∧ r187.toInt ≤ 9) ∧ (x45.toInt ≤ m188.toInt ∧ m188.toInt ≤ 64) ∧ (x45.toInt + 1 ≤ m188.toInt ∨ ¬ m189.toInt = -9) ∧ (Imp (0 ≤ v44.toInt ∧ v44.toInt ≤ 63) (r187.toInt ≤ 5)) ∧ (Imp (0 ≤ v44.toInt ∧ v44.toInt ≤ 31) (r187.toInt ≤ 4)) ∧ (Imp (0 ≤ v44.toInt ∧ v44.toInt ≤ 7) (r187.toInt ≤ 2)) ∧ ((r187, m188, m189) = J_X12_figure (up2 (up2 sm 0 (upd (upd (upd (sm 0) 4 x45) 5 x46) 13 x47)) 5 g48) tm v44) := hw185
            obtain ⟨w190, w191, w192, w193, w194, w195, w196⟩ := hw185
            have k198 : r187 = ((J_X12_figure (up2 (up2 sm 0 (upd (upd (upd (sm 0) 4 x45) 5 x46) 13 x47)) 5 g48) tm v44).1) := congrArg (fun z => (z.1)) w196
            have k199 : m188 = ((J_X12_figure (up2 (up2 sm 0 (upd (upd (upd (sm 0) 4 x45) 5 x46) 13 x47)) 5 g48) tm v44).2.1) := congrArg (fun z => (z.2.1)) w196
            have k200 : m189 = ((J_X12_figure (up2 (up2 sm 0 (upd (upd (upd (sm 0) 4 x45) 5 x46) 13 x47)) 5 g48) tm v44).2.2) := congrArg (fun z => (z.2.2)) w196
            have xr187 : r187.toInt ≤ 4 := w194 ⟨by omega, by omega⟩
            have hf1_ := w196
            refine lv_istore_n (lv' := [(2, .int r187), (1, .int v44), (0, .ref (qm 0))]) hx hb dX12_readRule_58 rfl hl (by decide) rfl (fun ls hl => ?_)
            refine lv_iload_n hx hb dX12_readRule_59 rfl (lv_at hl 1 rfl) ?_
            refine lv_iconst (v := 1) hx hb dX12_readRule_60 (by decide) ?_
            refine lv_iload_n hx hb dX12_readRule_61 rfl (lv_at hl 0 rfl) ?_
            refine lv_ishl hx hb dX12_readRule_62 (lv_topi (fun v201 e201 => ?_))
            refine lv_iconst (v := (-1)) hx hb dX12_readRule_63 (by decide) ?_
            refine lv_ixor hx hb dX12_readRule_64 (lv_topi (fun v202 e202 => ?_))
            refine lv_iand hx hb dX12_readRule_65 (lv_topi (fun v203 e203 => ?_))
            have t203 : 0 ≤ v203.toInt ∧ v203.toInt ≤ v44.toInt := by rw [e203]; exact and_l rfl (by omega)
            refine lv_istore_n (lv' := [(1, .int v203), (2, .int r187), (0, .ref (qm 0))]) hx hb dX12_readRule_66 rfl hl (by decide) rfl (fun ls hl => ?_)
            refine lv_aload_n hx hb dX12_readRule_67 rfl (lv_at hl 2 rfl) ?_
            refine g_get cx hP iw_X12_readRule_X12 0 rfl rfl 12 (by decide) rfl fw_X12_readRule_22 rfl dX12_readRule_68 ?_
            refine lv_iload_n hx hb dX12_readRule_71 rfl (lv_at hl 1 rfl) ?_
            refine lv_aload_n hx hb dX12_readRule_72 rfl (lv_at hl 2 rfl) ?_
            refine lv_bipush (v := 31) hx hb dX12_readRule_73 (by decide) ?_
            refine g_iF (w1 := fun (u : Int32 × Int32) => [cell76_ qm sm tm (u.1) (u.2) x47, cell5_ k qm sm, cell13_ k qm sm, cell8_ k qm sm, cell6_ k qm sm, (qm 5, .inl (k 0, 5, .inl g48)), cell14_ k qm tm, cell12_ k qm tm, cell18_ k qm tm, cell17_ k qm tm, cell19_ k qm tm, cell21_ k qm tm, cell20_ k qm sm, cell16_ k qm sm, cell11_ k qm sm, cell10_ k qm sm, cell9_ k qm sm, cell7_ k qm sm]) (g_runVF (ws := [cell76_ qm sm tm m188 m189 x47, cell5_ k qm sm, cell13_ k qm sm, cell8_ k qm sm, cell6_ k qm sm, (qm 5, .inl (k 0, 5, .inl g48)), cell14_ k qm tm, cell12_ k qm tm, cell18_ k qm tm, cell17_ k qm tm, cell19_ k qm tm, cell21_ k qm tm, cell20_ k qm sm, cell16_ k qm sm, cell11_ k qm sm, cell10_ k qm sm, cell9_ k qm sm, cell7_ k qm sm]) (rest := [.int r187, .ref (qm 5)]) cx hP hD hS [.int 31] (c_X12_figure l D k b qm (up2 (up2 sm 0 (upd (upd (upd (sm 0) 4 m188) 5 m189) 13 x47)) 5 g48) tm H.size 31 (show 0 ≤ (sm 0 3).toInt ∧ (sm 0 3).toInt ≤ 64 from by first | decide | omega) (show 0 ≤ m188.toInt ∧ m188.toInt ≤ 64 from by first | decide | omega)) gX12_readRule_X12_figure rfl rfl rfl nd_X12_figure ⟨Nat.le_of_ble_eq_true rfl, Nat.le_of_ble_eq_true rfl⟩ (ci := 10) (q0 := 0) rfl rfl rfl hl.1 rfl (Nat.le_of_ble_eq_true rfl) ⟨Nat.zero_le _, Nat.zero_le _⟩ dX12_readRule_75) cx.2.2.1 hD hS (fun r206 u205 H locs hw204 hP hD hS => ?_)
            obtain ⟨m207, m208⟩ := u205
            have hP : va_P D vwCl [cell76_ qm sm tm m207 m208 x47, cell5_ k qm sm, cell13_ k qm sm, cell8_ k qm sm, cell6_ k qm sm, (qm 5, .inl (k 0, 5, .inl g48)), cell14_ k qm tm, cell12_ k qm tm, cell18_ k qm tm, cell17_ k qm tm, cell19_ k qm tm, cell21_ k qm tm, cell20_ k qm sm, cell16_ k qm sm, cell11_ k qm sm, cell10_ k qm sm, cell9_ k qm sm, cell7_ k qm sm] H := hP
            have hD : va_D A [cell76_ qm sm tm m207 m208 x47, cell5_ k qm sm, cell13_ k qm sm, cell8_ k qm sm, cell6_ k qm sm, (qm 5, .inl (k 0, 5, .inl g48)), cell14_ k qm tm, cell12_ k qm tm, cell18_ k qm tm, cell17_ k qm tm, cell19_ k qm tm, cell21_ k qm tm, cell20_ k qm sm, cell16_ k qm sm, cell11_ k qm sm, cell10_ k qm sm, cell9_ k qm sm, cell7_ k qm sm] := hD
            replace hw204 : (0 ≤ r206.toInt ∧ r206.toInt ≤ 9) ∧ (m188.toInt ≤ m207.toInt ∧ m207.toInt ≤ 64) ∧ (m188.toInt + 1 ≤ m207.toInt ∨ ¬ m208.toInt = -9) ∧ (Imp (0 ≤ (31 : Int32).toInt ∧ (31 : Int32).toInt ≤ 63) (r206.toInt ≤ 5)) ∧ (Imp (0 ≤ (31 : Int32).toInt ∧ (31 : Int32).toInt ≤ 31) (r206.toInt ≤ 4)) ∧ (Imp (0 ≤ (31 : Int32).toInt ∧ (31 : Int32).toInt ≤ 7) (r206.toInt ≤ 2)) ∧ ((r206, m207, m208) = J_X12_figure (up2 (up2 sm 0 (upd (upd (upd (sm 0) 4 m188) 5 m189) 13 x47)) 5 g48) tm (31 : Int32)) := hw204
            obtain ⟨w209, w210, w211, w212, w213, w214, w215⟩ := hw204
            have k217 : r206 = ((J_X12_figure (up2 (up2 sm 0 (upd (upd (upd (sm 0) 4 m188) 5 m189) 13 x47)) 5 g48) tm (31 : Int32)).1) := congrArg (fun z => (z.1)) w215
            have k218 : m207 = ((J_X12_figure (up2 (up2 sm 0 (upd (upd (upd (sm 0) 4 m188) 5 m189) 13 x47)) 5 g48) tm (31 : Int32)).2.1) := congrArg (fun z => (z.2.1)) w215
            have k219 : m208 = ((J_X12_figure (up2 (up2 sm 0 (upd (upd (upd (sm 0) 4 m188) 5 m189) 13 x47)) 5 g48) tm (31 : Int32)).2.2) := congrArg (fun z => (z.2.2)) w215
            have xr206 : r206.toInt ≤ 4 := w213 ⟨by decide, by decide⟩
            have hf2_ := w215
            have hn220 : vp_in r187 5 := f_in (a := r187.toInt) rfl (by omega) (by omega)
            refine va_iast hx hb cx.2.1 hP hD hS 5 0 rfl rfl hn220 dX12_readRule_78 (fun H locs hP hD hS => ?_)
            obtain ⟨g221, eg221⟩ : ∃ g : Nat → Int32, g = upd g48 (r187).toNatClampNeg r206 := ⟨_, rfl⟩
            rw [← eg221] at hP hD
            have hP : va_P D vwCl [cell76_ qm sm tm m207 m208 x47, cell5_ k qm sm, cell13_ k qm sm, cell8_ k qm sm, cell6_ k qm sm, (qm 5, .inl (k 0, 5, .inl g221)), cell14_ k qm tm, cell12_ k qm tm, cell18_ k qm tm, cell17_ k qm tm, cell19_ k qm tm, cell21_ k qm tm, cell20_ k qm sm, cell16_ k qm sm, cell11_ k qm sm, cell10_ k qm sm, cell9_ k qm sm, cell7_ k qm sm] H := hP
            have hD : va_D A [cell76_ qm sm tm m207 m208 x47, cell5_ k qm sm, cell13_ k qm sm, cell8_ k qm sm, cell6_ k qm sm, (qm 5, .inl (k 0, 5, .inl g221)), cell14_ k qm tm, cell12_ k qm tm, cell18_ k qm tm, cell17_ k qm tm, cell19_ k qm tm, cell21_ k qm tm, cell20_ k qm sm, cell16_ k qm sm, cell11_ k qm sm, cell10_ k qm sm, cell9_ k qm sm, cell7_ k qm sm] := hD
            refine lv_aload_n hx hb dX12_readRule_79 rfl (lv_at hl 2 rfl) ?_
            refine lv_dup hx hb dX12_readRule_80 rfl ?_
            refine g_get cx hP iw_X12_readRule_X12 0 rfl rfl 13 (by decide) rfl fw_X12_readRule_130 rfl dX12_readRule_81 ?_
            refine lv_iconst (v := 1) hx hb dX12_readRule_84 (by decide) ?_
            refine lv_iadd hx hb dX12_readRule_85 (lv_topi (fun v222 e222 => ?_))
            refine g_pt cx hP hD hS iw_X12_readRule_X12 tyX12 tyX12_ok nmX12 0 rfl rfl 13 (by decide) rfl fw_X12_readRule_130 (ty := .int) rfl rfl rfl (Nat.le_of_ble_eq_true rfl) dX12_readRule_86 (fun H locs hP hD hS => ?_)
            have hP : va_P D vwCl [cell76_ qm sm tm m207 m208 v222, cell5_ k qm sm, cell13_ k qm sm, cell8_ k qm sm, cell6_ k qm sm, (qm 5, .inl (k 0, 5, .inl g221)), cell14_ k qm tm, cell12_ k qm tm, cell18_ k qm tm, cell17_ k qm tm, cell19_ k qm tm, cell21_ k qm tm, cell20_ k qm sm, cell16_ k qm sm, cell11_ k qm sm, cell10_ k qm sm, cell9_ k qm sm, cell7_ k qm sm] H := hP
            have hD : va_D A [cell76_ qm sm tm m207 m208 v222, cell5_ k qm sm, cell13_ k qm sm, cell8_ k qm sm, cell6_ k qm sm, (qm 5, .inl (k 0, 5, .inl g221)), cell14_ k qm tm, cell12_ k qm tm, cell18_ k qm tm, cell17_ k qm tm, cell19_ k qm tm, cell21_ k qm tm, cell20_ k qm sm, cell16_ k qm sm, cell11_ k qm sm, cell10_ k qm sm, cell9_ k qm sm, cell7_ k qm sm] := hD
            refine lv_goto (tgt := 19) hx hb dX12_readRule_89 (by decide) ?_
            exact ih19 v203 m207 m208 v222 g221 _ _ _ ⟨by omega, (qit_go (by assumption) (by assumption) z7_ (by unfold QP; subst e183 k198 k199 k200 e201 e202 e203 k217 k218 k219 eg221 e222; rfl)).symm.trans hmN_.2⟩ (by first | decide | omega) (by first | decide | omega) hP hD hS (lv_sub hl [0, 2] rfl)
  have hlit223 : (31 : Int32).toInt = 31 := by decide
  have hlit224 : (0 : Int32).toInt = 0 := by decide
  have hlit225 : (-9 : Int32).toInt = -9 := by decide
  have hlit226 : (0 : Int32).toInt = 0 := by decide
  exact hL19 (200) 31 0 (-9) 0 (sm 5) _ _ _ ⟨by omega, rfl⟩ (by first | decide | omega) (by first | decide | omega) hP hD hS (lv_sub hl [0, 1] rfl)
theorem kJ_X12_isRule_146 : Cond.constantLong RX12 146 (2) ∈ wsX12_isRule := by decide +kernel
def J_X12_isRule (p0 : Int32) : Int32 := (J_X12_in (p0.toInt64) 0 2)
set_option maxHeartbeats 4000000 in
set_option maxRecDepth 100000 in
theorem c_X12_isRule (l : Launch) (D : va_G) (k : Nat → ClassId) (b : Nat → Nat) (sz : Nat) (p0 : Int32) : MetI l D k b yX12_isRule wsX12_isRule ({ frames := 1, cells := 0, slots := 0, locals := 25 } : Room) [] sz [.int p0] (fun (r : Int32) (u : Unit) => (0 ≤ r.toInt ∧ r.toInt ≤ 1) ∧ (Imp (r.toInt = 1) (0 ≤ p0.toInt ∧ p0.toInt ≤ 2)) ∧ (r = J_X12_isRule p0)) (fun u => []) := by
  refine g_enter (cc := cX12_isRule) (maxL := 1) (ret := (some .boolean)) (by decide) rfl (Nat.le_of_ble_eq_true rfl) ?_
  intro p e s m below meth c A hsz hAe cx hr hP hD hS ls hl
  rw [hAe]
  refine g_q (fun Q hQ => ?_)
  have hx := cx.1.1
  have hb := cx.1.2.1
  have bp0 := i_rng p0
  have hl : lv_has ls 1 [(0, .int p0)] := hl
  obtain ⟨H, eH⟩ : ∃ H : Heap, H = s.heap := ⟨_, rfl⟩
  obtain ⟨locs, el⟩ : ∃ L : List Loc, L = [] := ⟨_, rfl⟩
  have hP : va_P D vwCl [] H := by rw [eH]; exact hP
  have hD : va_D A [] := hD
  have hS : va_S A s.heap H locs := by rw [eH, el]; exact hS
  suffices goal : W p l e ({ frames := 1, cells := 0, slots := 0, locals := 25 } : Room) s m ([.int p0] : List Value).toArray below meth c H locs 0 0 Q (F0 m 0 ls []) by rw [eH, el] at goal; exact goal
  refine lv_iload_n hx hb dX12_isRule_0 rfl (lv_at hl 0 rfl) ?_
  obtain ⟨v1, e1⟩ : ∃ z : Int64, z = (p0 : Int32).toInt64 := ⟨_, rfl⟩
  refine lv_i2l (v := v1) hx hb dX12_isRule_1 e1.symm ?_
  refine lv_lconst (v := 0) hx hb dX12_isRule_2 (by decide) ?_
  refine lv_ldc2 (v := 2) hx hb cx.1.2.2.2.1 (cx.1.2.2.2.2 _ kJ_X12_isRule_146) dX12_isRule_3 ?_
  refine g_ir (g_runS (wc := []) (rest := []) cx hP hD hS [] rfl (by decide) [.long v1, .long 0, .long 2] (c_X12_in l D k b H.size v1 0 2) gX12_isRule_X12_in rfl rfl rfl nd_X12_in ⟨Nat.le_of_ble_eq_true rfl, Nat.le_of_ble_eq_true rfl⟩ rfl hl.1 rfl (Nat.le_of_ble_eq_true rfl) ⟨Nat.zero_le _, Nat.zero_le _⟩ dX12_isRule_6) cx.2.2.1 hP hD hS [] rfl rfl (fun r3 H locs hw2 hP hS => ?_)
  have w4 : r3 = J_X12_in v1 (0 : Int64) (2 : Int64) := hw2
  clear hw2
  have zr3 := in_b w4
  rw [hQ]
  exact x_z cx hr (nar_z (by omega)) () hP hD hS ⟨(show 0 ≤ r3.toInt ∧ r3.toInt ≤ 1 from by omega), (show Imp (r3.toInt = 1) (0 ≤ p0.toInt ∧ p0.toInt ≤ 2) from fun h => by have q : 0 ≤ p0.toInt ∧ p0.toInt ≤ 2 := in_t (i2l_t rfl e1) (by decide) (by decide) w4 (ne1 h); omega), (show r3 = J_X12_isRule p0 from by subst e1 w4; rfl)⟩ dX12_isRule_9
theorem kJ_X12_isGone_248 : Cond.constantLong RX12 248 (444) ∈ wsX12_isGone := by decide +kernel
def J_X12_isGone (p0 : Int32) : Int32 := if (J_X12_in (p0.toInt64) 0 444) = 0 then (0 : Int32) else if 5 ≤ ((p0 / 10) - (p0 / 10) / 10 * 10) then (0 : Int32) else if 5 ≤ (p0 - p0 / 10 * 10) then (0 : Int32) else (1 : Int32)
set_option maxHeartbeats 4000000 in
set_option maxRecDepth 100000 in
theorem c_X12_isGone (l : Launch) (D : va_G) (k : Nat → ClassId) (b : Nat → Nat) (sz : Nat) (p0 : Int32) : MetI l D k b yX12_isGone wsX12_isGone ({ frames := 1, cells := 0, slots := 0, locals := 25 } : Room) [] sz [.int p0] (fun (r : Int32) (u : Unit) => r = J_X12_isGone p0) (fun u => []) := by
  refine g_enter (cc := cX12_isGone) (maxL := 1) (ret := (some .boolean)) (by decide) rfl (Nat.le_of_ble_eq_true rfl) ?_
  intro p e s m below meth c A hsz hAe cx hr hP hD hS ls hl
  rw [hAe]
  refine g_q (fun Q hQ => ?_)
  have hx := cx.1.1
  have hb := cx.1.2.1
  have hl : lv_has ls 1 [(0, .int p0)] := hl
  obtain ⟨H, eH⟩ : ∃ H : Heap, H = s.heap := ⟨_, rfl⟩
  obtain ⟨locs, el⟩ : ∃ L : List Loc, L = [] := ⟨_, rfl⟩
  have hP : va_P D vwCl [] H := by rw [eH]; exact hP
  have hD : va_D A [] := hD
  have hS : va_S A s.heap H locs := by rw [eH, el]; exact hS
  suffices goal : W p l e ({ frames := 1, cells := 0, slots := 0, locals := 25 } : Room) s m ([.int p0] : List Value).toArray below meth c H locs 0 0 Q (F0 m 0 ls []) by rw [eH, el] at goal; exact goal
  refine lv_iload_n hx hb dX12_isGone_0 rfl (lv_at hl 0 rfl) ?_
  obtain ⟨v1, e1⟩ : ∃ z : Int64, z = (p0 : Int32).toInt64 := ⟨_, rfl⟩
  refine lv_i2l (v := v1) hx hb dX12_isGone_1 e1.symm ?_
  refine lv_lconst (v := 0) hx hb dX12_isGone_2 (by decide) ?_
  refine lv_ldc2 (v := 444) hx hb cx.1.2.2.2.1 (cx.1.2.2.2.2 _ kJ_X12_isGone_248) dX12_isGone_3 ?_
  refine g_ir (g_runS (wc := []) (rest := []) cx hP hD hS [] rfl (by decide) [.long v1, .long 0, .long 444] (c_X12_in l D k b H.size v1 0 444) gX12_isGone_X12_in rfl rfl rfl nd_X12_in ⟨Nat.le_of_ble_eq_true rfl, Nat.le_of_ble_eq_true rfl⟩ rfl hl.1 rfl (Nat.le_of_ble_eq_true rfl) ⟨Nat.zero_le _, Nat.zero_le _⟩ dX12_isGone_6) cx.2.2.1 hP hD hS [] rfl rfl (fun r3 H locs hw2 hP hS => ?_)
  have w4 : r3 = J_X12_in v1 (0 : Int64) (444 : Int64) := hw2
  clear hw2
  refine lv_if_eq (tgt := 35) hx hb dX12_isGone_9 (by decide) (fun c5 => ?_) (fun c5 => ?_)
  · refine lv_iconst (v := 0) hx hb dX12_isGone_35 (by decide) ?_
    rw [hQ]
    exact x_z cx hr (by decide) () hP hD hS (show 0 = J_X12_isGone p0 from by subst e1 w4; unfold J_X12_isGone; rw [if_pos c5]) dX12_isGone_36
  · refine lv_iload_n hx hb dX12_isGone_12 rfl (lv_at hl 0 rfl) ?_
    refine lv_bipush (v := 10) hx hb dX12_isGone_13 (by decide) ?_
    refine lv_idiv hx hb dX12_isGone_15 (by decide) (lv_topi (fun v6 e6 => ?_))
    refine lv_bipush (v := 10) hx hb dX12_isGone_16 (by decide) ?_
    refine lv_irem hx hb dX12_isGone_18 (by decide) (lv_topi (fun v7 e7 => ?_))
    refine lv_iconst (v := 5) hx hb dX12_isGone_19 (by decide) ?_
    refine lv_icmp_ge (tgt := 35) hx hb dX12_isGone_20 (by decide) (fun c8 => ?_) (fun c8 => ?_)
    · refine lv_iconst (v := 0) hx hb dX12_isGone_35 (by decide) ?_
      rw [hQ]
      exact x_z cx hr (by decide) () hP hD hS (show 0 = J_X12_isGone p0 from by subst e1 w4 e6 e7; unfold J_X12_isGone; rw [if_neg c5, if_pos c8]) dX12_isGone_36
    · refine lv_iload_n hx hb dX12_isGone_23 rfl (lv_at hl 0 rfl) ?_
      refine lv_bipush (v := 10) hx hb dX12_isGone_24 (by decide) ?_
      refine lv_irem hx hb dX12_isGone_26 (by decide) (lv_topi (fun v9 e9 => ?_))
      refine lv_iconst (v := 5) hx hb dX12_isGone_27 (by decide) ?_
      refine lv_icmp_ge (tgt := 35) hx hb dX12_isGone_28 (by decide) (fun c10 => ?_) (fun c10 => ?_)
      · refine lv_iconst (v := 0) hx hb dX12_isGone_35 (by decide) ?_
        rw [hQ]
        exact x_z cx hr (by decide) () hP hD hS (show 0 = J_X12_isGone p0 from by subst e1 w4 e6 e7 e9; unfold J_X12_isGone; rw [if_neg c5, if_neg c8, if_pos c10]) dX12_isGone_36
      · refine lv_iconst (v := 1) hx hb dX12_isGone_31 (by decide) ?_
        refine lv_goto (tgt := 36) hx hb dX12_isGone_32 (by decide) ?_
        rw [hQ]
        exact x_z cx hr (by decide) () hP hD hS (show 1 = J_X12_isGone p0 from by subst e1 w4 e6 e7 e9; unfold J_X12_isGone; rw [if_neg c5, if_neg c8, if_neg c10]) dX12_isGone_36
theorem fw_X12_isWeek_13 : Cond.fieldLink RX12 13 "StillInAugustModel" "house" "[I" ∈ wsX12_isWeek := by decide +kernel
theorem iw_X12_isWeek_X12 : ∀ w ∈ u_ws RX12 TX12 33, w ∈ wsX12_isWeek := fun _ h => List.mem_cons_of_mem _ (List.mem_append_right _ h)
def J_X12_isWeek (sm : Nat → Nat → Int32) (tm : Nat → Nat → Int64) (p0 : Int32) : Int32 := (J_X12_in (p0.toInt64) 0 (((((sm 2) (0 : Int32).toNatClampNeg) - (1 : Int32)).toInt64)))
set_option maxHeartbeats 4000000 in
set_option maxRecDepth 100000 in
theorem c_X12_isWeek (l : Launch) (D : va_G) (k : Nat → ClassId) (b : Nat → Nat) (qm : Nat → Nat) (sm : Nat → Nat → Int32) (tm : Nat → Nat → Int64) (sz : Nat) (p0 : Int32) (h_w0 : 0 ≤ (sm 2 0).toInt ∧ (sm 2 0).toInt ≤ 5) : MetI l D k b yX12_isWeek wsX12_isWeek ({ frames := 1, cells := 0, slots := 0, locals := 25 } : Room) [cell22_ qm sm tm, cell5_ k qm sm, cell13_ k qm sm, cell8_ k qm sm, cell6_ k qm sm, cell15_ k qm sm, cell14_ k qm tm, cell12_ k qm tm, cell18_ k qm tm, cell17_ k qm tm, cell19_ k qm tm, cell21_ k qm tm, cell20_ k qm sm, cell16_ k qm sm, cell11_ k qm sm, cell10_ k qm sm, cell9_ k qm sm, cell7_ k qm sm] sz [.ref (qm 0), .int p0] (fun (r : Int32) (u : Unit) => (0 ≤ r.toInt ∧ r.toInt ≤ 1) ∧ (Imp (r.toInt = 1) (0 ≤ p0.toInt ∧ p0.toInt ≤ 4)) ∧ (r = J_X12_isWeek sm tm p0)) (fun u => [cell22_ qm sm tm, cell5_ k qm sm, cell13_ k qm sm, cell8_ k qm sm, cell6_ k qm sm, cell15_ k qm sm, cell14_ k qm tm, cell12_ k qm tm, cell18_ k qm tm, cell17_ k qm tm, cell19_ k qm tm, cell21_ k qm tm, cell20_ k qm sm, cell16_ k qm sm, cell11_ k qm sm, cell10_ k qm sm, cell9_ k qm sm, cell7_ k qm sm]) := by
  refine g_enter (cc := cX12_isWeek) (maxL := 2) (ret := (some .boolean)) (by decide) rfl (Nat.le_of_ble_eq_true rfl) ?_
  intro p e s m below meth c A hsz hAe cx hr hP hD hS ls hl
  rw [hAe]
  refine g_q (fun Q hQ => ?_)
  have hx := cx.1.1
  have hb := cx.1.2.1
  have bp0 := i_rng p0
  have hl : lv_has ls 2 [(0, .ref (qm 0)), (1, .int p0)] := hl
  obtain ⟨H, eH⟩ : ∃ H : Heap, H = s.heap := ⟨_, rfl⟩
  obtain ⟨locs, el⟩ : ∃ L : List Loc, L = [] := ⟨_, rfl⟩
  have hP : va_P D vwCl [cell22_ qm sm tm, cell5_ k qm sm, cell13_ k qm sm, cell8_ k qm sm, cell6_ k qm sm, cell15_ k qm sm, cell14_ k qm tm, cell12_ k qm tm, cell18_ k qm tm, cell17_ k qm tm, cell19_ k qm tm, cell21_ k qm tm, cell20_ k qm sm, cell16_ k qm sm, cell11_ k qm sm, cell10_ k qm sm, cell9_ k qm sm, cell7_ k qm sm] H := by rw [eH]; exact hP
  have hD : va_D A [cell22_ qm sm tm, cell5_ k qm sm, cell13_ k qm sm, cell8_ k qm sm, cell6_ k qm sm, cell15_ k qm sm, cell14_ k qm tm, cell12_ k qm tm, cell18_ k qm tm, cell17_ k qm tm, cell19_ k qm tm, cell21_ k qm tm, cell20_ k qm sm, cell16_ k qm sm, cell11_ k qm sm, cell10_ k qm sm, cell9_ k qm sm, cell7_ k qm sm] := hD
  have hS : va_S A s.heap H locs := by rw [eH, el]; exact hS
  suffices goal : W p l e ({ frames := 1, cells := 0, slots := 0, locals := 25 } : Room) s m ([.ref (qm 0), .int p0] : List Value).toArray below meth c H locs 0 0 Q (F0 m 0 ls []) by rw [eH, el] at goal; exact goal
  refine lv_iload_n hx hb dX12_isWeek_0 rfl (lv_at hl 1 rfl) ?_
  obtain ⟨v1, e1⟩ : ∃ z : Int64, z = (p0 : Int32).toInt64 := ⟨_, rfl⟩
  refine lv_i2l (v := v1) hx hb dX12_isWeek_1 e1.symm ?_
  refine lv_lconst (v := 0) hx hb dX12_isWeek_2 (by decide) ?_
  refine lv_aload_n hx hb dX12_isWeek_3 rfl (lv_at hl 0 rfl) ?_
  refine g_get cx hP iw_X12_isWeek_X12 0 rfl rfl 1 (by decide) rfl fw_X12_isWeek_13 rfl dX12_isWeek_4 ?_
  refine lv_iconst (v := 0) hx hb dX12_isWeek_7 (by decide) ?_
  have hn2 : vp_in 0 26 := f_in (a := 0) (by decide) (by omega) (by omega)
  refine va_iald hx hb cx.2.1 hP 2 0 rfl rfl hn2 dX12_isWeek_8 (lv_topi (fun v3 e3 => ?_))
  have uv3 : v3.toInt = ((sm 2) 0).toInt := congrArg Int32.toInt e3
  have t3 : 0 ≤ v3.toInt ∧ v3.toInt ≤ 5 := by rw [e3]; exact h_w0
  refine lv_iconst (v := 1) hx hb dX12_isWeek_9 (by decide) ?_
  refine lv_isub hx hb dX12_isWeek_10 (lv_topi (fun v4 e4 => ?_))
  have t4 : v4.toInt = v3.toInt - 1 := by rw [e4]; exact i_sub rfl (by decide) (by omega) (by omega)
  obtain ⟨v5, e5⟩ : ∃ z : Int64, z = (v4 : Int32).toInt64 := ⟨_, rfl⟩
  refine lv_i2l (v := v5) hx hb dX12_isWeek_11 e5.symm ?_
  refine g_ir (g_runS (wc := []) (rest := []) cx hP hD hS [] rfl (by decide) [.long v1, .long 0, .long v5] (c_X12_in l D k b H.size v1 0 v5) gX12_isWeek_X12_in rfl rfl rfl nd_X12_in ⟨Nat.le_of_ble_eq_true rfl, Nat.le_of_ble_eq_true rfl⟩ rfl hl.1 rfl (Nat.le_of_ble_eq_true rfl) ⟨Nat.zero_le _, Nat.zero_le _⟩ dX12_isWeek_12) cx.2.2.1 hP hD hS [] rfl rfl (fun r7 H locs hw6 hP hS => ?_)
  have w8 : r7 = J_X12_in v1 (0 : Int64) v5 := hw6
  clear hw6
  have zr7 := in_b w8
  rw [hQ]
  exact x_z cx hr (nar_z (by omega)) () hP hD hS ⟨(show 0 ≤ r7.toInt ∧ r7.toInt ≤ 1 from by omega), (show Imp (r7.toInt = 1) (0 ≤ p0.toInt ∧ p0.toInt ≤ 4) from fun h => by have q : 0 ≤ p0.toInt ∧ p0.toInt ≤ v4.toInt := in_t (i2l_t rfl e1) (by decide) (i2l_t rfl e5) w8 (ne1 h); omega), (show r7 = J_X12_isWeek sm tm p0 from by subst e1 e3 e4 e5 w8; rfl)⟩ dX12_isWeek_15
theorem fw_X12_goes_13 : Cond.fieldLink RX12 13 "StillInAugustModel" "house" "[I" ∈ wsX12_goes := by decide +kernel
theorem iw_X12_goes_X12 : ∀ w ∈ u_ws RX12 TX12 33, w ∈ wsX12_goes := fun _ h => List.mem_cons_of_mem _ (List.mem_append_right _ h)
def J_X12_goes (sm : Nat → Nat → Int32) (tm : Nat → Nat → Int64) (p0 : Int32) : Int32 := if ((sm 2) (7 : Int32).toNatClampNeg) = (-9) then if 0 ≤ (((sm 2) (((20 : Int32) + p0)).toNatClampNeg) - (0 : Int32)) then (((sm 2) (((20 : Int32) + p0)).toNatClampNeg) - (0 : Int32)) else (0 : Int32) else if 0 ≤ (((sm 2) (((20 : Int32) + p0)).toNatClampNeg) - ((sm 2) (8 : Int32).toNatClampNeg)) then (((sm 2) (((20 : Int32) + p0)).toNatClampNeg) - ((sm 2) (8 : Int32).toNatClampNeg)) else (0 : Int32)
set_option maxHeartbeats 4000000 in
set_option maxRecDepth 100000 in
theorem c_X12_goes (l : Launch) (D : va_G) (k : Nat → ClassId) (b : Nat → Nat) (qm : Nat → Nat) (sm : Nat → Nat → Int32) (tm : Nat → Nat → Int64) (sz : Nat) (p0 : Int32) (hp0 : 0 ≤ p0.toInt ∧ p0.toInt ≤ 2) : MetI l D k b yX12_goes wsX12_goes ({ frames := 0, cells := 0, slots := 0, locals := 0 } : Room) [cell22_ qm sm tm, cell5_ k qm sm, cell13_ k qm sm, cell8_ k qm sm, cell6_ k qm sm, cell15_ k qm sm, cell14_ k qm tm, cell12_ k qm tm, cell18_ k qm tm, cell17_ k qm tm, cell19_ k qm tm, cell21_ k qm tm, cell20_ k qm sm, cell16_ k qm sm, cell11_ k qm sm, cell10_ k qm sm, cell9_ k qm sm, cell7_ k qm sm] sz [.ref (qm 0), .int p0] (fun (r : Int32) (u : Unit) => r = J_X12_goes sm tm p0) (fun u => [cell22_ qm sm tm, cell5_ k qm sm, cell13_ k qm sm, cell8_ k qm sm, cell6_ k qm sm, cell15_ k qm sm, cell14_ k qm tm, cell12_ k qm tm, cell18_ k qm tm, cell17_ k qm tm, cell19_ k qm tm, cell21_ k qm tm, cell20_ k qm sm, cell16_ k qm sm, cell11_ k qm sm, cell10_ k qm sm, cell9_ k qm sm, cell7_ k qm sm]) := by
  refine g_enter (cc := cX12_goes) (maxL := 3) (ret := (some .int)) (by decide) rfl (Nat.le_of_ble_eq_true rfl) ?_
  intro p e s m below meth c A hsz hAe cx hr hP hD hS ls hl
  rw [hAe]
  refine g_q (fun Q hQ => ?_)
  have hx := cx.1.1
  have hb := cx.1.2.1
  have bp0 := i_rng p0
  have hl : lv_has ls 3 [(0, .ref (qm 0)), (1, .int p0)] := hl
  obtain ⟨H, eH⟩ : ∃ H : Heap, H = s.heap := ⟨_, rfl⟩
  obtain ⟨locs, el⟩ : ∃ L : List Loc, L = [] := ⟨_, rfl⟩
  have hP : va_P D vwCl [cell22_ qm sm tm, cell5_ k qm sm, cell13_ k qm sm, cell8_ k qm sm, cell6_ k qm sm, cell15_ k qm sm, cell14_ k qm tm, cell12_ k qm tm, cell18_ k qm tm, cell17_ k qm tm, cell19_ k qm tm, cell21_ k qm tm, cell20_ k qm sm, cell16_ k qm sm, cell11_ k qm sm, cell10_ k qm sm, cell9_ k qm sm, cell7_ k qm sm] H := by rw [eH]; exact hP
  have hD : va_D A [cell22_ qm sm tm, cell5_ k qm sm, cell13_ k qm sm, cell8_ k qm sm, cell6_ k qm sm, cell15_ k qm sm, cell14_ k qm tm, cell12_ k qm tm, cell18_ k qm tm, cell17_ k qm tm, cell19_ k qm tm, cell21_ k qm tm, cell20_ k qm sm, cell16_ k qm sm, cell11_ k qm sm, cell10_ k qm sm, cell9_ k qm sm, cell7_ k qm sm] := hD
  have hS : va_S A s.heap H locs := by rw [eH, el]; exact hS
  suffices goal : W p l e ({ frames := 0, cells := 0, slots := 0, locals := 0 } : Room) s m ([.ref (qm 0), .int p0] : List Value).toArray below meth c H locs 0 0 Q (F0 m 0 ls []) by rw [eH, el] at goal; exact goal
  refine lv_aload_n hx hb dX12_goes_0 rfl (lv_at hl 0 rfl) ?_
  refine g_get cx hP iw_X12_goes_X12 0 rfl rfl 1 (by decide) rfl fw_X12_goes_13 rfl dX12_goes_1 ?_
  refine lv_bipush (v := 20) hx hb dX12_goes_4 (by decide) ?_
  refine lv_iload_n hx hb dX12_goes_6 rfl (lv_at hl 1 rfl) ?_
  refine lv_iadd hx hb dX12_goes_7 (lv_topi (fun v1 e1 => ?_))
  have t1 : v1.toInt = 20 + p0.toInt := by rw [e1]; exact i_add (by decide) rfl (by omega) (by omega)
  have hn2 : vp_in v1 26 := f_in (a := v1.toInt) rfl (by omega) (by omega)
  refine va_iald hx hb cx.2.1 hP 2 0 rfl rfl hn2 dX12_goes_8 (lv_topi (fun v3 e3 => ?_))
  refine lv_aload_n hx hb dX12_goes_9 rfl (lv_at hl 0 rfl) ?_
  refine g_get cx hP iw_X12_goes_X12 0 rfl rfl 1 (by decide) rfl fw_X12_goes_13 rfl dX12_goes_10 ?_
  refine lv_bipush (v := 7) hx hb dX12_goes_13 (by decide) ?_
  have hn4 : vp_in 7 26 := f_in (a := 7) (by decide) (by omega) (by omega)
  refine va_iald hx hb cx.2.1 hP 2 0 rfl rfl hn4 dX12_goes_15 (lv_topi (fun v5 e5 => ?_))
  have uv5 : v5.toInt = ((sm 2) 7).toInt := congrArg Int32.toInt e5
  refine lv_bipush (v := (-9)) hx hb dX12_goes_16 (by decide) ?_
  refine lv_icmp_ne (tgt := 25) hx hb dX12_goes_18 (by decide) (fun c6 => ?_) (fun c6 => ?_)
  · have f6 : ¬ v5.toInt = (-9) := f_ne rfl (by decide) c6
    refine lv_aload_n hx hb dX12_goes_25 rfl (lv_at hl 0 rfl) ?_
    refine g_get cx hP iw_X12_goes_X12 0 rfl rfl 1 (by decide) rfl fw_X12_goes_13 rfl dX12_goes_26 ?_
    refine lv_bipush (v := 8) hx hb dX12_goes_29 (by decide) ?_
    have hn7 : vp_in 8 26 := f_in (a := 8) (by decide) (by omega) (by omega)
    refine va_iald hx hb cx.2.1 hP 2 0 rfl rfl hn7 dX12_goes_31 (lv_topi (fun v8 e8 => ?_))
    have uv8 : v8.toInt = ((sm 2) 8).toInt := congrArg Int32.toInt e8
    refine lv_isub hx hb dX12_goes_32 (lv_topi (fun v9 e9 => ?_))
    refine lv_istore_n (lv' := [(2, .int v9), (0, .ref (qm 0)), (1, .int p0)]) hx hb dX12_goes_33 rfl hl (by decide) rfl (fun ls hl => ?_)
    refine lv_iload_n hx hb dX12_goes_34 rfl (lv_at hl 0 rfl) ?_
    refine lv_if_ge (tgt := 42) hx hb dX12_goes_35 (by decide) (fun c10 => ?_) (fun c10 => ?_)
    · have f10 : 0 ≤ v9.toInt := f_le (by decide) rfl c10
      refine lv_iload_n hx hb dX12_goes_42 rfl (lv_at hl 0 rfl) ?_
      rw [hQ]
      exact x_i cx hr () hP hD hS (show v9 = J_X12_goes sm tm p0 from by subst e1 e3 e5 e8 e9; first | (refine Eq.symm ?_; refine Eq.trans (if_neg c6) ?_; refine Eq.trans (if_pos c10) ?_; rfl) | (unfold J_X12_goes; try dsimp only; rw [if_neg c6, if_pos c10])) dX12_goes_43
    · have f10 : v9.toInt < 0 := f_nle (by decide) rfl c10
      refine lv_iconst (v := 0) hx hb dX12_goes_38 (by decide) ?_
      refine lv_goto (tgt := 43) hx hb dX12_goes_39 (by decide) ?_
      have hlit11 : (0 : Int32).toInt = 0 := by decide
      rw [hQ]
      exact x_i cx hr () hP hD hS (show (0 : Int32) = J_X12_goes sm tm p0 from by subst e1 e3 e5 e8 e9; first | (refine Eq.symm ?_; refine Eq.trans (if_neg c6) ?_; refine Eq.trans (if_neg c10) ?_; rfl) | (unfold J_X12_goes; try dsimp only; rw [if_neg c6, if_neg c10])) dX12_goes_43
  · have f6 : v5.toInt = (-9) := f_eq rfl (by decide) c6
    refine lv_iconst (v := 0) hx hb dX12_goes_21 (by decide) ?_
    refine lv_goto (tgt := 32) hx hb dX12_goes_22 (by decide) ?_
    refine lv_isub hx hb dX12_goes_32 (lv_topi (fun v12 e12 => ?_))
    refine lv_istore_n (lv' := [(2, .int v12), (0, .ref (qm 0)), (1, .int p0)]) hx hb dX12_goes_33 rfl hl (by decide) rfl (fun ls hl => ?_)
    refine lv_iload_n hx hb dX12_goes_34 rfl (lv_at hl 0 rfl) ?_
    refine lv_if_ge (tgt := 42) hx hb dX12_goes_35 (by decide) (fun c13 => ?_) (fun c13 => ?_)
    · have f13 : 0 ≤ v12.toInt := f_le (by decide) rfl c13
      refine lv_iload_n hx hb dX12_goes_42 rfl (lv_at hl 0 rfl) ?_
      rw [hQ]
      exact x_i cx hr () hP hD hS (show v12 = J_X12_goes sm tm p0 from by subst e1 e3 e5 e12; first | (refine Eq.symm ?_; refine Eq.trans (if_pos c6) ?_; refine Eq.trans (if_pos c13) ?_; rfl) | (unfold J_X12_goes; try dsimp only; rw [if_pos c6, if_pos c13])) dX12_goes_43
    · have f13 : v12.toInt < 0 := f_nle (by decide) rfl c13
      refine lv_iconst (v := 0) hx hb dX12_goes_38 (by decide) ?_
      refine lv_goto (tgt := 43) hx hb dX12_goes_39 (by decide) ?_
      have hlit14 : (0 : Int32).toInt = 0 := by decide
      rw [hQ]
      exact x_i cx hr () hP hD hS (show (0 : Int32) = J_X12_goes sm tm p0 from by subst e1 e3 e5 e12; first | (refine Eq.symm ?_; refine Eq.trans (if_pos c6) ?_; refine Eq.trans (if_neg c13) ?_; rfl) | (unfold J_X12_goes; try dsimp only; rw [if_pos c6, if_neg c13])) dX12_goes_43
theorem fw_X12_isComing_13 : Cond.fieldLink RX12 13 "StillInAugustModel" "house" "[I" ∈ wsX12_isComing := by decide +kernel
theorem kJ_X12_isComing_146 : Cond.constantLong RX12 146 (2) ∈ wsX12_isComing := by decide +kernel
theorem iw_X12_isComing_X12 : ∀ w ∈ u_ws RX12 TX12 33, w ∈ wsX12_isComing := fun _ h => List.mem_cons_of_mem _ (List.mem_append_right _ h)
def J_X12_isComing (sm : Nat → Nat → Int32) (tm : Nat → Nat → Int64) (p0 : Int32) : Int32 := if ((sm 2) (6 : Int32).toNatClampNeg) = (-9) then (J_X12_in (p0.toInt64) 0 0) else (J_X12_in (p0.toInt64) 0 2)
set_option maxHeartbeats 4000000 in
set_option maxRecDepth 100000 in
theorem c_X12_isComing (l : Launch) (D : va_G) (k : Nat → ClassId) (b : Nat → Nat) (qm : Nat → Nat) (sm : Nat → Nat → Int32) (tm : Nat → Nat → Int64) (sz : Nat) (p0 : Int32) : MetI l D k b yX12_isComing wsX12_isComing ({ frames := 1, cells := 0, slots := 0, locals := 25 } : Room) [cell22_ qm sm tm, cell5_ k qm sm, cell13_ k qm sm, cell8_ k qm sm, cell6_ k qm sm, cell15_ k qm sm, cell14_ k qm tm, cell12_ k qm tm, cell18_ k qm tm, cell17_ k qm tm, cell19_ k qm tm, cell21_ k qm tm, cell20_ k qm sm, cell16_ k qm sm, cell11_ k qm sm, cell10_ k qm sm, cell9_ k qm sm, cell7_ k qm sm] sz [.ref (qm 0), .int p0] (fun (r : Int32) (u : Unit) => (0 ≤ r.toInt ∧ r.toInt ≤ 1) ∧ (Imp (r.toInt = 1) (0 ≤ p0.toInt ∧ p0.toInt ≤ 2)) ∧ (r = J_X12_isComing sm tm p0)) (fun u => [cell22_ qm sm tm, cell5_ k qm sm, cell13_ k qm sm, cell8_ k qm sm, cell6_ k qm sm, cell15_ k qm sm, cell14_ k qm tm, cell12_ k qm tm, cell18_ k qm tm, cell17_ k qm tm, cell19_ k qm tm, cell21_ k qm tm, cell20_ k qm sm, cell16_ k qm sm, cell11_ k qm sm, cell10_ k qm sm, cell9_ k qm sm, cell7_ k qm sm]) := by
  refine g_enter (cc := cX12_isComing) (maxL := 2) (ret := (some .boolean)) (by decide) rfl (Nat.le_of_ble_eq_true rfl) ?_
  intro p e s m below meth c A hsz hAe cx hr hP hD hS ls hl
  rw [hAe]
  refine g_q (fun Q hQ => ?_)
  have hx := cx.1.1
  have hb := cx.1.2.1
  have bp0 := i_rng p0
  have hl : lv_has ls 2 [(0, .ref (qm 0)), (1, .int p0)] := hl
  obtain ⟨H, eH⟩ : ∃ H : Heap, H = s.heap := ⟨_, rfl⟩
  obtain ⟨locs, el⟩ : ∃ L : List Loc, L = [] := ⟨_, rfl⟩
  have hP : va_P D vwCl [cell22_ qm sm tm, cell5_ k qm sm, cell13_ k qm sm, cell8_ k qm sm, cell6_ k qm sm, cell15_ k qm sm, cell14_ k qm tm, cell12_ k qm tm, cell18_ k qm tm, cell17_ k qm tm, cell19_ k qm tm, cell21_ k qm tm, cell20_ k qm sm, cell16_ k qm sm, cell11_ k qm sm, cell10_ k qm sm, cell9_ k qm sm, cell7_ k qm sm] H := by rw [eH]; exact hP
  have hD : va_D A [cell22_ qm sm tm, cell5_ k qm sm, cell13_ k qm sm, cell8_ k qm sm, cell6_ k qm sm, cell15_ k qm sm, cell14_ k qm tm, cell12_ k qm tm, cell18_ k qm tm, cell17_ k qm tm, cell19_ k qm tm, cell21_ k qm tm, cell20_ k qm sm, cell16_ k qm sm, cell11_ k qm sm, cell10_ k qm sm, cell9_ k qm sm, cell7_ k qm sm] := hD
  have hS : va_S A s.heap H locs := by rw [eH, el]; exact hS
  suffices goal : W p l e ({ frames := 1, cells := 0, slots := 0, locals := 25 } : Room) s m ([.ref (qm 0), .int p0] : List Value).toArray below meth c H locs 0 0 Q (F0 m 0 ls []) by rw [eH, el] at goal; exact goal
  refine lv_iload_n hx hb dX12_isComing_0 rfl (lv_at hl 1 rfl) ?_
  obtain ⟨v1, e1⟩ : ∃ z : Int64, z = (p0 : Int32).toInt64 := ⟨_, rfl⟩
  refine lv_i2l (v := v1) hx hb dX12_isComing_1 e1.symm ?_
  refine lv_lconst (v := 0) hx hb dX12_isComing_2 (by decide) ?_
  refine lv_aload_n hx hb dX12_isComing_3 rfl (lv_at hl 0 rfl) ?_
  refine g_get cx hP iw_X12_isComing_X12 0 rfl rfl 1 (by decide) rfl fw_X12_isComing_13 rfl dX12_isComing_4 ?_
  refine lv_bipush (v := 6) hx hb dX12_isComing_7 (by decide) ?_
  have hn2 : vp_in 6 26 := f_in (a := 6) (by decide) (by omega) (by omega)
  refine va_iald hx hb cx.2.1 hP 2 0 rfl rfl hn2 dX12_isComing_9 (lv_topi (fun v3 e3 => ?_))
  have uv3 : v3.toInt = ((sm 2) 6).toInt := congrArg Int32.toInt e3
  refine lv_bipush (v := (-9)) hx hb dX12_isComing_10 (by decide) ?_
  refine lv_icmp_ne (tgt := 19) hx hb dX12_isComing_12 (by decide) (fun c4 => ?_) (fun c4 => ?_)
  · have f4 : ¬ v3.toInt = (-9) := f_ne rfl (by decide) c4
    refine lv_ldc2 (v := 2) hx hb cx.1.2.2.2.1 (cx.1.2.2.2.2 _ kJ_X12_isComing_146) dX12_isComing_19 ?_
    refine g_ir (g_runS (wc := []) (rest := []) cx hP hD hS [] rfl (by decide) [.long v1, .long 0, .long 2] (c_X12_in l D k b H.size v1 0 2) gX12_isComing_X12_in rfl rfl rfl nd_X12_in ⟨Nat.le_of_ble_eq_true rfl, Nat.le_of_ble_eq_true rfl⟩ rfl hl.1 rfl (Nat.le_of_ble_eq_true rfl) ⟨Nat.zero_le _, Nat.zero_le _⟩ dX12_isComing_22) cx.2.2.1 hP hD hS [] rfl rfl (fun r6 H locs hw5 hP hS => ?_)
    have w7 : r6 = J_X12_in v1 (0 : Int64) (2 : Int64) := hw5
    clear hw5
    have zr6 := in_b w7
    rw [hQ]
    exact x_z cx hr (nar_z (by omega)) () hP hD hS ⟨(show 0 ≤ r6.toInt ∧ r6.toInt ≤ 1 from by omega), (show Imp (r6.toInt = 1) (0 ≤ p0.toInt ∧ p0.toInt ≤ 2) from fun h => by have q : 0 ≤ p0.toInt ∧ p0.toInt ≤ 2 := in_t (i2l_t rfl e1) (by decide) (by decide) w7 (ne1 h); omega), (show r6 = J_X12_isComing sm tm p0 from by subst e1 e3 w7; first | (refine Eq.symm ?_; refine Eq.trans (if_neg c4) ?_; rfl) | (unfold J_X12_isComing; try dsimp only; rw [if_neg c4]))⟩ dX12_isComing_25
  · have f4 : v3.toInt = (-9) := f_eq rfl (by decide) c4
    refine lv_lconst (v := 0) hx hb dX12_isComing_15 (by decide) ?_
    refine lv_goto (tgt := 22) hx hb dX12_isComing_16 (by decide) ?_
    refine g_ir (g_runS (wc := []) (rest := []) cx hP hD hS [] rfl (by decide) [.long v1, .long 0, .long 0] (c_X12_in l D k b H.size v1 0 0) gX12_isComing_X12_in rfl rfl rfl nd_X12_in ⟨Nat.le_of_ble_eq_true rfl, Nat.le_of_ble_eq_true rfl⟩ rfl hl.1 rfl (Nat.le_of_ble_eq_true rfl) ⟨Nat.zero_le _, Nat.zero_le _⟩ dX12_isComing_22) cx.2.2.1 hP hD hS [] rfl rfl (fun r9 H locs hw8 hP hS => ?_)
    have w10 : r9 = J_X12_in v1 (0 : Int64) (0 : Int64) := hw8
    clear hw8
    have zr9 := in_b w10
    rw [hQ]
    exact x_z cx hr (nar_z (by omega)) () hP hD hS ⟨(show 0 ≤ r9.toInt ∧ r9.toInt ≤ 1 from by omega), (show Imp (r9.toInt = 1) (0 ≤ p0.toInt ∧ p0.toInt ≤ 2) from fun h => by have q : 0 ≤ p0.toInt ∧ p0.toInt ≤ 0 := in_t (i2l_t rfl e1) (by decide) (by decide) w10 (ne1 h); omega), (show r9 = J_X12_isComing sm tm p0 from by subst e1 e3 w10; first | (refine Eq.symm ?_; refine Eq.trans (if_pos c4) ?_; rfl) | (unfold J_X12_isComing; try dsimp only; rw [if_pos c4]))⟩ dX12_isComing_25
theorem fw_X12_isHands_13 : Cond.fieldLink RX12 13 "StillInAugustModel" "house" "[I" ∈ wsX12_isHands := by decide +kernel
theorem kJ_X12_isHands_158 : Cond.constantLong RX12 158 (999) ∈ wsX12_isHands := by decide +kernel
theorem nd_X12_all : yX12_all.cls ≠ "java/lang/invoke/MethodHandle" ∧ yX12_all.cls ≠ "java/lang/invoke/VarHandle" ∧ (parseMethodDescriptor yX12_all.desc).map (fun d => d.parameters.length) = some 1 := by decide +kernel
theorem iw_X12_isHands_X12 : ∀ w ∈ u_ws RX12 TX12 33, w ∈ wsX12_isHands := fun _ h => List.mem_cons_of_mem _ (List.mem_append_right _ h)
def J_X12_isHands (sm : Nat → Nat → Int32) (tm : Nat → Nat → Int64) (p0 : Int32) : Int32 := if (J_X12_in (p0.toInt64) 0 999) = 0 then (0 : Int32) else if ((sm 2) (1 : Int32).toNatClampNeg) < (J_X12_all p0) then (0 : Int32) else (1 : Int32)
set_option maxHeartbeats 4000000 in
set_option maxRecDepth 100000 in
theorem c_X12_isHands (l : Launch) (D : va_G) (k : Nat → ClassId) (b : Nat → Nat) (qm : Nat → Nat) (sm : Nat → Nat → Int32) (tm : Nat → Nat → Int64) (sz : Nat) (p0 : Int32) (h_k1 : 0 ≤ (sm 2 1).toInt ∧ (sm 2 1).toInt ≤ 4) : MetI l D k b yX12_isHands wsX12_isHands ({ frames := 1, cells := 0, slots := 0, locals := 25 } : Room) [cell22_ qm sm tm, cell5_ k qm sm, cell13_ k qm sm, cell8_ k qm sm, cell6_ k qm sm, cell15_ k qm sm, cell14_ k qm tm, cell12_ k qm tm, cell18_ k qm tm, cell17_ k qm tm, cell19_ k qm tm, cell21_ k qm tm, cell20_ k qm sm, cell16_ k qm sm, cell11_ k qm sm, cell10_ k qm sm, cell9_ k qm sm, cell7_ k qm sm] sz [.ref (qm 0), .int p0] (fun (r : Int32) (u : Unit) => (0 ≤ r.toInt ∧ r.toInt ≤ 1) ∧ (Imp (r.toInt = 1) (0 ≤ p0.toInt ∧ p0.toInt ≤ 400)) ∧ (r = J_X12_isHands sm tm p0)) (fun u => [cell22_ qm sm tm, cell5_ k qm sm, cell13_ k qm sm, cell8_ k qm sm, cell6_ k qm sm, cell15_ k qm sm, cell14_ k qm tm, cell12_ k qm tm, cell18_ k qm tm, cell17_ k qm tm, cell19_ k qm tm, cell21_ k qm tm, cell20_ k qm sm, cell16_ k qm sm, cell11_ k qm sm, cell10_ k qm sm, cell9_ k qm sm, cell7_ k qm sm]) := by
  refine g_enter (cc := cX12_isHands) (maxL := 2) (ret := (some .boolean)) (by decide) rfl (Nat.le_of_ble_eq_true rfl) ?_
  intro p e s m below meth c A hsz hAe cx hr hP hD hS ls hl
  rw [hAe]
  refine g_q (fun Q hQ => ?_)
  have hx := cx.1.1
  have hb := cx.1.2.1
  have bp0 := i_rng p0
  have hl : lv_has ls 2 [(0, .ref (qm 0)), (1, .int p0)] := hl
  obtain ⟨H, eH⟩ : ∃ H : Heap, H = s.heap := ⟨_, rfl⟩
  obtain ⟨locs, el⟩ : ∃ L : List Loc, L = [] := ⟨_, rfl⟩
  have hP : va_P D vwCl [cell22_ qm sm tm, cell5_ k qm sm, cell13_ k qm sm, cell8_ k qm sm, cell6_ k qm sm, cell15_ k qm sm, cell14_ k qm tm, cell12_ k qm tm, cell18_ k qm tm, cell17_ k qm tm, cell19_ k qm tm, cell21_ k qm tm, cell20_ k qm sm, cell16_ k qm sm, cell11_ k qm sm, cell10_ k qm sm, cell9_ k qm sm, cell7_ k qm sm] H := by rw [eH]; exact hP
  have hD : va_D A [cell22_ qm sm tm, cell5_ k qm sm, cell13_ k qm sm, cell8_ k qm sm, cell6_ k qm sm, cell15_ k qm sm, cell14_ k qm tm, cell12_ k qm tm, cell18_ k qm tm, cell17_ k qm tm, cell19_ k qm tm, cell21_ k qm tm, cell20_ k qm sm, cell16_ k qm sm, cell11_ k qm sm, cell10_ k qm sm, cell9_ k qm sm, cell7_ k qm sm] := hD
  have hS : va_S A s.heap H locs := by rw [eH, el]; exact hS
  suffices goal : W p l e ({ frames := 1, cells := 0, slots := 0, locals := 25 } : Room) s m ([.ref (qm 0), .int p0] : List Value).toArray below meth c H locs 0 0 Q (F0 m 0 ls []) by rw [eH, el] at goal; exact goal
  refine lv_iload_n hx hb dX12_isHands_0 rfl (lv_at hl 1 rfl) ?_
  obtain ⟨v1, e1⟩ : ∃ z : Int64, z = (p0 : Int32).toInt64 := ⟨_, rfl⟩
  refine lv_i2l (v := v1) hx hb dX12_isHands_1 e1.symm ?_
  refine lv_lconst (v := 0) hx hb dX12_isHands_2 (by decide) ?_
  refine lv_ldc2 (v := 999) hx hb cx.1.2.2.2.1 (cx.1.2.2.2.2 _ kJ_X12_isHands_158) dX12_isHands_3 ?_
  refine g_ir (g_runS (wc := []) (rest := []) cx hP hD hS [] rfl (by decide) [.long v1, .long 0, .long 999] (c_X12_in l D k b H.size v1 0 999) gX12_isHands_X12_in rfl rfl rfl nd_X12_in ⟨Nat.le_of_ble_eq_true rfl, Nat.le_of_ble_eq_true rfl⟩ rfl hl.1 rfl (Nat.le_of_ble_eq_true rfl) ⟨Nat.zero_le _, Nat.zero_le _⟩ dX12_isHands_6) cx.2.2.1 hP hD hS [] rfl rfl (fun r3 H locs hw2 hP hS => ?_)
  have w4 : r3 = J_X12_in v1 (0 : Int64) (999 : Int64) := hw2
  clear hw2
  have zr3 := in_b w4
  refine lv_if_eq (tgt := 29) hx hb dX12_isHands_9 (by decide) (fun c5 => ?_) (fun c5 => ?_)
  · have f5 : r3.toInt = 0 := f_eq rfl (by decide) c5
    have k5 : p0.toInt < 0 ∨ 999 < p0.toInt := in_f (i2l_t rfl e1) (by decide) (by decide) w4 c5
    refine lv_iconst (v := 0) hx hb dX12_isHands_29 (by decide) ?_
    have hlit6 : (0 : Int32).toInt = 0 := by decide
    rw [hQ]
    exact x_z cx hr (by decide) () hP hD hS ⟨(show 0 ≤ (0 : Int32).toInt ∧ (0 : Int32).toInt ≤ 1 from by omega), (show Imp ((0 : Int32).toInt = 1) (0 ≤ p0.toInt ∧ p0.toInt ≤ 400) from fun h => absurd h (by decide)), (show (0 : Int32) = J_X12_isHands sm tm p0 from by subst e1 w4; first | (refine Eq.symm ?_; refine Eq.trans (if_pos c5) ?_; rfl) | (unfold J_X12_isHands; try dsimp only; rw [if_pos c5]))⟩ dX12_isHands_30
  · have f5 : ¬ r3.toInt = 0 := f_ne rfl (by decide) c5
    have k5 : 0 ≤ p0.toInt ∧ p0.toInt ≤ 999 := in_t (i2l_t rfl e1) (by decide) (by decide) w4 c5
    refine lv_iload_n hx hb dX12_isHands_12 rfl (lv_at hl 1 rfl) ?_
    refine g_ir (g_runS (wc := []) (rest := []) cx hP hD hS [] rfl (by decide) [.int p0] (c_X12_all l D k b H.size p0) gX12_isHands_X12_all rfl rfl rfl nd_X12_all ⟨Nat.le_of_ble_eq_true rfl, Nat.le_of_ble_eq_true rfl⟩ rfl hl.1 rfl (Nat.le_of_ble_eq_true rfl) ⟨Nat.zero_le _, Nat.zero_le _⟩ dX12_isHands_13) cx.2.2.1 hP hD hS [] rfl rfl (fun r8 H locs hw7 hP hS => ?_)
    have w9 : r8 = J_X12_all p0 := hw7
    clear hw7
    have zr8 := all_t w9 (show 0 ≤ p0.toInt from by omega)
    refine lv_aload_n hx hb dX12_isHands_16 rfl (lv_at hl 0 rfl) ?_
    refine g_get cx hP iw_X12_isHands_X12 0 rfl rfl 1 (by decide) rfl fw_X12_isHands_13 rfl dX12_isHands_17 ?_
    refine lv_iconst (v := 1) hx hb dX12_isHands_20 (by decide) ?_
    have hn10 : vp_in 1 26 := f_in (a := 1) (by decide) (by omega) (by omega)
    refine va_iald hx hb cx.2.1 hP 2 0 rfl rfl hn10 dX12_isHands_21 (lv_topi (fun v11 e11 => ?_))
    have uv11 : v11.toInt = ((sm 2) 1).toInt := congrArg Int32.toInt e11
    have t11 : 0 ≤ v11.toInt ∧ v11.toInt ≤ 4 := by rw [e11]; exact h_k1
    refine lv_icmp_gt (tgt := 29) hx hb dX12_isHands_22 (by decide) (fun c12 => ?_) (fun c12 => ?_)
    · have f12 : v11.toInt < r8.toInt := f_lt rfl rfl c12
      refine lv_iconst (v := 0) hx hb dX12_isHands_29 (by decide) ?_
      have hlit13 : (0 : Int32).toInt = 0 := by decide
      rw [hQ]
      exact x_z cx hr (by decide) () hP hD hS ⟨(show 0 ≤ (0 : Int32).toInt ∧ (0 : Int32).toInt ≤ 1 from by omega), (show Imp ((0 : Int32).toInt = 1) (0 ≤ p0.toInt ∧ p0.toInt ≤ 400) from fun h => absurd h (by decide)), (show (0 : Int32) = J_X12_isHands sm tm p0 from by subst e1 w4 w9 e11; first | (refine Eq.symm ?_; refine Eq.trans (if_neg c5) ?_; refine Eq.trans (if_pos c12) ?_; rfl) | (unfold J_X12_isHands; try dsimp only; rw [if_neg c5, if_pos c12]))⟩ dX12_isHands_30
    · have f12 : r8.toInt ≤ v11.toInt := f_nlt rfl rfl c12
      refine lv_iconst (v := 1) hx hb dX12_isHands_25 (by decide) ?_
      refine lv_goto (tgt := 30) hx hb dX12_isHands_26 (by decide) ?_
      have hlit14 : (1 : Int32).toInt = 1 := by decide
      rw [hQ]
      exact x_z cx hr (by decide) () hP hD hS ⟨(show 0 ≤ (1 : Int32).toInt ∧ (1 : Int32).toInt ≤ 1 from by omega), (show Imp ((1 : Int32).toInt = 1) (0 ≤ p0.toInt ∧ p0.toInt ≤ 400) from fun h => by omega), (show (1 : Int32) = J_X12_isHands sm tm p0 from by subst e1 w4 w9 e11; first | (refine Eq.symm ?_; refine Eq.trans (if_neg c5) ?_; refine Eq.trans (if_neg c12) ?_; rfl) | (unfold J_X12_isHands; try dsimp only; rw [if_neg c5, if_neg c12]))⟩ dX12_isHands_30
theorem fw_X12_after_13 : Cond.fieldLink RX12 13 "StillInAugustModel" "house" "[I" ∈ wsX12_after := by decide +kernel
theorem nd_X12_fewer : yX12_fewer.cls ≠ "java/lang/invoke/MethodHandle" ∧ yX12_fewer.cls ≠ "java/lang/invoke/VarHandle" ∧ (parseMethodDescriptor yX12_fewer.desc).map (fun d => d.parameters.length) = some 2 := by decide +kernel
theorem iw_X12_after_X12 : ∀ w ∈ u_ws RX12 TX12 33, w ∈ wsX12_after := fun _ h => List.mem_cons_of_mem _ (List.mem_append_right _ h)
def J_X12_after (sm : Nat → Nat → Int32) (tm : Nat → Nat → Int64) (p0 : Int32) (p1 : Int32) (p2 : Int32) : Int32 := if 10000 ≤ p2 then ((-9) : Int32) else if (J_X12_all p1) < (p2 / (1000 : Int32)) then ((-9) : Int32) else if ((sm 2) (((15 : Int32) + p0)).toNatClampNeg) < ((p2 / (100 : Int32)) - (p2 / (100 : Int32)) / (10 : Int32) * (10 : Int32)) then ((-9) : Int32) else if 2 ≤ ((p2 / (10 : Int32)) - (p2 / (10 : Int32)) / (10 : Int32) * (10 : Int32)) then ((-9) : Int32) else if 3 ≤ (p2 - p2 / (10 : Int32) * (10 : Int32)) then ((-9) : Int32) else if (p2 / (1000 : Int32)) = 0 then if ((p2 / (10 : Int32)) - (p2 / (10 : Int32)) / (10 : Int32) * (10 : Int32)) = 0 then if (p2 - p2 / (10 : Int32) * (10 : Int32)) = 0 then if ((sm 2) (1 : Int32).toNatClampNeg) < (J_X12_all (((J_X12_fewer p1 (p2 / (1000 : Int32))) + ((100 : Int32) * ((p2 / (100 : Int32)) - (p2 / (100 : Int32)) / (10 : Int32) * (10 : Int32)))))) then ((-9) : Int32) else ((J_X12_fewer p1 (p2 / (1000 : Int32))) + ((100 : Int32) * ((p2 / (100 : Int32)) - (p2 / (100 : Int32)) / (10 : Int32) * (10 : Int32)))) else if ((sm 2) (6 : Int32).toNatClampNeg) = (-9) then ((-9) : Int32) else if (((sm 2) (0 : Int32).toNatClampNeg) - (1 : Int32)) ≤ p0 then ((-9) : Int32) else if ((sm 2) (1 : Int32).toNatClampNeg) < (J_X12_all (((J_X12_fewer p1 (p2 / (1000 : Int32))) + ((100 : Int32) * ((p2 / (100 : Int32)) - (p2 / (100 : Int32)) / (10 : Int32) * (10 : Int32)))))) then ((-9) : Int32) else ((J_X12_fewer p1 (p2 / (1000 : Int32))) + ((100 : Int32) * ((p2 / (100 : Int32)) - (p2 / (100 : Int32)) / (10 : Int32) * (10 : Int32)))) else if ((sm 2) (5 : Int32).toNatClampNeg) = (-9) then ((-9) : Int32) else if (p2 - p2 / (10 : Int32) * (10 : Int32)) = 0 then if ((sm 2) (1 : Int32).toNatClampNeg) < (J_X12_all (((J_X12_fewer p1 (p2 / (1000 : Int32))) + ((100 : Int32) * ((p2 / (100 : Int32)) - (p2 / (100 : Int32)) / (10 : Int32) * (10 : Int32)))))) then ((-9) : Int32) else if ((p2 / (10 : Int32)) - (p2 / (10 : Int32)) / (10 : Int32) * (10 : Int32)) = 1 then if (((J_X12_fewer p1 (p2 / (1000 : Int32))) + ((100 : Int32) * ((p2 / (100 : Int32)) - (p2 / (100 : Int32)) / (10 : Int32) * (10 : Int32)))) / (100 : Int32)) = 0 then ((-9) : Int32) else if (((J_X12_fewer p1 (p2 / (1000 : Int32))) + ((100 : Int32) * ((p2 / (100 : Int32)) - (p2 / (100 : Int32)) / (10 : Int32) * (10 : Int32)))) - ((J_X12_fewer p1 (p2 / (1000 : Int32))) + ((100 : Int32) * ((p2 / (100 : Int32)) - (p2 / (100 : Int32)) / (10 : Int32) * (10 : Int32)))) / (10 : Int32) * (10 : Int32)) = 0 then ((-9) : Int32) else (((J_X12_fewer p1 (p2 / (1000 : Int32))) + ((100 : Int32) * ((p2 / (100 : Int32)) - (p2 / (100 : Int32)) / (10 : Int32) * (10 : Int32)))) - (90 : Int32)) else if ((p2 / (10 : Int32)) - (p2 / (10 : Int32)) / (10 : Int32) * (10 : Int32)) = 1 then (((J_X12_fewer p1 (p2 / (1000 : Int32))) + ((100 : Int32) * ((p2 / (100 : Int32)) - (p2 / (100 : Int32)) / (10 : Int32) * (10 : Int32)))) - (90 : Int32)) else ((J_X12_fewer p1 (p2 / (1000 : Int32))) + ((100 : Int32) * ((p2 / (100 : Int32)) - (p2 / (100 : Int32)) / (10 : Int32) * (10 : Int32)))) else if ((sm 2) (6 : Int32).toNatClampNeg) = (-9) then ((-9) : Int32) else if (((sm 2) (0 : Int32).toNatClampNeg) - (1 : Int32)) ≤ p0 then ((-9) : Int32) else if ((sm 2) (1 : Int32).toNatClampNeg) < (J_X12_all (((J_X12_fewer p1 (p2 / (1000 : Int32))) + ((100 : Int32) * ((p2 / (100 : Int32)) - (p2 / (100 : Int32)) / (10 : Int32) * (10 : Int32)))))) then ((-9) : Int32) else if ((p2 / (10 : Int32)) - (p2 / (10 : Int32)) / (10 : Int32) * (10 : Int32)) = 1 then if (((J_X12_fewer p1 (p2 / (1000 : Int32))) + ((100 : Int32) * ((p2 / (100 : Int32)) - (p2 / (100 : Int32)) / (10 : Int32) * (10 : Int32)))) / (100 : Int32)) = 0 then ((-9) : Int32) else if (((J_X12_fewer p1 (p2 / (1000 : Int32))) + ((100 : Int32) * ((p2 / (100 : Int32)) - (p2 / (100 : Int32)) / (10 : Int32) * (10 : Int32)))) - ((J_X12_fewer p1 (p2 / (1000 : Int32))) + ((100 : Int32) * ((p2 / (100 : Int32)) - (p2 / (100 : Int32)) / (10 : Int32) * (10 : Int32)))) / (10 : Int32) * (10 : Int32)) = 0 then ((-9) : Int32) else (((J_X12_fewer p1 (p2 / (1000 : Int32))) + ((100 : Int32) * ((p2 / (100 : Int32)) - (p2 / (100 : Int32)) / (10 : Int32) * (10 : Int32)))) - (90 : Int32)) else if ((p2 / (10 : Int32)) - (p2 / (10 : Int32)) / (10 : Int32) * (10 : Int32)) = 1 then (((J_X12_fewer p1 (p2 / (1000 : Int32))) + ((100 : Int32) * ((p2 / (100 : Int32)) - (p2 / (100 : Int32)) / (10 : Int32) * (10 : Int32)))) - (90 : Int32)) else ((J_X12_fewer p1 (p2 / (1000 : Int32))) + ((100 : Int32) * ((p2 / (100 : Int32)) - (p2 / (100 : Int32)) / (10 : Int32) * (10 : Int32)))) else if ((sm 2) (4 : Int32).toNatClampNeg) = (-9) then ((-9) : Int32) else if ((p2 / (10 : Int32)) - (p2 / (10 : Int32)) / (10 : Int32) * (10 : Int32)) = 0 then if (p2 - p2 / (10 : Int32) * (10 : Int32)) = 0 then if ((sm 2) (1 : Int32).toNatClampNeg) < (J_X12_all (((J_X12_fewer p1 (p2 / (1000 : Int32))) + ((100 : Int32) * ((p2 / (100 : Int32)) - (p2 / (100 : Int32)) / (10 : Int32) * (10 : Int32)))))) then ((-9) : Int32) else ((J_X12_fewer p1 (p2 / (1000 : Int32))) + ((100 : Int32) * ((p2 / (100 : Int32)) - (p2 / (100 : Int32)) / (10 : Int32) * (10 : Int32)))) else if ((sm 2) (6 : Int32).toNatClampNeg) = (-9) then ((-9) : Int32) else if (((sm 2) (0 : Int32).toNatClampNeg) - (1 : Int32)) ≤ p0 then ((-9) : Int32) else if ((sm 2) (1 : Int32).toNatClampNeg) < (J_X12_all (((J_X12_fewer p1 (p2 / (1000 : Int32))) + ((100 : Int32) * ((p2 / (100 : Int32)) - (p2 / (100 : Int32)) / (10 : Int32) * (10 : Int32)))))) then ((-9) : Int32) else ((J_X12_fewer p1 (p2 / (1000 : Int32))) + ((100 : Int32) * ((p2 / (100 : Int32)) - (p2 / (100 : Int32)) / (10 : Int32) * (10 : Int32)))) else if ((sm 2) (5 : Int32).toNatClampNeg) = (-9) then ((-9) : Int32) else if (p2 - p2 / (10 : Int32) * (10 : Int32)) = 0 then if ((sm 2) (1 : Int32).toNatClampNeg) < (J_X12_all (((J_X12_fewer p1 (p2 / (1000 : Int32))) + ((100 : Int32) * ((p2 / (100 : Int32)) - (p2 / (100 : Int32)) / (10 : Int32) * (10 : Int32)))))) then ((-9) : Int32) else if ((p2 / (10 : Int32)) - (p2 / (10 : Int32)) / (10 : Int32) * (10 : Int32)) = 1 then if (((J_X12_fewer p1 (p2 / (1000 : Int32))) + ((100 : Int32) * ((p2 / (100 : Int32)) - (p2 / (100 : Int32)) / (10 : Int32) * (10 : Int32)))) / (100 : Int32)) = 0 then ((-9) : Int32) else if (((J_X12_fewer p1 (p2 / (1000 : Int32))) + ((100 : Int32) * ((p2 / (100 : Int32)) - (p2 / (100 : Int32)) / (10 : Int32) * (10 : Int32)))) - ((J_X12_fewer p1 (p2 / (1000 : Int32))) + ((100 : Int32) * ((p2 / (100 : Int32)) - (p2 / (100 : Int32)) / (10 : Int32) * (10 : Int32)))) / (10 : Int32) * (10 : Int32)) = 0 then ((-9) : Int32) else (((J_X12_fewer p1 (p2 / (1000 : Int32))) + ((100 : Int32) * ((p2 / (100 : Int32)) - (p2 / (100 : Int32)) / (10 : Int32) * (10 : Int32)))) - (90 : Int32)) else if ((p2 / (10 : Int32)) - (p2 / (10 : Int32)) / (10 : Int32) * (10 : Int32)) = 1 then (((J_X12_fewer p1 (p2 / (1000 : Int32))) + ((100 : Int32) * ((p2 / (100 : Int32)) - (p2 / (100 : Int32)) / (10 : Int32) * (10 : Int32)))) - (90 : Int32)) else ((J_X12_fewer p1 (p2 / (1000 : Int32))) + ((100 : Int32) * ((p2 / (100 : Int32)) - (p2 / (100 : Int32)) / (10 : Int32) * (10 : Int32)))) else if ((sm 2) (6 : Int32).toNatClampNeg) = (-9) then ((-9) : Int32) else if (((sm 2) (0 : Int32).toNatClampNeg) - (1 : Int32)) ≤ p0 then ((-9) : Int32) else if ((sm 2) (1 : Int32).toNatClampNeg) < (J_X12_all (((J_X12_fewer p1 (p2 / (1000 : Int32))) + ((100 : Int32) * ((p2 / (100 : Int32)) - (p2 / (100 : Int32)) / (10 : Int32) * (10 : Int32)))))) then ((-9) : Int32) else if ((p2 / (10 : Int32)) - (p2 / (10 : Int32)) / (10 : Int32) * (10 : Int32)) = 1 then if (((J_X12_fewer p1 (p2 / (1000 : Int32))) + ((100 : Int32) * ((p2 / (100 : Int32)) - (p2 / (100 : Int32)) / (10 : Int32) * (10 : Int32)))) / (100 : Int32)) = 0 then ((-9) : Int32) else if (((J_X12_fewer p1 (p2 / (1000 : Int32))) + ((100 : Int32) * ((p2 / (100 : Int32)) - (p2 / (100 : Int32)) / (10 : Int32) * (10 : Int32)))) - ((J_X12_fewer p1 (p2 / (1000 : Int32))) + ((100 : Int32) * ((p2 / (100 : Int32)) - (p2 / (100 : Int32)) / (10 : Int32) * (10 : Int32)))) / (10 : Int32) * (10 : Int32)) = 0 then ((-9) : Int32) else (((J_X12_fewer p1 (p2 / (1000 : Int32))) + ((100 : Int32) * ((p2 / (100 : Int32)) - (p2 / (100 : Int32)) / (10 : Int32) * (10 : Int32)))) - (90 : Int32)) else if ((p2 / (10 : Int32)) - (p2 / (10 : Int32)) / (10 : Int32) * (10 : Int32)) = 1 then (((J_X12_fewer p1 (p2 / (1000 : Int32))) + ((100 : Int32) * ((p2 / (100 : Int32)) - (p2 / (100 : Int32)) / (10 : Int32) * (10 : Int32)))) - (90 : Int32)) else ((J_X12_fewer p1 (p2 / (1000 : Int32))) + ((100 : Int32) * ((p2 / (100 : Int32)) - (p2 / (100 : Int32)) / (10 : Int32) * (10 : Int32))))
set_option maxHeartbeats 4000000 in
set_option maxRecDepth 100000 in
theorem c_X12_after (l : Launch) (D : va_G) (k : Nat → ClassId) (b : Nat → Nat) (qm : Nat → Nat) (sm : Nat → Nat → Int32) (tm : Nat → Nat → Int64) (sz : Nat) (p0 : Int32) (p1 : Int32) (p2 : Int32) (h_w0 : 0 ≤ (sm 2 0).toInt ∧ (sm 2 0).toInt ≤ 5) (hp0 : 0 ≤ p0.toInt ∧ p0.toInt ≤ 4) : MetI l D k b yX12_after wsX12_after ({ frames := 1, cells := 0, slots := 0, locals := 26 } : Room) [cell22_ qm sm tm, cell5_ k qm sm, cell13_ k qm sm, cell8_ k qm sm, cell6_ k qm sm, cell15_ k qm sm, cell14_ k qm tm, cell12_ k qm tm, cell18_ k qm tm, cell17_ k qm tm, cell19_ k qm tm, cell21_ k qm tm, cell20_ k qm sm, cell16_ k qm sm, cell11_ k qm sm, cell10_ k qm sm, cell9_ k qm sm, cell7_ k qm sm] sz [.ref (qm 0), .int p0, .int p1, .int p2] (fun (r : Int32) (u : Unit) => r = J_X12_after sm tm p0 p1 p2) (fun u => [cell22_ qm sm tm, cell5_ k qm sm, cell13_ k qm sm, cell8_ k qm sm, cell6_ k qm sm, cell15_ k qm sm, cell14_ k qm tm, cell12_ k qm tm, cell18_ k qm tm, cell17_ k qm tm, cell19_ k qm tm, cell21_ k qm tm, cell20_ k qm sm, cell16_ k qm sm, cell11_ k qm sm, cell10_ k qm sm, cell9_ k qm sm, cell7_ k qm sm]) := by
  refine g_enter (cc := cX12_after) (maxL := 10) (ret := (some .int)) (by decide) rfl (Nat.le_of_ble_eq_true rfl) ?_
  intro p e s m below meth c A hsz hAe cx hr hP hD hS ls hl
  rw [hAe]
  refine g_q (fun Q hQ => ?_)
  have hx := cx.1.1
  have hb := cx.1.2.1
  have bp0 := i_rng p0
  have bp1 := i_rng p1
  have bp2 := i_rng p2
  have hl : lv_has ls 10 [(0, .ref (qm 0)), (1, .int p0), (2, .int p1), (3, .int p2)] := hl
  obtain ⟨H, eH⟩ : ∃ H : Heap, H = s.heap := ⟨_, rfl⟩
  obtain ⟨locs, el⟩ : ∃ L : List Loc, L = [] := ⟨_, rfl⟩
  have hP : va_P D vwCl [cell22_ qm sm tm, cell5_ k qm sm, cell13_ k qm sm, cell8_ k qm sm, cell6_ k qm sm, cell15_ k qm sm, cell14_ k qm tm, cell12_ k qm tm, cell18_ k qm tm, cell17_ k qm tm, cell19_ k qm tm, cell21_ k qm tm, cell20_ k qm sm, cell16_ k qm sm, cell11_ k qm sm, cell10_ k qm sm, cell9_ k qm sm, cell7_ k qm sm] H := by rw [eH]; exact hP
  have hD : va_D A [cell22_ qm sm tm, cell5_ k qm sm, cell13_ k qm sm, cell8_ k qm sm, cell6_ k qm sm, cell15_ k qm sm, cell14_ k qm tm, cell12_ k qm tm, cell18_ k qm tm, cell17_ k qm tm, cell19_ k qm tm, cell21_ k qm tm, cell20_ k qm sm, cell16_ k qm sm, cell11_ k qm sm, cell10_ k qm sm, cell9_ k qm sm, cell7_ k qm sm] := hD
  have hS : va_S A s.heap H locs := by rw [eH, el]; exact hS
  suffices goal : W p l e ({ frames := 1, cells := 0, slots := 0, locals := 26 } : Room) s m ([.ref (qm 0), .int p0, .int p1, .int p2] : List Value).toArray below meth c H locs 0 0 Q (F0 m 0 ls []) by rw [eH, el] at goal; exact goal
  refine lv_iload_n hx hb dX12_after_0 rfl (lv_at hl 3 rfl) ?_
  refine lv_sipush (v := 1000) hx hb dX12_after_1 (by decide) ?_
  refine lv_idiv hx hb dX12_after_4 (by decide) (lv_topi (fun v1 e1 => ?_))
  refine lv_istore (lv' := [(4, .int v1), (0, .ref (qm 0)), (1, .int p0), (2, .int p1), (3, .int p2)]) hx hb dX12_after_5 hl (by decide) rfl (fun ls hl => ?_)
  refine lv_iload_n hx hb dX12_after_7 rfl (lv_at hl 4 rfl) ?_
  refine lv_bipush (v := 100) hx hb dX12_after_8 (by decide) ?_
  refine lv_idiv hx hb dX12_after_10 (by decide) (lv_topi (fun v2 e2 => ?_))
  refine lv_bipush (v := 10) hx hb dX12_after_11 (by decide) ?_
  refine lv_irem hx hb dX12_after_13 (by decide) (lv_topi (fun v3 e3 => ?_))
  have t3 : -10 < v3.toInt ∧ v3.toInt < 10 := by rw [e3]; exact i_remb (by decide) (by decide)
  refine lv_istore (lv' := [(5, .int v3), (4, .int v1), (0, .ref (qm 0)), (1, .int p0), (2, .int p1), (3, .int p2)]) hx hb dX12_after_14 hl (by decide) rfl (fun ls hl => ?_)
  refine lv_iload_n hx hb dX12_after_16 rfl (lv_at hl 5 rfl) ?_
  refine lv_bipush (v := 10) hx hb dX12_after_17 (by decide) ?_
  refine lv_idiv hx hb dX12_after_19 (by decide) (lv_topi (fun v4 e4 => ?_))
  refine lv_bipush (v := 10) hx hb dX12_after_20 (by decide) ?_
  refine lv_irem hx hb dX12_after_22 (by decide) (lv_topi (fun v5 e5 => ?_))
  have t5 : -10 < v5.toInt ∧ v5.toInt < 10 := by rw [e5]; exact i_remb (by decide) (by decide)
  refine lv_istore (lv' := [(6, .int v5), (5, .int v3), (4, .int v1), (0, .ref (qm 0)), (1, .int p0), (2, .int p1), (3, .int p2)]) hx hb dX12_after_23 hl (by decide) rfl (fun ls hl => ?_)
  refine lv_iload_n hx hb dX12_after_25 rfl (lv_at hl 6 rfl) ?_
  refine lv_bipush (v := 10) hx hb dX12_after_26 (by decide) ?_
  refine lv_irem hx hb dX12_after_28 (by decide) (lv_topi (fun v6 e6 => ?_))
  have t6 : -10 < v6.toInt ∧ v6.toInt < 10 := by rw [e6]; exact i_remb (by decide) (by decide)
  refine lv_istore (lv' := [(7, .int v6), (6, .int v5), (5, .int v3), (4, .int v1), (0, .ref (qm 0)), (1, .int p0), (2, .int p1), (3, .int p2)]) hx hb dX12_after_29 hl (by decide) rfl (fun ls hl => ?_)
  refine lv_iload_n hx hb dX12_after_31 rfl (lv_at hl 7 rfl) ?_
  refine lv_sipush (v := 10000) hx hb dX12_after_32 (by decide) ?_
  refine lv_icmp_ge (tgt := 77) hx hb dX12_after_35 (by decide) (fun c7 => ?_) (fun c7 => ?_)
  · have f7 : 10000 ≤ p2.toInt := f_le (by decide) rfl c7
    refine lv_iconst (v := 0) hx hb dX12_after_77 (by decide) ?_
    refine lv_istore (lv' := [(8, .int 0), (7, .int v6), (6, .int v5), (5, .int v3), (4, .int v1), (0, .ref (qm 0)), (1, .int p0), (2, .int p1), (3, .int p2)]) hx hb dX12_after_78 hl (by decide) rfl (fun ls hl => ?_)
    refine lv_iload hx hb dX12_after_80 (lv_at hl 0 rfl) ?_
    refine lv_if_eq (tgt := 150) hx hb dX12_after_82 (by decide) (fun c8 => ?_) (fun c8 => ?_)
    · refine lv_iconst (v := 0) hx hb dX12_after_150 (by decide) ?_
      refine lv_istore (lv' := [(8, .int 0), (7, .int v6), (6, .int v5), (5, .int v3), (4, .int v1), (0, .ref (qm 0)), (1, .int p0), (2, .int p1), (3, .int p2)]) hx hb dX12_after_151 hl (by decide) rfl (fun ls hl => ?_)
      refine lv_iload hx hb dX12_after_153 (lv_at hl 0 rfl) ?_
      refine lv_if_ne (tgt := 161) hx hb dX12_after_155 (by decide) (fun c9 => ?_) (fun c9 => ?_)
      · exact absurd c9 (by decide)
      · refine lv_bipush (v := (-9)) hx hb dX12_after_158 (by decide) ?_
        have hlit10 : ((-9) : Int32).toInt = -9 := by decide
        rw [hQ]
        exact x_i cx hr () hP hD hS (show ((-9) : Int32) = J_X12_after sm tm p0 p1 p2 from by subst e1 e2 e3 e4 e5 e6; first | (refine Eq.symm ?_; refine Eq.trans (if_pos c7) ?_; rfl) | (unfold J_X12_after; try dsimp only; rw [if_pos c7])) dX12_after_160
    · exact absurd c8 (by decide)
  · have f7 : p2.toInt < 10000 := f_nle (by decide) rfl c7
    refine lv_iload hx hb dX12_after_38 (lv_at hl 3 rfl) ?_
    refine lv_iload_n hx hb dX12_after_40 rfl (lv_at hl 6 rfl) ?_
    refine g_ir (g_runS (wc := []) (rest := [.int v1]) cx hP hD hS [] rfl (by decide) [.int p1] (c_X12_all l D k b H.size p1) gX12_after_X12_all rfl rfl rfl nd_X12_all ⟨Nat.le_of_ble_eq_true rfl, Nat.le_of_ble_eq_true rfl⟩ rfl hl.1 rfl (Nat.le_of_ble_eq_true rfl) ⟨Nat.zero_le _, Nat.zero_le _⟩ dX12_after_41) cx.2.2.1 hP hD hS [] rfl rfl (fun r12 H locs hw11 hP hS => ?_)
    have w13 : r12 = J_X12_all p1 := hw11
    clear hw11
    refine lv_icmp_gt (tgt := 77) hx hb dX12_after_44 (by decide) (fun c14 => ?_) (fun c14 => ?_)
    · have f14 : r12.toInt < v1.toInt := f_lt rfl rfl c14
      refine lv_iconst (v := 0) hx hb dX12_after_77 (by decide) ?_
      refine lv_istore (lv' := [(8, .int 0), (7, .int v6), (6, .int v5), (5, .int v3), (4, .int v1), (0, .ref (qm 0)), (1, .int p0), (2, .int p1), (3, .int p2)]) hx hb dX12_after_78 hl (by decide) rfl (fun ls hl => ?_)
      refine lv_iload hx hb dX12_after_80 (lv_at hl 0 rfl) ?_
      refine lv_if_eq (tgt := 150) hx hb dX12_after_82 (by decide) (fun c15 => ?_) (fun c15 => ?_)
      · refine lv_iconst (v := 0) hx hb dX12_after_150 (by decide) ?_
        refine lv_istore (lv' := [(8, .int 0), (7, .int v6), (6, .int v5), (5, .int v3), (4, .int v1), (0, .ref (qm 0)), (1, .int p0), (2, .int p1), (3, .int p2)]) hx hb dX12_after_151 hl (by decide) rfl (fun ls hl => ?_)
        refine lv_iload hx hb dX12_after_153 (lv_at hl 0 rfl) ?_
        refine lv_if_ne (tgt := 161) hx hb dX12_after_155 (by decide) (fun c16 => ?_) (fun c16 => ?_)
        · exact absurd c16 (by decide)
        · refine lv_bipush (v := (-9)) hx hb dX12_after_158 (by decide) ?_
          have hlit17 : ((-9) : Int32).toInt = -9 := by decide
          rw [hQ]
          exact x_i cx hr () hP hD hS (show ((-9) : Int32) = J_X12_after sm tm p0 p1 p2 from by subst e1 e2 e3 e4 e5 e6 w13; first | (refine Eq.symm ?_; refine Eq.trans (if_neg c7) ?_; refine Eq.trans (if_pos c14) ?_; rfl) | (unfold J_X12_after; try dsimp only; rw [if_neg c7, if_pos c14])) dX12_after_160
      · exact absurd c15 (by decide)
    · have f14 : v1.toInt ≤ r12.toInt := f_nlt rfl rfl c14
      refine lv_iload hx hb dX12_after_47 (lv_at hl 2 rfl) ?_
      refine lv_aload_n hx hb dX12_after_49 rfl (lv_at hl 4 rfl) ?_
      refine g_get cx hP iw_X12_after_X12 0 rfl rfl 1 (by decide) rfl fw_X12_after_13 rfl dX12_after_50 ?_
      refine lv_bipush (v := 15) hx hb dX12_after_53 (by decide) ?_
      refine lv_iload_n hx hb dX12_after_55 rfl (lv_at hl 5 rfl) ?_
      refine lv_iadd hx hb dX12_after_56 (lv_topi (fun v18 e18 => ?_))
      have t18 : v18.toInt = 15 + p0.toInt := by rw [e18]; exact i_add (by decide) rfl (by omega) (by omega)
      have hn19 : vp_in v18 26 := f_in (a := v18.toInt) rfl (by omega) (by omega)
      refine va_iald hx hb cx.2.1 hP 2 0 rfl rfl hn19 dX12_after_57 (lv_topi (fun v20 e20 => ?_))
      refine lv_icmp_gt (tgt := 77) hx hb dX12_after_58 (by decide) (fun c21 => ?_) (fun c21 => ?_)
      · have f21 : v20.toInt < v3.toInt := f_lt rfl rfl c21
        refine lv_iconst (v := 0) hx hb dX12_after_77 (by decide) ?_
        refine lv_istore (lv' := [(8, .int 0), (7, .int v6), (6, .int v5), (5, .int v3), (4, .int v1), (0, .ref (qm 0)), (1, .int p0), (2, .int p1), (3, .int p2)]) hx hb dX12_after_78 hl (by decide) rfl (fun ls hl => ?_)
        refine lv_iload hx hb dX12_after_80 (lv_at hl 0 rfl) ?_
        refine lv_if_eq (tgt := 150) hx hb dX12_after_82 (by decide) (fun c22 => ?_) (fun c22 => ?_)
        · refine lv_iconst (v := 0) hx hb dX12_after_150 (by decide) ?_
          refine lv_istore (lv' := [(8, .int 0), (7, .int v6), (6, .int v5), (5, .int v3), (4, .int v1), (0, .ref (qm 0)), (1, .int p0), (2, .int p1), (3, .int p2)]) hx hb dX12_after_151 hl (by decide) rfl (fun ls hl => ?_)
          refine lv_iload hx hb dX12_after_153 (lv_at hl 0 rfl) ?_
          refine lv_if_ne (tgt := 161) hx hb dX12_after_155 (by decide) (fun c23 => ?_) (fun c23 => ?_)
          · exact absurd c23 (by decide)
          · refine lv_bipush (v := (-9)) hx hb dX12_after_158 (by decide) ?_
            have hlit24 : ((-9) : Int32).toInt = -9 := by decide
            rw [hQ]
            exact x_i cx hr () hP hD hS (show ((-9) : Int32) = J_X12_after sm tm p0 p1 p2 from by subst e1 e2 e3 e4 e5 e6 w13 e18 e20; first | (refine Eq.symm ?_; refine Eq.trans (if_neg c7) ?_; refine Eq.trans (if_neg c14) ?_; refine Eq.trans (if_pos c21) ?_; rfl) | (unfold J_X12_after; try dsimp only; rw [if_neg c7, if_neg c14, if_pos c21])) dX12_after_160
        · exact absurd c22 (by decide)
      · have f21 : v3.toInt ≤ v20.toInt := f_nlt rfl rfl c21
        refine lv_iload hx hb dX12_after_61 (lv_at hl 1 rfl) ?_
        refine lv_iconst (v := 2) hx hb dX12_after_63 (by decide) ?_
        refine lv_icmp_ge (tgt := 77) hx hb dX12_after_64 (by decide) (fun c25 => ?_) (fun c25 => ?_)
        · have f25 : 2 ≤ v5.toInt := f_le (by decide) rfl c25
          refine lv_iconst (v := 0) hx hb dX12_after_77 (by decide) ?_
          refine lv_istore (lv' := [(8, .int 0), (7, .int v6), (6, .int v5), (5, .int v3), (4, .int v1), (0, .ref (qm 0)), (1, .int p0), (2, .int p1), (3, .int p2)]) hx hb dX12_after_78 hl (by decide) rfl (fun ls hl => ?_)
          refine lv_iload hx hb dX12_after_80 (lv_at hl 0 rfl) ?_
          refine lv_if_eq (tgt := 150) hx hb dX12_after_82 (by decide) (fun c26 => ?_) (fun c26 => ?_)
          · refine lv_iconst (v := 0) hx hb dX12_after_150 (by decide) ?_
            refine lv_istore (lv' := [(8, .int 0), (7, .int v6), (6, .int v5), (5, .int v3), (4, .int v1), (0, .ref (qm 0)), (1, .int p0), (2, .int p1), (3, .int p2)]) hx hb dX12_after_151 hl (by decide) rfl (fun ls hl => ?_)
            refine lv_iload hx hb dX12_after_153 (lv_at hl 0 rfl) ?_
            refine lv_if_ne (tgt := 161) hx hb dX12_after_155 (by decide) (fun c27 => ?_) (fun c27 => ?_)
            · exact absurd c27 (by decide)
            · refine lv_bipush (v := (-9)) hx hb dX12_after_158 (by decide) ?_
              have hlit28 : ((-9) : Int32).toInt = -9 := by decide
              rw [hQ]
              exact x_i cx hr () hP hD hS (show ((-9) : Int32) = J_X12_after sm tm p0 p1 p2 from by subst e1 e2 e3 e4 e5 e6 w13 e18 e20; first | (refine Eq.symm ?_; refine Eq.trans (if_neg c7) ?_; refine Eq.trans (if_neg c14) ?_; refine Eq.trans (if_neg c21) ?_; refine Eq.trans (if_pos c25) ?_; rfl) | (unfold J_X12_after; try dsimp only; rw [if_neg c7, if_neg c14, if_neg c21, if_pos c25])) dX12_after_160
          · exact absurd c26 (by decide)
        · have f25 : v5.toInt < 2 := f_nle (by decide) rfl c25
          refine lv_iload hx hb dX12_after_67 (lv_at hl 0 rfl) ?_
          refine lv_iconst (v := 3) hx hb dX12_after_69 (by decide) ?_
          refine lv_icmp_ge (tgt := 77) hx hb dX12_after_70 (by decide) (fun c29 => ?_) (fun c29 => ?_)
          · have f29 : 3 ≤ v6.toInt := f_le (by decide) rfl c29
            refine lv_iconst (v := 0) hx hb dX12_after_77 (by decide) ?_
            refine lv_istore (lv' := [(8, .int 0), (7, .int v6), (6, .int v5), (5, .int v3), (4, .int v1), (0, .ref (qm 0)), (1, .int p0), (2, .int p1), (3, .int p2)]) hx hb dX12_after_78 hl (by decide) rfl (fun ls hl => ?_)
            refine lv_iload hx hb dX12_after_80 (lv_at hl 0 rfl) ?_
            refine lv_if_eq (tgt := 150) hx hb dX12_after_82 (by decide) (fun c30 => ?_) (fun c30 => ?_)
            · refine lv_iconst (v := 0) hx hb dX12_after_150 (by decide) ?_
              refine lv_istore (lv' := [(8, .int 0), (7, .int v6), (6, .int v5), (5, .int v3), (4, .int v1), (0, .ref (qm 0)), (1, .int p0), (2, .int p1), (3, .int p2)]) hx hb dX12_after_151 hl (by decide) rfl (fun ls hl => ?_)
              refine lv_iload hx hb dX12_after_153 (lv_at hl 0 rfl) ?_
              refine lv_if_ne (tgt := 161) hx hb dX12_after_155 (by decide) (fun c31 => ?_) (fun c31 => ?_)
              · exact absurd c31 (by decide)
              · refine lv_bipush (v := (-9)) hx hb dX12_after_158 (by decide) ?_
                have hlit32 : ((-9) : Int32).toInt = -9 := by decide
                rw [hQ]
                exact x_i cx hr () hP hD hS (show ((-9) : Int32) = J_X12_after sm tm p0 p1 p2 from by subst e1 e2 e3 e4 e5 e6 w13 e18 e20; first | (refine Eq.symm ?_; refine Eq.trans (if_neg c7) ?_; refine Eq.trans (if_neg c14) ?_; refine Eq.trans (if_neg c21) ?_; refine Eq.trans (if_neg c25) ?_; refine Eq.trans (if_pos c29) ?_; rfl) | (unfold J_X12_after; try dsimp only; rw [if_neg c7, if_neg c14, if_neg c21, if_neg c25, if_pos c29])) dX12_after_160
            · exact absurd c30 (by decide)
          · have f29 : v6.toInt < 3 := f_nle (by decide) rfl c29
            refine lv_iconst (v := 1) hx hb dX12_after_73 (by decide) ?_
            refine lv_goto (tgt := 78) hx hb dX12_after_74 (by decide) ?_
            refine lv_istore (lv' := [(8, .int 1), (7, .int v6), (6, .int v5), (5, .int v3), (4, .int v1), (0, .ref (qm 0)), (1, .int p0), (2, .int p1), (3, .int p2)]) hx hb dX12_after_78 hl (by decide) rfl (fun ls hl => ?_)
            refine lv_iload hx hb dX12_after_80 (lv_at hl 0 rfl) ?_
            refine lv_if_eq (tgt := 150) hx hb dX12_after_82 (by decide) (fun c33 => ?_) (fun c33 => ?_)
            · exact absurd c33 (by decide)
            · refine lv_iload hx hb dX12_after_85 (lv_at hl 4 rfl) ?_
              refine lv_if_eq (tgt := 101) hx hb dX12_after_87 (by decide) (fun c34 => ?_) (fun c34 => ?_)
              · have f34 : v1.toInt = 0 := f_eq rfl (by decide) c34
                refine lv_iload hx hb dX12_after_101 (lv_at hl 2 rfl) ?_
                refine lv_if_eq (tgt := 117) hx hb dX12_after_103 (by decide) (fun c35 => ?_) (fun c35 => ?_)
                · have f35 : v5.toInt = 0 := f_eq rfl (by decide) c35
                  refine lv_iload hx hb dX12_after_117 (lv_at hl 1 rfl) ?_
                  refine lv_if_eq (tgt := 146) hx hb dX12_after_119 (by decide) (fun c36 => ?_) (fun c36 => ?_)
                  · have f36 : v6.toInt = 0 := f_eq rfl (by decide) c36
                    refine lv_iconst (v := 1) hx hb dX12_after_146 (by decide) ?_
                    refine lv_goto (tgt := 151) hx hb dX12_after_147 (by decide) ?_
                    refine lv_istore (lv' := [(8, .int 1), (7, .int v6), (6, .int v5), (5, .int v3), (4, .int v1), (0, .ref (qm 0)), (1, .int p0), (2, .int p1), (3, .int p2)]) hx hb dX12_after_151 hl (by decide) rfl (fun ls hl => ?_)
                    refine lv_iload hx hb dX12_after_153 (lv_at hl 0 rfl) ?_
                    refine lv_if_ne (tgt := 161) hx hb dX12_after_155 (by decide) (fun c37 => ?_) (fun c37 => ?_)
                    · refine lv_iload_n hx hb dX12_after_161 rfl (lv_at hl 7 rfl) ?_
                      refine lv_iload hx hb dX12_after_162 (lv_at hl 4 rfl) ?_
                      refine g_ir (g_runS (wc := []) (rest := []) cx hP hD hS [] rfl (by decide) [.int p1, .int v1] (c_X12_fewer l D k b H.size p1 v1) gX12_after_X12_fewer rfl rfl rfl nd_X12_fewer ⟨Nat.le_of_ble_eq_true rfl, Nat.le_of_ble_eq_true rfl⟩ rfl hl.1 rfl (Nat.le_of_ble_eq_true rfl) ⟨Nat.zero_le _, Nat.zero_le _⟩ dX12_after_164) cx.2.2.1 hP hD hS [] rfl rfl (fun r39 H locs hw38 hP hS => ?_)
                      have w40 : r39 = J_X12_fewer p1 v1 := hw38
                      clear hw38
                      refine lv_bipush (v := 100) hx hb dX12_after_167 (by decide) ?_
                      refine lv_iload hx hb dX12_after_169 (lv_at hl 3 rfl) ?_
                      refine lv_imul hx hb dX12_after_171 (lv_topi (fun v41 e41 => ?_))
                      have t41 : v41.toInt = 100 * v3.toInt := by rw [e41]; exact i_mul (by decide) rfl (by omega) (by omega)
                      refine lv_iadd hx hb dX12_after_172 (lv_topi (fun v42 e42 => ?_))
                      refine lv_istore (lv' := [(9, .int v42), (8, .int 1), (7, .int v6), (6, .int v5), (5, .int v3), (4, .int v1), (0, .ref (qm 0)), (1, .int p0), (2, .int p1), (3, .int p2)]) hx hb dX12_after_173 hl (by decide) rfl (fun ls hl => ?_)
                      refine lv_iload hx hb dX12_after_175 (lv_at hl 0 rfl) ?_
                      refine g_ir (g_runS (wc := []) (rest := []) cx hP hD hS [] rfl (by decide) [.int v42] (c_X12_all l D k b H.size v42) gX12_after_X12_all rfl rfl rfl nd_X12_all ⟨Nat.le_of_ble_eq_true rfl, Nat.le_of_ble_eq_true rfl⟩ rfl hl.1 rfl (Nat.le_of_ble_eq_true rfl) ⟨Nat.zero_le _, Nat.zero_le _⟩ dX12_after_177) cx.2.2.1 hP hD hS [] rfl rfl (fun r44 H locs hw43 hP hS => ?_)
                      have w45 : r44 = J_X12_all v42 := hw43
                      clear hw43
                      refine lv_aload_n hx hb dX12_after_180 rfl (lv_at hl 6 rfl) ?_
                      refine g_get cx hP iw_X12_after_X12 0 rfl rfl 1 (by decide) rfl fw_X12_after_13 rfl dX12_after_181 ?_
                      refine lv_iconst (v := 1) hx hb dX12_after_184 (by decide) ?_
                      have hn46 : vp_in 1 26 := f_in (a := 1) (by decide) (by omega) (by omega)
                      refine va_iald hx hb cx.2.1 hP 2 0 rfl rfl hn46 dX12_after_185 (lv_topi (fun v47 e47 => ?_))
                      have uv47 : v47.toInt = ((sm 2) 1).toInt := congrArg Int32.toInt e47
                      refine lv_icmp_gt (tgt := 211) hx hb dX12_after_186 (by decide) (fun c48 => ?_) (fun c48 => ?_)
                      · have f48 : v47.toInt < r44.toInt := f_lt rfl rfl c48
                        refine lv_bipush (v := (-9)) hx hb dX12_after_211 (by decide) ?_
                        have hlit49 : ((-9) : Int32).toInt = -9 := by decide
                        rw [hQ]
                        exact x_i cx hr () hP hD hS (show ((-9) : Int32) = J_X12_after sm tm p0 p1 p2 from by subst e1 e2 e3 e4 e5 e6 w13 e18 e20 w40 e41 e42 w45 e47; first | (refine Eq.symm ?_; refine Eq.trans (if_neg c7) ?_; refine Eq.trans (if_neg c14) ?_; refine Eq.trans (if_neg c21) ?_; refine Eq.trans (if_neg c25) ?_; refine Eq.trans (if_neg c29) ?_; refine Eq.trans (if_pos c34) ?_; refine Eq.trans (if_pos c35) ?_; refine Eq.trans (if_pos c36) ?_; refine Eq.trans (if_pos c48) ?_; rfl) | (unfold J_X12_after; try dsimp only; rw [if_neg c7, if_neg c14, if_neg c21, if_neg c25, if_neg c29, if_pos c34, if_pos c35, if_pos c36, if_pos c48])) dX12_after_213
                      · have f48 : r44.toInt ≤ v47.toInt := f_nlt rfl rfl c48
                        refine lv_iload hx hb dX12_after_189 (lv_at hl 3 rfl) ?_
                        refine lv_iconst (v := 1) hx hb dX12_after_191 (by decide) ?_
                        refine lv_icmp_ne (tgt := 214) hx hb dX12_after_192 (by decide) (fun c50 => ?_) (fun c50 => ?_)
                        · have f50 : ¬ v5.toInt = 1 := f_ne rfl (by decide) c50
                          refine lv_iload hx hb dX12_after_214 (lv_at hl 3 rfl) ?_
                          refine lv_iconst (v := 1) hx hb dX12_after_216 (by decide) ?_
                          refine lv_icmp_ne (tgt := 228) hx hb dX12_after_217 (by decide) (fun c51 => ?_) (fun c51 => ?_)
                          · have f51 : ¬ v5.toInt = 1 := f_ne rfl (by decide) c51
                            refine lv_iload hx hb dX12_after_228 (lv_at hl 0 rfl) ?_
                            rw [hQ]
                            exact x_i cx hr () hP hD hS (show v42 = J_X12_after sm tm p0 p1 p2 from by subst e1 e2 e3 e4 e5 e6 w13 e18 e20 w40 e41 e42 w45 e47; first | (refine Eq.symm ?_; refine Eq.trans (if_neg c7) ?_; refine Eq.trans (if_neg c14) ?_; refine Eq.trans (if_neg c21) ?_; refine Eq.trans (if_neg c25) ?_; refine Eq.trans (if_neg c29) ?_; refine Eq.trans (if_pos c34) ?_; refine Eq.trans (if_pos c35) ?_; refine Eq.trans (if_pos c36) ?_; refine Eq.trans (if_neg c48) ?_; rfl) | (unfold J_X12_after; try dsimp only; rw [if_neg c7, if_neg c14, if_neg c21, if_neg c25, if_neg c29, if_pos c34, if_pos c35, if_pos c36, if_neg c48])) dX12_after_230
                          · have f51 : v5.toInt = 1 := f_eq rfl (by decide) c51
                            exact absurd f51 (by omega)
                        · have f50 : v5.toInt = 1 := f_eq rfl (by decide) c50
                          exact absurd f50 (by omega)
                    · exact absurd c37 (by decide)
                  · have f36 : ¬ v6.toInt = 0 := f_ne rfl (by decide) c36
                    refine lv_aload_n hx hb dX12_after_122 rfl (lv_at hl 5 rfl) ?_
                    refine g_get cx hP iw_X12_after_X12 0 rfl rfl 1 (by decide) rfl fw_X12_after_13 rfl dX12_after_123 ?_
                    refine lv_bipush (v := 6) hx hb dX12_after_126 (by decide) ?_
                    have hn52 : vp_in 6 26 := f_in (a := 6) (by decide) (by omega) (by omega)
                    refine va_iald hx hb cx.2.1 hP 2 0 rfl rfl hn52 dX12_after_128 (lv_topi (fun v53 e53 => ?_))
                    have uv53 : v53.toInt = ((sm 2) 6).toInt := congrArg Int32.toInt e53
                    refine lv_bipush (v := (-9)) hx hb dX12_after_129 (by decide) ?_
                    refine lv_icmp_eq (tgt := 150) hx hb dX12_after_131 (by decide) (fun c54 => ?_) (fun c54 => ?_)
                    · have f54 : v53.toInt = (-9) := f_eq rfl (by decide) c54
                      refine lv_iconst (v := 0) hx hb dX12_after_150 (by decide) ?_
                      refine lv_istore (lv' := [(8, .int 0), (7, .int v6), (6, .int v5), (5, .int v3), (4, .int v1), (0, .ref (qm 0)), (1, .int p0), (2, .int p1), (3, .int p2)]) hx hb dX12_after_151 hl (by decide) rfl (fun ls hl => ?_)
                      refine lv_iload hx hb dX12_after_153 (lv_at hl 0 rfl) ?_
                      refine lv_if_ne (tgt := 161) hx hb dX12_after_155 (by decide) (fun c55 => ?_) (fun c55 => ?_)
                      · exact absurd c55 (by decide)
                      · refine lv_bipush (v := (-9)) hx hb dX12_after_158 (by decide) ?_
                        have hlit56 : ((-9) : Int32).toInt = -9 := by decide
                        rw [hQ]
                        exact x_i cx hr () hP hD hS (show ((-9) : Int32) = J_X12_after sm tm p0 p1 p2 from by subst e1 e2 e3 e4 e5 e6 w13 e18 e20 e53; first | (refine Eq.symm ?_; refine Eq.trans (if_neg c7) ?_; refine Eq.trans (if_neg c14) ?_; refine Eq.trans (if_neg c21) ?_; refine Eq.trans (if_neg c25) ?_; refine Eq.trans (if_neg c29) ?_; refine Eq.trans (if_pos c34) ?_; refine Eq.trans (if_pos c35) ?_; refine Eq.trans (if_neg c36) ?_; refine Eq.trans (if_pos c54) ?_; rfl) | (unfold J_X12_after; try dsimp only; rw [if_neg c7, if_neg c14, if_neg c21, if_neg c25, if_neg c29, if_pos c34, if_pos c35, if_neg c36, if_pos c54])) dX12_after_160
                    · have f54 : ¬ v53.toInt = (-9) := f_ne rfl (by decide) c54
                      refine lv_iload_n hx hb dX12_after_134 rfl (lv_at hl 6 rfl) ?_
                      refine lv_aload_n hx hb dX12_after_135 rfl (lv_at hl 5 rfl) ?_
                      refine g_get cx hP iw_X12_after_X12 0 rfl rfl 1 (by decide) rfl fw_X12_after_13 rfl dX12_after_136 ?_
                      refine lv_iconst (v := 0) hx hb dX12_after_139 (by decide) ?_
                      have hn57 : vp_in 0 26 := f_in (a := 0) (by decide) (by omega) (by omega)
                      refine va_iald hx hb cx.2.1 hP 2 0 rfl rfl hn57 dX12_after_140 (lv_topi (fun v58 e58 => ?_))
                      have uv58 : v58.toInt = ((sm 2) 0).toInt := congrArg Int32.toInt e58
                      have t58 : 0 ≤ v58.toInt ∧ v58.toInt ≤ 5 := by rw [e58]; exact h_w0
                      refine lv_iconst (v := 1) hx hb dX12_after_141 (by decide) ?_
                      refine lv_isub hx hb dX12_after_142 (lv_topi (fun v59 e59 => ?_))
                      have t59 : v59.toInt = v58.toInt - 1 := by rw [e59]; exact i_sub rfl (by decide) (by omega) (by omega)
                      refine lv_icmp_ge (tgt := 150) hx hb dX12_after_143 (by decide) (fun c60 => ?_) (fun c60 => ?_)
                      · have f60 : v59.toInt ≤ p0.toInt := f_le rfl rfl c60
                        refine lv_iconst (v := 0) hx hb dX12_after_150 (by decide) ?_
                        refine lv_istore (lv' := [(8, .int 0), (7, .int v6), (6, .int v5), (5, .int v3), (4, .int v1), (0, .ref (qm 0)), (1, .int p0), (2, .int p1), (3, .int p2)]) hx hb dX12_after_151 hl (by decide) rfl (fun ls hl => ?_)
                        refine lv_iload hx hb dX12_after_153 (lv_at hl 0 rfl) ?_
                        refine lv_if_ne (tgt := 161) hx hb dX12_after_155 (by decide) (fun c61 => ?_) (fun c61 => ?_)
                        · exact absurd c61 (by decide)
                        · refine lv_bipush (v := (-9)) hx hb dX12_after_158 (by decide) ?_
                          have hlit62 : ((-9) : Int32).toInt = -9 := by decide
                          rw [hQ]
                          exact x_i cx hr () hP hD hS (show ((-9) : Int32) = J_X12_after sm tm p0 p1 p2 from by subst e1 e2 e3 e4 e5 e6 w13 e18 e20 e53 e58 e59; first | (refine Eq.symm ?_; refine Eq.trans (if_neg c7) ?_; refine Eq.trans (if_neg c14) ?_; refine Eq.trans (if_neg c21) ?_; refine Eq.trans (if_neg c25) ?_; refine Eq.trans (if_neg c29) ?_; refine Eq.trans (if_pos c34) ?_; refine Eq.trans (if_pos c35) ?_; refine Eq.trans (if_neg c36) ?_; refine Eq.trans (if_neg c54) ?_; refine Eq.trans (if_pos c60) ?_; rfl) | (unfold J_X12_after; try dsimp only; rw [if_neg c7, if_neg c14, if_neg c21, if_neg c25, if_neg c29, if_pos c34, if_pos c35, if_neg c36, if_neg c54, if_pos c60])) dX12_after_160
                      · have f60 : p0.toInt < v59.toInt := f_nle rfl rfl c60
                        refine lv_iconst (v := 1) hx hb dX12_after_146 (by decide) ?_
                        refine lv_goto (tgt := 151) hx hb dX12_after_147 (by decide) ?_
                        refine lv_istore (lv' := [(8, .int 1), (7, .int v6), (6, .int v5), (5, .int v3), (4, .int v1), (0, .ref (qm 0)), (1, .int p0), (2, .int p1), (3, .int p2)]) hx hb dX12_after_151 hl (by decide) rfl (fun ls hl => ?_)
                        refine lv_iload hx hb dX12_after_153 (lv_at hl 0 rfl) ?_
                        refine lv_if_ne (tgt := 161) hx hb dX12_after_155 (by decide) (fun c63 => ?_) (fun c63 => ?_)
                        · refine lv_iload_n hx hb dX12_after_161 rfl (lv_at hl 7 rfl) ?_
                          refine lv_iload hx hb dX12_after_162 (lv_at hl 4 rfl) ?_
                          refine g_ir (g_runS (wc := []) (rest := []) cx hP hD hS [] rfl (by decide) [.int p1, .int v1] (c_X12_fewer l D k b H.size p1 v1) gX12_after_X12_fewer rfl rfl rfl nd_X12_fewer ⟨Nat.le_of_ble_eq_true rfl, Nat.le_of_ble_eq_true rfl⟩ rfl hl.1 rfl (Nat.le_of_ble_eq_true rfl) ⟨Nat.zero_le _, Nat.zero_le _⟩ dX12_after_164) cx.2.2.1 hP hD hS [] rfl rfl (fun r65 H locs hw64 hP hS => ?_)
                          have w66 : r65 = J_X12_fewer p1 v1 := hw64
                          clear hw64
                          refine lv_bipush (v := 100) hx hb dX12_after_167 (by decide) ?_
                          refine lv_iload hx hb dX12_after_169 (lv_at hl 3 rfl) ?_
                          refine lv_imul hx hb dX12_after_171 (lv_topi (fun v67 e67 => ?_))
                          have t67 : v67.toInt = 100 * v3.toInt := by rw [e67]; exact i_mul (by decide) rfl (by omega) (by omega)
                          refine lv_iadd hx hb dX12_after_172 (lv_topi (fun v68 e68 => ?_))
                          refine lv_istore (lv' := [(9, .int v68), (8, .int 1), (7, .int v6), (6, .int v5), (5, .int v3), (4, .int v1), (0, .ref (qm 0)), (1, .int p0), (2, .int p1), (3, .int p2)]) hx hb dX12_after_173 hl (by decide) rfl (fun ls hl => ?_)
                          refine lv_iload hx hb dX12_after_175 (lv_at hl 0 rfl) ?_
                          refine g_ir (g_runS (wc := []) (rest := []) cx hP hD hS [] rfl (by decide) [.int v68] (c_X12_all l D k b H.size v68) gX12_after_X12_all rfl rfl rfl nd_X12_all ⟨Nat.le_of_ble_eq_true rfl, Nat.le_of_ble_eq_true rfl⟩ rfl hl.1 rfl (Nat.le_of_ble_eq_true rfl) ⟨Nat.zero_le _, Nat.zero_le _⟩ dX12_after_177) cx.2.2.1 hP hD hS [] rfl rfl (fun r70 H locs hw69 hP hS => ?_)
                          have w71 : r70 = J_X12_all v68 := hw69
                          clear hw69
                          refine lv_aload_n hx hb dX12_after_180 rfl (lv_at hl 6 rfl) ?_
                          refine g_get cx hP iw_X12_after_X12 0 rfl rfl 1 (by decide) rfl fw_X12_after_13 rfl dX12_after_181 ?_
                          refine lv_iconst (v := 1) hx hb dX12_after_184 (by decide) ?_
                          have hn72 : vp_in 1 26 := f_in (a := 1) (by decide) (by omega) (by omega)
                          refine va_iald hx hb cx.2.1 hP 2 0 rfl rfl hn72 dX12_after_185 (lv_topi (fun v73 e73 => ?_))
                          have uv73 : v73.toInt = ((sm 2) 1).toInt := congrArg Int32.toInt e73
                          refine lv_icmp_gt (tgt := 211) hx hb dX12_after_186 (by decide) (fun c74 => ?_) (fun c74 => ?_)
                          · have f74 : v73.toInt < r70.toInt := f_lt rfl rfl c74
                            refine lv_bipush (v := (-9)) hx hb dX12_after_211 (by decide) ?_
                            have hlit75 : ((-9) : Int32).toInt = -9 := by decide
                            rw [hQ]
                            exact x_i cx hr () hP hD hS (show ((-9) : Int32) = J_X12_after sm tm p0 p1 p2 from by subst e1 e2 e3 e4 e5 e6 w13 e18 e20 e53 e58 e59 w66 e67 e68 w71 e73; first | (refine Eq.symm ?_; refine Eq.trans (if_neg c7) ?_; refine Eq.trans (if_neg c14) ?_; refine Eq.trans (if_neg c21) ?_; refine Eq.trans (if_neg c25) ?_; refine Eq.trans (if_neg c29) ?_; refine Eq.trans (if_pos c34) ?_; refine Eq.trans (if_pos c35) ?_; refine Eq.trans (if_neg c36) ?_; refine Eq.trans (if_neg c54) ?_; refine Eq.trans (if_neg c60) ?_; refine Eq.trans (if_pos c74) ?_; rfl) | (unfold J_X12_after; try dsimp only; rw [if_neg c7, if_neg c14, if_neg c21, if_neg c25, if_neg c29, if_pos c34, if_pos c35, if_neg c36, if_neg c54, if_neg c60, if_pos c74])) dX12_after_213
                          · have f74 : r70.toInt ≤ v73.toInt := f_nlt rfl rfl c74
                            refine lv_iload hx hb dX12_after_189 (lv_at hl 3 rfl) ?_
                            refine lv_iconst (v := 1) hx hb dX12_after_191 (by decide) ?_
                            refine lv_icmp_ne (tgt := 214) hx hb dX12_after_192 (by decide) (fun c76 => ?_) (fun c76 => ?_)
                            · have f76 : ¬ v5.toInt = 1 := f_ne rfl (by decide) c76
                              refine lv_iload hx hb dX12_after_214 (lv_at hl 3 rfl) ?_
                              refine lv_iconst (v := 1) hx hb dX12_after_216 (by decide) ?_
                              refine lv_icmp_ne (tgt := 228) hx hb dX12_after_217 (by decide) (fun c77 => ?_) (fun c77 => ?_)
                              · have f77 : ¬ v5.toInt = 1 := f_ne rfl (by decide) c77
                                refine lv_iload hx hb dX12_after_228 (lv_at hl 0 rfl) ?_
                                rw [hQ]
                                exact x_i cx hr () hP hD hS (show v68 = J_X12_after sm tm p0 p1 p2 from by subst e1 e2 e3 e4 e5 e6 w13 e18 e20 e53 e58 e59 w66 e67 e68 w71 e73; first | (refine Eq.symm ?_; refine Eq.trans (if_neg c7) ?_; refine Eq.trans (if_neg c14) ?_; refine Eq.trans (if_neg c21) ?_; refine Eq.trans (if_neg c25) ?_; refine Eq.trans (if_neg c29) ?_; refine Eq.trans (if_pos c34) ?_; refine Eq.trans (if_pos c35) ?_; refine Eq.trans (if_neg c36) ?_; refine Eq.trans (if_neg c54) ?_; refine Eq.trans (if_neg c60) ?_; refine Eq.trans (if_neg c74) ?_; rfl) | (unfold J_X12_after; try dsimp only; rw [if_neg c7, if_neg c14, if_neg c21, if_neg c25, if_neg c29, if_pos c34, if_pos c35, if_neg c36, if_neg c54, if_neg c60, if_neg c74])) dX12_after_230
                              · have f77 : v5.toInt = 1 := f_eq rfl (by decide) c77
                                exact absurd f77 (by omega)
                            · have f76 : v5.toInt = 1 := f_eq rfl (by decide) c76
                              exact absurd f76 (by omega)
                        · exact absurd c63 (by decide)
                · have f35 : ¬ v5.toInt = 0 := f_ne rfl (by decide) c35
                  refine lv_aload_n hx hb dX12_after_106 rfl (lv_at hl 5 rfl) ?_
                  refine g_get cx hP iw_X12_after_X12 0 rfl rfl 1 (by decide) rfl fw_X12_after_13 rfl dX12_after_107 ?_
                  refine lv_iconst (v := 5) hx hb dX12_after_110 (by decide) ?_
                  have hn78 : vp_in 5 26 := f_in (a := 5) (by decide) (by omega) (by omega)
                  refine va_iald hx hb cx.2.1 hP 2 0 rfl rfl hn78 dX12_after_111 (lv_topi (fun v79 e79 => ?_))
                  have uv79 : v79.toInt = ((sm 2) 5).toInt := congrArg Int32.toInt e79
                  refine lv_bipush (v := (-9)) hx hb dX12_after_112 (by decide) ?_
                  refine lv_icmp_eq (tgt := 150) hx hb dX12_after_114 (by decide) (fun c80 => ?_) (fun c80 => ?_)
                  · have f80 : v79.toInt = (-9) := f_eq rfl (by decide) c80
                    refine lv_iconst (v := 0) hx hb dX12_after_150 (by decide) ?_
                    refine lv_istore (lv' := [(8, .int 0), (7, .int v6), (6, .int v5), (5, .int v3), (4, .int v1), (0, .ref (qm 0)), (1, .int p0), (2, .int p1), (3, .int p2)]) hx hb dX12_after_151 hl (by decide) rfl (fun ls hl => ?_)
                    refine lv_iload hx hb dX12_after_153 (lv_at hl 0 rfl) ?_
                    refine lv_if_ne (tgt := 161) hx hb dX12_after_155 (by decide) (fun c81 => ?_) (fun c81 => ?_)
                    · exact absurd c81 (by decide)
                    · refine lv_bipush (v := (-9)) hx hb dX12_after_158 (by decide) ?_
                      have hlit82 : ((-9) : Int32).toInt = -9 := by decide
                      rw [hQ]
                      exact x_i cx hr () hP hD hS (show ((-9) : Int32) = J_X12_after sm tm p0 p1 p2 from by subst e1 e2 e3 e4 e5 e6 w13 e18 e20 e79; first | (refine Eq.symm ?_; refine Eq.trans (if_neg c7) ?_; refine Eq.trans (if_neg c14) ?_; refine Eq.trans (if_neg c21) ?_; refine Eq.trans (if_neg c25) ?_; refine Eq.trans (if_neg c29) ?_; refine Eq.trans (if_pos c34) ?_; refine Eq.trans (if_neg c35) ?_; refine Eq.trans (if_pos c80) ?_; rfl) | (unfold J_X12_after; try dsimp only; rw [if_neg c7, if_neg c14, if_neg c21, if_neg c25, if_neg c29, if_pos c34, if_neg c35, if_pos c80])) dX12_after_160
                  · have f80 : ¬ v79.toInt = (-9) := f_ne rfl (by decide) c80
                    refine lv_iload hx hb dX12_after_117 (lv_at hl 1 rfl) ?_
                    refine lv_if_eq (tgt := 146) hx hb dX12_after_119 (by decide) (fun c83 => ?_) (fun c83 => ?_)
                    · have f83 : v6.toInt = 0 := f_eq rfl (by decide) c83
                      refine lv_iconst (v := 1) hx hb dX12_after_146 (by decide) ?_
                      refine lv_goto (tgt := 151) hx hb dX12_after_147 (by decide) ?_
                      refine lv_istore (lv' := [(8, .int 1), (7, .int v6), (6, .int v5), (5, .int v3), (4, .int v1), (0, .ref (qm 0)), (1, .int p0), (2, .int p1), (3, .int p2)]) hx hb dX12_after_151 hl (by decide) rfl (fun ls hl => ?_)
                      refine lv_iload hx hb dX12_after_153 (lv_at hl 0 rfl) ?_
                      refine lv_if_ne (tgt := 161) hx hb dX12_after_155 (by decide) (fun c84 => ?_) (fun c84 => ?_)
                      · refine lv_iload_n hx hb dX12_after_161 rfl (lv_at hl 7 rfl) ?_
                        refine lv_iload hx hb dX12_after_162 (lv_at hl 4 rfl) ?_
                        refine g_ir (g_runS (wc := []) (rest := []) cx hP hD hS [] rfl (by decide) [.int p1, .int v1] (c_X12_fewer l D k b H.size p1 v1) gX12_after_X12_fewer rfl rfl rfl nd_X12_fewer ⟨Nat.le_of_ble_eq_true rfl, Nat.le_of_ble_eq_true rfl⟩ rfl hl.1 rfl (Nat.le_of_ble_eq_true rfl) ⟨Nat.zero_le _, Nat.zero_le _⟩ dX12_after_164) cx.2.2.1 hP hD hS [] rfl rfl (fun r86 H locs hw85 hP hS => ?_)
                        have w87 : r86 = J_X12_fewer p1 v1 := hw85
                        clear hw85
                        refine lv_bipush (v := 100) hx hb dX12_after_167 (by decide) ?_
                        refine lv_iload hx hb dX12_after_169 (lv_at hl 3 rfl) ?_
                        refine lv_imul hx hb dX12_after_171 (lv_topi (fun v88 e88 => ?_))
                        have t88 : v88.toInt = 100 * v3.toInt := by rw [e88]; exact i_mul (by decide) rfl (by omega) (by omega)
                        refine lv_iadd hx hb dX12_after_172 (lv_topi (fun v89 e89 => ?_))
                        refine lv_istore (lv' := [(9, .int v89), (8, .int 1), (7, .int v6), (6, .int v5), (5, .int v3), (4, .int v1), (0, .ref (qm 0)), (1, .int p0), (2, .int p1), (3, .int p2)]) hx hb dX12_after_173 hl (by decide) rfl (fun ls hl => ?_)
                        refine lv_iload hx hb dX12_after_175 (lv_at hl 0 rfl) ?_
                        refine g_ir (g_runS (wc := []) (rest := []) cx hP hD hS [] rfl (by decide) [.int v89] (c_X12_all l D k b H.size v89) gX12_after_X12_all rfl rfl rfl nd_X12_all ⟨Nat.le_of_ble_eq_true rfl, Nat.le_of_ble_eq_true rfl⟩ rfl hl.1 rfl (Nat.le_of_ble_eq_true rfl) ⟨Nat.zero_le _, Nat.zero_le _⟩ dX12_after_177) cx.2.2.1 hP hD hS [] rfl rfl (fun r91 H locs hw90 hP hS => ?_)
                        have w92 : r91 = J_X12_all v89 := hw90
                        clear hw90
                        refine lv_aload_n hx hb dX12_after_180 rfl (lv_at hl 6 rfl) ?_
                        refine g_get cx hP iw_X12_after_X12 0 rfl rfl 1 (by decide) rfl fw_X12_after_13 rfl dX12_after_181 ?_
                        refine lv_iconst (v := 1) hx hb dX12_after_184 (by decide) ?_
                        have hn93 : vp_in 1 26 := f_in (a := 1) (by decide) (by omega) (by omega)
                        refine va_iald hx hb cx.2.1 hP 2 0 rfl rfl hn93 dX12_after_185 (lv_topi (fun v94 e94 => ?_))
                        have uv94 : v94.toInt = ((sm 2) 1).toInt := congrArg Int32.toInt e94
                        refine lv_icmp_gt (tgt := 211) hx hb dX12_after_186 (by decide) (fun c95 => ?_) (fun c95 => ?_)
                        · have f95 : v94.toInt < r91.toInt := f_lt rfl rfl c95
                          refine lv_bipush (v := (-9)) hx hb dX12_after_211 (by decide) ?_
                          have hlit96 : ((-9) : Int32).toInt = -9 := by decide
                          rw [hQ]
                          exact x_i cx hr () hP hD hS (show ((-9) : Int32) = J_X12_after sm tm p0 p1 p2 from by subst e1 e2 e3 e4 e5 e6 w13 e18 e20 e79 w87 e88 e89 w92 e94; first | (refine Eq.symm ?_; refine Eq.trans (if_neg c7) ?_; refine Eq.trans (if_neg c14) ?_; refine Eq.trans (if_neg c21) ?_; refine Eq.trans (if_neg c25) ?_; refine Eq.trans (if_neg c29) ?_; refine Eq.trans (if_pos c34) ?_; refine Eq.trans (if_neg c35) ?_; refine Eq.trans (if_neg c80) ?_; refine Eq.trans (if_pos c83) ?_; refine Eq.trans (if_pos c95) ?_; rfl) | (unfold J_X12_after; try dsimp only; rw [if_neg c7, if_neg c14, if_neg c21, if_neg c25, if_neg c29, if_pos c34, if_neg c35, if_neg c80, if_pos c83, if_pos c95])) dX12_after_213
                        · have f95 : r91.toInt ≤ v94.toInt := f_nlt rfl rfl c95
                          refine lv_iload hx hb dX12_after_189 (lv_at hl 3 rfl) ?_
                          refine lv_iconst (v := 1) hx hb dX12_after_191 (by decide) ?_
                          refine lv_icmp_ne (tgt := 214) hx hb dX12_after_192 (by decide) (fun c97 => ?_) (fun c97 => ?_)
                          · have f97 : ¬ v5.toInt = 1 := f_ne rfl (by decide) c97
                            refine lv_iload hx hb dX12_after_214 (lv_at hl 3 rfl) ?_
                            refine lv_iconst (v := 1) hx hb dX12_after_216 (by decide) ?_
                            refine lv_icmp_ne (tgt := 228) hx hb dX12_after_217 (by decide) (fun c98 => ?_) (fun c98 => ?_)
                            · have f98 : ¬ v5.toInt = 1 := f_ne rfl (by decide) c98
                              refine lv_iload hx hb dX12_after_228 (lv_at hl 0 rfl) ?_
                              rw [hQ]
                              exact x_i cx hr () hP hD hS (show v89 = J_X12_after sm tm p0 p1 p2 from by subst e1 e2 e3 e4 e5 e6 w13 e18 e20 e79 w87 e88 e89 w92 e94; first | (refine Eq.symm ?_; refine Eq.trans (if_neg c7) ?_; refine Eq.trans (if_neg c14) ?_; refine Eq.trans (if_neg c21) ?_; refine Eq.trans (if_neg c25) ?_; refine Eq.trans (if_neg c29) ?_; refine Eq.trans (if_pos c34) ?_; refine Eq.trans (if_neg c35) ?_; refine Eq.trans (if_neg c80) ?_; refine Eq.trans (if_pos c83) ?_; refine Eq.trans (if_neg c95) ?_; refine Eq.trans (if_neg c97) ?_; refine Eq.trans (if_neg c98) ?_; rfl) | (unfold J_X12_after; try dsimp only; rw [if_neg c7, if_neg c14, if_neg c21, if_neg c25, if_neg c29, if_pos c34, if_neg c35, if_neg c80, if_pos c83, if_neg c95, if_neg c97, if_neg c98])) dX12_after_230
                            · have f98 : v5.toInt = 1 := f_eq rfl (by decide) c98
                              refine lv_iload hx hb dX12_after_220 (lv_at hl 0 rfl) ?_
                              refine lv_bipush (v := 90) hx hb dX12_after_222 (by decide) ?_
                              refine lv_isub hx hb dX12_after_224 (lv_topi (fun v99 e99 => ?_))
                              refine lv_goto (tgt := 230) hx hb dX12_after_225 (by decide) ?_
                              rw [hQ]
                              exact x_i cx hr () hP hD hS (show v99 = J_X12_after sm tm p0 p1 p2 from by subst e1 e2 e3 e4 e5 e6 w13 e18 e20 e79 w87 e88 e89 w92 e94 e99; first | (refine Eq.symm ?_; refine Eq.trans (if_neg c7) ?_; refine Eq.trans (if_neg c14) ?_; refine Eq.trans (if_neg c21) ?_; refine Eq.trans (if_neg c25) ?_; refine Eq.trans (if_neg c29) ?_; refine Eq.trans (if_pos c34) ?_; refine Eq.trans (if_neg c35) ?_; refine Eq.trans (if_neg c80) ?_; refine Eq.trans (if_pos c83) ?_; refine Eq.trans (if_neg c95) ?_; refine Eq.trans (if_neg c97) ?_; refine Eq.trans (if_pos c98) ?_; rfl) | (unfold J_X12_after; try dsimp only; rw [if_neg c7, if_neg c14, if_neg c21, if_neg c25, if_neg c29, if_pos c34, if_neg c35, if_neg c80, if_pos c83, if_neg c95, if_neg c97, if_pos c98])) dX12_after_230
                          · have f97 : v5.toInt = 1 := f_eq rfl (by decide) c97
                            refine lv_iload hx hb dX12_after_195 (lv_at hl 0 rfl) ?_
                            refine lv_bipush (v := 100) hx hb dX12_after_197 (by decide) ?_
                            refine lv_idiv hx hb dX12_after_199 (by decide) (lv_topi (fun v100 e100 => ?_))
                            refine lv_if_eq (tgt := 211) hx hb dX12_after_200 (by decide) (fun c101 => ?_) (fun c101 => ?_)
                            · have f101 : v100.toInt = 0 := f_eq rfl (by decide) c101
                              refine lv_bipush (v := (-9)) hx hb dX12_after_211 (by decide) ?_
                              have hlit102 : ((-9) : Int32).toInt = -9 := by decide
                              rw [hQ]
                              exact x_i cx hr () hP hD hS (show ((-9) : Int32) = J_X12_after sm tm p0 p1 p2 from by subst e1 e2 e3 e4 e5 e6 w13 e18 e20 e79 w87 e88 e89 w92 e94 e100; first | (refine Eq.symm ?_; refine Eq.trans (if_neg c7) ?_; refine Eq.trans (if_neg c14) ?_; refine Eq.trans (if_neg c21) ?_; refine Eq.trans (if_neg c25) ?_; refine Eq.trans (if_neg c29) ?_; refine Eq.trans (if_pos c34) ?_; refine Eq.trans (if_neg c35) ?_; refine Eq.trans (if_neg c80) ?_; refine Eq.trans (if_pos c83) ?_; refine Eq.trans (if_neg c95) ?_; refine Eq.trans (if_pos c97) ?_; refine Eq.trans (if_pos c101) ?_; rfl) | (unfold J_X12_after; try dsimp only; rw [if_neg c7, if_neg c14, if_neg c21, if_neg c25, if_neg c29, if_pos c34, if_neg c35, if_neg c80, if_pos c83, if_neg c95, if_pos c97, if_pos c101])) dX12_after_213
                            · have f101 : ¬ v100.toInt = 0 := f_ne rfl (by decide) c101
                              refine lv_iload hx hb dX12_after_203 (lv_at hl 0 rfl) ?_
                              refine lv_bipush (v := 10) hx hb dX12_after_205 (by decide) ?_
                              refine lv_irem hx hb dX12_after_207 (by decide) (lv_topi (fun v103 e103 => ?_))
                              have t103 : -10 < v103.toInt ∧ v103.toInt < 10 := by rw [e103]; exact i_remb (by decide) (by decide)
                              refine lv_if_ne (tgt := 214) hx hb dX12_after_208 (by decide) (fun c104 => ?_) (fun c104 => ?_)
                              · have f104 : ¬ v103.toInt = 0 := f_ne rfl (by decide) c104
                                refine lv_iload hx hb dX12_after_214 (lv_at hl 3 rfl) ?_
                                refine lv_iconst (v := 1) hx hb dX12_after_216 (by decide) ?_
                                refine lv_icmp_ne (tgt := 228) hx hb dX12_after_217 (by decide) (fun c105 => ?_) (fun c105 => ?_)
                                · have f105 : ¬ v5.toInt = 1 := f_ne rfl (by decide) c105
                                  exact absurd f105 (by omega)
                                · have f105 : v5.toInt = 1 := f_eq rfl (by decide) c105
                                  refine lv_iload hx hb dX12_after_220 (lv_at hl 0 rfl) ?_
                                  refine lv_bipush (v := 90) hx hb dX12_after_222 (by decide) ?_
                                  refine lv_isub hx hb dX12_after_224 (lv_topi (fun v106 e106 => ?_))
                                  refine lv_goto (tgt := 230) hx hb dX12_after_225 (by decide) ?_
                                  rw [hQ]
                                  exact x_i cx hr () hP hD hS (show v106 = J_X12_after sm tm p0 p1 p2 from by subst e1 e2 e3 e4 e5 e6 w13 e18 e20 e79 w87 e88 e89 w92 e94 e100 e103 e106; first | (refine Eq.symm ?_; refine Eq.trans (if_neg c7) ?_; refine Eq.trans (if_neg c14) ?_; refine Eq.trans (if_neg c21) ?_; refine Eq.trans (if_neg c25) ?_; refine Eq.trans (if_neg c29) ?_; refine Eq.trans (if_pos c34) ?_; refine Eq.trans (if_neg c35) ?_; refine Eq.trans (if_neg c80) ?_; refine Eq.trans (if_pos c83) ?_; refine Eq.trans (if_neg c95) ?_; refine Eq.trans (if_pos c97) ?_; refine Eq.trans (if_neg c101) ?_; refine Eq.trans (if_neg c104) ?_; rfl) | (unfold J_X12_after; try dsimp only; rw [if_neg c7, if_neg c14, if_neg c21, if_neg c25, if_neg c29, if_pos c34, if_neg c35, if_neg c80, if_pos c83, if_neg c95, if_pos c97, if_neg c101, if_neg c104])) dX12_after_230
                              · have f104 : v103.toInt = 0 := f_eq rfl (by decide) c104
                                refine lv_bipush (v := (-9)) hx hb dX12_after_211 (by decide) ?_
                                have hlit107 : ((-9) : Int32).toInt = -9 := by decide
                                rw [hQ]
                                exact x_i cx hr () hP hD hS (show ((-9) : Int32) = J_X12_after sm tm p0 p1 p2 from by subst e1 e2 e3 e4 e5 e6 w13 e18 e20 e79 w87 e88 e89 w92 e94 e100 e103; first | (refine Eq.symm ?_; refine Eq.trans (if_neg c7) ?_; refine Eq.trans (if_neg c14) ?_; refine Eq.trans (if_neg c21) ?_; refine Eq.trans (if_neg c25) ?_; refine Eq.trans (if_neg c29) ?_; refine Eq.trans (if_pos c34) ?_; refine Eq.trans (if_neg c35) ?_; refine Eq.trans (if_neg c80) ?_; refine Eq.trans (if_pos c83) ?_; refine Eq.trans (if_neg c95) ?_; refine Eq.trans (if_pos c97) ?_; refine Eq.trans (if_neg c101) ?_; refine Eq.trans (if_pos c104) ?_; rfl) | (unfold J_X12_after; try dsimp only; rw [if_neg c7, if_neg c14, if_neg c21, if_neg c25, if_neg c29, if_pos c34, if_neg c35, if_neg c80, if_pos c83, if_neg c95, if_pos c97, if_neg c101, if_pos c104])) dX12_after_213
                      · exact absurd c84 (by decide)
                    · have f83 : ¬ v6.toInt = 0 := f_ne rfl (by decide) c83
                      refine lv_aload_n hx hb dX12_after_122 rfl (lv_at hl 5 rfl) ?_
                      refine g_get cx hP iw_X12_after_X12 0 rfl rfl 1 (by decide) rfl fw_X12_after_13 rfl dX12_after_123 ?_
                      refine lv_bipush (v := 6) hx hb dX12_after_126 (by decide) ?_
                      have hn108 : vp_in 6 26 := f_in (a := 6) (by decide) (by omega) (by omega)
                      refine va_iald hx hb cx.2.1 hP 2 0 rfl rfl hn108 dX12_after_128 (lv_topi (fun v109 e109 => ?_))
                      have uv109 : v109.toInt = ((sm 2) 6).toInt := congrArg Int32.toInt e109
                      refine lv_bipush (v := (-9)) hx hb dX12_after_129 (by decide) ?_
                      refine lv_icmp_eq (tgt := 150) hx hb dX12_after_131 (by decide) (fun c110 => ?_) (fun c110 => ?_)
                      · have f110 : v109.toInt = (-9) := f_eq rfl (by decide) c110
                        refine lv_iconst (v := 0) hx hb dX12_after_150 (by decide) ?_
                        refine lv_istore (lv' := [(8, .int 0), (7, .int v6), (6, .int v5), (5, .int v3), (4, .int v1), (0, .ref (qm 0)), (1, .int p0), (2, .int p1), (3, .int p2)]) hx hb dX12_after_151 hl (by decide) rfl (fun ls hl => ?_)
                        refine lv_iload hx hb dX12_after_153 (lv_at hl 0 rfl) ?_
                        refine lv_if_ne (tgt := 161) hx hb dX12_after_155 (by decide) (fun c111 => ?_) (fun c111 => ?_)
                        · exact absurd c111 (by decide)
                        · refine lv_bipush (v := (-9)) hx hb dX12_after_158 (by decide) ?_
                          have hlit112 : ((-9) : Int32).toInt = -9 := by decide
                          rw [hQ]
                          exact x_i cx hr () hP hD hS (show ((-9) : Int32) = J_X12_after sm tm p0 p1 p2 from by subst e1 e2 e3 e4 e5 e6 w13 e18 e20 e79 e109; first | (refine Eq.symm ?_; refine Eq.trans (if_neg c7) ?_; refine Eq.trans (if_neg c14) ?_; refine Eq.trans (if_neg c21) ?_; refine Eq.trans (if_neg c25) ?_; refine Eq.trans (if_neg c29) ?_; refine Eq.trans (if_pos c34) ?_; refine Eq.trans (if_neg c35) ?_; refine Eq.trans (if_neg c80) ?_; refine Eq.trans (if_neg c83) ?_; refine Eq.trans (if_pos c110) ?_; rfl) | (unfold J_X12_after; try dsimp only; rw [if_neg c7, if_neg c14, if_neg c21, if_neg c25, if_neg c29, if_pos c34, if_neg c35, if_neg c80, if_neg c83, if_pos c110])) dX12_after_160
                      · have f110 : ¬ v109.toInt = (-9) := f_ne rfl (by decide) c110
                        refine lv_iload_n hx hb dX12_after_134 rfl (lv_at hl 6 rfl) ?_
                        refine lv_aload_n hx hb dX12_after_135 rfl (lv_at hl 5 rfl) ?_
                        refine g_get cx hP iw_X12_after_X12 0 rfl rfl 1 (by decide) rfl fw_X12_after_13 rfl dX12_after_136 ?_
                        refine lv_iconst (v := 0) hx hb dX12_after_139 (by decide) ?_
                        have hn113 : vp_in 0 26 := f_in (a := 0) (by decide) (by omega) (by omega)
                        refine va_iald hx hb cx.2.1 hP 2 0 rfl rfl hn113 dX12_after_140 (lv_topi (fun v114 e114 => ?_))
                        have uv114 : v114.toInt = ((sm 2) 0).toInt := congrArg Int32.toInt e114
                        have t114 : 0 ≤ v114.toInt ∧ v114.toInt ≤ 5 := by rw [e114]; exact h_w0
                        refine lv_iconst (v := 1) hx hb dX12_after_141 (by decide) ?_
                        refine lv_isub hx hb dX12_after_142 (lv_topi (fun v115 e115 => ?_))
                        have t115 : v115.toInt = v114.toInt - 1 := by rw [e115]; exact i_sub rfl (by decide) (by omega) (by omega)
                        refine lv_icmp_ge (tgt := 150) hx hb dX12_after_143 (by decide) (fun c116 => ?_) (fun c116 => ?_)
                        · have f116 : v115.toInt ≤ p0.toInt := f_le rfl rfl c116
                          refine lv_iconst (v := 0) hx hb dX12_after_150 (by decide) ?_
                          refine lv_istore (lv' := [(8, .int 0), (7, .int v6), (6, .int v5), (5, .int v3), (4, .int v1), (0, .ref (qm 0)), (1, .int p0), (2, .int p1), (3, .int p2)]) hx hb dX12_after_151 hl (by decide) rfl (fun ls hl => ?_)
                          refine lv_iload hx hb dX12_after_153 (lv_at hl 0 rfl) ?_
                          refine lv_if_ne (tgt := 161) hx hb dX12_after_155 (by decide) (fun c117 => ?_) (fun c117 => ?_)
                          · exact absurd c117 (by decide)
                          · refine lv_bipush (v := (-9)) hx hb dX12_after_158 (by decide) ?_
                            have hlit118 : ((-9) : Int32).toInt = -9 := by decide
                            rw [hQ]
                            exact x_i cx hr () hP hD hS (show ((-9) : Int32) = J_X12_after sm tm p0 p1 p2 from by subst e1 e2 e3 e4 e5 e6 w13 e18 e20 e79 e109 e114 e115; first | (refine Eq.symm ?_; refine Eq.trans (if_neg c7) ?_; refine Eq.trans (if_neg c14) ?_; refine Eq.trans (if_neg c21) ?_; refine Eq.trans (if_neg c25) ?_; refine Eq.trans (if_neg c29) ?_; refine Eq.trans (if_pos c34) ?_; refine Eq.trans (if_neg c35) ?_; refine Eq.trans (if_neg c80) ?_; refine Eq.trans (if_neg c83) ?_; refine Eq.trans (if_neg c110) ?_; refine Eq.trans (if_pos c116) ?_; rfl) | (unfold J_X12_after; try dsimp only; rw [if_neg c7, if_neg c14, if_neg c21, if_neg c25, if_neg c29, if_pos c34, if_neg c35, if_neg c80, if_neg c83, if_neg c110, if_pos c116])) dX12_after_160
                        · have f116 : p0.toInt < v115.toInt := f_nle rfl rfl c116
                          refine lv_iconst (v := 1) hx hb dX12_after_146 (by decide) ?_
                          refine lv_goto (tgt := 151) hx hb dX12_after_147 (by decide) ?_
                          refine lv_istore (lv' := [(8, .int 1), (7, .int v6), (6, .int v5), (5, .int v3), (4, .int v1), (0, .ref (qm 0)), (1, .int p0), (2, .int p1), (3, .int p2)]) hx hb dX12_after_151 hl (by decide) rfl (fun ls hl => ?_)
                          refine lv_iload hx hb dX12_after_153 (lv_at hl 0 rfl) ?_
                          refine lv_if_ne (tgt := 161) hx hb dX12_after_155 (by decide) (fun c119 => ?_) (fun c119 => ?_)
                          · refine lv_iload_n hx hb dX12_after_161 rfl (lv_at hl 7 rfl) ?_
                            refine lv_iload hx hb dX12_after_162 (lv_at hl 4 rfl) ?_
                            refine g_ir (g_runS (wc := []) (rest := []) cx hP hD hS [] rfl (by decide) [.int p1, .int v1] (c_X12_fewer l D k b H.size p1 v1) gX12_after_X12_fewer rfl rfl rfl nd_X12_fewer ⟨Nat.le_of_ble_eq_true rfl, Nat.le_of_ble_eq_true rfl⟩ rfl hl.1 rfl (Nat.le_of_ble_eq_true rfl) ⟨Nat.zero_le _, Nat.zero_le _⟩ dX12_after_164) cx.2.2.1 hP hD hS [] rfl rfl (fun r121 H locs hw120 hP hS => ?_)
                            have w122 : r121 = J_X12_fewer p1 v1 := hw120
                            clear hw120
                            refine lv_bipush (v := 100) hx hb dX12_after_167 (by decide) ?_
                            refine lv_iload hx hb dX12_after_169 (lv_at hl 3 rfl) ?_
                            refine lv_imul hx hb dX12_after_171 (lv_topi (fun v123 e123 => ?_))
                            have t123 : v123.toInt = 100 * v3.toInt := by rw [e123]; exact i_mul (by decide) rfl (by omega) (by omega)
                            refine lv_iadd hx hb dX12_after_172 (lv_topi (fun v124 e124 => ?_))
                            refine lv_istore (lv' := [(9, .int v124), (8, .int 1), (7, .int v6), (6, .int v5), (5, .int v3), (4, .int v1), (0, .ref (qm 0)), (1, .int p0), (2, .int p1), (3, .int p2)]) hx hb dX12_after_173 hl (by decide) rfl (fun ls hl => ?_)
                            refine lv_iload hx hb dX12_after_175 (lv_at hl 0 rfl) ?_
                            refine g_ir (g_runS (wc := []) (rest := []) cx hP hD hS [] rfl (by decide) [.int v124] (c_X12_all l D k b H.size v124) gX12_after_X12_all rfl rfl rfl nd_X12_all ⟨Nat.le_of_ble_eq_true rfl, Nat.le_of_ble_eq_true rfl⟩ rfl hl.1 rfl (Nat.le_of_ble_eq_true rfl) ⟨Nat.zero_le _, Nat.zero_le _⟩ dX12_after_177) cx.2.2.1 hP hD hS [] rfl rfl (fun r126 H locs hw125 hP hS => ?_)
                            have w127 : r126 = J_X12_all v124 := hw125
                            clear hw125
                            refine lv_aload_n hx hb dX12_after_180 rfl (lv_at hl 6 rfl) ?_
                            refine g_get cx hP iw_X12_after_X12 0 rfl rfl 1 (by decide) rfl fw_X12_after_13 rfl dX12_after_181 ?_
                            refine lv_iconst (v := 1) hx hb dX12_after_184 (by decide) ?_
                            have hn128 : vp_in 1 26 := f_in (a := 1) (by decide) (by omega) (by omega)
                            refine va_iald hx hb cx.2.1 hP 2 0 rfl rfl hn128 dX12_after_185 (lv_topi (fun v129 e129 => ?_))
                            have uv129 : v129.toInt = ((sm 2) 1).toInt := congrArg Int32.toInt e129
                            refine lv_icmp_gt (tgt := 211) hx hb dX12_after_186 (by decide) (fun c130 => ?_) (fun c130 => ?_)
                            · have f130 : v129.toInt < r126.toInt := f_lt rfl rfl c130
                              refine lv_bipush (v := (-9)) hx hb dX12_after_211 (by decide) ?_
                              have hlit131 : ((-9) : Int32).toInt = -9 := by decide
                              rw [hQ]
                              exact x_i cx hr () hP hD hS (show ((-9) : Int32) = J_X12_after sm tm p0 p1 p2 from by subst e1 e2 e3 e4 e5 e6 w13 e18 e20 e79 e109 e114 e115 w122 e123 e124 w127 e129; first | (refine Eq.symm ?_; refine Eq.trans (if_neg c7) ?_; refine Eq.trans (if_neg c14) ?_; refine Eq.trans (if_neg c21) ?_; refine Eq.trans (if_neg c25) ?_; refine Eq.trans (if_neg c29) ?_; refine Eq.trans (if_pos c34) ?_; refine Eq.trans (if_neg c35) ?_; refine Eq.trans (if_neg c80) ?_; refine Eq.trans (if_neg c83) ?_; refine Eq.trans (if_neg c110) ?_; refine Eq.trans (if_neg c116) ?_; refine Eq.trans (if_pos c130) ?_; rfl) | (unfold J_X12_after; try dsimp only; rw [if_neg c7, if_neg c14, if_neg c21, if_neg c25, if_neg c29, if_pos c34, if_neg c35, if_neg c80, if_neg c83, if_neg c110, if_neg c116, if_pos c130])) dX12_after_213
                            · have f130 : r126.toInt ≤ v129.toInt := f_nlt rfl rfl c130
                              refine lv_iload hx hb dX12_after_189 (lv_at hl 3 rfl) ?_
                              refine lv_iconst (v := 1) hx hb dX12_after_191 (by decide) ?_
                              refine lv_icmp_ne (tgt := 214) hx hb dX12_after_192 (by decide) (fun c132 => ?_) (fun c132 => ?_)
                              · have f132 : ¬ v5.toInt = 1 := f_ne rfl (by decide) c132
                                refine lv_iload hx hb dX12_after_214 (lv_at hl 3 rfl) ?_
                                refine lv_iconst (v := 1) hx hb dX12_after_216 (by decide) ?_
                                refine lv_icmp_ne (tgt := 228) hx hb dX12_after_217 (by decide) (fun c133 => ?_) (fun c133 => ?_)
                                · have f133 : ¬ v5.toInt = 1 := f_ne rfl (by decide) c133
                                  refine lv_iload hx hb dX12_after_228 (lv_at hl 0 rfl) ?_
                                  rw [hQ]
                                  exact x_i cx hr () hP hD hS (show v124 = J_X12_after sm tm p0 p1 p2 from by subst e1 e2 e3 e4 e5 e6 w13 e18 e20 e79 e109 e114 e115 w122 e123 e124 w127 e129; first | (refine Eq.symm ?_; refine Eq.trans (if_neg c7) ?_; refine Eq.trans (if_neg c14) ?_; refine Eq.trans (if_neg c21) ?_; refine Eq.trans (if_neg c25) ?_; refine Eq.trans (if_neg c29) ?_; refine Eq.trans (if_pos c34) ?_; refine Eq.trans (if_neg c35) ?_; refine Eq.trans (if_neg c80) ?_; refine Eq.trans (if_neg c83) ?_; refine Eq.trans (if_neg c110) ?_; refine Eq.trans (if_neg c116) ?_; refine Eq.trans (if_neg c130) ?_; refine Eq.trans (if_neg c132) ?_; refine Eq.trans (if_neg c133) ?_; rfl) | (unfold J_X12_after; try dsimp only; rw [if_neg c7, if_neg c14, if_neg c21, if_neg c25, if_neg c29, if_pos c34, if_neg c35, if_neg c80, if_neg c83, if_neg c110, if_neg c116, if_neg c130, if_neg c132, if_neg c133])) dX12_after_230
                                · have f133 : v5.toInt = 1 := f_eq rfl (by decide) c133
                                  refine lv_iload hx hb dX12_after_220 (lv_at hl 0 rfl) ?_
                                  refine lv_bipush (v := 90) hx hb dX12_after_222 (by decide) ?_
                                  refine lv_isub hx hb dX12_after_224 (lv_topi (fun v134 e134 => ?_))
                                  refine lv_goto (tgt := 230) hx hb dX12_after_225 (by decide) ?_
                                  rw [hQ]
                                  exact x_i cx hr () hP hD hS (show v134 = J_X12_after sm tm p0 p1 p2 from by subst e1 e2 e3 e4 e5 e6 w13 e18 e20 e79 e109 e114 e115 w122 e123 e124 w127 e129 e134; first | (refine Eq.symm ?_; refine Eq.trans (if_neg c7) ?_; refine Eq.trans (if_neg c14) ?_; refine Eq.trans (if_neg c21) ?_; refine Eq.trans (if_neg c25) ?_; refine Eq.trans (if_neg c29) ?_; refine Eq.trans (if_pos c34) ?_; refine Eq.trans (if_neg c35) ?_; refine Eq.trans (if_neg c80) ?_; refine Eq.trans (if_neg c83) ?_; refine Eq.trans (if_neg c110) ?_; refine Eq.trans (if_neg c116) ?_; refine Eq.trans (if_neg c130) ?_; refine Eq.trans (if_neg c132) ?_; refine Eq.trans (if_pos c133) ?_; rfl) | (unfold J_X12_after; try dsimp only; rw [if_neg c7, if_neg c14, if_neg c21, if_neg c25, if_neg c29, if_pos c34, if_neg c35, if_neg c80, if_neg c83, if_neg c110, if_neg c116, if_neg c130, if_neg c132, if_pos c133])) dX12_after_230
                              · have f132 : v5.toInt = 1 := f_eq rfl (by decide) c132
                                refine lv_iload hx hb dX12_after_195 (lv_at hl 0 rfl) ?_
                                refine lv_bipush (v := 100) hx hb dX12_after_197 (by decide) ?_
                                refine lv_idiv hx hb dX12_after_199 (by decide) (lv_topi (fun v135 e135 => ?_))
                                refine lv_if_eq (tgt := 211) hx hb dX12_after_200 (by decide) (fun c136 => ?_) (fun c136 => ?_)
                                · have f136 : v135.toInt = 0 := f_eq rfl (by decide) c136
                                  refine lv_bipush (v := (-9)) hx hb dX12_after_211 (by decide) ?_
                                  have hlit137 : ((-9) : Int32).toInt = -9 := by decide
                                  rw [hQ]
                                  exact x_i cx hr () hP hD hS (show ((-9) : Int32) = J_X12_after sm tm p0 p1 p2 from by subst e1 e2 e3 e4 e5 e6 w13 e18 e20 e79 e109 e114 e115 w122 e123 e124 w127 e129 e135; first | (refine Eq.symm ?_; refine Eq.trans (if_neg c7) ?_; refine Eq.trans (if_neg c14) ?_; refine Eq.trans (if_neg c21) ?_; refine Eq.trans (if_neg c25) ?_; refine Eq.trans (if_neg c29) ?_; refine Eq.trans (if_pos c34) ?_; refine Eq.trans (if_neg c35) ?_; refine Eq.trans (if_neg c80) ?_; refine Eq.trans (if_neg c83) ?_; refine Eq.trans (if_neg c110) ?_; refine Eq.trans (if_neg c116) ?_; refine Eq.trans (if_neg c130) ?_; refine Eq.trans (if_pos c132) ?_; refine Eq.trans (if_pos c136) ?_; rfl) | (unfold J_X12_after; try dsimp only; rw [if_neg c7, if_neg c14, if_neg c21, if_neg c25, if_neg c29, if_pos c34, if_neg c35, if_neg c80, if_neg c83, if_neg c110, if_neg c116, if_neg c130, if_pos c132, if_pos c136])) dX12_after_213
                                · have f136 : ¬ v135.toInt = 0 := f_ne rfl (by decide) c136
                                  refine lv_iload hx hb dX12_after_203 (lv_at hl 0 rfl) ?_
                                  refine lv_bipush (v := 10) hx hb dX12_after_205 (by decide) ?_
                                  refine lv_irem hx hb dX12_after_207 (by decide) (lv_topi (fun v138 e138 => ?_))
                                  have t138 : -10 < v138.toInt ∧ v138.toInt < 10 := by rw [e138]; exact i_remb (by decide) (by decide)
                                  refine lv_if_ne (tgt := 214) hx hb dX12_after_208 (by decide) (fun c139 => ?_) (fun c139 => ?_)
                                  · have f139 : ¬ v138.toInt = 0 := f_ne rfl (by decide) c139
                                    refine lv_iload hx hb dX12_after_214 (lv_at hl 3 rfl) ?_
                                    refine lv_iconst (v := 1) hx hb dX12_after_216 (by decide) ?_
                                    refine lv_icmp_ne (tgt := 228) hx hb dX12_after_217 (by decide) (fun c140 => ?_) (fun c140 => ?_)
                                    · have f140 : ¬ v5.toInt = 1 := f_ne rfl (by decide) c140
                                      exact absurd f140 (by omega)
                                    · have f140 : v5.toInt = 1 := f_eq rfl (by decide) c140
                                      refine lv_iload hx hb dX12_after_220 (lv_at hl 0 rfl) ?_
                                      refine lv_bipush (v := 90) hx hb dX12_after_222 (by decide) ?_
                                      refine lv_isub hx hb dX12_after_224 (lv_topi (fun v141 e141 => ?_))
                                      refine lv_goto (tgt := 230) hx hb dX12_after_225 (by decide) ?_
                                      rw [hQ]
                                      exact x_i cx hr () hP hD hS (show v141 = J_X12_after sm tm p0 p1 p2 from by subst e1 e2 e3 e4 e5 e6 w13 e18 e20 e79 e109 e114 e115 w122 e123 e124 w127 e129 e135 e138 e141; first | (refine Eq.symm ?_; refine Eq.trans (if_neg c7) ?_; refine Eq.trans (if_neg c14) ?_; refine Eq.trans (if_neg c21) ?_; refine Eq.trans (if_neg c25) ?_; refine Eq.trans (if_neg c29) ?_; refine Eq.trans (if_pos c34) ?_; refine Eq.trans (if_neg c35) ?_; refine Eq.trans (if_neg c80) ?_; refine Eq.trans (if_neg c83) ?_; refine Eq.trans (if_neg c110) ?_; refine Eq.trans (if_neg c116) ?_; refine Eq.trans (if_neg c130) ?_; refine Eq.trans (if_pos c132) ?_; refine Eq.trans (if_neg c136) ?_; refine Eq.trans (if_neg c139) ?_; rfl) | (unfold J_X12_after; try dsimp only; rw [if_neg c7, if_neg c14, if_neg c21, if_neg c25, if_neg c29, if_pos c34, if_neg c35, if_neg c80, if_neg c83, if_neg c110, if_neg c116, if_neg c130, if_pos c132, if_neg c136, if_neg c139])) dX12_after_230
                                  · have f139 : v138.toInt = 0 := f_eq rfl (by decide) c139
                                    refine lv_bipush (v := (-9)) hx hb dX12_after_211 (by decide) ?_
                                    have hlit142 : ((-9) : Int32).toInt = -9 := by decide
                                    rw [hQ]
                                    exact x_i cx hr () hP hD hS (show ((-9) : Int32) = J_X12_after sm tm p0 p1 p2 from by subst e1 e2 e3 e4 e5 e6 w13 e18 e20 e79 e109 e114 e115 w122 e123 e124 w127 e129 e135 e138; first | (refine Eq.symm ?_; refine Eq.trans (if_neg c7) ?_; refine Eq.trans (if_neg c14) ?_; refine Eq.trans (if_neg c21) ?_; refine Eq.trans (if_neg c25) ?_; refine Eq.trans (if_neg c29) ?_; refine Eq.trans (if_pos c34) ?_; refine Eq.trans (if_neg c35) ?_; refine Eq.trans (if_neg c80) ?_; refine Eq.trans (if_neg c83) ?_; refine Eq.trans (if_neg c110) ?_; refine Eq.trans (if_neg c116) ?_; refine Eq.trans (if_neg c130) ?_; refine Eq.trans (if_pos c132) ?_; refine Eq.trans (if_neg c136) ?_; refine Eq.trans (if_pos c139) ?_; rfl) | (unfold J_X12_after; try dsimp only; rw [if_neg c7, if_neg c14, if_neg c21, if_neg c25, if_neg c29, if_pos c34, if_neg c35, if_neg c80, if_neg c83, if_neg c110, if_neg c116, if_neg c130, if_pos c132, if_neg c136, if_pos c139])) dX12_after_213
                          · exact absurd c119 (by decide)
              · have f34 : ¬ v1.toInt = 0 := f_ne rfl (by decide) c34
                refine lv_aload_n hx hb dX12_after_90 rfl (lv_at hl 5 rfl) ?_
                refine g_get cx hP iw_X12_after_X12 0 rfl rfl 1 (by decide) rfl fw_X12_after_13 rfl dX12_after_91 ?_
                refine lv_iconst (v := 4) hx hb dX12_after_94 (by decide) ?_
                have hn143 : vp_in 4 26 := f_in (a := 4) (by decide) (by omega) (by omega)
                refine va_iald hx hb cx.2.1 hP 2 0 rfl rfl hn143 dX12_after_95 (lv_topi (fun v144 e144 => ?_))
                have uv144 : v144.toInt = ((sm 2) 4).toInt := congrArg Int32.toInt e144
                refine lv_bipush (v := (-9)) hx hb dX12_after_96 (by decide) ?_
                refine lv_icmp_eq (tgt := 150) hx hb dX12_after_98 (by decide) (fun c145 => ?_) (fun c145 => ?_)
                · have f145 : v144.toInt = (-9) := f_eq rfl (by decide) c145
                  refine lv_iconst (v := 0) hx hb dX12_after_150 (by decide) ?_
                  refine lv_istore (lv' := [(8, .int 0), (7, .int v6), (6, .int v5), (5, .int v3), (4, .int v1), (0, .ref (qm 0)), (1, .int p0), (2, .int p1), (3, .int p2)]) hx hb dX12_after_151 hl (by decide) rfl (fun ls hl => ?_)
                  refine lv_iload hx hb dX12_after_153 (lv_at hl 0 rfl) ?_
                  refine lv_if_ne (tgt := 161) hx hb dX12_after_155 (by decide) (fun c146 => ?_) (fun c146 => ?_)
                  · exact absurd c146 (by decide)
                  · refine lv_bipush (v := (-9)) hx hb dX12_after_158 (by decide) ?_
                    have hlit147 : ((-9) : Int32).toInt = -9 := by decide
                    rw [hQ]
                    exact x_i cx hr () hP hD hS (show ((-9) : Int32) = J_X12_after sm tm p0 p1 p2 from by subst e1 e2 e3 e4 e5 e6 w13 e18 e20 e144; first | (refine Eq.symm ?_; refine Eq.trans (if_neg c7) ?_; refine Eq.trans (if_neg c14) ?_; refine Eq.trans (if_neg c21) ?_; refine Eq.trans (if_neg c25) ?_; refine Eq.trans (if_neg c29) ?_; refine Eq.trans (if_neg c34) ?_; refine Eq.trans (if_pos c145) ?_; rfl) | (unfold J_X12_after; try dsimp only; rw [if_neg c7, if_neg c14, if_neg c21, if_neg c25, if_neg c29, if_neg c34, if_pos c145])) dX12_after_160
                · have f145 : ¬ v144.toInt = (-9) := f_ne rfl (by decide) c145
                  refine lv_iload hx hb dX12_after_101 (lv_at hl 2 rfl) ?_
                  refine lv_if_eq (tgt := 117) hx hb dX12_after_103 (by decide) (fun c148 => ?_) (fun c148 => ?_)
                  · have f148 : v5.toInt = 0 := f_eq rfl (by decide) c148
                    refine lv_iload hx hb dX12_after_117 (lv_at hl 1 rfl) ?_
                    refine lv_if_eq (tgt := 146) hx hb dX12_after_119 (by decide) (fun c149 => ?_) (fun c149 => ?_)
                    · have f149 : v6.toInt = 0 := f_eq rfl (by decide) c149
                      refine lv_iconst (v := 1) hx hb dX12_after_146 (by decide) ?_
                      refine lv_goto (tgt := 151) hx hb dX12_after_147 (by decide) ?_
                      refine lv_istore (lv' := [(8, .int 1), (7, .int v6), (6, .int v5), (5, .int v3), (4, .int v1), (0, .ref (qm 0)), (1, .int p0), (2, .int p1), (3, .int p2)]) hx hb dX12_after_151 hl (by decide) rfl (fun ls hl => ?_)
                      refine lv_iload hx hb dX12_after_153 (lv_at hl 0 rfl) ?_
                      refine lv_if_ne (tgt := 161) hx hb dX12_after_155 (by decide) (fun c150 => ?_) (fun c150 => ?_)
                      · refine lv_iload_n hx hb dX12_after_161 rfl (lv_at hl 7 rfl) ?_
                        refine lv_iload hx hb dX12_after_162 (lv_at hl 4 rfl) ?_
                        refine g_ir (g_runS (wc := []) (rest := []) cx hP hD hS [] rfl (by decide) [.int p1, .int v1] (c_X12_fewer l D k b H.size p1 v1) gX12_after_X12_fewer rfl rfl rfl nd_X12_fewer ⟨Nat.le_of_ble_eq_true rfl, Nat.le_of_ble_eq_true rfl⟩ rfl hl.1 rfl (Nat.le_of_ble_eq_true rfl) ⟨Nat.zero_le _, Nat.zero_le _⟩ dX12_after_164) cx.2.2.1 hP hD hS [] rfl rfl (fun r152 H locs hw151 hP hS => ?_)
                        have w153 : r152 = J_X12_fewer p1 v1 := hw151
                        clear hw151
                        refine lv_bipush (v := 100) hx hb dX12_after_167 (by decide) ?_
                        refine lv_iload hx hb dX12_after_169 (lv_at hl 3 rfl) ?_
                        refine lv_imul hx hb dX12_after_171 (lv_topi (fun v154 e154 => ?_))
                        have t154 : v154.toInt = 100 * v3.toInt := by rw [e154]; exact i_mul (by decide) rfl (by omega) (by omega)
                        refine lv_iadd hx hb dX12_after_172 (lv_topi (fun v155 e155 => ?_))
                        refine lv_istore (lv' := [(9, .int v155), (8, .int 1), (7, .int v6), (6, .int v5), (5, .int v3), (4, .int v1), (0, .ref (qm 0)), (1, .int p0), (2, .int p1), (3, .int p2)]) hx hb dX12_after_173 hl (by decide) rfl (fun ls hl => ?_)
                        refine lv_iload hx hb dX12_after_175 (lv_at hl 0 rfl) ?_
                        refine g_ir (g_runS (wc := []) (rest := []) cx hP hD hS [] rfl (by decide) [.int v155] (c_X12_all l D k b H.size v155) gX12_after_X12_all rfl rfl rfl nd_X12_all ⟨Nat.le_of_ble_eq_true rfl, Nat.le_of_ble_eq_true rfl⟩ rfl hl.1 rfl (Nat.le_of_ble_eq_true rfl) ⟨Nat.zero_le _, Nat.zero_le _⟩ dX12_after_177) cx.2.2.1 hP hD hS [] rfl rfl (fun r157 H locs hw156 hP hS => ?_)
                        have w158 : r157 = J_X12_all v155 := hw156
                        clear hw156
                        refine lv_aload_n hx hb dX12_after_180 rfl (lv_at hl 6 rfl) ?_
                        refine g_get cx hP iw_X12_after_X12 0 rfl rfl 1 (by decide) rfl fw_X12_after_13 rfl dX12_after_181 ?_
                        refine lv_iconst (v := 1) hx hb dX12_after_184 (by decide) ?_
                        have hn159 : vp_in 1 26 := f_in (a := 1) (by decide) (by omega) (by omega)
                        refine va_iald hx hb cx.2.1 hP 2 0 rfl rfl hn159 dX12_after_185 (lv_topi (fun v160 e160 => ?_))
                        have uv160 : v160.toInt = ((sm 2) 1).toInt := congrArg Int32.toInt e160
                        refine lv_icmp_gt (tgt := 211) hx hb dX12_after_186 (by decide) (fun c161 => ?_) (fun c161 => ?_)
                        · have f161 : v160.toInt < r157.toInt := f_lt rfl rfl c161
                          refine lv_bipush (v := (-9)) hx hb dX12_after_211 (by decide) ?_
                          have hlit162 : ((-9) : Int32).toInt = -9 := by decide
                          rw [hQ]
                          exact x_i cx hr () hP hD hS (show ((-9) : Int32) = J_X12_after sm tm p0 p1 p2 from by subst e1 e2 e3 e4 e5 e6 w13 e18 e20 e144 w153 e154 e155 w158 e160; first | (refine Eq.symm ?_; refine Eq.trans (if_neg c7) ?_; refine Eq.trans (if_neg c14) ?_; refine Eq.trans (if_neg c21) ?_; refine Eq.trans (if_neg c25) ?_; refine Eq.trans (if_neg c29) ?_; refine Eq.trans (if_neg c34) ?_; refine Eq.trans (if_neg c145) ?_; refine Eq.trans (if_pos c148) ?_; refine Eq.trans (if_pos c149) ?_; refine Eq.trans (if_pos c161) ?_; rfl) | (unfold J_X12_after; try dsimp only; rw [if_neg c7, if_neg c14, if_neg c21, if_neg c25, if_neg c29, if_neg c34, if_neg c145, if_pos c148, if_pos c149, if_pos c161])) dX12_after_213
                        · have f161 : r157.toInt ≤ v160.toInt := f_nlt rfl rfl c161
                          refine lv_iload hx hb dX12_after_189 (lv_at hl 3 rfl) ?_
                          refine lv_iconst (v := 1) hx hb dX12_after_191 (by decide) ?_
                          refine lv_icmp_ne (tgt := 214) hx hb dX12_after_192 (by decide) (fun c163 => ?_) (fun c163 => ?_)
                          · have f163 : ¬ v5.toInt = 1 := f_ne rfl (by decide) c163
                            refine lv_iload hx hb dX12_after_214 (lv_at hl 3 rfl) ?_
                            refine lv_iconst (v := 1) hx hb dX12_after_216 (by decide) ?_
                            refine lv_icmp_ne (tgt := 228) hx hb dX12_after_217 (by decide) (fun c164 => ?_) (fun c164 => ?_)
                            · have f164 : ¬ v5.toInt = 1 := f_ne rfl (by decide) c164
                              refine lv_iload hx hb dX12_after_228 (lv_at hl 0 rfl) ?_
                              rw [hQ]
                              exact x_i cx hr () hP hD hS (show v155 = J_X12_after sm tm p0 p1 p2 from by subst e1 e2 e3 e4 e5 e6 w13 e18 e20 e144 w153 e154 e155 w158 e160; first | (refine Eq.symm ?_; refine Eq.trans (if_neg c7) ?_; refine Eq.trans (if_neg c14) ?_; refine Eq.trans (if_neg c21) ?_; refine Eq.trans (if_neg c25) ?_; refine Eq.trans (if_neg c29) ?_; refine Eq.trans (if_neg c34) ?_; refine Eq.trans (if_neg c145) ?_; refine Eq.trans (if_pos c148) ?_; refine Eq.trans (if_pos c149) ?_; refine Eq.trans (if_neg c161) ?_; rfl) | (unfold J_X12_after; try dsimp only; rw [if_neg c7, if_neg c14, if_neg c21, if_neg c25, if_neg c29, if_neg c34, if_neg c145, if_pos c148, if_pos c149, if_neg c161])) dX12_after_230
                            · have f164 : v5.toInt = 1 := f_eq rfl (by decide) c164
                              exact absurd f164 (by omega)
                          · have f163 : v5.toInt = 1 := f_eq rfl (by decide) c163
                            exact absurd f163 (by omega)
                      · exact absurd c150 (by decide)
                    · have f149 : ¬ v6.toInt = 0 := f_ne rfl (by decide) c149
                      refine lv_aload_n hx hb dX12_after_122 rfl (lv_at hl 5 rfl) ?_
                      refine g_get cx hP iw_X12_after_X12 0 rfl rfl 1 (by decide) rfl fw_X12_after_13 rfl dX12_after_123 ?_
                      refine lv_bipush (v := 6) hx hb dX12_after_126 (by decide) ?_
                      have hn165 : vp_in 6 26 := f_in (a := 6) (by decide) (by omega) (by omega)
                      refine va_iald hx hb cx.2.1 hP 2 0 rfl rfl hn165 dX12_after_128 (lv_topi (fun v166 e166 => ?_))
                      have uv166 : v166.toInt = ((sm 2) 6).toInt := congrArg Int32.toInt e166
                      refine lv_bipush (v := (-9)) hx hb dX12_after_129 (by decide) ?_
                      refine lv_icmp_eq (tgt := 150) hx hb dX12_after_131 (by decide) (fun c167 => ?_) (fun c167 => ?_)
                      · have f167 : v166.toInt = (-9) := f_eq rfl (by decide) c167
                        refine lv_iconst (v := 0) hx hb dX12_after_150 (by decide) ?_
                        refine lv_istore (lv' := [(8, .int 0), (7, .int v6), (6, .int v5), (5, .int v3), (4, .int v1), (0, .ref (qm 0)), (1, .int p0), (2, .int p1), (3, .int p2)]) hx hb dX12_after_151 hl (by decide) rfl (fun ls hl => ?_)
                        refine lv_iload hx hb dX12_after_153 (lv_at hl 0 rfl) ?_
                        refine lv_if_ne (tgt := 161) hx hb dX12_after_155 (by decide) (fun c168 => ?_) (fun c168 => ?_)
                        · exact absurd c168 (by decide)
                        · refine lv_bipush (v := (-9)) hx hb dX12_after_158 (by decide) ?_
                          have hlit169 : ((-9) : Int32).toInt = -9 := by decide
                          rw [hQ]
                          exact x_i cx hr () hP hD hS (show ((-9) : Int32) = J_X12_after sm tm p0 p1 p2 from by subst e1 e2 e3 e4 e5 e6 w13 e18 e20 e144 e166; first | (refine Eq.symm ?_; refine Eq.trans (if_neg c7) ?_; refine Eq.trans (if_neg c14) ?_; refine Eq.trans (if_neg c21) ?_; refine Eq.trans (if_neg c25) ?_; refine Eq.trans (if_neg c29) ?_; refine Eq.trans (if_neg c34) ?_; refine Eq.trans (if_neg c145) ?_; refine Eq.trans (if_pos c148) ?_; refine Eq.trans (if_neg c149) ?_; refine Eq.trans (if_pos c167) ?_; rfl) | (unfold J_X12_after; try dsimp only; rw [if_neg c7, if_neg c14, if_neg c21, if_neg c25, if_neg c29, if_neg c34, if_neg c145, if_pos c148, if_neg c149, if_pos c167])) dX12_after_160
                      · have f167 : ¬ v166.toInt = (-9) := f_ne rfl (by decide) c167
                        refine lv_iload_n hx hb dX12_after_134 rfl (lv_at hl 6 rfl) ?_
                        refine lv_aload_n hx hb dX12_after_135 rfl (lv_at hl 5 rfl) ?_
                        refine g_get cx hP iw_X12_after_X12 0 rfl rfl 1 (by decide) rfl fw_X12_after_13 rfl dX12_after_136 ?_
                        refine lv_iconst (v := 0) hx hb dX12_after_139 (by decide) ?_
                        have hn170 : vp_in 0 26 := f_in (a := 0) (by decide) (by omega) (by omega)
                        refine va_iald hx hb cx.2.1 hP 2 0 rfl rfl hn170 dX12_after_140 (lv_topi (fun v171 e171 => ?_))
                        have uv171 : v171.toInt = ((sm 2) 0).toInt := congrArg Int32.toInt e171
                        have t171 : 0 ≤ v171.toInt ∧ v171.toInt ≤ 5 := by rw [e171]; exact h_w0
                        refine lv_iconst (v := 1) hx hb dX12_after_141 (by decide) ?_
                        refine lv_isub hx hb dX12_after_142 (lv_topi (fun v172 e172 => ?_))
                        have t172 : v172.toInt = v171.toInt - 1 := by rw [e172]; exact i_sub rfl (by decide) (by omega) (by omega)
                        refine lv_icmp_ge (tgt := 150) hx hb dX12_after_143 (by decide) (fun c173 => ?_) (fun c173 => ?_)
                        · have f173 : v172.toInt ≤ p0.toInt := f_le rfl rfl c173
                          refine lv_iconst (v := 0) hx hb dX12_after_150 (by decide) ?_
                          refine lv_istore (lv' := [(8, .int 0), (7, .int v6), (6, .int v5), (5, .int v3), (4, .int v1), (0, .ref (qm 0)), (1, .int p0), (2, .int p1), (3, .int p2)]) hx hb dX12_after_151 hl (by decide) rfl (fun ls hl => ?_)
                          refine lv_iload hx hb dX12_after_153 (lv_at hl 0 rfl) ?_
                          refine lv_if_ne (tgt := 161) hx hb dX12_after_155 (by decide) (fun c174 => ?_) (fun c174 => ?_)
                          · exact absurd c174 (by decide)
                          · refine lv_bipush (v := (-9)) hx hb dX12_after_158 (by decide) ?_
                            have hlit175 : ((-9) : Int32).toInt = -9 := by decide
                            rw [hQ]
                            exact x_i cx hr () hP hD hS (show ((-9) : Int32) = J_X12_after sm tm p0 p1 p2 from by subst e1 e2 e3 e4 e5 e6 w13 e18 e20 e144 e166 e171 e172; first | (refine Eq.symm ?_; refine Eq.trans (if_neg c7) ?_; refine Eq.trans (if_neg c14) ?_; refine Eq.trans (if_neg c21) ?_; refine Eq.trans (if_neg c25) ?_; refine Eq.trans (if_neg c29) ?_; refine Eq.trans (if_neg c34) ?_; refine Eq.trans (if_neg c145) ?_; refine Eq.trans (if_pos c148) ?_; refine Eq.trans (if_neg c149) ?_; refine Eq.trans (if_neg c167) ?_; refine Eq.trans (if_pos c173) ?_; rfl) | (unfold J_X12_after; try dsimp only; rw [if_neg c7, if_neg c14, if_neg c21, if_neg c25, if_neg c29, if_neg c34, if_neg c145, if_pos c148, if_neg c149, if_neg c167, if_pos c173])) dX12_after_160
                        · have f173 : p0.toInt < v172.toInt := f_nle rfl rfl c173
                          refine lv_iconst (v := 1) hx hb dX12_after_146 (by decide) ?_
                          refine lv_goto (tgt := 151) hx hb dX12_after_147 (by decide) ?_
                          refine lv_istore (lv' := [(8, .int 1), (7, .int v6), (6, .int v5), (5, .int v3), (4, .int v1), (0, .ref (qm 0)), (1, .int p0), (2, .int p1), (3, .int p2)]) hx hb dX12_after_151 hl (by decide) rfl (fun ls hl => ?_)
                          refine lv_iload hx hb dX12_after_153 (lv_at hl 0 rfl) ?_
                          refine lv_if_ne (tgt := 161) hx hb dX12_after_155 (by decide) (fun c176 => ?_) (fun c176 => ?_)
                          · refine lv_iload_n hx hb dX12_after_161 rfl (lv_at hl 7 rfl) ?_
                            refine lv_iload hx hb dX12_after_162 (lv_at hl 4 rfl) ?_
                            refine g_ir (g_runS (wc := []) (rest := []) cx hP hD hS [] rfl (by decide) [.int p1, .int v1] (c_X12_fewer l D k b H.size p1 v1) gX12_after_X12_fewer rfl rfl rfl nd_X12_fewer ⟨Nat.le_of_ble_eq_true rfl, Nat.le_of_ble_eq_true rfl⟩ rfl hl.1 rfl (Nat.le_of_ble_eq_true rfl) ⟨Nat.zero_le _, Nat.zero_le _⟩ dX12_after_164) cx.2.2.1 hP hD hS [] rfl rfl (fun r178 H locs hw177 hP hS => ?_)
                            have w179 : r178 = J_X12_fewer p1 v1 := hw177
                            clear hw177
                            refine lv_bipush (v := 100) hx hb dX12_after_167 (by decide) ?_
                            refine lv_iload hx hb dX12_after_169 (lv_at hl 3 rfl) ?_
                            refine lv_imul hx hb dX12_after_171 (lv_topi (fun v180 e180 => ?_))
                            have t180 : v180.toInt = 100 * v3.toInt := by rw [e180]; exact i_mul (by decide) rfl (by omega) (by omega)
                            refine lv_iadd hx hb dX12_after_172 (lv_topi (fun v181 e181 => ?_))
                            refine lv_istore (lv' := [(9, .int v181), (8, .int 1), (7, .int v6), (6, .int v5), (5, .int v3), (4, .int v1), (0, .ref (qm 0)), (1, .int p0), (2, .int p1), (3, .int p2)]) hx hb dX12_after_173 hl (by decide) rfl (fun ls hl => ?_)
                            refine lv_iload hx hb dX12_after_175 (lv_at hl 0 rfl) ?_
                            refine g_ir (g_runS (wc := []) (rest := []) cx hP hD hS [] rfl (by decide) [.int v181] (c_X12_all l D k b H.size v181) gX12_after_X12_all rfl rfl rfl nd_X12_all ⟨Nat.le_of_ble_eq_true rfl, Nat.le_of_ble_eq_true rfl⟩ rfl hl.1 rfl (Nat.le_of_ble_eq_true rfl) ⟨Nat.zero_le _, Nat.zero_le _⟩ dX12_after_177) cx.2.2.1 hP hD hS [] rfl rfl (fun r183 H locs hw182 hP hS => ?_)
                            have w184 : r183 = J_X12_all v181 := hw182
                            clear hw182
                            refine lv_aload_n hx hb dX12_after_180 rfl (lv_at hl 6 rfl) ?_
                            refine g_get cx hP iw_X12_after_X12 0 rfl rfl 1 (by decide) rfl fw_X12_after_13 rfl dX12_after_181 ?_
                            refine lv_iconst (v := 1) hx hb dX12_after_184 (by decide) ?_
                            have hn185 : vp_in 1 26 := f_in (a := 1) (by decide) (by omega) (by omega)
                            refine va_iald hx hb cx.2.1 hP 2 0 rfl rfl hn185 dX12_after_185 (lv_topi (fun v186 e186 => ?_))
                            have uv186 : v186.toInt = ((sm 2) 1).toInt := congrArg Int32.toInt e186
                            refine lv_icmp_gt (tgt := 211) hx hb dX12_after_186 (by decide) (fun c187 => ?_) (fun c187 => ?_)
                            · have f187 : v186.toInt < r183.toInt := f_lt rfl rfl c187
                              refine lv_bipush (v := (-9)) hx hb dX12_after_211 (by decide) ?_
                              have hlit188 : ((-9) : Int32).toInt = -9 := by decide
                              rw [hQ]
                              exact x_i cx hr () hP hD hS (show ((-9) : Int32) = J_X12_after sm tm p0 p1 p2 from by subst e1 e2 e3 e4 e5 e6 w13 e18 e20 e144 e166 e171 e172 w179 e180 e181 w184 e186; first | (refine Eq.symm ?_; refine Eq.trans (if_neg c7) ?_; refine Eq.trans (if_neg c14) ?_; refine Eq.trans (if_neg c21) ?_; refine Eq.trans (if_neg c25) ?_; refine Eq.trans (if_neg c29) ?_; refine Eq.trans (if_neg c34) ?_; refine Eq.trans (if_neg c145) ?_; refine Eq.trans (if_pos c148) ?_; refine Eq.trans (if_neg c149) ?_; refine Eq.trans (if_neg c167) ?_; refine Eq.trans (if_neg c173) ?_; refine Eq.trans (if_pos c187) ?_; rfl) | (unfold J_X12_after; try dsimp only; rw [if_neg c7, if_neg c14, if_neg c21, if_neg c25, if_neg c29, if_neg c34, if_neg c145, if_pos c148, if_neg c149, if_neg c167, if_neg c173, if_pos c187])) dX12_after_213
                            · have f187 : r183.toInt ≤ v186.toInt := f_nlt rfl rfl c187
                              refine lv_iload hx hb dX12_after_189 (lv_at hl 3 rfl) ?_
                              refine lv_iconst (v := 1) hx hb dX12_after_191 (by decide) ?_
                              refine lv_icmp_ne (tgt := 214) hx hb dX12_after_192 (by decide) (fun c189 => ?_) (fun c189 => ?_)
                              · have f189 : ¬ v5.toInt = 1 := f_ne rfl (by decide) c189
                                refine lv_iload hx hb dX12_after_214 (lv_at hl 3 rfl) ?_
                                refine lv_iconst (v := 1) hx hb dX12_after_216 (by decide) ?_
                                refine lv_icmp_ne (tgt := 228) hx hb dX12_after_217 (by decide) (fun c190 => ?_) (fun c190 => ?_)
                                · have f190 : ¬ v5.toInt = 1 := f_ne rfl (by decide) c190
                                  refine lv_iload hx hb dX12_after_228 (lv_at hl 0 rfl) ?_
                                  rw [hQ]
                                  exact x_i cx hr () hP hD hS (show v181 = J_X12_after sm tm p0 p1 p2 from by subst e1 e2 e3 e4 e5 e6 w13 e18 e20 e144 e166 e171 e172 w179 e180 e181 w184 e186; first | (refine Eq.symm ?_; refine Eq.trans (if_neg c7) ?_; refine Eq.trans (if_neg c14) ?_; refine Eq.trans (if_neg c21) ?_; refine Eq.trans (if_neg c25) ?_; refine Eq.trans (if_neg c29) ?_; refine Eq.trans (if_neg c34) ?_; refine Eq.trans (if_neg c145) ?_; refine Eq.trans (if_pos c148) ?_; refine Eq.trans (if_neg c149) ?_; refine Eq.trans (if_neg c167) ?_; refine Eq.trans (if_neg c173) ?_; refine Eq.trans (if_neg c187) ?_; rfl) | (unfold J_X12_after; try dsimp only; rw [if_neg c7, if_neg c14, if_neg c21, if_neg c25, if_neg c29, if_neg c34, if_neg c145, if_pos c148, if_neg c149, if_neg c167, if_neg c173, if_neg c187])) dX12_after_230
                                · have f190 : v5.toInt = 1 := f_eq rfl (by decide) c190
                                  exact absurd f190 (by omega)
                              · have f189 : v5.toInt = 1 := f_eq rfl (by decide) c189
                                exact absurd f189 (by omega)
                          · exact absurd c176 (by decide)
                  · have f148 : ¬ v5.toInt = 0 := f_ne rfl (by decide) c148
                    refine lv_aload_n hx hb dX12_after_106 rfl (lv_at hl 5 rfl) ?_
                    refine g_get cx hP iw_X12_after_X12 0 rfl rfl 1 (by decide) rfl fw_X12_after_13 rfl dX12_after_107 ?_
                    refine lv_iconst (v := 5) hx hb dX12_after_110 (by decide) ?_
                    have hn191 : vp_in 5 26 := f_in (a := 5) (by decide) (by omega) (by omega)
                    refine va_iald hx hb cx.2.1 hP 2 0 rfl rfl hn191 dX12_after_111 (lv_topi (fun v192 e192 => ?_))
                    have uv192 : v192.toInt = ((sm 2) 5).toInt := congrArg Int32.toInt e192
                    refine lv_bipush (v := (-9)) hx hb dX12_after_112 (by decide) ?_
                    refine lv_icmp_eq (tgt := 150) hx hb dX12_after_114 (by decide) (fun c193 => ?_) (fun c193 => ?_)
                    · have f193 : v192.toInt = (-9) := f_eq rfl (by decide) c193
                      refine lv_iconst (v := 0) hx hb dX12_after_150 (by decide) ?_
                      refine lv_istore (lv' := [(8, .int 0), (7, .int v6), (6, .int v5), (5, .int v3), (4, .int v1), (0, .ref (qm 0)), (1, .int p0), (2, .int p1), (3, .int p2)]) hx hb dX12_after_151 hl (by decide) rfl (fun ls hl => ?_)
                      refine lv_iload hx hb dX12_after_153 (lv_at hl 0 rfl) ?_
                      refine lv_if_ne (tgt := 161) hx hb dX12_after_155 (by decide) (fun c194 => ?_) (fun c194 => ?_)
                      · exact absurd c194 (by decide)
                      · refine lv_bipush (v := (-9)) hx hb dX12_after_158 (by decide) ?_
                        have hlit195 : ((-9) : Int32).toInt = -9 := by decide
                        rw [hQ]
                        exact x_i cx hr () hP hD hS (show ((-9) : Int32) = J_X12_after sm tm p0 p1 p2 from by subst e1 e2 e3 e4 e5 e6 w13 e18 e20 e144 e192; first | (refine Eq.symm ?_; refine Eq.trans (if_neg c7) ?_; refine Eq.trans (if_neg c14) ?_; refine Eq.trans (if_neg c21) ?_; refine Eq.trans (if_neg c25) ?_; refine Eq.trans (if_neg c29) ?_; refine Eq.trans (if_neg c34) ?_; refine Eq.trans (if_neg c145) ?_; refine Eq.trans (if_neg c148) ?_; refine Eq.trans (if_pos c193) ?_; rfl) | (unfold J_X12_after; try dsimp only; rw [if_neg c7, if_neg c14, if_neg c21, if_neg c25, if_neg c29, if_neg c34, if_neg c145, if_neg c148, if_pos c193])) dX12_after_160
                    · have f193 : ¬ v192.toInt = (-9) := f_ne rfl (by decide) c193
                      refine lv_iload hx hb dX12_after_117 (lv_at hl 1 rfl) ?_
                      refine lv_if_eq (tgt := 146) hx hb dX12_after_119 (by decide) (fun c196 => ?_) (fun c196 => ?_)
                      · have f196 : v6.toInt = 0 := f_eq rfl (by decide) c196
                        refine lv_iconst (v := 1) hx hb dX12_after_146 (by decide) ?_
                        refine lv_goto (tgt := 151) hx hb dX12_after_147 (by decide) ?_
                        refine lv_istore (lv' := [(8, .int 1), (7, .int v6), (6, .int v5), (5, .int v3), (4, .int v1), (0, .ref (qm 0)), (1, .int p0), (2, .int p1), (3, .int p2)]) hx hb dX12_after_151 hl (by decide) rfl (fun ls hl => ?_)
                        refine lv_iload hx hb dX12_after_153 (lv_at hl 0 rfl) ?_
                        refine lv_if_ne (tgt := 161) hx hb dX12_after_155 (by decide) (fun c197 => ?_) (fun c197 => ?_)
                        · refine lv_iload_n hx hb dX12_after_161 rfl (lv_at hl 7 rfl) ?_
                          refine lv_iload hx hb dX12_after_162 (lv_at hl 4 rfl) ?_
                          refine g_ir (g_runS (wc := []) (rest := []) cx hP hD hS [] rfl (by decide) [.int p1, .int v1] (c_X12_fewer l D k b H.size p1 v1) gX12_after_X12_fewer rfl rfl rfl nd_X12_fewer ⟨Nat.le_of_ble_eq_true rfl, Nat.le_of_ble_eq_true rfl⟩ rfl hl.1 rfl (Nat.le_of_ble_eq_true rfl) ⟨Nat.zero_le _, Nat.zero_le _⟩ dX12_after_164) cx.2.2.1 hP hD hS [] rfl rfl (fun r199 H locs hw198 hP hS => ?_)
                          have w200 : r199 = J_X12_fewer p1 v1 := hw198
                          clear hw198
                          refine lv_bipush (v := 100) hx hb dX12_after_167 (by decide) ?_
                          refine lv_iload hx hb dX12_after_169 (lv_at hl 3 rfl) ?_
                          refine lv_imul hx hb dX12_after_171 (lv_topi (fun v201 e201 => ?_))
                          have t201 : v201.toInt = 100 * v3.toInt := by rw [e201]; exact i_mul (by decide) rfl (by omega) (by omega)
                          refine lv_iadd hx hb dX12_after_172 (lv_topi (fun v202 e202 => ?_))
                          refine lv_istore (lv' := [(9, .int v202), (8, .int 1), (7, .int v6), (6, .int v5), (5, .int v3), (4, .int v1), (0, .ref (qm 0)), (1, .int p0), (2, .int p1), (3, .int p2)]) hx hb dX12_after_173 hl (by decide) rfl (fun ls hl => ?_)
                          refine lv_iload hx hb dX12_after_175 (lv_at hl 0 rfl) ?_
                          refine g_ir (g_runS (wc := []) (rest := []) cx hP hD hS [] rfl (by decide) [.int v202] (c_X12_all l D k b H.size v202) gX12_after_X12_all rfl rfl rfl nd_X12_all ⟨Nat.le_of_ble_eq_true rfl, Nat.le_of_ble_eq_true rfl⟩ rfl hl.1 rfl (Nat.le_of_ble_eq_true rfl) ⟨Nat.zero_le _, Nat.zero_le _⟩ dX12_after_177) cx.2.2.1 hP hD hS [] rfl rfl (fun r204 H locs hw203 hP hS => ?_)
                          have w205 : r204 = J_X12_all v202 := hw203
                          clear hw203
                          refine lv_aload_n hx hb dX12_after_180 rfl (lv_at hl 6 rfl) ?_
                          refine g_get cx hP iw_X12_after_X12 0 rfl rfl 1 (by decide) rfl fw_X12_after_13 rfl dX12_after_181 ?_
                          refine lv_iconst (v := 1) hx hb dX12_after_184 (by decide) ?_
                          have hn206 : vp_in 1 26 := f_in (a := 1) (by decide) (by omega) (by omega)
                          refine va_iald hx hb cx.2.1 hP 2 0 rfl rfl hn206 dX12_after_185 (lv_topi (fun v207 e207 => ?_))
                          have uv207 : v207.toInt = ((sm 2) 1).toInt := congrArg Int32.toInt e207
                          refine lv_icmp_gt (tgt := 211) hx hb dX12_after_186 (by decide) (fun c208 => ?_) (fun c208 => ?_)
                          · have f208 : v207.toInt < r204.toInt := f_lt rfl rfl c208
                            refine lv_bipush (v := (-9)) hx hb dX12_after_211 (by decide) ?_
                            have hlit209 : ((-9) : Int32).toInt = -9 := by decide
                            rw [hQ]
                            exact x_i cx hr () hP hD hS (show ((-9) : Int32) = J_X12_after sm tm p0 p1 p2 from by subst e1 e2 e3 e4 e5 e6 w13 e18 e20 e144 e192 w200 e201 e202 w205 e207; first | (refine Eq.symm ?_; refine Eq.trans (if_neg c7) ?_; refine Eq.trans (if_neg c14) ?_; refine Eq.trans (if_neg c21) ?_; refine Eq.trans (if_neg c25) ?_; refine Eq.trans (if_neg c29) ?_; refine Eq.trans (if_neg c34) ?_; refine Eq.trans (if_neg c145) ?_; refine Eq.trans (if_neg c148) ?_; refine Eq.trans (if_neg c193) ?_; refine Eq.trans (if_pos c196) ?_; refine Eq.trans (if_pos c208) ?_; rfl) | (unfold J_X12_after; try dsimp only; rw [if_neg c7, if_neg c14, if_neg c21, if_neg c25, if_neg c29, if_neg c34, if_neg c145, if_neg c148, if_neg c193, if_pos c196, if_pos c208])) dX12_after_213
                          · have f208 : r204.toInt ≤ v207.toInt := f_nlt rfl rfl c208
                            refine lv_iload hx hb dX12_after_189 (lv_at hl 3 rfl) ?_
                            refine lv_iconst (v := 1) hx hb dX12_after_191 (by decide) ?_
                            refine lv_icmp_ne (tgt := 214) hx hb dX12_after_192 (by decide) (fun c210 => ?_) (fun c210 => ?_)
                            · have f210 : ¬ v5.toInt = 1 := f_ne rfl (by decide) c210
                              refine lv_iload hx hb dX12_after_214 (lv_at hl 3 rfl) ?_
                              refine lv_iconst (v := 1) hx hb dX12_after_216 (by decide) ?_
                              refine lv_icmp_ne (tgt := 228) hx hb dX12_after_217 (by decide) (fun c211 => ?_) (fun c211 => ?_)
                              · have f211 : ¬ v5.toInt = 1 := f_ne rfl (by decide) c211
                                refine lv_iload hx hb dX12_after_228 (lv_at hl 0 rfl) ?_
                                rw [hQ]
                                exact x_i cx hr () hP hD hS (show v202 = J_X12_after sm tm p0 p1 p2 from by subst e1 e2 e3 e4 e5 e6 w13 e18 e20 e144 e192 w200 e201 e202 w205 e207; first | (refine Eq.symm ?_; refine Eq.trans (if_neg c7) ?_; refine Eq.trans (if_neg c14) ?_; refine Eq.trans (if_neg c21) ?_; refine Eq.trans (if_neg c25) ?_; refine Eq.trans (if_neg c29) ?_; refine Eq.trans (if_neg c34) ?_; refine Eq.trans (if_neg c145) ?_; refine Eq.trans (if_neg c148) ?_; refine Eq.trans (if_neg c193) ?_; refine Eq.trans (if_pos c196) ?_; refine Eq.trans (if_neg c208) ?_; refine Eq.trans (if_neg c210) ?_; refine Eq.trans (if_neg c211) ?_; rfl) | (unfold J_X12_after; try dsimp only; rw [if_neg c7, if_neg c14, if_neg c21, if_neg c25, if_neg c29, if_neg c34, if_neg c145, if_neg c148, if_neg c193, if_pos c196, if_neg c208, if_neg c210, if_neg c211])) dX12_after_230
                              · have f211 : v5.toInt = 1 := f_eq rfl (by decide) c211
                                refine lv_iload hx hb dX12_after_220 (lv_at hl 0 rfl) ?_
                                refine lv_bipush (v := 90) hx hb dX12_after_222 (by decide) ?_
                                refine lv_isub hx hb dX12_after_224 (lv_topi (fun v212 e212 => ?_))
                                refine lv_goto (tgt := 230) hx hb dX12_after_225 (by decide) ?_
                                rw [hQ]
                                exact x_i cx hr () hP hD hS (show v212 = J_X12_after sm tm p0 p1 p2 from by subst e1 e2 e3 e4 e5 e6 w13 e18 e20 e144 e192 w200 e201 e202 w205 e207 e212; first | (refine Eq.symm ?_; refine Eq.trans (if_neg c7) ?_; refine Eq.trans (if_neg c14) ?_; refine Eq.trans (if_neg c21) ?_; refine Eq.trans (if_neg c25) ?_; refine Eq.trans (if_neg c29) ?_; refine Eq.trans (if_neg c34) ?_; refine Eq.trans (if_neg c145) ?_; refine Eq.trans (if_neg c148) ?_; refine Eq.trans (if_neg c193) ?_; refine Eq.trans (if_pos c196) ?_; refine Eq.trans (if_neg c208) ?_; refine Eq.trans (if_neg c210) ?_; refine Eq.trans (if_pos c211) ?_; rfl) | (unfold J_X12_after; try dsimp only; rw [if_neg c7, if_neg c14, if_neg c21, if_neg c25, if_neg c29, if_neg c34, if_neg c145, if_neg c148, if_neg c193, if_pos c196, if_neg c208, if_neg c210, if_pos c211])) dX12_after_230
                            · have f210 : v5.toInt = 1 := f_eq rfl (by decide) c210
                              refine lv_iload hx hb dX12_after_195 (lv_at hl 0 rfl) ?_
                              refine lv_bipush (v := 100) hx hb dX12_after_197 (by decide) ?_
                              refine lv_idiv hx hb dX12_after_199 (by decide) (lv_topi (fun v213 e213 => ?_))
                              refine lv_if_eq (tgt := 211) hx hb dX12_after_200 (by decide) (fun c214 => ?_) (fun c214 => ?_)
                              · have f214 : v213.toInt = 0 := f_eq rfl (by decide) c214
                                refine lv_bipush (v := (-9)) hx hb dX12_after_211 (by decide) ?_
                                have hlit215 : ((-9) : Int32).toInt = -9 := by decide
                                rw [hQ]
                                exact x_i cx hr () hP hD hS (show ((-9) : Int32) = J_X12_after sm tm p0 p1 p2 from by subst e1 e2 e3 e4 e5 e6 w13 e18 e20 e144 e192 w200 e201 e202 w205 e207 e213; first | (refine Eq.symm ?_; refine Eq.trans (if_neg c7) ?_; refine Eq.trans (if_neg c14) ?_; refine Eq.trans (if_neg c21) ?_; refine Eq.trans (if_neg c25) ?_; refine Eq.trans (if_neg c29) ?_; refine Eq.trans (if_neg c34) ?_; refine Eq.trans (if_neg c145) ?_; refine Eq.trans (if_neg c148) ?_; refine Eq.trans (if_neg c193) ?_; refine Eq.trans (if_pos c196) ?_; refine Eq.trans (if_neg c208) ?_; refine Eq.trans (if_pos c210) ?_; refine Eq.trans (if_pos c214) ?_; rfl) | (unfold J_X12_after; try dsimp only; rw [if_neg c7, if_neg c14, if_neg c21, if_neg c25, if_neg c29, if_neg c34, if_neg c145, if_neg c148, if_neg c193, if_pos c196, if_neg c208, if_pos c210, if_pos c214])) dX12_after_213
                              · have f214 : ¬ v213.toInt = 0 := f_ne rfl (by decide) c214
                                refine lv_iload hx hb dX12_after_203 (lv_at hl 0 rfl) ?_
                                refine lv_bipush (v := 10) hx hb dX12_after_205 (by decide) ?_
                                refine lv_irem hx hb dX12_after_207 (by decide) (lv_topi (fun v216 e216 => ?_))
                                have t216 : -10 < v216.toInt ∧ v216.toInt < 10 := by rw [e216]; exact i_remb (by decide) (by decide)
                                refine lv_if_ne (tgt := 214) hx hb dX12_after_208 (by decide) (fun c217 => ?_) (fun c217 => ?_)
                                · have f217 : ¬ v216.toInt = 0 := f_ne rfl (by decide) c217
                                  refine lv_iload hx hb dX12_after_214 (lv_at hl 3 rfl) ?_
                                  refine lv_iconst (v := 1) hx hb dX12_after_216 (by decide) ?_
                                  refine lv_icmp_ne (tgt := 228) hx hb dX12_after_217 (by decide) (fun c218 => ?_) (fun c218 => ?_)
                                  · have f218 : ¬ v5.toInt = 1 := f_ne rfl (by decide) c218
                                    exact absurd f218 (by omega)
                                  · have f218 : v5.toInt = 1 := f_eq rfl (by decide) c218
                                    refine lv_iload hx hb dX12_after_220 (lv_at hl 0 rfl) ?_
                                    refine lv_bipush (v := 90) hx hb dX12_after_222 (by decide) ?_
                                    refine lv_isub hx hb dX12_after_224 (lv_topi (fun v219 e219 => ?_))
                                    refine lv_goto (tgt := 230) hx hb dX12_after_225 (by decide) ?_
                                    rw [hQ]
                                    exact x_i cx hr () hP hD hS (show v219 = J_X12_after sm tm p0 p1 p2 from by subst e1 e2 e3 e4 e5 e6 w13 e18 e20 e144 e192 w200 e201 e202 w205 e207 e213 e216 e219; first | (refine Eq.symm ?_; refine Eq.trans (if_neg c7) ?_; refine Eq.trans (if_neg c14) ?_; refine Eq.trans (if_neg c21) ?_; refine Eq.trans (if_neg c25) ?_; refine Eq.trans (if_neg c29) ?_; refine Eq.trans (if_neg c34) ?_; refine Eq.trans (if_neg c145) ?_; refine Eq.trans (if_neg c148) ?_; refine Eq.trans (if_neg c193) ?_; refine Eq.trans (if_pos c196) ?_; refine Eq.trans (if_neg c208) ?_; refine Eq.trans (if_pos c210) ?_; refine Eq.trans (if_neg c214) ?_; refine Eq.trans (if_neg c217) ?_; rfl) | (unfold J_X12_after; try dsimp only; rw [if_neg c7, if_neg c14, if_neg c21, if_neg c25, if_neg c29, if_neg c34, if_neg c145, if_neg c148, if_neg c193, if_pos c196, if_neg c208, if_pos c210, if_neg c214, if_neg c217])) dX12_after_230
                                · have f217 : v216.toInt = 0 := f_eq rfl (by decide) c217
                                  refine lv_bipush (v := (-9)) hx hb dX12_after_211 (by decide) ?_
                                  have hlit220 : ((-9) : Int32).toInt = -9 := by decide
                                  rw [hQ]
                                  exact x_i cx hr () hP hD hS (show ((-9) : Int32) = J_X12_after sm tm p0 p1 p2 from by subst e1 e2 e3 e4 e5 e6 w13 e18 e20 e144 e192 w200 e201 e202 w205 e207 e213 e216; first | (refine Eq.symm ?_; refine Eq.trans (if_neg c7) ?_; refine Eq.trans (if_neg c14) ?_; refine Eq.trans (if_neg c21) ?_; refine Eq.trans (if_neg c25) ?_; refine Eq.trans (if_neg c29) ?_; refine Eq.trans (if_neg c34) ?_; refine Eq.trans (if_neg c145) ?_; refine Eq.trans (if_neg c148) ?_; refine Eq.trans (if_neg c193) ?_; refine Eq.trans (if_pos c196) ?_; refine Eq.trans (if_neg c208) ?_; refine Eq.trans (if_pos c210) ?_; refine Eq.trans (if_neg c214) ?_; refine Eq.trans (if_pos c217) ?_; rfl) | (unfold J_X12_after; try dsimp only; rw [if_neg c7, if_neg c14, if_neg c21, if_neg c25, if_neg c29, if_neg c34, if_neg c145, if_neg c148, if_neg c193, if_pos c196, if_neg c208, if_pos c210, if_neg c214, if_pos c217])) dX12_after_213
                        · exact absurd c197 (by decide)
                      · have f196 : ¬ v6.toInt = 0 := f_ne rfl (by decide) c196
                        refine lv_aload_n hx hb dX12_after_122 rfl (lv_at hl 5 rfl) ?_
                        refine g_get cx hP iw_X12_after_X12 0 rfl rfl 1 (by decide) rfl fw_X12_after_13 rfl dX12_after_123 ?_
                        refine lv_bipush (v := 6) hx hb dX12_after_126 (by decide) ?_
                        have hn221 : vp_in 6 26 := f_in (a := 6) (by decide) (by omega) (by omega)
                        refine va_iald hx hb cx.2.1 hP 2 0 rfl rfl hn221 dX12_after_128 (lv_topi (fun v222 e222 => ?_))
                        have uv222 : v222.toInt = ((sm 2) 6).toInt := congrArg Int32.toInt e222
                        refine lv_bipush (v := (-9)) hx hb dX12_after_129 (by decide) ?_
                        refine lv_icmp_eq (tgt := 150) hx hb dX12_after_131 (by decide) (fun c223 => ?_) (fun c223 => ?_)
                        · have f223 : v222.toInt = (-9) := f_eq rfl (by decide) c223
                          refine lv_iconst (v := 0) hx hb dX12_after_150 (by decide) ?_
                          refine lv_istore (lv' := [(8, .int 0), (7, .int v6), (6, .int v5), (5, .int v3), (4, .int v1), (0, .ref (qm 0)), (1, .int p0), (2, .int p1), (3, .int p2)]) hx hb dX12_after_151 hl (by decide) rfl (fun ls hl => ?_)
                          refine lv_iload hx hb dX12_after_153 (lv_at hl 0 rfl) ?_
                          refine lv_if_ne (tgt := 161) hx hb dX12_after_155 (by decide) (fun c224 => ?_) (fun c224 => ?_)
                          · exact absurd c224 (by decide)
                          · refine lv_bipush (v := (-9)) hx hb dX12_after_158 (by decide) ?_
                            have hlit225 : ((-9) : Int32).toInt = -9 := by decide
                            rw [hQ]
                            exact x_i cx hr () hP hD hS (show ((-9) : Int32) = J_X12_after sm tm p0 p1 p2 from by subst e1 e2 e3 e4 e5 e6 w13 e18 e20 e144 e192 e222; first | (refine Eq.symm ?_; refine Eq.trans (if_neg c7) ?_; refine Eq.trans (if_neg c14) ?_; refine Eq.trans (if_neg c21) ?_; refine Eq.trans (if_neg c25) ?_; refine Eq.trans (if_neg c29) ?_; refine Eq.trans (if_neg c34) ?_; refine Eq.trans (if_neg c145) ?_; refine Eq.trans (if_neg c148) ?_; refine Eq.trans (if_neg c193) ?_; refine Eq.trans (if_neg c196) ?_; refine Eq.trans (if_pos c223) ?_; rfl) | (unfold J_X12_after; try dsimp only; rw [if_neg c7, if_neg c14, if_neg c21, if_neg c25, if_neg c29, if_neg c34, if_neg c145, if_neg c148, if_neg c193, if_neg c196, if_pos c223])) dX12_after_160
                        · have f223 : ¬ v222.toInt = (-9) := f_ne rfl (by decide) c223
                          refine lv_iload_n hx hb dX12_after_134 rfl (lv_at hl 6 rfl) ?_
                          refine lv_aload_n hx hb dX12_after_135 rfl (lv_at hl 5 rfl) ?_
                          refine g_get cx hP iw_X12_after_X12 0 rfl rfl 1 (by decide) rfl fw_X12_after_13 rfl dX12_after_136 ?_
                          refine lv_iconst (v := 0) hx hb dX12_after_139 (by decide) ?_
                          have hn226 : vp_in 0 26 := f_in (a := 0) (by decide) (by omega) (by omega)
                          refine va_iald hx hb cx.2.1 hP 2 0 rfl rfl hn226 dX12_after_140 (lv_topi (fun v227 e227 => ?_))
                          have uv227 : v227.toInt = ((sm 2) 0).toInt := congrArg Int32.toInt e227
                          have t227 : 0 ≤ v227.toInt ∧ v227.toInt ≤ 5 := by rw [e227]; exact h_w0
                          refine lv_iconst (v := 1) hx hb dX12_after_141 (by decide) ?_
                          refine lv_isub hx hb dX12_after_142 (lv_topi (fun v228 e228 => ?_))
                          have t228 : v228.toInt = v227.toInt - 1 := by rw [e228]; exact i_sub rfl (by decide) (by omega) (by omega)
                          refine lv_icmp_ge (tgt := 150) hx hb dX12_after_143 (by decide) (fun c229 => ?_) (fun c229 => ?_)
                          · have f229 : v228.toInt ≤ p0.toInt := f_le rfl rfl c229
                            refine lv_iconst (v := 0) hx hb dX12_after_150 (by decide) ?_
                            refine lv_istore (lv' := [(8, .int 0), (7, .int v6), (6, .int v5), (5, .int v3), (4, .int v1), (0, .ref (qm 0)), (1, .int p0), (2, .int p1), (3, .int p2)]) hx hb dX12_after_151 hl (by decide) rfl (fun ls hl => ?_)
                            refine lv_iload hx hb dX12_after_153 (lv_at hl 0 rfl) ?_
                            refine lv_if_ne (tgt := 161) hx hb dX12_after_155 (by decide) (fun c230 => ?_) (fun c230 => ?_)
                            · exact absurd c230 (by decide)
                            · refine lv_bipush (v := (-9)) hx hb dX12_after_158 (by decide) ?_
                              have hlit231 : ((-9) : Int32).toInt = -9 := by decide
                              rw [hQ]
                              exact x_i cx hr () hP hD hS (show ((-9) : Int32) = J_X12_after sm tm p0 p1 p2 from by subst e1 e2 e3 e4 e5 e6 w13 e18 e20 e144 e192 e222 e227 e228; first | (refine Eq.symm ?_; refine Eq.trans (if_neg c7) ?_; refine Eq.trans (if_neg c14) ?_; refine Eq.trans (if_neg c21) ?_; refine Eq.trans (if_neg c25) ?_; refine Eq.trans (if_neg c29) ?_; refine Eq.trans (if_neg c34) ?_; refine Eq.trans (if_neg c145) ?_; refine Eq.trans (if_neg c148) ?_; refine Eq.trans (if_neg c193) ?_; refine Eq.trans (if_neg c196) ?_; refine Eq.trans (if_neg c223) ?_; refine Eq.trans (if_pos c229) ?_; rfl) | (unfold J_X12_after; try dsimp only; rw [if_neg c7, if_neg c14, if_neg c21, if_neg c25, if_neg c29, if_neg c34, if_neg c145, if_neg c148, if_neg c193, if_neg c196, if_neg c223, if_pos c229])) dX12_after_160
                          · have f229 : p0.toInt < v228.toInt := f_nle rfl rfl c229
                            refine lv_iconst (v := 1) hx hb dX12_after_146 (by decide) ?_
                            refine lv_goto (tgt := 151) hx hb dX12_after_147 (by decide) ?_
                            refine lv_istore (lv' := [(8, .int 1), (7, .int v6), (6, .int v5), (5, .int v3), (4, .int v1), (0, .ref (qm 0)), (1, .int p0), (2, .int p1), (3, .int p2)]) hx hb dX12_after_151 hl (by decide) rfl (fun ls hl => ?_)
                            refine lv_iload hx hb dX12_after_153 (lv_at hl 0 rfl) ?_
                            refine lv_if_ne (tgt := 161) hx hb dX12_after_155 (by decide) (fun c232 => ?_) (fun c232 => ?_)
                            · refine lv_iload_n hx hb dX12_after_161 rfl (lv_at hl 7 rfl) ?_
                              refine lv_iload hx hb dX12_after_162 (lv_at hl 4 rfl) ?_
                              refine g_ir (g_runS (wc := []) (rest := []) cx hP hD hS [] rfl (by decide) [.int p1, .int v1] (c_X12_fewer l D k b H.size p1 v1) gX12_after_X12_fewer rfl rfl rfl nd_X12_fewer ⟨Nat.le_of_ble_eq_true rfl, Nat.le_of_ble_eq_true rfl⟩ rfl hl.1 rfl (Nat.le_of_ble_eq_true rfl) ⟨Nat.zero_le _, Nat.zero_le _⟩ dX12_after_164) cx.2.2.1 hP hD hS [] rfl rfl (fun r234 H locs hw233 hP hS => ?_)
                              have w235 : r234 = J_X12_fewer p1 v1 := hw233
                              clear hw233
                              refine lv_bipush (v := 100) hx hb dX12_after_167 (by decide) ?_
                              refine lv_iload hx hb dX12_after_169 (lv_at hl 3 rfl) ?_
                              refine lv_imul hx hb dX12_after_171 (lv_topi (fun v236 e236 => ?_))
                              have t236 : v236.toInt = 100 * v3.toInt := by rw [e236]; exact i_mul (by decide) rfl (by omega) (by omega)
                              refine lv_iadd hx hb dX12_after_172 (lv_topi (fun v237 e237 => ?_))
                              refine lv_istore (lv' := [(9, .int v237), (8, .int 1), (7, .int v6), (6, .int v5), (5, .int v3), (4, .int v1), (0, .ref (qm 0)), (1, .int p0), (2, .int p1), (3, .int p2)]) hx hb dX12_after_173 hl (by decide) rfl (fun ls hl => ?_)
                              refine lv_iload hx hb dX12_after_175 (lv_at hl 0 rfl) ?_
                              refine g_ir (g_runS (wc := []) (rest := []) cx hP hD hS [] rfl (by decide) [.int v237] (c_X12_all l D k b H.size v237) gX12_after_X12_all rfl rfl rfl nd_X12_all ⟨Nat.le_of_ble_eq_true rfl, Nat.le_of_ble_eq_true rfl⟩ rfl hl.1 rfl (Nat.le_of_ble_eq_true rfl) ⟨Nat.zero_le _, Nat.zero_le _⟩ dX12_after_177) cx.2.2.1 hP hD hS [] rfl rfl (fun r239 H locs hw238 hP hS => ?_)
                              have w240 : r239 = J_X12_all v237 := hw238
                              clear hw238
                              refine lv_aload_n hx hb dX12_after_180 rfl (lv_at hl 6 rfl) ?_
                              refine g_get cx hP iw_X12_after_X12 0 rfl rfl 1 (by decide) rfl fw_X12_after_13 rfl dX12_after_181 ?_
                              refine lv_iconst (v := 1) hx hb dX12_after_184 (by decide) ?_
                              have hn241 : vp_in 1 26 := f_in (a := 1) (by decide) (by omega) (by omega)
                              refine va_iald hx hb cx.2.1 hP 2 0 rfl rfl hn241 dX12_after_185 (lv_topi (fun v242 e242 => ?_))
                              have uv242 : v242.toInt = ((sm 2) 1).toInt := congrArg Int32.toInt e242
                              refine lv_icmp_gt (tgt := 211) hx hb dX12_after_186 (by decide) (fun c243 => ?_) (fun c243 => ?_)
                              · have f243 : v242.toInt < r239.toInt := f_lt rfl rfl c243
                                refine lv_bipush (v := (-9)) hx hb dX12_after_211 (by decide) ?_
                                have hlit244 : ((-9) : Int32).toInt = -9 := by decide
                                rw [hQ]
                                exact x_i cx hr () hP hD hS (show ((-9) : Int32) = J_X12_after sm tm p0 p1 p2 from by subst e1 e2 e3 e4 e5 e6 w13 e18 e20 e144 e192 e222 e227 e228 w235 e236 e237 w240 e242; first | (refine Eq.symm ?_; refine Eq.trans (if_neg c7) ?_; refine Eq.trans (if_neg c14) ?_; refine Eq.trans (if_neg c21) ?_; refine Eq.trans (if_neg c25) ?_; refine Eq.trans (if_neg c29) ?_; refine Eq.trans (if_neg c34) ?_; refine Eq.trans (if_neg c145) ?_; refine Eq.trans (if_neg c148) ?_; refine Eq.trans (if_neg c193) ?_; refine Eq.trans (if_neg c196) ?_; refine Eq.trans (if_neg c223) ?_; refine Eq.trans (if_neg c229) ?_; refine Eq.trans (if_pos c243) ?_; rfl) | (unfold J_X12_after; try dsimp only; rw [if_neg c7, if_neg c14, if_neg c21, if_neg c25, if_neg c29, if_neg c34, if_neg c145, if_neg c148, if_neg c193, if_neg c196, if_neg c223, if_neg c229, if_pos c243])) dX12_after_213
                              · have f243 : r239.toInt ≤ v242.toInt := f_nlt rfl rfl c243
                                refine lv_iload hx hb dX12_after_189 (lv_at hl 3 rfl) ?_
                                refine lv_iconst (v := 1) hx hb dX12_after_191 (by decide) ?_
                                refine lv_icmp_ne (tgt := 214) hx hb dX12_after_192 (by decide) (fun c245 => ?_) (fun c245 => ?_)
                                · have f245 : ¬ v5.toInt = 1 := f_ne rfl (by decide) c245
                                  refine lv_iload hx hb dX12_after_214 (lv_at hl 3 rfl) ?_
                                  refine lv_iconst (v := 1) hx hb dX12_after_216 (by decide) ?_
                                  refine lv_icmp_ne (tgt := 228) hx hb dX12_after_217 (by decide) (fun c246 => ?_) (fun c246 => ?_)
                                  · have f246 : ¬ v5.toInt = 1 := f_ne rfl (by decide) c246
                                    refine lv_iload hx hb dX12_after_228 (lv_at hl 0 rfl) ?_
                                    rw [hQ]
                                    exact x_i cx hr () hP hD hS (show v237 = J_X12_after sm tm p0 p1 p2 from by subst e1 e2 e3 e4 e5 e6 w13 e18 e20 e144 e192 e222 e227 e228 w235 e236 e237 w240 e242; first | (refine Eq.symm ?_; refine Eq.trans (if_neg c7) ?_; refine Eq.trans (if_neg c14) ?_; refine Eq.trans (if_neg c21) ?_; refine Eq.trans (if_neg c25) ?_; refine Eq.trans (if_neg c29) ?_; refine Eq.trans (if_neg c34) ?_; refine Eq.trans (if_neg c145) ?_; refine Eq.trans (if_neg c148) ?_; refine Eq.trans (if_neg c193) ?_; refine Eq.trans (if_neg c196) ?_; refine Eq.trans (if_neg c223) ?_; refine Eq.trans (if_neg c229) ?_; refine Eq.trans (if_neg c243) ?_; refine Eq.trans (if_neg c245) ?_; refine Eq.trans (if_neg c246) ?_; rfl) | (unfold J_X12_after; try dsimp only; rw [if_neg c7, if_neg c14, if_neg c21, if_neg c25, if_neg c29, if_neg c34, if_neg c145, if_neg c148, if_neg c193, if_neg c196, if_neg c223, if_neg c229, if_neg c243, if_neg c245, if_neg c246])) dX12_after_230
                                  · have f246 : v5.toInt = 1 := f_eq rfl (by decide) c246
                                    refine lv_iload hx hb dX12_after_220 (lv_at hl 0 rfl) ?_
                                    refine lv_bipush (v := 90) hx hb dX12_after_222 (by decide) ?_
                                    refine lv_isub hx hb dX12_after_224 (lv_topi (fun v247 e247 => ?_))
                                    refine lv_goto (tgt := 230) hx hb dX12_after_225 (by decide) ?_
                                    rw [hQ]
                                    exact x_i cx hr () hP hD hS (show v247 = J_X12_after sm tm p0 p1 p2 from by subst e1 e2 e3 e4 e5 e6 w13 e18 e20 e144 e192 e222 e227 e228 w235 e236 e237 w240 e242 e247; first | (refine Eq.symm ?_; refine Eq.trans (if_neg c7) ?_; refine Eq.trans (if_neg c14) ?_; refine Eq.trans (if_neg c21) ?_; refine Eq.trans (if_neg c25) ?_; refine Eq.trans (if_neg c29) ?_; refine Eq.trans (if_neg c34) ?_; refine Eq.trans (if_neg c145) ?_; refine Eq.trans (if_neg c148) ?_; refine Eq.trans (if_neg c193) ?_; refine Eq.trans (if_neg c196) ?_; refine Eq.trans (if_neg c223) ?_; refine Eq.trans (if_neg c229) ?_; refine Eq.trans (if_neg c243) ?_; refine Eq.trans (if_neg c245) ?_; refine Eq.trans (if_pos c246) ?_; rfl) | (unfold J_X12_after; try dsimp only; rw [if_neg c7, if_neg c14, if_neg c21, if_neg c25, if_neg c29, if_neg c34, if_neg c145, if_neg c148, if_neg c193, if_neg c196, if_neg c223, if_neg c229, if_neg c243, if_neg c245, if_pos c246])) dX12_after_230
                                · have f245 : v5.toInt = 1 := f_eq rfl (by decide) c245
                                  refine lv_iload hx hb dX12_after_195 (lv_at hl 0 rfl) ?_
                                  refine lv_bipush (v := 100) hx hb dX12_after_197 (by decide) ?_
                                  refine lv_idiv hx hb dX12_after_199 (by decide) (lv_topi (fun v248 e248 => ?_))
                                  refine lv_if_eq (tgt := 211) hx hb dX12_after_200 (by decide) (fun c249 => ?_) (fun c249 => ?_)
                                  · have f249 : v248.toInt = 0 := f_eq rfl (by decide) c249
                                    refine lv_bipush (v := (-9)) hx hb dX12_after_211 (by decide) ?_
                                    have hlit250 : ((-9) : Int32).toInt = -9 := by decide
                                    rw [hQ]
                                    exact x_i cx hr () hP hD hS (show ((-9) : Int32) = J_X12_after sm tm p0 p1 p2 from by subst e1 e2 e3 e4 e5 e6 w13 e18 e20 e144 e192 e222 e227 e228 w235 e236 e237 w240 e242 e248; first | (refine Eq.symm ?_; refine Eq.trans (if_neg c7) ?_; refine Eq.trans (if_neg c14) ?_; refine Eq.trans (if_neg c21) ?_; refine Eq.trans (if_neg c25) ?_; refine Eq.trans (if_neg c29) ?_; refine Eq.trans (if_neg c34) ?_; refine Eq.trans (if_neg c145) ?_; refine Eq.trans (if_neg c148) ?_; refine Eq.trans (if_neg c193) ?_; refine Eq.trans (if_neg c196) ?_; refine Eq.trans (if_neg c223) ?_; refine Eq.trans (if_neg c229) ?_; refine Eq.trans (if_neg c243) ?_; refine Eq.trans (if_pos c245) ?_; refine Eq.trans (if_pos c249) ?_; rfl) | (unfold J_X12_after; try dsimp only; rw [if_neg c7, if_neg c14, if_neg c21, if_neg c25, if_neg c29, if_neg c34, if_neg c145, if_neg c148, if_neg c193, if_neg c196, if_neg c223, if_neg c229, if_neg c243, if_pos c245, if_pos c249])) dX12_after_213
                                  · have f249 : ¬ v248.toInt = 0 := f_ne rfl (by decide) c249
                                    refine lv_iload hx hb dX12_after_203 (lv_at hl 0 rfl) ?_
                                    refine lv_bipush (v := 10) hx hb dX12_after_205 (by decide) ?_
                                    refine lv_irem hx hb dX12_after_207 (by decide) (lv_topi (fun v251 e251 => ?_))
                                    have t251 : -10 < v251.toInt ∧ v251.toInt < 10 := by rw [e251]; exact i_remb (by decide) (by decide)
                                    refine lv_if_ne (tgt := 214) hx hb dX12_after_208 (by decide) (fun c252 => ?_) (fun c252 => ?_)
                                    · have f252 : ¬ v251.toInt = 0 := f_ne rfl (by decide) c252
                                      refine lv_iload hx hb dX12_after_214 (lv_at hl 3 rfl) ?_
                                      refine lv_iconst (v := 1) hx hb dX12_after_216 (by decide) ?_
                                      refine lv_icmp_ne (tgt := 228) hx hb dX12_after_217 (by decide) (fun c253 => ?_) (fun c253 => ?_)
                                      · have f253 : ¬ v5.toInt = 1 := f_ne rfl (by decide) c253
                                        exact absurd f253 (by omega)
                                      · have f253 : v5.toInt = 1 := f_eq rfl (by decide) c253
                                        refine lv_iload hx hb dX12_after_220 (lv_at hl 0 rfl) ?_
                                        refine lv_bipush (v := 90) hx hb dX12_after_222 (by decide) ?_
                                        refine lv_isub hx hb dX12_after_224 (lv_topi (fun v254 e254 => ?_))
                                        refine lv_goto (tgt := 230) hx hb dX12_after_225 (by decide) ?_
                                        rw [hQ]
                                        exact x_i cx hr () hP hD hS (show v254 = J_X12_after sm tm p0 p1 p2 from by subst e1 e2 e3 e4 e5 e6 w13 e18 e20 e144 e192 e222 e227 e228 w235 e236 e237 w240 e242 e248 e251 e254; first | (refine Eq.symm ?_; refine Eq.trans (if_neg c7) ?_; refine Eq.trans (if_neg c14) ?_; refine Eq.trans (if_neg c21) ?_; refine Eq.trans (if_neg c25) ?_; refine Eq.trans (if_neg c29) ?_; refine Eq.trans (if_neg c34) ?_; refine Eq.trans (if_neg c145) ?_; refine Eq.trans (if_neg c148) ?_; refine Eq.trans (if_neg c193) ?_; refine Eq.trans (if_neg c196) ?_; refine Eq.trans (if_neg c223) ?_; refine Eq.trans (if_neg c229) ?_; refine Eq.trans (if_neg c243) ?_; refine Eq.trans (if_pos c245) ?_; refine Eq.trans (if_neg c249) ?_; refine Eq.trans (if_neg c252) ?_; rfl) | (unfold J_X12_after; try dsimp only; rw [if_neg c7, if_neg c14, if_neg c21, if_neg c25, if_neg c29, if_neg c34, if_neg c145, if_neg c148, if_neg c193, if_neg c196, if_neg c223, if_neg c229, if_neg c243, if_pos c245, if_neg c249, if_neg c252])) dX12_after_230
                                    · have f252 : v251.toInt = 0 := f_eq rfl (by decide) c252
                                      refine lv_bipush (v := (-9)) hx hb dX12_after_211 (by decide) ?_
                                      have hlit255 : ((-9) : Int32).toInt = -9 := by decide
                                      rw [hQ]
                                      exact x_i cx hr () hP hD hS (show ((-9) : Int32) = J_X12_after sm tm p0 p1 p2 from by subst e1 e2 e3 e4 e5 e6 w13 e18 e20 e144 e192 e222 e227 e228 w235 e236 e237 w240 e242 e248 e251; first | (refine Eq.symm ?_; refine Eq.trans (if_neg c7) ?_; refine Eq.trans (if_neg c14) ?_; refine Eq.trans (if_neg c21) ?_; refine Eq.trans (if_neg c25) ?_; refine Eq.trans (if_neg c29) ?_; refine Eq.trans (if_neg c34) ?_; refine Eq.trans (if_neg c145) ?_; refine Eq.trans (if_neg c148) ?_; refine Eq.trans (if_neg c193) ?_; refine Eq.trans (if_neg c196) ?_; refine Eq.trans (if_neg c223) ?_; refine Eq.trans (if_neg c229) ?_; refine Eq.trans (if_neg c243) ?_; refine Eq.trans (if_pos c245) ?_; refine Eq.trans (if_neg c249) ?_; refine Eq.trans (if_pos c252) ?_; rfl) | (unfold J_X12_after; try dsimp only; rw [if_neg c7, if_neg c14, if_neg c21, if_neg c25, if_neg c29, if_neg c34, if_neg c145, if_neg c148, if_neg c193, if_neg c196, if_neg c223, if_neg c229, if_neg c243, if_pos c245, if_neg c249, if_pos c252])) dX12_after_213
                            · exact absurd c232 (by decide)
theorem fw_X12_over_13 : Cond.fieldLink RX12 13 "StillInAugustModel" "house" "[I" ∈ wsX12_over := by decide +kernel
theorem iw_X12_over_X12 : ∀ w ∈ u_ws RX12 TX12 33, w ∈ wsX12_over := fun _ h => List.mem_cons_of_mem _ (List.mem_append_right _ h)
def J_X12_over (sm : Nat → Nat → Int32) (tm : Nat → Nat → Int64) (p0 : Int32) (p1 : Int32) (p2 : Int32) (p3 : Int32) : Int32 := (((((p1 / (100 : Int32)) * ((sm 2) (23 : Int32).toNatClampNeg)) + (((p1 / (10 : Int32)) - (p1 / (10 : Int32)) / (10 : Int32) * (10 : Int32)) * ((sm 2) (24 : Int32).toNatClampNeg))) + ((((p1 - p1 / (10 : Int32) * (10 : Int32)) + p2) - ((p3 / (10 : Int32)) - (p3 / (10 : Int32)) / (10 : Int32) * (10 : Int32))) * ((sm 2) (25 : Int32).toNatClampNeg))) - ((sm 2) (((10 : Int32) + p0)).toNatClampNeg))
set_option maxHeartbeats 4000000 in
set_option maxRecDepth 100000 in
theorem c_X12_over (l : Launch) (D : va_G) (k : Nat → ClassId) (b : Nat → Nat) (qm : Nat → Nat) (sm : Nat → Nat → Int32) (tm : Nat → Nat → Int64) (sz : Nat) (p0 : Int32) (p1 : Int32) (p2 : Int32) (p3 : Int32) (hp0 : 0 ≤ p0.toInt ∧ p0.toInt ≤ 4) : MetI l D k b yX12_over wsX12_over ({ frames := 0, cells := 0, slots := 0, locals := 0 } : Room) [cell22_ qm sm tm, cell5_ k qm sm, cell13_ k qm sm, cell8_ k qm sm, cell6_ k qm sm, cell15_ k qm sm, cell14_ k qm tm, cell12_ k qm tm, cell18_ k qm tm, cell17_ k qm tm, cell19_ k qm tm, cell21_ k qm tm, cell20_ k qm sm, cell16_ k qm sm, cell11_ k qm sm, cell10_ k qm sm, cell9_ k qm sm, cell7_ k qm sm] sz [.ref (qm 0), .int p0, .int p1, .int p2, .int p3] (fun (r : Int32) (u : Unit) => r = J_X12_over sm tm p0 p1 p2 p3) (fun u => [cell22_ qm sm tm, cell5_ k qm sm, cell13_ k qm sm, cell8_ k qm sm, cell6_ k qm sm, cell15_ k qm sm, cell14_ k qm tm, cell12_ k qm tm, cell18_ k qm tm, cell17_ k qm tm, cell19_ k qm tm, cell21_ k qm tm, cell20_ k qm sm, cell16_ k qm sm, cell11_ k qm sm, cell10_ k qm sm, cell9_ k qm sm, cell7_ k qm sm]) := by
  refine g_enter (cc := cX12_over) (maxL := 6) (ret := (some .int)) (by decide) rfl (Nat.le_of_ble_eq_true rfl) ?_
  intro p e s m below meth c A hsz hAe cx hr hP hD hS ls hl
  rw [hAe]
  refine g_q (fun Q hQ => ?_)
  have hx := cx.1.1
  have hb := cx.1.2.1
  have bp0 := i_rng p0
  have bp1 := i_rng p1
  have bp2 := i_rng p2
  have bp3 := i_rng p3
  have hl : lv_has ls 6 [(0, .ref (qm 0)), (1, .int p0), (2, .int p1), (3, .int p2), (4, .int p3)] := hl
  obtain ⟨H, eH⟩ : ∃ H : Heap, H = s.heap := ⟨_, rfl⟩
  obtain ⟨locs, el⟩ : ∃ L : List Loc, L = [] := ⟨_, rfl⟩
  have hP : va_P D vwCl [cell22_ qm sm tm, cell5_ k qm sm, cell13_ k qm sm, cell8_ k qm sm, cell6_ k qm sm, cell15_ k qm sm, cell14_ k qm tm, cell12_ k qm tm, cell18_ k qm tm, cell17_ k qm tm, cell19_ k qm tm, cell21_ k qm tm, cell20_ k qm sm, cell16_ k qm sm, cell11_ k qm sm, cell10_ k qm sm, cell9_ k qm sm, cell7_ k qm sm] H := by rw [eH]; exact hP
  have hD : va_D A [cell22_ qm sm tm, cell5_ k qm sm, cell13_ k qm sm, cell8_ k qm sm, cell6_ k qm sm, cell15_ k qm sm, cell14_ k qm tm, cell12_ k qm tm, cell18_ k qm tm, cell17_ k qm tm, cell19_ k qm tm, cell21_ k qm tm, cell20_ k qm sm, cell16_ k qm sm, cell11_ k qm sm, cell10_ k qm sm, cell9_ k qm sm, cell7_ k qm sm] := hD
  have hS : va_S A s.heap H locs := by rw [eH, el]; exact hS
  suffices goal : W p l e ({ frames := 0, cells := 0, slots := 0, locals := 0 } : Room) s m ([.ref (qm 0), .int p0, .int p1, .int p2, .int p3] : List Value).toArray below meth c H locs 0 0 Q (F0 m 0 ls []) by rw [eH, el] at goal; exact goal
  refine lv_iload_n hx hb dX12_over_0 rfl (lv_at hl 2 rfl) ?_
  refine lv_bipush (v := 10) hx hb dX12_over_1 (by decide) ?_
  refine lv_irem hx hb dX12_over_3 (by decide) (lv_topi (fun v1 e1 => ?_))
  have t1 : -10 < v1.toInt ∧ v1.toInt < 10 := by rw [e1]; exact i_remb (by decide) (by decide)
  refine lv_iload_n hx hb dX12_over_4 rfl (lv_at hl 3 rfl) ?_
  refine lv_iadd hx hb dX12_over_5 (lv_topi (fun v2 e2 => ?_))
  refine lv_iload hx hb dX12_over_6 (lv_at hl 4 rfl) ?_
  refine lv_bipush (v := 10) hx hb dX12_over_8 (by decide) ?_
  refine lv_idiv hx hb dX12_over_10 (by decide) (lv_topi (fun v3 e3 => ?_))
  refine lv_bipush (v := 10) hx hb dX12_over_11 (by decide) ?_
  refine lv_irem hx hb dX12_over_13 (by decide) (lv_topi (fun v4 e4 => ?_))
  have t4 : -10 < v4.toInt ∧ v4.toInt < 10 := by rw [e4]; exact i_remb (by decide) (by decide)
  refine lv_isub hx hb dX12_over_14 (lv_topi (fun v5 e5 => ?_))
  refine lv_istore (lv' := [(5, .int v5), (0, .ref (qm 0)), (1, .int p0), (2, .int p1), (3, .int p2), (4, .int p3)]) hx hb dX12_over_15 hl (by decide) rfl (fun ls hl => ?_)
  refine lv_iload_n hx hb dX12_over_17 rfl (lv_at hl 3 rfl) ?_
  refine lv_bipush (v := 100) hx hb dX12_over_18 (by decide) ?_
  refine lv_idiv hx hb dX12_over_20 (by decide) (lv_topi (fun v6 e6 => ?_))
  refine lv_aload_n hx hb dX12_over_21 rfl (lv_at hl 1 rfl) ?_
  refine g_get cx hP iw_X12_over_X12 0 rfl rfl 1 (by decide) rfl fw_X12_over_13 rfl dX12_over_22 ?_
  refine lv_bipush (v := 23) hx hb dX12_over_25 (by decide) ?_
  have hn7 : vp_in 23 26 := f_in (a := 23) (by decide) (by omega) (by omega)
  refine va_iald hx hb cx.2.1 hP 2 0 rfl rfl hn7 dX12_over_27 (lv_topi (fun v8 e8 => ?_))
  have uv8 : v8.toInt = ((sm 2) 23).toInt := congrArg Int32.toInt e8
  refine lv_imul hx hb dX12_over_28 (lv_topi (fun v9 e9 => ?_))
  refine lv_iload_n hx hb dX12_over_29 rfl (lv_at hl 3 rfl) ?_
  refine lv_bipush (v := 10) hx hb dX12_over_30 (by decide) ?_
  refine lv_idiv hx hb dX12_over_32 (by decide) (lv_topi (fun v10 e10 => ?_))
  refine lv_bipush (v := 10) hx hb dX12_over_33 (by decide) ?_
  refine lv_irem hx hb dX12_over_35 (by decide) (lv_topi (fun v11 e11 => ?_))
  have t11 : -10 < v11.toInt ∧ v11.toInt < 10 := by rw [e11]; exact i_remb (by decide) (by decide)
  refine lv_aload_n hx hb dX12_over_36 rfl (lv_at hl 1 rfl) ?_
  refine g_get cx hP iw_X12_over_X12 0 rfl rfl 1 (by decide) rfl fw_X12_over_13 rfl dX12_over_37 ?_
  refine lv_bipush (v := 24) hx hb dX12_over_40 (by decide) ?_
  have hn12 : vp_in 24 26 := f_in (a := 24) (by decide) (by omega) (by omega)
  refine va_iald hx hb cx.2.1 hP 2 0 rfl rfl hn12 dX12_over_42 (lv_topi (fun v13 e13 => ?_))
  have uv13 : v13.toInt = ((sm 2) 24).toInt := congrArg Int32.toInt e13
  refine lv_imul hx hb dX12_over_43 (lv_topi (fun v14 e14 => ?_))
  refine lv_iadd hx hb dX12_over_44 (lv_topi (fun v15 e15 => ?_))
  refine lv_iload hx hb dX12_over_45 (lv_at hl 0 rfl) ?_
  refine lv_aload_n hx hb dX12_over_47 rfl (lv_at hl 1 rfl) ?_
  refine g_get cx hP iw_X12_over_X12 0 rfl rfl 1 (by decide) rfl fw_X12_over_13 rfl dX12_over_48 ?_
  refine lv_bipush (v := 25) hx hb dX12_over_51 (by decide) ?_
  have hn16 : vp_in 25 26 := f_in (a := 25) (by decide) (by omega) (by omega)
  refine va_iald hx hb cx.2.1 hP 2 0 rfl rfl hn16 dX12_over_53 (lv_topi (fun v17 e17 => ?_))
  have uv17 : v17.toInt = ((sm 2) 25).toInt := congrArg Int32.toInt e17
  refine lv_imul hx hb dX12_over_54 (lv_topi (fun v18 e18 => ?_))
  refine lv_iadd hx hb dX12_over_55 (lv_topi (fun v19 e19 => ?_))
  refine lv_aload_n hx hb dX12_over_56 rfl (lv_at hl 1 rfl) ?_
  refine g_get cx hP iw_X12_over_X12 0 rfl rfl 1 (by decide) rfl fw_X12_over_13 rfl dX12_over_57 ?_
  refine lv_bipush (v := 10) hx hb dX12_over_60 (by decide) ?_
  refine lv_iload_n hx hb dX12_over_62 rfl (lv_at hl 2 rfl) ?_
  refine lv_iadd hx hb dX12_over_63 (lv_topi (fun v20 e20 => ?_))
  have t20 : v20.toInt = 10 + p0.toInt := by rw [e20]; exact i_add (by decide) rfl (by omega) (by omega)
  have hn21 : vp_in v20 26 := f_in (a := v20.toInt) rfl (by omega) (by omega)
  refine va_iald hx hb cx.2.1 hP 2 0 rfl rfl hn21 dX12_over_64 (lv_topi (fun v22 e22 => ?_))
  refine lv_isub hx hb dX12_over_65 (lv_topi (fun v23 e23 => ?_))
  rw [hQ]
  exact x_i cx hr () hP hD hS (show v23 = J_X12_over sm tm p0 p1 p2 p3 from by subst e1 e2 e3 e4 e5 e6 e8 e9 e10 e11 e13 e14 e15 e17 e18 e19 e20 e22 e23; rfl) dX12_over_66
theorem fw_X12_costOf_13 : Cond.fieldLink RX12 13 "StillInAugustModel" "house" "[I" ∈ wsX12_costOf := by decide +kernel
theorem nd_X12_over : yX12_over.cls = RX12 ∧ yX12_over.cls ≠ "java/lang/invoke/MethodHandle" ∧ yX12_over.cls ≠ "java/lang/invoke/VarHandle" ∧ (parseMethodDescriptor yX12_over.desc).map (fun d => d.parameters.length) = some 4 := by decide +kernel
theorem iw_X12_costOf_X12 : ∀ w ∈ u_ws RX12 TX12 33, w ∈ wsX12_costOf := fun _ h => List.mem_cons_of_mem _ (List.mem_append_right _ h)
def J_X12_costOf (sm : Nat → Nat → Int32) (tm : Nat → Nat → Int64) (p0 : Int32) (p1 : Int32) (p2 : Int32) (p3 : Int32) : Int32 := let y4 := J_X12_over sm tm p0 p1 p2 p3; if 0 ≤ y4 then if ((sm 2) (6 : Int32).toNatClampNeg) = (-9) then if (p3 / (1000 : Int32)) ≤ 0 then if ((p3 / (10 : Int32)) - (p3 / (10 : Int32)) / (10 : Int32) * (10 : Int32)) = 1 then (((((((sm 2) (2 : Int32).toNatClampNeg) * (J_X12_all p1)) + (0 : Int32)) + (p2 * (0 : Int32))) + (0 : Int32)) + ((sm 2) (5 : Int32).toNatClampNeg)) else (((((((sm 2) (2 : Int32).toNatClampNeg) * (J_X12_all p1)) + (0 : Int32)) + (p2 * (0 : Int32))) + (0 : Int32)) + (0 : Int32)) else if ((p3 / (10 : Int32)) - (p3 / (10 : Int32)) / (10 : Int32) * (10 : Int32)) = 1 then (((((((sm 2) (2 : Int32).toNatClampNeg) * (J_X12_all p1)) + (0 : Int32)) + (p2 * (0 : Int32))) + ((p3 / (1000 : Int32)) * ((sm 2) (4 : Int32).toNatClampNeg))) + ((sm 2) (5 : Int32).toNatClampNeg)) else (((((((sm 2) (2 : Int32).toNatClampNeg) * (J_X12_all p1)) + (0 : Int32)) + (p2 * (0 : Int32))) + ((p3 / (1000 : Int32)) * ((sm 2) (4 : Int32).toNatClampNeg))) + (0 : Int32)) else if (p3 / (1000 : Int32)) ≤ 0 then if ((p3 / (10 : Int32)) - (p3 / (10 : Int32)) / (10 : Int32) * (10 : Int32)) = 1 then (((((((sm 2) (2 : Int32).toNatClampNeg) * (J_X12_all p1)) + (0 : Int32)) + (p2 * ((sm 2) (6 : Int32).toNatClampNeg))) + (0 : Int32)) + ((sm 2) (5 : Int32).toNatClampNeg)) else (((((((sm 2) (2 : Int32).toNatClampNeg) * (J_X12_all p1)) + (0 : Int32)) + (p2 * ((sm 2) (6 : Int32).toNatClampNeg))) + (0 : Int32)) + (0 : Int32)) else if ((p3 / (10 : Int32)) - (p3 / (10 : Int32)) / (10 : Int32) * (10 : Int32)) = 1 then (((((((sm 2) (2 : Int32).toNatClampNeg) * (J_X12_all p1)) + (0 : Int32)) + (p2 * ((sm 2) (6 : Int32).toNatClampNeg))) + ((p3 / (1000 : Int32)) * ((sm 2) (4 : Int32).toNatClampNeg))) + ((sm 2) (5 : Int32).toNatClampNeg)) else (((((((sm 2) (2 : Int32).toNatClampNeg) * (J_X12_all p1)) + (0 : Int32)) + (p2 * ((sm 2) (6 : Int32).toNatClampNeg))) + ((p3 / (1000 : Int32)) * ((sm 2) (4 : Int32).toNatClampNeg))) + (0 : Int32)) else if ((sm 2) (6 : Int32).toNatClampNeg) = (-9) then if (p3 / (1000 : Int32)) ≤ 0 then if ((p3 / (10 : Int32)) - (p3 / (10 : Int32)) / (10 : Int32) * (10 : Int32)) = 1 then (((((((sm 2) (2 : Int32).toNatClampNeg) * (J_X12_all p1)) + ((-y4) * ((sm 2) (3 : Int32).toNatClampNeg))) + (p2 * (0 : Int32))) + (0 : Int32)) + ((sm 2) (5 : Int32).toNatClampNeg)) else (((((((sm 2) (2 : Int32).toNatClampNeg) * (J_X12_all p1)) + ((-y4) * ((sm 2) (3 : Int32).toNatClampNeg))) + (p2 * (0 : Int32))) + (0 : Int32)) + (0 : Int32)) else if ((p3 / (10 : Int32)) - (p3 / (10 : Int32)) / (10 : Int32) * (10 : Int32)) = 1 then (((((((sm 2) (2 : Int32).toNatClampNeg) * (J_X12_all p1)) + ((-y4) * ((sm 2) (3 : Int32).toNatClampNeg))) + (p2 * (0 : Int32))) + ((p3 / (1000 : Int32)) * ((sm 2) (4 : Int32).toNatClampNeg))) + ((sm 2) (5 : Int32).toNatClampNeg)) else (((((((sm 2) (2 : Int32).toNatClampNeg) * (J_X12_all p1)) + ((-y4) * ((sm 2) (3 : Int32).toNatClampNeg))) + (p2 * (0 : Int32))) + ((p3 / (1000 : Int32)) * ((sm 2) (4 : Int32).toNatClampNeg))) + (0 : Int32)) else if (p3 / (1000 : Int32)) ≤ 0 then if ((p3 / (10 : Int32)) - (p3 / (10 : Int32)) / (10 : Int32) * (10 : Int32)) = 1 then (((((((sm 2) (2 : Int32).toNatClampNeg) * (J_X12_all p1)) + ((-y4) * ((sm 2) (3 : Int32).toNatClampNeg))) + (p2 * ((sm 2) (6 : Int32).toNatClampNeg))) + (0 : Int32)) + ((sm 2) (5 : Int32).toNatClampNeg)) else (((((((sm 2) (2 : Int32).toNatClampNeg) * (J_X12_all p1)) + ((-y4) * ((sm 2) (3 : Int32).toNatClampNeg))) + (p2 * ((sm 2) (6 : Int32).toNatClampNeg))) + (0 : Int32)) + (0 : Int32)) else if ((p3 / (10 : Int32)) - (p3 / (10 : Int32)) / (10 : Int32) * (10 : Int32)) = 1 then (((((((sm 2) (2 : Int32).toNatClampNeg) * (J_X12_all p1)) + ((-y4) * ((sm 2) (3 : Int32).toNatClampNeg))) + (p2 * ((sm 2) (6 : Int32).toNatClampNeg))) + ((p3 / (1000 : Int32)) * ((sm 2) (4 : Int32).toNatClampNeg))) + ((sm 2) (5 : Int32).toNatClampNeg)) else (((((((sm 2) (2 : Int32).toNatClampNeg) * (J_X12_all p1)) + ((-y4) * ((sm 2) (3 : Int32).toNatClampNeg))) + (p2 * ((sm 2) (6 : Int32).toNatClampNeg))) + ((p3 / (1000 : Int32)) * ((sm 2) (4 : Int32).toNatClampNeg))) + (0 : Int32))
set_option maxHeartbeats 4000000 in
set_option maxRecDepth 100000 in
theorem c_X12_costOf (l : Launch) (D : va_G) (k : Nat → ClassId) (b : Nat → Nat) (qm : Nat → Nat) (sm : Nat → Nat → Int32) (tm : Nat → Nat → Int64) (sz : Nat) (p0 : Int32) (p1 : Int32) (p2 : Int32) (p3 : Int32) (hp0 : 0 ≤ p0.toInt ∧ p0.toInt ≤ 4) : MetI l D k b yX12_costOf wsX12_costOf ({ frames := 1, cells := 0, slots := 0, locals := 25 } : Room) [cell22_ qm sm tm, cell5_ k qm sm, cell13_ k qm sm, cell8_ k qm sm, cell6_ k qm sm, cell15_ k qm sm, cell14_ k qm tm, cell12_ k qm tm, cell18_ k qm tm, cell17_ k qm tm, cell19_ k qm tm, cell21_ k qm tm, cell20_ k qm sm, cell16_ k qm sm, cell11_ k qm sm, cell10_ k qm sm, cell9_ k qm sm, cell7_ k qm sm] sz [.ref (qm 0), .int p0, .int p1, .int p2, .int p3] (fun (r : Int32) (u : Unit) => r = J_X12_costOf sm tm p0 p1 p2 p3) (fun u => [cell22_ qm sm tm, cell5_ k qm sm, cell13_ k qm sm, cell8_ k qm sm, cell6_ k qm sm, cell15_ k qm sm, cell14_ k qm tm, cell12_ k qm tm, cell18_ k qm tm, cell17_ k qm tm, cell19_ k qm tm, cell21_ k qm tm, cell20_ k qm sm, cell16_ k qm sm, cell11_ k qm sm, cell10_ k qm sm, cell9_ k qm sm, cell7_ k qm sm]) := by
  refine g_enter (cc := cX12_costOf) (maxL := 7) (ret := (some .int)) (by decide) rfl (Nat.le_of_ble_eq_true rfl) ?_
  intro p e s m below meth c A hsz hAe cx hr hP hD hS ls hl
  rw [hAe]
  refine g_q (fun Q hQ => ?_)
  have hx := cx.1.1
  have hb := cx.1.2.1
  have bp0 := i_rng p0
  have bp1 := i_rng p1
  have bp2 := i_rng p2
  have bp3 := i_rng p3
  have hl : lv_has ls 7 [(0, .ref (qm 0)), (1, .int p0), (2, .int p1), (3, .int p2), (4, .int p3)] := hl
  obtain ⟨H, eH⟩ : ∃ H : Heap, H = s.heap := ⟨_, rfl⟩
  obtain ⟨locs, el⟩ : ∃ L : List Loc, L = [] := ⟨_, rfl⟩
  have hP : va_P D vwCl [cell22_ qm sm tm, cell5_ k qm sm, cell13_ k qm sm, cell8_ k qm sm, cell6_ k qm sm, cell15_ k qm sm, cell14_ k qm tm, cell12_ k qm tm, cell18_ k qm tm, cell17_ k qm tm, cell19_ k qm tm, cell21_ k qm tm, cell20_ k qm sm, cell16_ k qm sm, cell11_ k qm sm, cell10_ k qm sm, cell9_ k qm sm, cell7_ k qm sm] H := by rw [eH]; exact hP
  have hD : va_D A [cell22_ qm sm tm, cell5_ k qm sm, cell13_ k qm sm, cell8_ k qm sm, cell6_ k qm sm, cell15_ k qm sm, cell14_ k qm tm, cell12_ k qm tm, cell18_ k qm tm, cell17_ k qm tm, cell19_ k qm tm, cell21_ k qm tm, cell20_ k qm sm, cell16_ k qm sm, cell11_ k qm sm, cell10_ k qm sm, cell9_ k qm sm, cell7_ k qm sm] := hD
  have hS : va_S A s.heap H locs := by rw [eH, el]; exact hS
  suffices goal : W p l e ({ frames := 1, cells := 0, slots := 0, locals := 25 } : Room) s m ([.ref (qm 0), .int p0, .int p1, .int p2, .int p3] : List Value).toArray below meth c H locs 0 0 Q (F0 m 0 ls []) by rw [eH, el] at goal; exact goal
  refine lv_aload_n hx hb dX12_costOf_0 rfl (lv_at hl 0 rfl) ?_
  refine lv_iload_n hx hb dX12_costOf_1 rfl (lv_at hl 1 rfl) ?_
  refine lv_iload_n hx hb dX12_costOf_2 rfl (lv_at hl 2 rfl) ?_
  refine lv_iload_n hx hb dX12_costOf_3 rfl (lv_at hl 3 rfl) ?_
  refine lv_iload hx hb dX12_costOf_4 (lv_at hl 4 rfl) ?_
  refine g_iF (w1 := fun (_ : Unit) => [cell22_ qm sm tm, cell5_ k qm sm, cell13_ k qm sm, cell8_ k qm sm, cell6_ k qm sm, cell15_ k qm sm, cell14_ k qm tm, cell12_ k qm tm, cell18_ k qm tm, cell17_ k qm tm, cell19_ k qm tm, cell21_ k qm tm, cell20_ k qm sm, cell16_ k qm sm, cell11_ k qm sm, cell10_ k qm sm, cell9_ k qm sm, cell7_ k qm sm]) (g_runVF (ws := [cell22_ qm sm tm, cell5_ k qm sm, cell13_ k qm sm, cell8_ k qm sm, cell6_ k qm sm, cell15_ k qm sm, cell14_ k qm tm, cell12_ k qm tm, cell18_ k qm tm, cell17_ k qm tm, cell19_ k qm tm, cell21_ k qm tm, cell20_ k qm sm, cell16_ k qm sm, cell11_ k qm sm, cell10_ k qm sm, cell9_ k qm sm, cell7_ k qm sm]) (rest := []) cx hP hD hS [.int p0, .int p1, .int p2, .int p3] (c_X12_over l D k b qm sm tm H.size p0 p1 p2 p3 (show 0 ≤ p0.toInt ∧ p0.toInt ≤ 4 from by first | decide | omega)) gX12_costOf_X12_over rfl rfl rfl nd_X12_over ⟨Nat.le_of_ble_eq_true rfl, Nat.le_of_ble_eq_true rfl⟩ (ci := 10) (q0 := 0) rfl rfl rfl hl.1 rfl (Nat.le_of_ble_eq_true rfl) ⟨Nat.zero_le _, Nat.zero_le _⟩ dX12_costOf_6) cx.2.2.1 hD hS (fun r2 _ H locs hw1 hP hD hS => ?_)
  have w3 : r2 = J_X12_over sm tm p0 p1 p2 p3 := hw1
  clear hw1
  have k5 : r2 = (J_X12_over sm tm p0 p1 p2 p3) := congrArg (fun z => z) w3
  refine lv_istore (lv' := [(5, .int r2), (0, .ref (qm 0)), (1, .int p0), (2, .int p1), (3, .int p2), (4, .int p3)]) hx hb dX12_costOf_9 hl (by decide) rfl (fun ls hl => ?_)
  refine lv_aload_n hx hb dX12_costOf_11 rfl (lv_at hl 1 rfl) ?_
  refine g_get cx hP iw_X12_costOf_X12 0 rfl rfl 1 (by decide) rfl fw_X12_costOf_13 rfl dX12_costOf_12 ?_
  refine lv_iconst (v := 2) hx hb dX12_costOf_15 (by decide) ?_
  have hn6 : vp_in 2 26 := f_in (a := 2) (by decide) (by omega) (by omega)
  refine va_iald hx hb cx.2.1 hP 2 0 rfl rfl hn6 dX12_costOf_16 (lv_topi (fun v7 e7 => ?_))
  have uv7 : v7.toInt = ((sm 2) 2).toInt := congrArg Int32.toInt e7
  refine lv_iload_n hx hb dX12_costOf_17 rfl (lv_at hl 3 rfl) ?_
  refine g_ir (g_runS (wc := []) (rest := [.int v7]) cx hP hD hS [] rfl (by decide) [.int p1] (c_X12_all l D k b H.size p1) gX12_costOf_X12_all rfl rfl rfl nd_X12_all ⟨Nat.le_of_ble_eq_true rfl, Nat.le_of_ble_eq_true rfl⟩ rfl hl.1 rfl (Nat.le_of_ble_eq_true rfl) ⟨Nat.zero_le _, Nat.zero_le _⟩ dX12_costOf_18) cx.2.2.1 hP hD hS [] rfl rfl (fun r9 H locs hw8 hP hS => ?_)
  have w10 : r9 = J_X12_all p1 := hw8
  clear hw8
  refine lv_imul hx hb dX12_costOf_21 (lv_topi (fun v11 e11 => ?_))
  refine lv_iload hx hb dX12_costOf_22 (lv_at hl 0 rfl) ?_
  refine lv_if_ge (tgt := 40) hx hb dX12_costOf_24 (by decide) (fun c12 => ?_) (fun c12 => ?_)
  · have f12 : 0 ≤ r2.toInt := f_le (by decide) rfl c12
    refine lv_iconst (v := 0) hx hb dX12_costOf_40 (by decide) ?_
    refine lv_iadd hx hb dX12_costOf_41 (lv_topi (fun v13 e13 => ?_))
    refine lv_iload_n hx hb dX12_costOf_42 rfl (lv_at hl 4 rfl) ?_
    refine lv_aload_n hx hb dX12_costOf_43 rfl (lv_at hl 1 rfl) ?_
    refine g_get cx hP iw_X12_costOf_X12 0 rfl rfl 1 (by decide) rfl fw_X12_costOf_13 rfl dX12_costOf_44 ?_
    refine lv_bipush (v := 6) hx hb dX12_costOf_47 (by decide) ?_
    have hn14 : vp_in 6 26 := f_in (a := 6) (by decide) (by omega) (by omega)
    refine va_iald hx hb cx.2.1 hP 2 0 rfl rfl hn14 dX12_costOf_49 (lv_topi (fun v15 e15 => ?_))
    have uv15 : v15.toInt = ((sm 2) 6).toInt := congrArg Int32.toInt e15
    refine lv_bipush (v := (-9)) hx hb dX12_costOf_50 (by decide) ?_
    refine lv_icmp_ne (tgt := 59) hx hb dX12_costOf_52 (by decide) (fun c16 => ?_) (fun c16 => ?_)
    · have f16 : ¬ v15.toInt = (-9) := f_ne rfl (by decide) c16
      refine lv_aload_n hx hb dX12_costOf_59 rfl (lv_at hl 1 rfl) ?_
      refine g_get cx hP iw_X12_costOf_X12 0 rfl rfl 1 (by decide) rfl fw_X12_costOf_13 rfl dX12_costOf_60 ?_
      refine lv_bipush (v := 6) hx hb dX12_costOf_63 (by decide) ?_
      have hn17 : vp_in 6 26 := f_in (a := 6) (by decide) (by omega) (by omega)
      refine va_iald hx hb cx.2.1 hP 2 0 rfl rfl hn17 dX12_costOf_65 (lv_topi (fun v18 e18 => ?_))
      have qv18_ : v18.toInt = v15.toInt := congrArg Int32.toInt (e18.trans e15.symm)
      have uv18 : v18.toInt = ((sm 2) 6).toInt := congrArg Int32.toInt e18
      refine lv_imul hx hb dX12_costOf_66 (lv_topi (fun v19 e19 => ?_))
      refine lv_iadd hx hb dX12_costOf_67 (lv_topi (fun v20 e20 => ?_))
      refine lv_istore (lv' := [(6, .int v20), (5, .int r2), (0, .ref (qm 0)), (1, .int p0), (2, .int p1), (3, .int p2), (4, .int p3)]) hx hb dX12_costOf_68 hl (by decide) rfl (fun ls hl => ?_)
      refine lv_iload hx hb dX12_costOf_70 (lv_at hl 0 rfl) ?_
      refine lv_iload hx hb dX12_costOf_72 (lv_at hl 6 rfl) ?_
      refine lv_sipush (v := 1000) hx hb dX12_costOf_74 (by decide) ?_
      refine lv_idiv hx hb dX12_costOf_77 (by decide) (lv_topi (fun v21 e21 => ?_))
      refine lv_if_le (tgt := 97) hx hb dX12_costOf_78 (by decide) (fun c22 => ?_) (fun c22 => ?_)
      · have f22 : v21.toInt ≤ 0 := f_le rfl (by decide) c22
        refine lv_iconst (v := 0) hx hb dX12_costOf_97 (by decide) ?_
        refine lv_iadd hx hb dX12_costOf_98 (lv_topi (fun v23 e23 => ?_))
        refine lv_istore (lv' := [(6, .int v23), (5, .int r2), (0, .ref (qm 0)), (1, .int p0), (2, .int p1), (3, .int p2), (4, .int p3)]) hx hb dX12_costOf_99 hl (by decide) rfl (fun ls hl => ?_)
        refine lv_iload hx hb dX12_costOf_101 (lv_at hl 0 rfl) ?_
        refine lv_iload hx hb dX12_costOf_103 (lv_at hl 6 rfl) ?_
        refine lv_bipush (v := 10) hx hb dX12_costOf_105 (by decide) ?_
        refine lv_idiv hx hb dX12_costOf_107 (by decide) (lv_topi (fun v24 e24 => ?_))
        refine lv_bipush (v := 10) hx hb dX12_costOf_108 (by decide) ?_
        refine lv_irem hx hb dX12_costOf_110 (by decide) (lv_topi (fun v25 e25 => ?_))
        have t25 : -10 < v25.toInt ∧ v25.toInt < 10 := by rw [e25]; exact i_remb (by decide) (by decide)
        refine lv_iconst (v := 1) hx hb dX12_costOf_111 (by decide) ?_
        refine lv_icmp_ne (tgt := 124) hx hb dX12_costOf_112 (by decide) (fun c26 => ?_) (fun c26 => ?_)
        · have f26 : ¬ v25.toInt = 1 := f_ne rfl (by decide) c26
          refine lv_iconst (v := 0) hx hb dX12_costOf_124 (by decide) ?_
          refine lv_iadd hx hb dX12_costOf_125 (lv_topi (fun v27 e27 => ?_))
          rw [hQ]
          exact x_i cx hr () hP hD hS (show v27 = J_X12_costOf sm tm p0 p1 p2 p3 from by subst k5 e7 w10 e11 e13 e15 e18 e19 e20 e21 e23 e24 e25 e27; first | (refine Eq.symm ?_; refine Eq.trans (if_pos c12) ?_; refine Eq.trans (if_neg c16) ?_; refine Eq.trans (if_pos c22) ?_; refine Eq.trans (if_neg c26) ?_; rfl) | (unfold J_X12_costOf; try dsimp only; rw [if_pos c12, if_neg c16, if_pos c22, if_neg c26])) dX12_costOf_126
        · have f26 : v25.toInt = 1 := f_eq rfl (by decide) c26
          refine lv_aload_n hx hb dX12_costOf_115 rfl (lv_at hl 2 rfl) ?_
          refine g_get cx hP iw_X12_costOf_X12 0 rfl rfl 1 (by decide) rfl fw_X12_costOf_13 rfl dX12_costOf_116 ?_
          refine lv_iconst (v := 5) hx hb dX12_costOf_119 (by decide) ?_
          have hn28 : vp_in 5 26 := f_in (a := 5) (by decide) (by omega) (by omega)
          refine va_iald hx hb cx.2.1 hP 2 0 rfl rfl hn28 dX12_costOf_120 (lv_topi (fun v29 e29 => ?_))
          have uv29 : v29.toInt = ((sm 2) 5).toInt := congrArg Int32.toInt e29
          refine lv_goto (tgt := 125) hx hb dX12_costOf_121 (by decide) ?_
          refine lv_iadd hx hb dX12_costOf_125 (lv_topi (fun v30 e30 => ?_))
          rw [hQ]
          exact x_i cx hr () hP hD hS (show v30 = J_X12_costOf sm tm p0 p1 p2 p3 from by subst k5 e7 w10 e11 e13 e15 e18 e19 e20 e21 e23 e24 e25 e29 e30; first | (refine Eq.symm ?_; refine Eq.trans (if_pos c12) ?_; refine Eq.trans (if_neg c16) ?_; refine Eq.trans (if_pos c22) ?_; refine Eq.trans (if_pos c26) ?_; rfl) | (unfold J_X12_costOf; try dsimp only; rw [if_pos c12, if_neg c16, if_pos c22, if_pos c26])) dX12_costOf_126
      · have f22 : 0 < v21.toInt := f_nle rfl (by decide) c22
        refine lv_iload hx hb dX12_costOf_81 (lv_at hl 6 rfl) ?_
        refine lv_sipush (v := 1000) hx hb dX12_costOf_83 (by decide) ?_
        refine lv_idiv hx hb dX12_costOf_86 (by decide) (lv_topi (fun v31 e31 => ?_))
        refine lv_aload_n hx hb dX12_costOf_87 rfl (lv_at hl 2 rfl) ?_
        refine g_get cx hP iw_X12_costOf_X12 0 rfl rfl 1 (by decide) rfl fw_X12_costOf_13 rfl dX12_costOf_88 ?_
        refine lv_iconst (v := 4) hx hb dX12_costOf_91 (by decide) ?_
        have hn32 : vp_in 4 26 := f_in (a := 4) (by decide) (by omega) (by omega)
        refine va_iald hx hb cx.2.1 hP 2 0 rfl rfl hn32 dX12_costOf_92 (lv_topi (fun v33 e33 => ?_))
        have uv33 : v33.toInt = ((sm 2) 4).toInt := congrArg Int32.toInt e33
        refine lv_imul hx hb dX12_costOf_93 (lv_topi (fun v34 e34 => ?_))
        refine lv_goto (tgt := 98) hx hb dX12_costOf_94 (by decide) ?_
        refine lv_iadd hx hb dX12_costOf_98 (lv_topi (fun v35 e35 => ?_))
        refine lv_istore (lv' := [(6, .int v35), (5, .int r2), (0, .ref (qm 0)), (1, .int p0), (2, .int p1), (3, .int p2), (4, .int p3)]) hx hb dX12_costOf_99 hl (by decide) rfl (fun ls hl => ?_)
        refine lv_iload hx hb dX12_costOf_101 (lv_at hl 0 rfl) ?_
        refine lv_iload hx hb dX12_costOf_103 (lv_at hl 6 rfl) ?_
        refine lv_bipush (v := 10) hx hb dX12_costOf_105 (by decide) ?_
        refine lv_idiv hx hb dX12_costOf_107 (by decide) (lv_topi (fun v36 e36 => ?_))
        refine lv_bipush (v := 10) hx hb dX12_costOf_108 (by decide) ?_
        refine lv_irem hx hb dX12_costOf_110 (by decide) (lv_topi (fun v37 e37 => ?_))
        have t37 : -10 < v37.toInt ∧ v37.toInt < 10 := by rw [e37]; exact i_remb (by decide) (by decide)
        refine lv_iconst (v := 1) hx hb dX12_costOf_111 (by decide) ?_
        refine lv_icmp_ne (tgt := 124) hx hb dX12_costOf_112 (by decide) (fun c38 => ?_) (fun c38 => ?_)
        · have f38 : ¬ v37.toInt = 1 := f_ne rfl (by decide) c38
          refine lv_iconst (v := 0) hx hb dX12_costOf_124 (by decide) ?_
          refine lv_iadd hx hb dX12_costOf_125 (lv_topi (fun v39 e39 => ?_))
          rw [hQ]
          exact x_i cx hr () hP hD hS (show v39 = J_X12_costOf sm tm p0 p1 p2 p3 from by subst k5 e7 w10 e11 e13 e15 e18 e19 e20 e21 e31 e33 e34 e35 e36 e37 e39; first | (refine Eq.symm ?_; refine Eq.trans (if_pos c12) ?_; refine Eq.trans (if_neg c16) ?_; refine Eq.trans (if_neg c22) ?_; refine Eq.trans (if_neg c38) ?_; rfl) | (unfold J_X12_costOf; try dsimp only; rw [if_pos c12, if_neg c16, if_neg c22, if_neg c38])) dX12_costOf_126
        · have f38 : v37.toInt = 1 := f_eq rfl (by decide) c38
          refine lv_aload_n hx hb dX12_costOf_115 rfl (lv_at hl 2 rfl) ?_
          refine g_get cx hP iw_X12_costOf_X12 0 rfl rfl 1 (by decide) rfl fw_X12_costOf_13 rfl dX12_costOf_116 ?_
          refine lv_iconst (v := 5) hx hb dX12_costOf_119 (by decide) ?_
          have hn40 : vp_in 5 26 := f_in (a := 5) (by decide) (by omega) (by omega)
          refine va_iald hx hb cx.2.1 hP 2 0 rfl rfl hn40 dX12_costOf_120 (lv_topi (fun v41 e41 => ?_))
          have uv41 : v41.toInt = ((sm 2) 5).toInt := congrArg Int32.toInt e41
          refine lv_goto (tgt := 125) hx hb dX12_costOf_121 (by decide) ?_
          refine lv_iadd hx hb dX12_costOf_125 (lv_topi (fun v42 e42 => ?_))
          rw [hQ]
          exact x_i cx hr () hP hD hS (show v42 = J_X12_costOf sm tm p0 p1 p2 p3 from by subst k5 e7 w10 e11 e13 e15 e18 e19 e20 e21 e31 e33 e34 e35 e36 e37 e41 e42; first | (refine Eq.symm ?_; refine Eq.trans (if_pos c12) ?_; refine Eq.trans (if_neg c16) ?_; refine Eq.trans (if_neg c22) ?_; refine Eq.trans (if_pos c38) ?_; rfl) | (unfold J_X12_costOf; try dsimp only; rw [if_pos c12, if_neg c16, if_neg c22, if_pos c38])) dX12_costOf_126
    · have f16 : v15.toInt = (-9) := f_eq rfl (by decide) c16
      refine lv_iconst (v := 0) hx hb dX12_costOf_55 (by decide) ?_
      refine lv_goto (tgt := 66) hx hb dX12_costOf_56 (by decide) ?_
      refine lv_imul hx hb dX12_costOf_66 (lv_topi (fun v43 e43 => ?_))
      have t43 : v43.toInt = p2.toInt * 0 := by rw [e43]; exact i_mul rfl (by decide) (by omega) (by omega)
      refine lv_iadd hx hb dX12_costOf_67 (lv_topi (fun v44 e44 => ?_))
      refine lv_istore (lv' := [(6, .int v44), (5, .int r2), (0, .ref (qm 0)), (1, .int p0), (2, .int p1), (3, .int p2), (4, .int p3)]) hx hb dX12_costOf_68 hl (by decide) rfl (fun ls hl => ?_)
      refine lv_iload hx hb dX12_costOf_70 (lv_at hl 0 rfl) ?_
      refine lv_iload hx hb dX12_costOf_72 (lv_at hl 6 rfl) ?_
      refine lv_sipush (v := 1000) hx hb dX12_costOf_74 (by decide) ?_
      refine lv_idiv hx hb dX12_costOf_77 (by decide) (lv_topi (fun v45 e45 => ?_))
      refine lv_if_le (tgt := 97) hx hb dX12_costOf_78 (by decide) (fun c46 => ?_) (fun c46 => ?_)
      · have f46 : v45.toInt ≤ 0 := f_le rfl (by decide) c46
        refine lv_iconst (v := 0) hx hb dX12_costOf_97 (by decide) ?_
        refine lv_iadd hx hb dX12_costOf_98 (lv_topi (fun v47 e47 => ?_))
        refine lv_istore (lv' := [(6, .int v47), (5, .int r2), (0, .ref (qm 0)), (1, .int p0), (2, .int p1), (3, .int p2), (4, .int p3)]) hx hb dX12_costOf_99 hl (by decide) rfl (fun ls hl => ?_)
        refine lv_iload hx hb dX12_costOf_101 (lv_at hl 0 rfl) ?_
        refine lv_iload hx hb dX12_costOf_103 (lv_at hl 6 rfl) ?_
        refine lv_bipush (v := 10) hx hb dX12_costOf_105 (by decide) ?_
        refine lv_idiv hx hb dX12_costOf_107 (by decide) (lv_topi (fun v48 e48 => ?_))
        refine lv_bipush (v := 10) hx hb dX12_costOf_108 (by decide) ?_
        refine lv_irem hx hb dX12_costOf_110 (by decide) (lv_topi (fun v49 e49 => ?_))
        have t49 : -10 < v49.toInt ∧ v49.toInt < 10 := by rw [e49]; exact i_remb (by decide) (by decide)
        refine lv_iconst (v := 1) hx hb dX12_costOf_111 (by decide) ?_
        refine lv_icmp_ne (tgt := 124) hx hb dX12_costOf_112 (by decide) (fun c50 => ?_) (fun c50 => ?_)
        · have f50 : ¬ v49.toInt = 1 := f_ne rfl (by decide) c50
          refine lv_iconst (v := 0) hx hb dX12_costOf_124 (by decide) ?_
          refine lv_iadd hx hb dX12_costOf_125 (lv_topi (fun v51 e51 => ?_))
          rw [hQ]
          exact x_i cx hr () hP hD hS (show v51 = J_X12_costOf sm tm p0 p1 p2 p3 from by subst k5 e7 w10 e11 e13 e15 e43 e44 e45 e47 e48 e49 e51; first | (refine Eq.symm ?_; refine Eq.trans (if_pos c12) ?_; refine Eq.trans (if_pos c16) ?_; refine Eq.trans (if_pos c46) ?_; refine Eq.trans (if_neg c50) ?_; rfl) | (unfold J_X12_costOf; try dsimp only; rw [if_pos c12, if_pos c16, if_pos c46, if_neg c50])) dX12_costOf_126
        · have f50 : v49.toInt = 1 := f_eq rfl (by decide) c50
          refine lv_aload_n hx hb dX12_costOf_115 rfl (lv_at hl 2 rfl) ?_
          refine g_get cx hP iw_X12_costOf_X12 0 rfl rfl 1 (by decide) rfl fw_X12_costOf_13 rfl dX12_costOf_116 ?_
          refine lv_iconst (v := 5) hx hb dX12_costOf_119 (by decide) ?_
          have hn52 : vp_in 5 26 := f_in (a := 5) (by decide) (by omega) (by omega)
          refine va_iald hx hb cx.2.1 hP 2 0 rfl rfl hn52 dX12_costOf_120 (lv_topi (fun v53 e53 => ?_))
          have uv53 : v53.toInt = ((sm 2) 5).toInt := congrArg Int32.toInt e53
          refine lv_goto (tgt := 125) hx hb dX12_costOf_121 (by decide) ?_
          refine lv_iadd hx hb dX12_costOf_125 (lv_topi (fun v54 e54 => ?_))
          rw [hQ]
          exact x_i cx hr () hP hD hS (show v54 = J_X12_costOf sm tm p0 p1 p2 p3 from by subst k5 e7 w10 e11 e13 e15 e43 e44 e45 e47 e48 e49 e53 e54; first | (refine Eq.symm ?_; refine Eq.trans (if_pos c12) ?_; refine Eq.trans (if_pos c16) ?_; refine Eq.trans (if_pos c46) ?_; refine Eq.trans (if_pos c50) ?_; rfl) | (unfold J_X12_costOf; try dsimp only; rw [if_pos c12, if_pos c16, if_pos c46, if_pos c50])) dX12_costOf_126
      · have f46 : 0 < v45.toInt := f_nle rfl (by decide) c46
        refine lv_iload hx hb dX12_costOf_81 (lv_at hl 6 rfl) ?_
        refine lv_sipush (v := 1000) hx hb dX12_costOf_83 (by decide) ?_
        refine lv_idiv hx hb dX12_costOf_86 (by decide) (lv_topi (fun v55 e55 => ?_))
        refine lv_aload_n hx hb dX12_costOf_87 rfl (lv_at hl 2 rfl) ?_
        refine g_get cx hP iw_X12_costOf_X12 0 rfl rfl 1 (by decide) rfl fw_X12_costOf_13 rfl dX12_costOf_88 ?_
        refine lv_iconst (v := 4) hx hb dX12_costOf_91 (by decide) ?_
        have hn56 : vp_in 4 26 := f_in (a := 4) (by decide) (by omega) (by omega)
        refine va_iald hx hb cx.2.1 hP 2 0 rfl rfl hn56 dX12_costOf_92 (lv_topi (fun v57 e57 => ?_))
        have uv57 : v57.toInt = ((sm 2) 4).toInt := congrArg Int32.toInt e57
        refine lv_imul hx hb dX12_costOf_93 (lv_topi (fun v58 e58 => ?_))
        refine lv_goto (tgt := 98) hx hb dX12_costOf_94 (by decide) ?_
        refine lv_iadd hx hb dX12_costOf_98 (lv_topi (fun v59 e59 => ?_))
        refine lv_istore (lv' := [(6, .int v59), (5, .int r2), (0, .ref (qm 0)), (1, .int p0), (2, .int p1), (3, .int p2), (4, .int p3)]) hx hb dX12_costOf_99 hl (by decide) rfl (fun ls hl => ?_)
        refine lv_iload hx hb dX12_costOf_101 (lv_at hl 0 rfl) ?_
        refine lv_iload hx hb dX12_costOf_103 (lv_at hl 6 rfl) ?_
        refine lv_bipush (v := 10) hx hb dX12_costOf_105 (by decide) ?_
        refine lv_idiv hx hb dX12_costOf_107 (by decide) (lv_topi (fun v60 e60 => ?_))
        refine lv_bipush (v := 10) hx hb dX12_costOf_108 (by decide) ?_
        refine lv_irem hx hb dX12_costOf_110 (by decide) (lv_topi (fun v61 e61 => ?_))
        have t61 : -10 < v61.toInt ∧ v61.toInt < 10 := by rw [e61]; exact i_remb (by decide) (by decide)
        refine lv_iconst (v := 1) hx hb dX12_costOf_111 (by decide) ?_
        refine lv_icmp_ne (tgt := 124) hx hb dX12_costOf_112 (by decide) (fun c62 => ?_) (fun c62 => ?_)
        · have f62 : ¬ v61.toInt = 1 := f_ne rfl (by decide) c62
          refine lv_iconst (v := 0) hx hb dX12_costOf_124 (by decide) ?_
          refine lv_iadd hx hb dX12_costOf_125 (lv_topi (fun v63 e63 => ?_))
          rw [hQ]
          exact x_i cx hr () hP hD hS (show v63 = J_X12_costOf sm tm p0 p1 p2 p3 from by subst k5 e7 w10 e11 e13 e15 e43 e44 e45 e55 e57 e58 e59 e60 e61 e63; first | (refine Eq.symm ?_; refine Eq.trans (if_pos c12) ?_; refine Eq.trans (if_pos c16) ?_; refine Eq.trans (if_neg c46) ?_; refine Eq.trans (if_neg c62) ?_; rfl) | (unfold J_X12_costOf; try dsimp only; rw [if_pos c12, if_pos c16, if_neg c46, if_neg c62])) dX12_costOf_126
        · have f62 : v61.toInt = 1 := f_eq rfl (by decide) c62
          refine lv_aload_n hx hb dX12_costOf_115 rfl (lv_at hl 2 rfl) ?_
          refine g_get cx hP iw_X12_costOf_X12 0 rfl rfl 1 (by decide) rfl fw_X12_costOf_13 rfl dX12_costOf_116 ?_
          refine lv_iconst (v := 5) hx hb dX12_costOf_119 (by decide) ?_
          have hn64 : vp_in 5 26 := f_in (a := 5) (by decide) (by omega) (by omega)
          refine va_iald hx hb cx.2.1 hP 2 0 rfl rfl hn64 dX12_costOf_120 (lv_topi (fun v65 e65 => ?_))
          have uv65 : v65.toInt = ((sm 2) 5).toInt := congrArg Int32.toInt e65
          refine lv_goto (tgt := 125) hx hb dX12_costOf_121 (by decide) ?_
          refine lv_iadd hx hb dX12_costOf_125 (lv_topi (fun v66 e66 => ?_))
          rw [hQ]
          exact x_i cx hr () hP hD hS (show v66 = J_X12_costOf sm tm p0 p1 p2 p3 from by subst k5 e7 w10 e11 e13 e15 e43 e44 e45 e55 e57 e58 e59 e60 e61 e65 e66; first | (refine Eq.symm ?_; refine Eq.trans (if_pos c12) ?_; refine Eq.trans (if_pos c16) ?_; refine Eq.trans (if_neg c46) ?_; refine Eq.trans (if_pos c62) ?_; rfl) | (unfold J_X12_costOf; try dsimp only; rw [if_pos c12, if_pos c16, if_neg c46, if_pos c62])) dX12_costOf_126
  · have f12 : r2.toInt < 0 := f_nle (by decide) rfl c12
    refine lv_iload hx hb dX12_costOf_27 (lv_at hl 0 rfl) ?_
    refine lv_ineg hx hb dX12_costOf_29 (lv_topi (fun v67 e67 => ?_))
    refine lv_aload_n hx hb dX12_costOf_30 rfl (lv_at hl 1 rfl) ?_
    refine g_get cx hP iw_X12_costOf_X12 0 rfl rfl 1 (by decide) rfl fw_X12_costOf_13 rfl dX12_costOf_31 ?_
    refine lv_iconst (v := 3) hx hb dX12_costOf_34 (by decide) ?_
    have hn68 : vp_in 3 26 := f_in (a := 3) (by decide) (by omega) (by omega)
    refine va_iald hx hb cx.2.1 hP 2 0 rfl rfl hn68 dX12_costOf_35 (lv_topi (fun v69 e69 => ?_))
    have uv69 : v69.toInt = ((sm 2) 3).toInt := congrArg Int32.toInt e69
    refine lv_imul hx hb dX12_costOf_36 (lv_topi (fun v70 e70 => ?_))
    refine lv_goto (tgt := 41) hx hb dX12_costOf_37 (by decide) ?_
    refine lv_iadd hx hb dX12_costOf_41 (lv_topi (fun v71 e71 => ?_))
    refine lv_iload_n hx hb dX12_costOf_42 rfl (lv_at hl 4 rfl) ?_
    refine lv_aload_n hx hb dX12_costOf_43 rfl (lv_at hl 1 rfl) ?_
    refine g_get cx hP iw_X12_costOf_X12 0 rfl rfl 1 (by decide) rfl fw_X12_costOf_13 rfl dX12_costOf_44 ?_
    refine lv_bipush (v := 6) hx hb dX12_costOf_47 (by decide) ?_
    have hn72 : vp_in 6 26 := f_in (a := 6) (by decide) (by omega) (by omega)
    refine va_iald hx hb cx.2.1 hP 2 0 rfl rfl hn72 dX12_costOf_49 (lv_topi (fun v73 e73 => ?_))
    have uv73 : v73.toInt = ((sm 2) 6).toInt := congrArg Int32.toInt e73
    refine lv_bipush (v := (-9)) hx hb dX12_costOf_50 (by decide) ?_
    refine lv_icmp_ne (tgt := 59) hx hb dX12_costOf_52 (by decide) (fun c74 => ?_) (fun c74 => ?_)
    · have f74 : ¬ v73.toInt = (-9) := f_ne rfl (by decide) c74
      refine lv_aload_n hx hb dX12_costOf_59 rfl (lv_at hl 1 rfl) ?_
      refine g_get cx hP iw_X12_costOf_X12 0 rfl rfl 1 (by decide) rfl fw_X12_costOf_13 rfl dX12_costOf_60 ?_
      refine lv_bipush (v := 6) hx hb dX12_costOf_63 (by decide) ?_
      have hn75 : vp_in 6 26 := f_in (a := 6) (by decide) (by omega) (by omega)
      refine va_iald hx hb cx.2.1 hP 2 0 rfl rfl hn75 dX12_costOf_65 (lv_topi (fun v76 e76 => ?_))
      have qv76_ : v76.toInt = v73.toInt := congrArg Int32.toInt (e76.trans e73.symm)
      have uv76 : v76.toInt = ((sm 2) 6).toInt := congrArg Int32.toInt e76
      refine lv_imul hx hb dX12_costOf_66 (lv_topi (fun v77 e77 => ?_))
      refine lv_iadd hx hb dX12_costOf_67 (lv_topi (fun v78 e78 => ?_))
      refine lv_istore (lv' := [(6, .int v78), (5, .int r2), (0, .ref (qm 0)), (1, .int p0), (2, .int p1), (3, .int p2), (4, .int p3)]) hx hb dX12_costOf_68 hl (by decide) rfl (fun ls hl => ?_)
      refine lv_iload hx hb dX12_costOf_70 (lv_at hl 0 rfl) ?_
      refine lv_iload hx hb dX12_costOf_72 (lv_at hl 6 rfl) ?_
      refine lv_sipush (v := 1000) hx hb dX12_costOf_74 (by decide) ?_
      refine lv_idiv hx hb dX12_costOf_77 (by decide) (lv_topi (fun v79 e79 => ?_))
      refine lv_if_le (tgt := 97) hx hb dX12_costOf_78 (by decide) (fun c80 => ?_) (fun c80 => ?_)
      · have f80 : v79.toInt ≤ 0 := f_le rfl (by decide) c80
        refine lv_iconst (v := 0) hx hb dX12_costOf_97 (by decide) ?_
        refine lv_iadd hx hb dX12_costOf_98 (lv_topi (fun v81 e81 => ?_))
        refine lv_istore (lv' := [(6, .int v81), (5, .int r2), (0, .ref (qm 0)), (1, .int p0), (2, .int p1), (3, .int p2), (4, .int p3)]) hx hb dX12_costOf_99 hl (by decide) rfl (fun ls hl => ?_)
        refine lv_iload hx hb dX12_costOf_101 (lv_at hl 0 rfl) ?_
        refine lv_iload hx hb dX12_costOf_103 (lv_at hl 6 rfl) ?_
        refine lv_bipush (v := 10) hx hb dX12_costOf_105 (by decide) ?_
        refine lv_idiv hx hb dX12_costOf_107 (by decide) (lv_topi (fun v82 e82 => ?_))
        refine lv_bipush (v := 10) hx hb dX12_costOf_108 (by decide) ?_
        refine lv_irem hx hb dX12_costOf_110 (by decide) (lv_topi (fun v83 e83 => ?_))
        have t83 : -10 < v83.toInt ∧ v83.toInt < 10 := by rw [e83]; exact i_remb (by decide) (by decide)
        refine lv_iconst (v := 1) hx hb dX12_costOf_111 (by decide) ?_
        refine lv_icmp_ne (tgt := 124) hx hb dX12_costOf_112 (by decide) (fun c84 => ?_) (fun c84 => ?_)
        · have f84 : ¬ v83.toInt = 1 := f_ne rfl (by decide) c84
          refine lv_iconst (v := 0) hx hb dX12_costOf_124 (by decide) ?_
          refine lv_iadd hx hb dX12_costOf_125 (lv_topi (fun v85 e85 => ?_))
          rw [hQ]
          exact x_i cx hr () hP hD hS (show v85 = J_X12_costOf sm tm p0 p1 p2 p3 from by subst k5 e7 w10 e11 e67 e69 e70 e71 e73 e76 e77 e78 e79 e81 e82 e83 e85; first | (refine Eq.symm ?_; refine Eq.trans (if_neg c12) ?_; refine Eq.trans (if_neg c74) ?_; refine Eq.trans (if_pos c80) ?_; refine Eq.trans (if_neg c84) ?_; rfl) | (unfold J_X12_costOf; try dsimp only; rw [if_neg c12, if_neg c74, if_pos c80, if_neg c84])) dX12_costOf_126
        · have f84 : v83.toInt = 1 := f_eq rfl (by decide) c84
          refine lv_aload_n hx hb dX12_costOf_115 rfl (lv_at hl 2 rfl) ?_
          refine g_get cx hP iw_X12_costOf_X12 0 rfl rfl 1 (by decide) rfl fw_X12_costOf_13 rfl dX12_costOf_116 ?_
          refine lv_iconst (v := 5) hx hb dX12_costOf_119 (by decide) ?_
          have hn86 : vp_in 5 26 := f_in (a := 5) (by decide) (by omega) (by omega)
          refine va_iald hx hb cx.2.1 hP 2 0 rfl rfl hn86 dX12_costOf_120 (lv_topi (fun v87 e87 => ?_))
          have uv87 : v87.toInt = ((sm 2) 5).toInt := congrArg Int32.toInt e87
          refine lv_goto (tgt := 125) hx hb dX12_costOf_121 (by decide) ?_
          refine lv_iadd hx hb dX12_costOf_125 (lv_topi (fun v88 e88 => ?_))
          rw [hQ]
          exact x_i cx hr () hP hD hS (show v88 = J_X12_costOf sm tm p0 p1 p2 p3 from by subst k5 e7 w10 e11 e67 e69 e70 e71 e73 e76 e77 e78 e79 e81 e82 e83 e87 e88; first | (refine Eq.symm ?_; refine Eq.trans (if_neg c12) ?_; refine Eq.trans (if_neg c74) ?_; refine Eq.trans (if_pos c80) ?_; refine Eq.trans (if_pos c84) ?_; rfl) | (unfold J_X12_costOf; try dsimp only; rw [if_neg c12, if_neg c74, if_pos c80, if_pos c84])) dX12_costOf_126
      · have f80 : 0 < v79.toInt := f_nle rfl (by decide) c80
        refine lv_iload hx hb dX12_costOf_81 (lv_at hl 6 rfl) ?_
        refine lv_sipush (v := 1000) hx hb dX12_costOf_83 (by decide) ?_
        refine lv_idiv hx hb dX12_costOf_86 (by decide) (lv_topi (fun v89 e89 => ?_))
        refine lv_aload_n hx hb dX12_costOf_87 rfl (lv_at hl 2 rfl) ?_
        refine g_get cx hP iw_X12_costOf_X12 0 rfl rfl 1 (by decide) rfl fw_X12_costOf_13 rfl dX12_costOf_88 ?_
        refine lv_iconst (v := 4) hx hb dX12_costOf_91 (by decide) ?_
        have hn90 : vp_in 4 26 := f_in (a := 4) (by decide) (by omega) (by omega)
        refine va_iald hx hb cx.2.1 hP 2 0 rfl rfl hn90 dX12_costOf_92 (lv_topi (fun v91 e91 => ?_))
        have uv91 : v91.toInt = ((sm 2) 4).toInt := congrArg Int32.toInt e91
        refine lv_imul hx hb dX12_costOf_93 (lv_topi (fun v92 e92 => ?_))
        refine lv_goto (tgt := 98) hx hb dX12_costOf_94 (by decide) ?_
        refine lv_iadd hx hb dX12_costOf_98 (lv_topi (fun v93 e93 => ?_))
        refine lv_istore (lv' := [(6, .int v93), (5, .int r2), (0, .ref (qm 0)), (1, .int p0), (2, .int p1), (3, .int p2), (4, .int p3)]) hx hb dX12_costOf_99 hl (by decide) rfl (fun ls hl => ?_)
        refine lv_iload hx hb dX12_costOf_101 (lv_at hl 0 rfl) ?_
        refine lv_iload hx hb dX12_costOf_103 (lv_at hl 6 rfl) ?_
        refine lv_bipush (v := 10) hx hb dX12_costOf_105 (by decide) ?_
        refine lv_idiv hx hb dX12_costOf_107 (by decide) (lv_topi (fun v94 e94 => ?_))
        refine lv_bipush (v := 10) hx hb dX12_costOf_108 (by decide) ?_
        refine lv_irem hx hb dX12_costOf_110 (by decide) (lv_topi (fun v95 e95 => ?_))
        have t95 : -10 < v95.toInt ∧ v95.toInt < 10 := by rw [e95]; exact i_remb (by decide) (by decide)
        refine lv_iconst (v := 1) hx hb dX12_costOf_111 (by decide) ?_
        refine lv_icmp_ne (tgt := 124) hx hb dX12_costOf_112 (by decide) (fun c96 => ?_) (fun c96 => ?_)
        · have f96 : ¬ v95.toInt = 1 := f_ne rfl (by decide) c96
          refine lv_iconst (v := 0) hx hb dX12_costOf_124 (by decide) ?_
          refine lv_iadd hx hb dX12_costOf_125 (lv_topi (fun v97 e97 => ?_))
          rw [hQ]
          exact x_i cx hr () hP hD hS (show v97 = J_X12_costOf sm tm p0 p1 p2 p3 from by subst k5 e7 w10 e11 e67 e69 e70 e71 e73 e76 e77 e78 e79 e89 e91 e92 e93 e94 e95 e97; first | (refine Eq.symm ?_; refine Eq.trans (if_neg c12) ?_; refine Eq.trans (if_neg c74) ?_; refine Eq.trans (if_neg c80) ?_; refine Eq.trans (if_neg c96) ?_; rfl) | (unfold J_X12_costOf; try dsimp only; rw [if_neg c12, if_neg c74, if_neg c80, if_neg c96])) dX12_costOf_126
        · have f96 : v95.toInt = 1 := f_eq rfl (by decide) c96
          refine lv_aload_n hx hb dX12_costOf_115 rfl (lv_at hl 2 rfl) ?_
          refine g_get cx hP iw_X12_costOf_X12 0 rfl rfl 1 (by decide) rfl fw_X12_costOf_13 rfl dX12_costOf_116 ?_
          refine lv_iconst (v := 5) hx hb dX12_costOf_119 (by decide) ?_
          have hn98 : vp_in 5 26 := f_in (a := 5) (by decide) (by omega) (by omega)
          refine va_iald hx hb cx.2.1 hP 2 0 rfl rfl hn98 dX12_costOf_120 (lv_topi (fun v99 e99 => ?_))
          have uv99 : v99.toInt = ((sm 2) 5).toInt := congrArg Int32.toInt e99
          refine lv_goto (tgt := 125) hx hb dX12_costOf_121 (by decide) ?_
          refine lv_iadd hx hb dX12_costOf_125 (lv_topi (fun v100 e100 => ?_))
          rw [hQ]
          exact x_i cx hr () hP hD hS (show v100 = J_X12_costOf sm tm p0 p1 p2 p3 from by subst k5 e7 w10 e11 e67 e69 e70 e71 e73 e76 e77 e78 e79 e89 e91 e92 e93 e94 e95 e99 e100; first | (refine Eq.symm ?_; refine Eq.trans (if_neg c12) ?_; refine Eq.trans (if_neg c74) ?_; refine Eq.trans (if_neg c80) ?_; refine Eq.trans (if_pos c96) ?_; rfl) | (unfold J_X12_costOf; try dsimp only; rw [if_neg c12, if_neg c74, if_neg c80, if_pos c96])) dX12_costOf_126
    · have f74 : v73.toInt = (-9) := f_eq rfl (by decide) c74
      refine lv_iconst (v := 0) hx hb dX12_costOf_55 (by decide) ?_
      refine lv_goto (tgt := 66) hx hb dX12_costOf_56 (by decide) ?_
      refine lv_imul hx hb dX12_costOf_66 (lv_topi (fun v101 e101 => ?_))
      have t101 : v101.toInt = p2.toInt * 0 := by rw [e101]; exact i_mul rfl (by decide) (by omega) (by omega)
      refine lv_iadd hx hb dX12_costOf_67 (lv_topi (fun v102 e102 => ?_))
      refine lv_istore (lv' := [(6, .int v102), (5, .int r2), (0, .ref (qm 0)), (1, .int p0), (2, .int p1), (3, .int p2), (4, .int p3)]) hx hb dX12_costOf_68 hl (by decide) rfl (fun ls hl => ?_)
      refine lv_iload hx hb dX12_costOf_70 (lv_at hl 0 rfl) ?_
      refine lv_iload hx hb dX12_costOf_72 (lv_at hl 6 rfl) ?_
      refine lv_sipush (v := 1000) hx hb dX12_costOf_74 (by decide) ?_
      refine lv_idiv hx hb dX12_costOf_77 (by decide) (lv_topi (fun v103 e103 => ?_))
      refine lv_if_le (tgt := 97) hx hb dX12_costOf_78 (by decide) (fun c104 => ?_) (fun c104 => ?_)
      · have f104 : v103.toInt ≤ 0 := f_le rfl (by decide) c104
        refine lv_iconst (v := 0) hx hb dX12_costOf_97 (by decide) ?_
        refine lv_iadd hx hb dX12_costOf_98 (lv_topi (fun v105 e105 => ?_))
        refine lv_istore (lv' := [(6, .int v105), (5, .int r2), (0, .ref (qm 0)), (1, .int p0), (2, .int p1), (3, .int p2), (4, .int p3)]) hx hb dX12_costOf_99 hl (by decide) rfl (fun ls hl => ?_)
        refine lv_iload hx hb dX12_costOf_101 (lv_at hl 0 rfl) ?_
        refine lv_iload hx hb dX12_costOf_103 (lv_at hl 6 rfl) ?_
        refine lv_bipush (v := 10) hx hb dX12_costOf_105 (by decide) ?_
        refine lv_idiv hx hb dX12_costOf_107 (by decide) (lv_topi (fun v106 e106 => ?_))
        refine lv_bipush (v := 10) hx hb dX12_costOf_108 (by decide) ?_
        refine lv_irem hx hb dX12_costOf_110 (by decide) (lv_topi (fun v107 e107 => ?_))
        have t107 : -10 < v107.toInt ∧ v107.toInt < 10 := by rw [e107]; exact i_remb (by decide) (by decide)
        refine lv_iconst (v := 1) hx hb dX12_costOf_111 (by decide) ?_
        refine lv_icmp_ne (tgt := 124) hx hb dX12_costOf_112 (by decide) (fun c108 => ?_) (fun c108 => ?_)
        · have f108 : ¬ v107.toInt = 1 := f_ne rfl (by decide) c108
          refine lv_iconst (v := 0) hx hb dX12_costOf_124 (by decide) ?_
          refine lv_iadd hx hb dX12_costOf_125 (lv_topi (fun v109 e109 => ?_))
          rw [hQ]
          exact x_i cx hr () hP hD hS (show v109 = J_X12_costOf sm tm p0 p1 p2 p3 from by subst k5 e7 w10 e11 e67 e69 e70 e71 e73 e101 e102 e103 e105 e106 e107 e109; first | (refine Eq.symm ?_; refine Eq.trans (if_neg c12) ?_; refine Eq.trans (if_pos c74) ?_; refine Eq.trans (if_pos c104) ?_; refine Eq.trans (if_neg c108) ?_; rfl) | (unfold J_X12_costOf; try dsimp only; rw [if_neg c12, if_pos c74, if_pos c104, if_neg c108])) dX12_costOf_126
        · have f108 : v107.toInt = 1 := f_eq rfl (by decide) c108
          refine lv_aload_n hx hb dX12_costOf_115 rfl (lv_at hl 2 rfl) ?_
          refine g_get cx hP iw_X12_costOf_X12 0 rfl rfl 1 (by decide) rfl fw_X12_costOf_13 rfl dX12_costOf_116 ?_
          refine lv_iconst (v := 5) hx hb dX12_costOf_119 (by decide) ?_
          have hn110 : vp_in 5 26 := f_in (a := 5) (by decide) (by omega) (by omega)
          refine va_iald hx hb cx.2.1 hP 2 0 rfl rfl hn110 dX12_costOf_120 (lv_topi (fun v111 e111 => ?_))
          have uv111 : v111.toInt = ((sm 2) 5).toInt := congrArg Int32.toInt e111
          refine lv_goto (tgt := 125) hx hb dX12_costOf_121 (by decide) ?_
          refine lv_iadd hx hb dX12_costOf_125 (lv_topi (fun v112 e112 => ?_))
          rw [hQ]
          exact x_i cx hr () hP hD hS (show v112 = J_X12_costOf sm tm p0 p1 p2 p3 from by subst k5 e7 w10 e11 e67 e69 e70 e71 e73 e101 e102 e103 e105 e106 e107 e111 e112; first | (refine Eq.symm ?_; refine Eq.trans (if_neg c12) ?_; refine Eq.trans (if_pos c74) ?_; refine Eq.trans (if_pos c104) ?_; refine Eq.trans (if_pos c108) ?_; rfl) | (unfold J_X12_costOf; try dsimp only; rw [if_neg c12, if_pos c74, if_pos c104, if_pos c108])) dX12_costOf_126
      · have f104 : 0 < v103.toInt := f_nle rfl (by decide) c104
        refine lv_iload hx hb dX12_costOf_81 (lv_at hl 6 rfl) ?_
        refine lv_sipush (v := 1000) hx hb dX12_costOf_83 (by decide) ?_
        refine lv_idiv hx hb dX12_costOf_86 (by decide) (lv_topi (fun v113 e113 => ?_))
        refine lv_aload_n hx hb dX12_costOf_87 rfl (lv_at hl 2 rfl) ?_
        refine g_get cx hP iw_X12_costOf_X12 0 rfl rfl 1 (by decide) rfl fw_X12_costOf_13 rfl dX12_costOf_88 ?_
        refine lv_iconst (v := 4) hx hb dX12_costOf_91 (by decide) ?_
        have hn114 : vp_in 4 26 := f_in (a := 4) (by decide) (by omega) (by omega)
        refine va_iald hx hb cx.2.1 hP 2 0 rfl rfl hn114 dX12_costOf_92 (lv_topi (fun v115 e115 => ?_))
        have uv115 : v115.toInt = ((sm 2) 4).toInt := congrArg Int32.toInt e115
        refine lv_imul hx hb dX12_costOf_93 (lv_topi (fun v116 e116 => ?_))
        refine lv_goto (tgt := 98) hx hb dX12_costOf_94 (by decide) ?_
        refine lv_iadd hx hb dX12_costOf_98 (lv_topi (fun v117 e117 => ?_))
        refine lv_istore (lv' := [(6, .int v117), (5, .int r2), (0, .ref (qm 0)), (1, .int p0), (2, .int p1), (3, .int p2), (4, .int p3)]) hx hb dX12_costOf_99 hl (by decide) rfl (fun ls hl => ?_)
        refine lv_iload hx hb dX12_costOf_101 (lv_at hl 0 rfl) ?_
        refine lv_iload hx hb dX12_costOf_103 (lv_at hl 6 rfl) ?_
        refine lv_bipush (v := 10) hx hb dX12_costOf_105 (by decide) ?_
        refine lv_idiv hx hb dX12_costOf_107 (by decide) (lv_topi (fun v118 e118 => ?_))
        refine lv_bipush (v := 10) hx hb dX12_costOf_108 (by decide) ?_
        refine lv_irem hx hb dX12_costOf_110 (by decide) (lv_topi (fun v119 e119 => ?_))
        have t119 : -10 < v119.toInt ∧ v119.toInt < 10 := by rw [e119]; exact i_remb (by decide) (by decide)
        refine lv_iconst (v := 1) hx hb dX12_costOf_111 (by decide) ?_
        refine lv_icmp_ne (tgt := 124) hx hb dX12_costOf_112 (by decide) (fun c120 => ?_) (fun c120 => ?_)
        · have f120 : ¬ v119.toInt = 1 := f_ne rfl (by decide) c120
          refine lv_iconst (v := 0) hx hb dX12_costOf_124 (by decide) ?_
          refine lv_iadd hx hb dX12_costOf_125 (lv_topi (fun v121 e121 => ?_))
          rw [hQ]
          exact x_i cx hr () hP hD hS (show v121 = J_X12_costOf sm tm p0 p1 p2 p3 from by subst k5 e7 w10 e11 e67 e69 e70 e71 e73 e101 e102 e103 e113 e115 e116 e117 e118 e119 e121; first | (refine Eq.symm ?_; refine Eq.trans (if_neg c12) ?_; refine Eq.trans (if_pos c74) ?_; refine Eq.trans (if_neg c104) ?_; refine Eq.trans (if_neg c120) ?_; rfl) | (unfold J_X12_costOf; try dsimp only; rw [if_neg c12, if_pos c74, if_neg c104, if_neg c120])) dX12_costOf_126
        · have f120 : v119.toInt = 1 := f_eq rfl (by decide) c120
          refine lv_aload_n hx hb dX12_costOf_115 rfl (lv_at hl 2 rfl) ?_
          refine g_get cx hP iw_X12_costOf_X12 0 rfl rfl 1 (by decide) rfl fw_X12_costOf_13 rfl dX12_costOf_116 ?_
          refine lv_iconst (v := 5) hx hb dX12_costOf_119 (by decide) ?_
          have hn122 : vp_in 5 26 := f_in (a := 5) (by decide) (by omega) (by omega)
          refine va_iald hx hb cx.2.1 hP 2 0 rfl rfl hn122 dX12_costOf_120 (lv_topi (fun v123 e123 => ?_))
          have uv123 : v123.toInt = ((sm 2) 5).toInt := congrArg Int32.toInt e123
          refine lv_goto (tgt := 125) hx hb dX12_costOf_121 (by decide) ?_
          refine lv_iadd hx hb dX12_costOf_125 (lv_topi (fun v124 e124 => ?_))
          rw [hQ]
          exact x_i cx hr () hP hD hS (show v124 = J_X12_costOf sm tm p0 p1 p2 p3 from by subst k5 e7 w10 e11 e67 e69 e70 e71 e73 e101 e102 e103 e113 e115 e116 e117 e118 e119 e123 e124; first | (refine Eq.symm ?_; refine Eq.trans (if_neg c12) ?_; refine Eq.trans (if_pos c74) ?_; refine Eq.trans (if_neg c104) ?_; refine Eq.trans (if_pos c120) ?_; rfl) | (unfold J_X12_costOf; try dsimp only; rw [if_neg c12, if_pos c74, if_neg c104, if_pos c120])) dX12_costOf_126
def B_X12_choose_4 (p0 : Int32) (p1 : Int32) (z : Int32 × Int32) : Sum (Int32 × Int32) (Int32) := let v6 := (z.1); let v7 := (z.2); if p1 ≤ v6 then Sum.inr (v7) else Sum.inl (((v6 + 1), ((v7 * (p0 - v6)) / (v6 + (1 : Int32)))))
def J_X12_choose (p0 : Int32) (p1 : Int32) : Int32 := LTs default (B_X12_choose_4 p0 p1) (Int.toNat p1.toInt + 1) ((0 : Int32), (1 : Int32))
set_option maxHeartbeats 4000000 in
set_option maxRecDepth 100000 in
theorem c_X12_choose (l : Launch) (D : va_G) (k : Nat → ClassId) (b : Nat → Nat) (sz : Nat) (p0 : Int32) (p1 : Int32) : MetI l D k b yX12_choose wsX12_choose ({ frames := 0, cells := 0, slots := 0, locals := 0 } : Room) [] sz [.int p0, .int p1] (fun (r : Int32) (u : Unit) => r = J_X12_choose p0 p1) (fun u => []) := by
  refine g_enter (cc := cX12_choose) (maxL := 4) (ret := (some .int)) (by decide) rfl (Nat.le_of_ble_eq_true rfl) ?_
  intro p e s m below meth c A hsz hAe cx hr hP hD hS ls hl
  rw [hAe]
  refine g_q (fun Q hQ => ?_)
  have hx := cx.1.1
  have hb := cx.1.2.1
  have bp0 := i_rng p0
  have bp1 := i_rng p1
  have hl : lv_has ls 4 [(0, .int p0), (1, .int p1)] := hl
  obtain ⟨H, eH⟩ : ∃ H : Heap, H = s.heap := ⟨_, rfl⟩
  obtain ⟨locs, el⟩ : ∃ L : List Loc, L = [] := ⟨_, rfl⟩
  have hP : va_P D vwCl [] H := by rw [eH]; exact hP
  have hD : va_D A [] := hD
  have hS : va_S A s.heap H locs := by rw [eH, el]; exact hS
  suffices goal : W p l e ({ frames := 0, cells := 0, slots := 0, locals := 0 } : Room) s m ([.int p0, .int p1] : List Value).toArray below meth c H locs 0 0 Q (F0 m 0 ls []) by rw [eH, el] at goal; exact goal
  refine lv_iconst (v := 1) hx hb dX12_choose_0 (by decide) ?_
  refine lv_istore_n (lv' := [(2, .int 1), (0, .int p0), (1, .int p1)]) hx hb dX12_choose_1 rfl hl (by decide) rfl (fun ls hl => ?_)
  refine lv_iconst (v := 0) hx hb dX12_choose_2 (by decide) ?_
  refine lv_istore_n (lv' := [(3, .int 0), (2, .int 1), (0, .int p0), (1, .int p1)]) hx hb dX12_choose_3 rfl hl (by decide) rfl (fun ls hl => ?_)
  obtain ⟨rr4_1, err4_1⟩ : ∃ r : Int32, LTs (default : Int32) (B_X12_choose_4 p0 p1) (Int.toNat p1.toInt + 1) ((0 : Int32), (1 : Int32)) = r := ⟨_, rfl⟩
  have hrr4_1 : J_X12_choose p0 p1 = rr4_1 := by exact err4_1
  have hL4 : ∀ (n8 : Nat) (v6 : Int32) (v7 : Int32) (H : Heap) (locs : List Loc) (ls : Array Slot), (p1.toInt - v6.toInt < (n8 : Int) ∧ 0 < (n8 : Int)) → (0 ≤ v6.toInt) → (LTs (default : Int32) (B_X12_choose_4 p0 p1) n8 (v6, v7) = rr4_1) → va_P D vwCl [] H → va_D A [] → va_S A s.heap H locs → lv_has ls 4 [(3, .int v6), (2, .int v7), (0, .int p0), (1, .int p1)] → W p l e ({ frames := 0, cells := 0, slots := 0, locals := 0 } : Room) s m ([.int p0, .int p1] : List Value).toArray below meth c H locs 0 0 Q (F0 m 4 ls []) := by
    intro n8
    induction n8 with
    | zero => intro v6 v7 H locs ls hmn8 bv6 hzrr4_1 hP hD hS hl; exact absurd hmn8 (by omega)
    | succ n8 ih4 =>
      intro v6 v7 H locs ls hmn8 bv6 hzrr4_1 hP hD hS hl
      refine lv_iload_n hx hb dX12_choose_4 rfl (lv_at hl 0 rfl) ?_
      refine lv_iload_n hx hb dX12_choose_5 rfl (lv_at hl 3 rfl) ?_
      refine lv_icmp_ge (tgt := 25) hx hb dX12_choose_6 (by decide) (fun c9 => ?_) (fun c9 => ?_)
      · have f9 : p1.toInt ≤ v6.toInt := f_le rfl rfl c9
        refine lv_iload_n hx hb dX12_choose_25 rfl (lv_at hl 1 rfl) ?_
        rw [hQ]
        exact x_i cx hr () hP hD hS (show v7 = J_X12_choose p0 p1 from ((hrr4_1.trans (LT_r hzrr4_1 (show (B_X12_choose_4 p0 p1) (v6, v7) = Sum.inr (v7) from by refine Eq.trans (if_pos c9) ?_; rfl)))).symm) dX12_choose_26
      · have f9 : v6.toInt < p1.toInt := f_nle rfl rfl c9
        refine lv_iload_n hx hb dX12_choose_9 rfl (lv_at hl 1 rfl) ?_
        refine lv_iload_n hx hb dX12_choose_10 rfl (lv_at hl 2 rfl) ?_
        refine lv_iload_n hx hb dX12_choose_11 rfl (lv_at hl 0 rfl) ?_
        refine lv_isub hx hb dX12_choose_12 (lv_topi (fun v10 e10 => ?_))
        refine lv_imul hx hb dX12_choose_13 (lv_topi (fun v11 e11 => ?_))
        refine lv_iload_n hx hb dX12_choose_14 rfl (lv_at hl 0 rfl) ?_
        refine lv_iconst (v := 1) hx hb dX12_choose_15 (by decide) ?_
        refine lv_iadd hx hb dX12_choose_16 (lv_topi (fun v12 e12 => ?_))
        have t12 : v12.toInt = v6.toInt + 1 := by rw [e12]; exact i_add rfl (by decide) (by omega) (by omega)
        refine lv_idiv hx hb dX12_choose_17 (nz32 (by omega)) (lv_topi (fun v13 e13 => ?_))
        refine lv_istore_n (lv' := [(2, .int v13), (3, .int v6), (0, .int p0), (1, .int p1)]) hx hb dX12_choose_18 rfl hl (by decide) rfl (fun ls hl => ?_)
        obtain ⟨v14, e14⟩ : ∃ z : Int32, z = v6 + 1 := ⟨_, rfl⟩
        refine lv_iinc (v := v14) (lv' := [(3, .int v14), (2, .int v13), (0, .int p0), (1, .int p1)]) hx hb dX12_choose_19 hl (k := 1) rfl (by rw [e14]; rfl) (by decide) rfl (fun ls hl => ?_)
        have t14 : v14.toInt = v6.toInt + 1 := by rw [e14]; exact i_add rfl (by decide) (by omega) (by omega)
        refine lv_goto (tgt := 4) hx hb dX12_choose_22 (by decide) ?_
        exact ih4 v14 v13 _ _ _ (by omega) (by first | decide | omega) (LT_g hzrr4_1 (show (B_X12_choose_4 p0 p1) (v6, v7) = Sum.inl (v14, v13) from by subst e10 e11 e12 e13 e14; refine Eq.trans (if_neg c9) ?_; rfl)) hP hD hS (lv_sub hl [0, 1, 2, 3] rfl)
  have hlit15 : (0 : Int32).toInt = 0 := by decide
  have hlit16 : (1 : Int32).toInt = 1 := by decide
  exact hL4 ((Int.toNat p1.toInt + 1)) 0 1 _ _ _ (by omega) (by first | decide | omega) err4_1 hP hD hS (lv_sub hl [0, 1, 2, 3] rfl)
def B_X12_power_4 (p0 : Int32) (p1 : Int32) (z : Int32 × Int32) : Sum (Int32 × Int32) (Int32) := let v3 := (z.1); let v4 := (z.2); if p1 ≤ v3 then Sum.inr (v4) else Sum.inl (((v3 + 1), (v4 * p0)))
def J_X12_power (p0 : Int32) (p1 : Int32) : Int32 := LTs default (B_X12_power_4 p0 p1) (Int.toNat p1.toInt + 1) ((0 : Int32), (1 : Int32))
set_option maxHeartbeats 4000000 in
set_option maxRecDepth 100000 in
theorem c_X12_power (l : Launch) (D : va_G) (k : Nat → ClassId) (b : Nat → Nat) (sz : Nat) (p0 : Int32) (p1 : Int32) : MetI l D k b yX12_power wsX12_power ({ frames := 0, cells := 0, slots := 0, locals := 0 } : Room) [] sz [.int p0, .int p1] (fun (r : Int32) (u : Unit) => (Imp (p0.toInt % 2 = 1) (r.toInt % 2 = 1)) ∧ (r = J_X12_power p0 p1)) (fun u => []) := by
  refine g_enter (cc := cX12_power) (maxL := 4) (ret := (some .int)) (by decide) rfl (Nat.le_of_ble_eq_true rfl) ?_
  intro p e s m below meth c A hsz hAe cx hr hP hD hS ls hl
  rw [hAe]
  refine g_q (fun Q hQ => ?_)
  have hx := cx.1.1
  have hb := cx.1.2.1
  have bp0 := i_rng p0
  have bp1 := i_rng p1
  have hl : lv_has ls 4 [(0, .int p0), (1, .int p1)] := hl
  obtain ⟨H, eH⟩ : ∃ H : Heap, H = s.heap := ⟨_, rfl⟩
  obtain ⟨locs, el⟩ : ∃ L : List Loc, L = [] := ⟨_, rfl⟩
  have hP : va_P D vwCl [] H := by rw [eH]; exact hP
  have hD : va_D A [] := hD
  have hS : va_S A s.heap H locs := by rw [eH, el]; exact hS
  suffices goal : W p l e ({ frames := 0, cells := 0, slots := 0, locals := 0 } : Room) s m ([.int p0, .int p1] : List Value).toArray below meth c H locs 0 0 Q (F0 m 0 ls []) by rw [eH, el] at goal; exact goal
  refine lv_iconst (v := 1) hx hb dX12_power_0 (by decide) ?_
  refine lv_istore_n (lv' := [(2, .int 1), (0, .int p0), (1, .int p1)]) hx hb dX12_power_1 rfl hl (by decide) rfl (fun ls hl => ?_)
  refine lv_iconst (v := 0) hx hb dX12_power_2 (by decide) ?_
  refine lv_istore_n (lv' := [(3, .int 0), (2, .int 1), (0, .int p0), (1, .int p1)]) hx hb dX12_power_3 rfl hl (by decide) rfl (fun ls hl => ?_)
  obtain ⟨rr4_1, err4_1⟩ : ∃ r : Int32, LTs (default : Int32) (B_X12_power_4 p0 p1) (Int.toNat p1.toInt + 1) ((0 : Int32), (1 : Int32)) = r := ⟨_, rfl⟩
  have hrr4_1 : J_X12_power p0 p1 = rr4_1 := by exact err4_1
  have hL4 : ∀ (n5 : Nat) (v3 : Int32) (v4 : Int32) (H : Heap) (locs : List Loc) (ls : Array Slot), (p1.toInt - v3.toInt < (n5 : Int) ∧ 0 < (n5 : Int)) → (0 ≤ v3.toInt) → (¬ p0.toInt % 2 = 1 ∨ v4.toInt % 2 = 1) → (LTs (default : Int32) (B_X12_power_4 p0 p1) n5 (v3, v4) = rr4_1) → va_P D vwCl [] H → va_D A [] → va_S A s.heap H locs → lv_has ls 4 [(3, .int v3), (2, .int v4), (0, .int p0), (1, .int p1)] → W p l e ({ frames := 0, cells := 0, slots := 0, locals := 0 } : Room) s m ([.int p0, .int p1] : List Value).toArray below meth c H locs 0 0 Q (F0 m 4 ls []) := by
    intro n5
    induction n5 with
    | zero => intro v3 v4 H locs ls hmn5 bv3 qo hzrr4_1 hP hD hS hl; exact absurd hmn5 (by omega)
    | succ n5 ih4 =>
      intro v3 v4 H locs ls hmn5 bv3 qo hzrr4_1 hP hD hS hl
      refine lv_iload_n hx hb dX12_power_4 rfl (lv_at hl 0 rfl) ?_
      refine lv_iload_n hx hb dX12_power_5 rfl (lv_at hl 3 rfl) ?_
      refine lv_icmp_ge (tgt := 19) hx hb dX12_power_6 (by decide) (fun c6 => ?_) (fun c6 => ?_)
      · have f6 : p1.toInt ≤ v3.toInt := f_le rfl rfl c6
        refine lv_iload_n hx hb dX12_power_19 rfl (lv_at hl 1 rfl) ?_
        rw [hQ]
        exact x_i cx hr () hP hD hS ⟨(show Imp (p0.toInt % 2 = 1) (v4.toInt % 2 = 1) from fun h => by omega), (show v4 = J_X12_power p0 p1 from ((hrr4_1.trans (LT_r hzrr4_1 (show (B_X12_power_4 p0 p1) (v3, v4) = Sum.inr (v4) from by refine Eq.trans (if_pos c6) ?_; rfl)))).symm)⟩ dX12_power_20
      · have f6 : v3.toInt < p1.toInt := f_nle rfl rfl c6
        refine lv_iload_n hx hb dX12_power_9 rfl (lv_at hl 1 rfl) ?_
        refine lv_iload_n hx hb dX12_power_10 rfl (lv_at hl 2 rfl) ?_
        refine lv_imul hx hb dX12_power_11 (lv_topi (fun v7 e7 => ?_))
        have ov7 := oddm e7 (show ¬ p0.toInt % 2 = 1 ∨ v4.toInt % 2 = 1 from by omega)
        refine lv_istore_n (lv' := [(2, .int v7), (3, .int v3), (0, .int p0), (1, .int p1)]) hx hb dX12_power_12 rfl hl (by decide) rfl (fun ls hl => ?_)
        obtain ⟨v8, e8⟩ : ∃ z : Int32, z = v3 + 1 := ⟨_, rfl⟩
        refine lv_iinc (v := v8) (lv' := [(3, .int v8), (2, .int v7), (0, .int p0), (1, .int p1)]) hx hb dX12_power_13 hl (k := 1) rfl (by rw [e8]; rfl) (by decide) rfl (fun ls hl => ?_)
        have t8 : v8.toInt = v3.toInt + 1 := by rw [e8]; exact i_add rfl (by decide) (by omega) (by omega)
        refine lv_goto (tgt := 4) hx hb dX12_power_16 (by decide) ?_
        exact ih4 v8 v7 _ _ _ (by omega) (by first | decide | omega) (by first | decide | omega) (LT_g hzrr4_1 (show (B_X12_power_4 p0 p1) (v3, v4) = Sum.inl (v8, v7) from by subst e7 e8; refine Eq.trans (if_neg c6) ?_; rfl)) hP hD hS (lv_sub hl [0, 1, 2, 3] rfl)
  have hlit9 : (0 : Int32).toInt = 0 := by decide
  have hlit10 : (1 : Int32).toInt = 1 := by decide
  exact hL4 ((Int.toNat p1.toInt + 1)) 0 1 _ _ _ (by omega) (by first | decide | omega) (by first | decide | omega) err4_1 hP hD hS (lv_sub hl [0, 1, 2, 3] rfl)
theorem nd_X12_choose : yX12_choose.cls ≠ "java/lang/invoke/MethodHandle" ∧ yX12_choose.cls ≠ "java/lang/invoke/VarHandle" ∧ (parseMethodDescriptor yX12_choose.desc).map (fun d => d.parameters.length) = some 2 := by decide +kernel
theorem nd_X12_goes : yX12_goes.cls = RX12 ∧ yX12_goes.cls ≠ "java/lang/invoke/MethodHandle" ∧ yX12_goes.cls ≠ "java/lang/invoke/VarHandle" ∧ (parseMethodDescriptor yX12_goes.desc).map (fun d => d.parameters.length) = some 1 := by decide +kernel
theorem nd_X12_power : yX12_power.cls ≠ "java/lang/invoke/MethodHandle" ∧ yX12_power.cls ≠ "java/lang/invoke/VarHandle" ∧ (parseMethodDescriptor yX12_power.desc).map (fun d => d.parameters.length) = some 2 := by decide +kernel
def J_X12_stays (sm : Nat → Nat → Int32) (tm : Nat → Nat → Int64) (p0 : Int32) (p1 : Int32) (p2 : Int32) : Int32 := if (J_X12_in (p2.toInt64) 0 (p1.toInt64)) = 0 then (0 : Int32) else let y11 := J_X12_choose p1 p2; let y16 := J_X12_goes sm tm p0; let y23 := J_X12_power ((5 : Int32) - y16) p2; let y29 := J_X12_goes sm tm p0; let y36 := J_X12_power y29 (p1 - p2); ((y11 * y23) * y36)
set_option maxHeartbeats 4000000 in
set_option maxRecDepth 100000 in
theorem c_X12_stays (l : Launch) (D : va_G) (k : Nat → ClassId) (b : Nat → Nat) (qm : Nat → Nat) (sm : Nat → Nat → Int32) (tm : Nat → Nat → Int64) (sz : Nat) (p0 : Int32) (p1 : Int32) (p2 : Int32) (hp0 : 0 ≤ p0.toInt ∧ p0.toInt ≤ 2) : MetI l D k b yX12_stays wsX12_stays ({ frames := 1, cells := 0, slots := 0, locals := 25 } : Room) [cell22_ qm sm tm, cell5_ k qm sm, cell13_ k qm sm, cell8_ k qm sm, cell6_ k qm sm, cell15_ k qm sm, cell14_ k qm tm, cell12_ k qm tm, cell18_ k qm tm, cell17_ k qm tm, cell19_ k qm tm, cell21_ k qm tm, cell20_ k qm sm, cell16_ k qm sm, cell11_ k qm sm, cell10_ k qm sm, cell9_ k qm sm, cell7_ k qm sm] sz [.ref (qm 0), .int p0, .int p1, .int p2] (fun (r : Int32) (u : Unit) => r = J_X12_stays sm tm p0 p1 p2) (fun u => [cell22_ qm sm tm, cell5_ k qm sm, cell13_ k qm sm, cell8_ k qm sm, cell6_ k qm sm, cell15_ k qm sm, cell14_ k qm tm, cell12_ k qm tm, cell18_ k qm tm, cell17_ k qm tm, cell19_ k qm tm, cell21_ k qm tm, cell20_ k qm sm, cell16_ k qm sm, cell11_ k qm sm, cell10_ k qm sm, cell9_ k qm sm, cell7_ k qm sm]) := by
  refine g_enter (cc := cX12_stays) (maxL := 4) (ret := (some .int)) (by decide) rfl (Nat.le_of_ble_eq_true rfl) ?_
  intro p e s m below meth c A hsz hAe cx hr hP hD hS ls hl
  rw [hAe]
  refine g_q (fun Q hQ => ?_)
  have hx := cx.1.1
  have hb := cx.1.2.1
  have bp0 := i_rng p0
  have bp1 := i_rng p1
  have bp2 := i_rng p2
  have hl : lv_has ls 4 [(0, .ref (qm 0)), (1, .int p0), (2, .int p1), (3, .int p2)] := hl
  obtain ⟨H, eH⟩ : ∃ H : Heap, H = s.heap := ⟨_, rfl⟩
  obtain ⟨locs, el⟩ : ∃ L : List Loc, L = [] := ⟨_, rfl⟩
  have hP : va_P D vwCl [cell22_ qm sm tm, cell5_ k qm sm, cell13_ k qm sm, cell8_ k qm sm, cell6_ k qm sm, cell15_ k qm sm, cell14_ k qm tm, cell12_ k qm tm, cell18_ k qm tm, cell17_ k qm tm, cell19_ k qm tm, cell21_ k qm tm, cell20_ k qm sm, cell16_ k qm sm, cell11_ k qm sm, cell10_ k qm sm, cell9_ k qm sm, cell7_ k qm sm] H := by rw [eH]; exact hP
  have hD : va_D A [cell22_ qm sm tm, cell5_ k qm sm, cell13_ k qm sm, cell8_ k qm sm, cell6_ k qm sm, cell15_ k qm sm, cell14_ k qm tm, cell12_ k qm tm, cell18_ k qm tm, cell17_ k qm tm, cell19_ k qm tm, cell21_ k qm tm, cell20_ k qm sm, cell16_ k qm sm, cell11_ k qm sm, cell10_ k qm sm, cell9_ k qm sm, cell7_ k qm sm] := hD
  have hS : va_S A s.heap H locs := by rw [eH, el]; exact hS
  suffices goal : W p l e ({ frames := 1, cells := 0, slots := 0, locals := 25 } : Room) s m ([.ref (qm 0), .int p0, .int p1, .int p2] : List Value).toArray below meth c H locs 0 0 Q (F0 m 0 ls []) by rw [eH, el] at goal; exact goal
  refine lv_iload_n hx hb dX12_stays_0 rfl (lv_at hl 3 rfl) ?_
  obtain ⟨v1, e1⟩ : ∃ z : Int64, z = (p2 : Int32).toInt64 := ⟨_, rfl⟩
  refine lv_i2l (v := v1) hx hb dX12_stays_1 e1.symm ?_
  refine lv_lconst (v := 0) hx hb dX12_stays_2 (by decide) ?_
  refine lv_iload_n hx hb dX12_stays_3 rfl (lv_at hl 2 rfl) ?_
  obtain ⟨v2, e2⟩ : ∃ z : Int64, z = (p1 : Int32).toInt64 := ⟨_, rfl⟩
  refine lv_i2l (v := v2) hx hb dX12_stays_4 e2.symm ?_
  refine g_ir (g_runS (wc := []) (rest := []) cx hP hD hS [] rfl (by decide) [.long v1, .long 0, .long v2] (c_X12_in l D k b H.size v1 0 v2) gX12_stays_X12_in rfl rfl rfl nd_X12_in ⟨Nat.le_of_ble_eq_true rfl, Nat.le_of_ble_eq_true rfl⟩ rfl hl.1 rfl (Nat.le_of_ble_eq_true rfl) ⟨Nat.zero_le _, Nat.zero_le _⟩ dX12_stays_5) cx.2.2.1 hP hD hS [] rfl rfl (fun r4 H locs hw3 hP hS => ?_)
  have w5 : r4 = J_X12_in v1 (0 : Int64) v2 := hw3
  clear hw3
  have zr4 := in_b w5
  refine lv_if_eq (tgt := 43) hx hb dX12_stays_8 (by decide) (fun c6 => ?_) (fun c6 => ?_)
  · have f6 : r4.toInt = 0 := f_eq rfl (by decide) c6
    have k6 : p2.toInt < 0 ∨ p1.toInt < p2.toInt := in_f (i2l_t rfl e1) (by decide) (i2l_t rfl e2) w5 c6
    refine lv_iconst (v := 0) hx hb dX12_stays_43 (by decide) ?_
    have hlit7 : (0 : Int32).toInt = 0 := by decide
    rw [hQ]
    exact x_i cx hr () hP hD hS (show (0 : Int32) = J_X12_stays sm tm p0 p1 p2 from by subst e1 e2 w5; first | (refine Eq.symm ?_; refine Eq.trans (if_pos c6) ?_; rfl) | (unfold J_X12_stays; try dsimp only; rw [if_pos c6])) dX12_stays_44
  · have f6 : ¬ r4.toInt = 0 := f_ne rfl (by decide) c6
    have k6 : 0 ≤ p2.toInt ∧ p2.toInt ≤ p1.toInt := in_t (i2l_t rfl e1) (by decide) (i2l_t rfl e2) w5 c6
    refine lv_iload_n hx hb dX12_stays_11 rfl (lv_at hl 2 rfl) ?_
    refine lv_iload_n hx hb dX12_stays_12 rfl (lv_at hl 3 rfl) ?_
    refine g_ir (g_runS (wc := []) (rest := []) cx hP hD hS [] rfl (by decide) [.int p1, .int p2] (c_X12_choose l D k b H.size p1 p2) gX12_stays_X12_choose rfl rfl rfl nd_X12_choose ⟨Nat.le_of_ble_eq_true rfl, Nat.le_of_ble_eq_true rfl⟩ rfl hl.1 rfl (Nat.le_of_ble_eq_true rfl) ⟨Nat.zero_le _, Nat.zero_le _⟩ dX12_stays_13) cx.2.2.1 hP hD hS [] rfl rfl (fun r9 H locs hw8 hP hS => ?_)
    have w10 : r9 = J_X12_choose p1 p2 := hw8
    clear hw8
    have k12 : r9 = (J_X12_choose p1 p2) := congrArg (fun z => z) w10
    refine lv_iconst (v := 5) hx hb dX12_stays_16 (by decide) ?_
    refine lv_aload_n hx hb dX12_stays_17 rfl (lv_at hl 0 rfl) ?_
    refine lv_iload_n hx hb dX12_stays_18 rfl (lv_at hl 1 rfl) ?_
    refine g_iF (w1 := fun (_ : Unit) => [cell22_ qm sm tm, cell5_ k qm sm, cell13_ k qm sm, cell8_ k qm sm, cell6_ k qm sm, cell15_ k qm sm, cell14_ k qm tm, cell12_ k qm tm, cell18_ k qm tm, cell17_ k qm tm, cell19_ k qm tm, cell21_ k qm tm, cell20_ k qm sm, cell16_ k qm sm, cell11_ k qm sm, cell10_ k qm sm, cell9_ k qm sm, cell7_ k qm sm]) (g_runVF (ws := [cell22_ qm sm tm, cell5_ k qm sm, cell13_ k qm sm, cell8_ k qm sm, cell6_ k qm sm, cell15_ k qm sm, cell14_ k qm tm, cell12_ k qm tm, cell18_ k qm tm, cell17_ k qm tm, cell19_ k qm tm, cell21_ k qm tm, cell20_ k qm sm, cell16_ k qm sm, cell11_ k qm sm, cell10_ k qm sm, cell9_ k qm sm, cell7_ k qm sm]) (rest := [.int 5, .int r9]) cx hP hD hS [.int p0] (c_X12_goes l D k b qm sm tm H.size p0 (show 0 ≤ p0.toInt ∧ p0.toInt ≤ 2 from by first | decide | omega)) gX12_stays_X12_goes rfl rfl rfl nd_X12_goes ⟨Nat.le_of_ble_eq_true rfl, Nat.le_of_ble_eq_true rfl⟩ (ci := 10) (q0 := 0) rfl rfl rfl hl.1 rfl (Nat.le_of_ble_eq_true rfl) ⟨Nat.zero_le _, Nat.zero_le _⟩ dX12_stays_19) cx.2.2.1 hD hS (fun r14 _ H locs hw13 hP hD hS => ?_)
    have w15 : r14 = J_X12_goes sm tm p0 := hw13
    clear hw13
    have k17 : r14 = (J_X12_goes sm tm p0) := congrArg (fun z => z) w15
    refine lv_isub hx hb dX12_stays_22 (lv_topi (fun v18 e18 => ?_))
    refine lv_iload_n hx hb dX12_stays_23 rfl (lv_at hl 3 rfl) ?_
    refine g_ir (g_runS (wc := []) (rest := [.int r9]) cx hP hD hS [] rfl (by decide) [.int v18, .int p2] (c_X12_power l D k b H.size v18 p2) gX12_stays_X12_power rfl rfl rfl nd_X12_power ⟨Nat.le_of_ble_eq_true rfl, Nat.le_of_ble_eq_true rfl⟩ rfl hl.1 rfl (Nat.le_of_ble_eq_true rfl) ⟨Nat.zero_le _, Nat.zero_le _⟩ dX12_stays_24) cx.2.2.1 hP hD hS [] rfl rfl (fun r20 H locs hw19 hP hS => ?_)
    replace hw19 : (Imp (v18.toInt % 2 = 1) (r20.toInt % 2 = 1)) ∧ (r20 = J_X12_power v18 p2) := hw19
    obtain ⟨w21, w22⟩ := hw19
    have k24 : r20 = (J_X12_power v18 p2) := congrArg (fun z => z) w22
    refine lv_imul hx hb dX12_stays_27 (lv_topi (fun v25 e25 => ?_))
    refine lv_aload_n hx hb dX12_stays_28 rfl (lv_at hl 0 rfl) ?_
    refine lv_iload_n hx hb dX12_stays_29 rfl (lv_at hl 1 rfl) ?_
    refine g_iF (w1 := fun (_ : Unit) => [cell22_ qm sm tm, cell5_ k qm sm, cell13_ k qm sm, cell8_ k qm sm, cell6_ k qm sm, cell15_ k qm sm, cell14_ k qm tm, cell12_ k qm tm, cell18_ k qm tm, cell17_ k qm tm, cell19_ k qm tm, cell21_ k qm tm, cell20_ k qm sm, cell16_ k qm sm, cell11_ k qm sm, cell10_ k qm sm, cell9_ k qm sm, cell7_ k qm sm]) (g_runVF (ws := [cell22_ qm sm tm, cell5_ k qm sm, cell13_ k qm sm, cell8_ k qm sm, cell6_ k qm sm, cell15_ k qm sm, cell14_ k qm tm, cell12_ k qm tm, cell18_ k qm tm, cell17_ k qm tm, cell19_ k qm tm, cell21_ k qm tm, cell20_ k qm sm, cell16_ k qm sm, cell11_ k qm sm, cell10_ k qm sm, cell9_ k qm sm, cell7_ k qm sm]) (rest := [.int v25]) cx hP hD hS [.int p0] (c_X12_goes l D k b qm sm tm H.size p0 (show 0 ≤ p0.toInt ∧ p0.toInt ≤ 2 from by first | decide | omega)) gX12_stays_X12_goes rfl rfl rfl nd_X12_goes ⟨Nat.le_of_ble_eq_true rfl, Nat.le_of_ble_eq_true rfl⟩ (ci := 10) (q0 := 0) rfl rfl rfl hl.1 rfl (Nat.le_of_ble_eq_true rfl) ⟨Nat.zero_le _, Nat.zero_le _⟩ dX12_stays_30) cx.2.2.1 hD hS (fun r27 _ H locs hw26 hP hD hS => ?_)
    have w28 : r27 = J_X12_goes sm tm p0 := hw26
    clear hw26
    have k30 : r27 = (J_X12_goes sm tm p0) := congrArg (fun z => z) w28
    refine lv_iload_n hx hb dX12_stays_33 rfl (lv_at hl 2 rfl) ?_
    refine lv_iload_n hx hb dX12_stays_34 rfl (lv_at hl 3 rfl) ?_
    refine lv_isub hx hb dX12_stays_35 (lv_topi (fun v31 e31 => ?_))
    refine g_ir (g_runS (wc := []) (rest := [.int v25]) cx hP hD hS [] rfl (by decide) [.int r27, .int v31] (c_X12_power l D k b H.size r27 v31) gX12_stays_X12_power rfl rfl rfl nd_X12_power ⟨Nat.le_of_ble_eq_true rfl, Nat.le_of_ble_eq_true rfl⟩ rfl hl.1 rfl (Nat.le_of_ble_eq_true rfl) ⟨Nat.zero_le _, Nat.zero_le _⟩ dX12_stays_36) cx.2.2.1 hP hD hS [] rfl rfl (fun r33 H locs hw32 hP hS => ?_)
    replace hw32 : (Imp (r27.toInt % 2 = 1) (r33.toInt % 2 = 1)) ∧ (r33 = J_X12_power r27 v31) := hw32
    obtain ⟨w34, w35⟩ := hw32
    have k37 : r33 = (J_X12_power r27 v31) := congrArg (fun z => z) w35
    refine lv_imul hx hb dX12_stays_39 (lv_topi (fun v38 e38 => ?_))
    refine lv_goto (tgt := 44) hx hb dX12_stays_40 (by decide) ?_
    rw [hQ]
    exact x_i cx hr () hP hD hS (show v38 = J_X12_stays sm tm p0 p1 p2 from by subst e1 e2 w5 k12 k17 e18 k24 e25 k30 e31 k37 e38; first | (refine Eq.symm ?_; refine Eq.trans (if_neg c6) ?_; rfl) | (unfold J_X12_stays; try dsimp only; rw [if_neg c6])) dX12_stays_44
theorem nd_X12_stays : yX12_stays.cls = RX12 ∧ yX12_stays.cls ≠ "java/lang/invoke/MethodHandle" ∧ yX12_stays.cls ≠ "java/lang/invoke/VarHandle" ∧ (parseMethodDescriptor yX12_stays.desc).map (fun d => d.parameters.length) = some 3 := by decide +kernel
def B_X12_sundayOf_26 (sm : Nat → Nat → Int32) (tm : Nat → Nat → Int64) (p0 : Int32) (p1 : Int32) (z : Int32 × Int32) : Sum (Int32 × Int32) (Int32) := let v25 := (z.1); let v26 := (z.2); if ((p0 / (10 : Int32)) - (p0 / (10 : Int32)) / (10 : Int32) * (10 : Int32)) < v25 then LetF (J_X12_power 5 (((4 : Int32) - (J_X12_all p0)))) (fun y37 => Sum.inr ((v26 * y37))) else if 100 ≤ p1 then LetF (J_X12_power 5 (((4 : Int32) - (J_X12_all p0)))) (fun y48 => Sum.inr ((v26 * y48))) else LetF (J_X12_stays sm tm 0 (p0 / (100 : Int32)) (((p1 / (10 : Int32)) - (p1 / (10 : Int32)) / (10 : Int32) * (10 : Int32)))) (fun y55 => LetF (J_X12_stays sm tm 1 (((p0 / (10 : Int32)) - (p0 / (10 : Int32)) / (10 : Int32) * (10 : Int32))) v25) (fun y59 => LetF (J_X12_stays sm tm 2 ((p0 - p0 / (10 : Int32) * (10 : Int32))) (((p1 - p1 / (10 : Int32) * (10 : Int32)) - v25))) (fun y66 => Sum.inl (((v25 + 1), (v26 + ((y55 * y59) * y66)))))))
def J_X12_sundayOf (sm : Nat → Nat → Int32) (tm : Nat → Nat → Int64) (p0 : Int32) (p1 : Int32) : Int32 := LTs default (B_X12_sundayOf_26 sm tm p0 p1) 11 ((0 : Int32), (0 : Int32))
theorem exl_X12_sundayOf_0 {sm : Nat → Nat → Int32} {tm : Nat → Nat → Int64} {p0 : Int32} {p1 : Int32} : J_X12_sundayOf sm tm p0 p1 = LTs (default : Int32) (B_X12_sundayOf_26 sm tm p0 p1) 11 ((0 : Int32), (0 : Int32)) := by unfold J_X12_sundayOf; rfl
theorem exl_X12_sundayOf_1 {sm : Nat → Nat → Int32} {tm : Nat → Nat → Int64} {p0 : Int32} {p1 : Int32} {v25 : Int32} {v26 : Int32} {v38 : Int32} {v2 : Int32} {v3 : Int32} {r30 : Int32} {v32 : Int32} {r34 : Int32} (e2 : v2 = (p0 / (10 : Int32))) (e3 : v3 = (v2 - v2 / (10 : Int32) * (10 : Int32))) (w31 : r30 = J_X12_all p0) (e32 : v32 = ((4 : Int32) - r30)) (e38 : v38 = (v26 * r34)) (c28 : v3 < v25) (w36 : r34 = J_X12_power (5 : Int32) v32) : (B_X12_sundayOf_26 sm tm p0 p1) (v25, v26) = Sum.inr (v38) := by subst e2 e3 w31 e32 e38; unfold B_X12_sundayOf_26; refine Eq.trans (if_pos c28) ?_; refine lt_e w36 ?_; rfl
theorem exl_X12_sundayOf_2 {sm : Nat → Nat → Int32} {tm : Nat → Nat → Int64} {p0 : Int32} {p1 : Int32} {v25 : Int32} {v26 : Int32} {v49 : Int32} {v2 : Int32} {v3 : Int32} {r41 : Int32} {v43 : Int32} {r45 : Int32} (e2 : v2 = (p0 / (10 : Int32))) (e3 : v3 = (v2 - v2 / (10 : Int32) * (10 : Int32))) (w42 : r41 = J_X12_all p0) (e43 : v43 = ((4 : Int32) - r41)) (e49 : v49 = (v26 * r45)) (c28 : ¬ (v3 < v25)) (c39 : (100 : Int32) ≤ p1) (w47 : r45 = J_X12_power (5 : Int32) v43) : (B_X12_sundayOf_26 sm tm p0 p1) (v25, v26) = Sum.inr (v49) := by subst e2 e3 w42 e43 e49; unfold B_X12_sundayOf_26; refine Eq.trans (if_neg c28) ?_; refine Eq.trans (if_pos c39) ?_; refine lt_e w47 ?_; rfl
theorem exl_X12_sundayOf_3 {sm : Nat → Nat → Int32} {tm : Nat → Nat → Int64} {p0 : Int32} {p1 : Int32} {v25 : Int32} {v26 : Int32} {v69 : Int32} {v68 : Int32} {v1 : Int32} {v2 : Int32} {v3 : Int32} {v4 : Int32} {v50 : Int32} {v51 : Int32} {v60 : Int32} {r53 : Int32} {r57 : Int32} {v61 : Int32} {v62 : Int32} {v67 : Int32} {r64 : Int32} (e1 : v1 = (p0 / (100 : Int32))) (e2 : v2 = (p0 / (10 : Int32))) (e3 : v3 = (v2 - v2 / (10 : Int32) * (10 : Int32))) (e4 : v4 = (p0 - p0 / (10 : Int32) * (10 : Int32))) (e50 : v50 = (p1 / (10 : Int32))) (e51 : v51 = (v50 - v50 / (10 : Int32) * (10 : Int32))) (e60 : v60 = (r53 * r57)) (e61 : v61 = (p1 - p1 / (10 : Int32) * (10 : Int32))) (e62 : v62 = (v61 - v25)) (e67 : v67 = (v60 * r64)) (e68 : v68 = (v26 + v67)) (e69 : v69 = v25 + 1) (c28 : ¬ (v3 < v25)) (c39 : ¬ ((100 : Int32) ≤ p1)) (w54 : r53 = J_X12_stays sm tm (0 : Int32) v1 v51) (w58 : r57 = J_X12_stays sm tm (1 : Int32) v3 v25) (w65 : r64 = J_X12_stays sm tm (2 : Int32) v4 v62) : (B_X12_sundayOf_26 sm tm p0 p1) (v25, v26) = Sum.inl (v69, v68) := by subst e1 e2 e3 e4 e50 e51 e60 e61 e62 e67 e68 e69; unfold B_X12_sundayOf_26; refine Eq.trans (if_neg c28) ?_; refine Eq.trans (if_neg c39) ?_; refine lt_e w54 ?_; refine lt_e w58 ?_; refine lt_e w65 ?_; rfl
set_option maxHeartbeats 4000000 in
set_option maxRecDepth 100000 in
theorem c_X12_sundayOf (l : Launch) (D : va_G) (k : Nat → ClassId) (b : Nat → Nat) (qm : Nat → Nat) (sm : Nat → Nat → Int32) (tm : Nat → Nat → Int64) (sz : Nat) (p0 : Int32) (p1 : Int32) : MetI l D k b yX12_sundayOf wsX12_sundayOf ({ frames := 2, cells := 0, slots := 0, locals := 48 } : Room) [cell22_ qm sm tm, cell5_ k qm sm, cell13_ k qm sm, cell8_ k qm sm, cell6_ k qm sm, cell15_ k qm sm, cell14_ k qm tm, cell12_ k qm tm, cell18_ k qm tm, cell17_ k qm tm, cell19_ k qm tm, cell21_ k qm tm, cell20_ k qm sm, cell16_ k qm sm, cell11_ k qm sm, cell10_ k qm sm, cell9_ k qm sm, cell7_ k qm sm] sz [.ref (qm 0), .int p0, .int p1] (fun (r : Int32) (u : Unit) => r = J_X12_sundayOf sm tm p0 p1) (fun u => [cell22_ qm sm tm, cell5_ k qm sm, cell13_ k qm sm, cell8_ k qm sm, cell6_ k qm sm, cell15_ k qm sm, cell14_ k qm tm, cell12_ k qm tm, cell18_ k qm tm, cell17_ k qm tm, cell19_ k qm tm, cell21_ k qm tm, cell20_ k qm sm, cell16_ k qm sm, cell11_ k qm sm, cell10_ k qm sm, cell9_ k qm sm, cell7_ k qm sm]) := by
  refine g_enter (cc := cX12_sundayOf) (maxL := 8) (ret := (some .int)) (by decide) rfl (Nat.le_of_ble_eq_true rfl) ?_
  intro p e s m below meth c A hsz hAe cx hr hP hD hS ls hl
  rw [hAe]
  refine g_q (fun Q hQ => ?_)
  have hx := cx.1.1
  have hb := cx.1.2.1
  have bp0 := i_rng p0
  have bp1 := i_rng p1
  have hl : lv_has ls 8 [(0, .ref (qm 0)), (1, .int p0), (2, .int p1)] := hl
  obtain ⟨H, eH⟩ : ∃ H : Heap, H = s.heap := ⟨_, rfl⟩
  obtain ⟨locs, el⟩ : ∃ L : List Loc, L = [] := ⟨_, rfl⟩
  have hP : va_P D vwCl [cell22_ qm sm tm, cell5_ k qm sm, cell13_ k qm sm, cell8_ k qm sm, cell6_ k qm sm, cell15_ k qm sm, cell14_ k qm tm, cell12_ k qm tm, cell18_ k qm tm, cell17_ k qm tm, cell19_ k qm tm, cell21_ k qm tm, cell20_ k qm sm, cell16_ k qm sm, cell11_ k qm sm, cell10_ k qm sm, cell9_ k qm sm, cell7_ k qm sm] H := by rw [eH]; exact hP
  have hD : va_D A [cell22_ qm sm tm, cell5_ k qm sm, cell13_ k qm sm, cell8_ k qm sm, cell6_ k qm sm, cell15_ k qm sm, cell14_ k qm tm, cell12_ k qm tm, cell18_ k qm tm, cell17_ k qm tm, cell19_ k qm tm, cell21_ k qm tm, cell20_ k qm sm, cell16_ k qm sm, cell11_ k qm sm, cell10_ k qm sm, cell9_ k qm sm, cell7_ k qm sm] := hD
  have hS : va_S A s.heap H locs := by rw [eH, el]; exact hS
  suffices goal : W p l e ({ frames := 2, cells := 0, slots := 0, locals := 48 } : Room) s m ([.ref (qm 0), .int p0, .int p1] : List Value).toArray below meth c H locs 0 0 Q (F0 m 0 ls []) by rw [eH, el] at goal; exact goal
  refine lv_iconst (v := 0) hx hb dX12_sundayOf_0 (by decide) ?_
  refine lv_istore_n (lv' := [(3, .int 0), (0, .ref (qm 0)), (1, .int p0), (2, .int p1)]) hx hb dX12_sundayOf_1 rfl hl (by decide) rfl (fun ls hl => ?_)
  refine lv_iload_n hx hb dX12_sundayOf_2 rfl (lv_at hl 2 rfl) ?_
  refine lv_bipush (v := 100) hx hb dX12_sundayOf_3 (by decide) ?_
  refine lv_idiv hx hb dX12_sundayOf_5 (by decide) (lv_topi (fun v1 e1 => ?_))
  refine lv_istore (lv' := [(4, .int v1), (3, .int 0), (0, .ref (qm 0)), (1, .int p0), (2, .int p1)]) hx hb dX12_sundayOf_6 hl (by decide) rfl (fun ls hl => ?_)
  refine lv_iload_n hx hb dX12_sundayOf_8 rfl (lv_at hl 3 rfl) ?_
  refine lv_bipush (v := 10) hx hb dX12_sundayOf_9 (by decide) ?_
  refine lv_idiv hx hb dX12_sundayOf_11 (by decide) (lv_topi (fun v2 e2 => ?_))
  refine lv_bipush (v := 10) hx hb dX12_sundayOf_12 (by decide) ?_
  refine lv_irem hx hb dX12_sundayOf_14 (by decide) (lv_topi (fun v3 e3 => ?_))
  have t3 : -10 < v3.toInt ∧ v3.toInt < 10 := by rw [e3]; exact i_remb (by decide) (by decide)
  refine lv_istore (lv' := [(5, .int v3), (4, .int v1), (3, .int 0), (0, .ref (qm 0)), (1, .int p0), (2, .int p1)]) hx hb dX12_sundayOf_15 hl (by decide) rfl (fun ls hl => ?_)
  refine lv_iload_n hx hb dX12_sundayOf_17 rfl (lv_at hl 4 rfl) ?_
  refine lv_bipush (v := 10) hx hb dX12_sundayOf_18 (by decide) ?_
  refine lv_irem hx hb dX12_sundayOf_20 (by decide) (lv_topi (fun v4 e4 => ?_))
  have t4 : -10 < v4.toInt ∧ v4.toInt < 10 := by rw [e4]; exact i_remb (by decide) (by decide)
  refine lv_istore (lv' := [(6, .int v4), (5, .int v3), (4, .int v1), (3, .int 0), (0, .ref (qm 0)), (1, .int p0), (2, .int p1)]) hx hb dX12_sundayOf_21 hl (by decide) rfl (fun ls hl => ?_)
  refine lv_iconst (v := 0) hx hb dX12_sundayOf_23 (by decide) ?_
  refine lv_istore (lv' := [(7, .int 0), (6, .int v4), (5, .int v3), (4, .int v1), (3, .int 0), (0, .ref (qm 0)), (1, .int p0), (2, .int p1)]) hx hb dX12_sundayOf_24 hl (by decide) rfl (fun ls hl => ?_)
  obtain ⟨rr26_1, err26_1⟩ : ∃ r : Int32, LTs (default : Int32) (B_X12_sundayOf_26 sm tm p0 p1) 11 ((0 : Int32), (0 : Int32)) = r := ⟨_, rfl⟩
  have hrr26_1 : J_X12_sundayOf sm tm p0 p1 = rr26_1 := ((exl_X12_sundayOf_0)).trans err26_1
  have hL26 : ∀ (n27 : Nat) (v25 : Int32) (v26 : Int32) (H : Heap) (locs : List Loc) (ls : Array Slot), 10 - v25.toInt < (n27 : Int) → (0 ≤ v25.toInt ∧ v25.toInt ≤ 10) → (LTs (default : Int32) (B_X12_sundayOf_26 sm tm p0 p1) n27 (v25, v26) = rr26_1) → va_P D vwCl [cell22_ qm sm tm, cell5_ k qm sm, cell13_ k qm sm, cell8_ k qm sm, cell6_ k qm sm, cell15_ k qm sm, cell14_ k qm tm, cell12_ k qm tm, cell18_ k qm tm, cell17_ k qm tm, cell19_ k qm tm, cell21_ k qm tm, cell20_ k qm sm, cell16_ k qm sm, cell11_ k qm sm, cell10_ k qm sm, cell9_ k qm sm, cell7_ k qm sm] H → va_D A [cell22_ qm sm tm, cell5_ k qm sm, cell13_ k qm sm, cell8_ k qm sm, cell6_ k qm sm, cell15_ k qm sm, cell14_ k qm tm, cell12_ k qm tm, cell18_ k qm tm, cell17_ k qm tm, cell19_ k qm tm, cell21_ k qm tm, cell20_ k qm sm, cell16_ k qm sm, cell11_ k qm sm, cell10_ k qm sm, cell9_ k qm sm, cell7_ k qm sm] → va_S A s.heap H locs → lv_has ls 8 [(7, .int v25), (6, .int v4), (5, .int v3), (4, .int v1), (3, .int v26), (0, .ref (qm 0)), (1, .int p0), (2, .int p1)] → W p l e ({ frames := 2, cells := 0, slots := 0, locals := 48 } : Room) s m ([.ref (qm 0), .int p0, .int p1] : List Value).toArray below meth c H locs 0 0 Q (F0 m 26 ls []) := by
    intro n27
    induction n27 with
    | zero => intro v25 v26 H locs ls hmn27 bv25 hzrr26_1 hP hD hS hl; exact absurd hmn27 (by omega)
    | succ n27 ih26 =>
      intro v25 v26 H locs ls hmn27 bv25 hzrr26_1 hP hD hS hl
      refine lv_iload hx hb dX12_sundayOf_26 (lv_at hl 0 rfl) ?_
      refine lv_iload hx hb dX12_sundayOf_28 (lv_at hl 2 rfl) ?_
      refine lv_icmp_gt (tgt := 87) hx hb dX12_sundayOf_30 (by decide) (fun c28 => ?_) (fun c28 => ?_)
      · have f28 : v3.toInt < v25.toInt := f_lt rfl rfl c28
        refine lv_iload_n hx hb dX12_sundayOf_87 rfl (lv_at hl 4 rfl) ?_
        refine lv_iconst (v := 5) hx hb dX12_sundayOf_88 (by decide) ?_
        refine lv_iconst (v := 4) hx hb dX12_sundayOf_89 (by decide) ?_
        refine lv_iload_n hx hb dX12_sundayOf_90 rfl (lv_at hl 6 rfl) ?_
        refine g_ir (g_runS (wc := []) (rest := [.int 4, .int 5, .int v26]) cx hP hD hS [] rfl (by decide) [.int p0] (c_X12_all l D k b H.size p0) gX12_sundayOf_X12_all rfl rfl rfl nd_X12_all ⟨Nat.le_of_ble_eq_true rfl, Nat.le_of_ble_eq_true rfl⟩ rfl hl.1 rfl (Nat.le_of_ble_eq_true rfl) ⟨Nat.zero_le _, Nat.zero_le _⟩ dX12_sundayOf_91) cx.2.2.1 hP hD hS [] rfl rfl (fun r30 H locs hw29 hP hS => ?_)
        have w31 : r30 = J_X12_all p0 := hw29
        clear hw29
        refine lv_isub hx hb dX12_sundayOf_94 (lv_topi (fun v32 e32 => ?_))
        refine g_ir (g_runS (wc := []) (rest := [.int v26]) cx hP hD hS [] rfl (by decide) [.int 5, .int v32] (c_X12_power l D k b H.size 5 v32) gX12_sundayOf_X12_power rfl rfl rfl nd_X12_power ⟨Nat.le_of_ble_eq_true rfl, Nat.le_of_ble_eq_true rfl⟩ rfl hl.1 rfl (Nat.le_of_ble_eq_true rfl) ⟨Nat.zero_le _, Nat.zero_le _⟩ dX12_sundayOf_95) cx.2.2.1 hP hD hS [] rfl rfl (fun r34 H locs hw33 hP hS => ?_)
        replace hw33 : (Imp ((5 : Int32).toInt % 2 = 1) (r34.toInt % 2 = 1)) ∧ (r34 = J_X12_power (5 : Int32) v32) := hw33
        obtain ⟨w35, w36⟩ := hw33
        have or34 : r34.toInt % 2 = 1 := w35 (by decide)
        refine lv_imul hx hb dX12_sundayOf_98 (lv_topi (fun v38 e38 => ?_))
        rw [hQ]
        exact x_i cx hr () hP hD hS (show v38 = J_X12_sundayOf sm tm p0 p1 from ((hrr26_1.trans (LT_r hzrr26_1 (exl_X12_sundayOf_1 e2 e3 w31 e32 e38 c28 w36)))).symm) dX12_sundayOf_99
      · have f28 : v25.toInt ≤ v3.toInt := f_nlt rfl rfl c28
        refine lv_iload_n hx hb dX12_sundayOf_33 rfl (lv_at hl 7 rfl) ?_
        refine lv_bipush (v := 100) hx hb dX12_sundayOf_34 (by decide) ?_
        refine lv_icmp_ge (tgt := 87) hx hb dX12_sundayOf_36 (by decide) (fun c39 => ?_) (fun c39 => ?_)
        · have f39 : 100 ≤ p1.toInt := f_le (by decide) rfl c39
          refine lv_iload_n hx hb dX12_sundayOf_87 rfl (lv_at hl 4 rfl) ?_
          refine lv_iconst (v := 5) hx hb dX12_sundayOf_88 (by decide) ?_
          refine lv_iconst (v := 4) hx hb dX12_sundayOf_89 (by decide) ?_
          refine lv_iload_n hx hb dX12_sundayOf_90 rfl (lv_at hl 6 rfl) ?_
          refine g_ir (g_runS (wc := []) (rest := [.int 4, .int 5, .int v26]) cx hP hD hS [] rfl (by decide) [.int p0] (c_X12_all l D k b H.size p0) gX12_sundayOf_X12_all rfl rfl rfl nd_X12_all ⟨Nat.le_of_ble_eq_true rfl, Nat.le_of_ble_eq_true rfl⟩ rfl hl.1 rfl (Nat.le_of_ble_eq_true rfl) ⟨Nat.zero_le _, Nat.zero_le _⟩ dX12_sundayOf_91) cx.2.2.1 hP hD hS [] rfl rfl (fun r41 H locs hw40 hP hS => ?_)
          have w42 : r41 = J_X12_all p0 := hw40
          clear hw40
          refine lv_isub hx hb dX12_sundayOf_94 (lv_topi (fun v43 e43 => ?_))
          refine g_ir (g_runS (wc := []) (rest := [.int v26]) cx hP hD hS [] rfl (by decide) [.int 5, .int v43] (c_X12_power l D k b H.size 5 v43) gX12_sundayOf_X12_power rfl rfl rfl nd_X12_power ⟨Nat.le_of_ble_eq_true rfl, Nat.le_of_ble_eq_true rfl⟩ rfl hl.1 rfl (Nat.le_of_ble_eq_true rfl) ⟨Nat.zero_le _, Nat.zero_le _⟩ dX12_sundayOf_95) cx.2.2.1 hP hD hS [] rfl rfl (fun r45 H locs hw44 hP hS => ?_)
          replace hw44 : (Imp ((5 : Int32).toInt % 2 = 1) (r45.toInt % 2 = 1)) ∧ (r45 = J_X12_power (5 : Int32) v43) := hw44
          obtain ⟨w46, w47⟩ := hw44
          have or45 : r45.toInt % 2 = 1 := w46 (by decide)
          refine lv_imul hx hb dX12_sundayOf_98 (lv_topi (fun v49 e49 => ?_))
          rw [hQ]
          exact x_i cx hr () hP hD hS (show v49 = J_X12_sundayOf sm tm p0 p1 from ((hrr26_1.trans (LT_r hzrr26_1 (exl_X12_sundayOf_2 e2 e3 w42 e43 e49 c28 c39 w47)))).symm) dX12_sundayOf_99
        · have f39 : p1.toInt < 100 := f_nle (by decide) rfl c39
          refine lv_iload_n hx hb dX12_sundayOf_39 rfl (lv_at hl 4 rfl) ?_
          refine lv_aload_n hx hb dX12_sundayOf_40 rfl (lv_at hl 5 rfl) ?_
          refine lv_iconst (v := 0) hx hb dX12_sundayOf_41 (by decide) ?_
          refine lv_iload hx hb dX12_sundayOf_42 (lv_at hl 3 rfl) ?_
          refine lv_iload_n hx hb dX12_sundayOf_44 rfl (lv_at hl 7 rfl) ?_
          refine lv_bipush (v := 10) hx hb dX12_sundayOf_45 (by decide) ?_
          refine lv_idiv hx hb dX12_sundayOf_47 (by decide) (lv_topi (fun v50 e50 => ?_))
          refine lv_bipush (v := 10) hx hb dX12_sundayOf_48 (by decide) ?_
          refine lv_irem hx hb dX12_sundayOf_50 (by decide) (lv_topi (fun v51 e51 => ?_))
          have t51 : -10 < v51.toInt ∧ v51.toInt < 10 := by rw [e51]; exact i_remb (by decide) (by decide)
          refine g_iF (w1 := fun (_ : Unit) => [cell22_ qm sm tm, cell5_ k qm sm, cell13_ k qm sm, cell8_ k qm sm, cell6_ k qm sm, cell15_ k qm sm, cell14_ k qm tm, cell12_ k qm tm, cell18_ k qm tm, cell17_ k qm tm, cell19_ k qm tm, cell21_ k qm tm, cell20_ k qm sm, cell16_ k qm sm, cell11_ k qm sm, cell10_ k qm sm, cell9_ k qm sm, cell7_ k qm sm]) (g_runVF (ws := [cell22_ qm sm tm, cell5_ k qm sm, cell13_ k qm sm, cell8_ k qm sm, cell6_ k qm sm, cell15_ k qm sm, cell14_ k qm tm, cell12_ k qm tm, cell18_ k qm tm, cell17_ k qm tm, cell19_ k qm tm, cell21_ k qm tm, cell20_ k qm sm, cell16_ k qm sm, cell11_ k qm sm, cell10_ k qm sm, cell9_ k qm sm, cell7_ k qm sm]) (rest := [.int v26]) cx hP hD hS [.int 0, .int v1, .int v51] (c_X12_stays l D k b qm sm tm H.size 0 v1 v51 (show 0 ≤ (0 : Int32).toInt ∧ (0 : Int32).toInt ≤ 2 from by first | decide | omega)) gX12_sundayOf_X12_stays rfl rfl rfl nd_X12_stays ⟨Nat.le_of_ble_eq_true rfl, Nat.le_of_ble_eq_true rfl⟩ (ci := 10) (q0 := 0) rfl rfl rfl hl.1 rfl (Nat.le_of_ble_eq_true rfl) ⟨Nat.zero_le _, Nat.zero_le _⟩ dX12_sundayOf_51) cx.2.2.1 hD hS (fun r53 _ H locs hw52 hP hD hS => ?_)
          have w54 : r53 = J_X12_stays sm tm (0 : Int32) v1 v51 := hw52
          clear hw52
          refine lv_aload_n hx hb dX12_sundayOf_54 rfl (lv_at hl 5 rfl) ?_
          refine lv_iconst (v := 1) hx hb dX12_sundayOf_55 (by decide) ?_
          refine lv_iload hx hb dX12_sundayOf_56 (lv_at hl 2 rfl) ?_
          refine lv_iload hx hb dX12_sundayOf_58 (lv_at hl 0 rfl) ?_
          refine g_iF (w1 := fun (_ : Unit) => [cell22_ qm sm tm, cell5_ k qm sm, cell13_ k qm sm, cell8_ k qm sm, cell6_ k qm sm, cell15_ k qm sm, cell14_ k qm tm, cell12_ k qm tm, cell18_ k qm tm, cell17_ k qm tm, cell19_ k qm tm, cell21_ k qm tm, cell20_ k qm sm, cell16_ k qm sm, cell11_ k qm sm, cell10_ k qm sm, cell9_ k qm sm, cell7_ k qm sm]) (g_runVF (ws := [cell22_ qm sm tm, cell5_ k qm sm, cell13_ k qm sm, cell8_ k qm sm, cell6_ k qm sm, cell15_ k qm sm, cell14_ k qm tm, cell12_ k qm tm, cell18_ k qm tm, cell17_ k qm tm, cell19_ k qm tm, cell21_ k qm tm, cell20_ k qm sm, cell16_ k qm sm, cell11_ k qm sm, cell10_ k qm sm, cell9_ k qm sm, cell7_ k qm sm]) (rest := [.int r53, .int v26]) cx hP hD hS [.int 1, .int v3, .int v25] (c_X12_stays l D k b qm sm tm H.size 1 v3 v25 (show 0 ≤ (1 : Int32).toInt ∧ (1 : Int32).toInt ≤ 2 from by first | decide | omega)) gX12_sundayOf_X12_stays rfl rfl rfl nd_X12_stays ⟨Nat.le_of_ble_eq_true rfl, Nat.le_of_ble_eq_true rfl⟩ (ci := 10) (q0 := 0) rfl rfl rfl hl.1 rfl (Nat.le_of_ble_eq_true rfl) ⟨Nat.zero_le _, Nat.zero_le _⟩ dX12_sundayOf_60) cx.2.2.1 hD hS (fun r57 _ H locs hw56 hP hD hS => ?_)
          have w58 : r57 = J_X12_stays sm tm (1 : Int32) v3 v25 := hw56
          clear hw56
          refine lv_imul hx hb dX12_sundayOf_63 (lv_topi (fun v60 e60 => ?_))
          refine lv_aload_n hx hb dX12_sundayOf_64 rfl (lv_at hl 5 rfl) ?_
          refine lv_iconst (v := 2) hx hb dX12_sundayOf_65 (by decide) ?_
          refine lv_iload hx hb dX12_sundayOf_66 (lv_at hl 1 rfl) ?_
          refine lv_iload_n hx hb dX12_sundayOf_68 rfl (lv_at hl 7 rfl) ?_
          refine lv_bipush (v := 10) hx hb dX12_sundayOf_69 (by decide) ?_
          refine lv_irem hx hb dX12_sundayOf_71 (by decide) (lv_topi (fun v61 e61 => ?_))
          have t61 : -10 < v61.toInt ∧ v61.toInt < 10 := by rw [e61]; exact i_remb (by decide) (by decide)
          refine lv_iload hx hb dX12_sundayOf_72 (lv_at hl 0 rfl) ?_
          refine lv_isub hx hb dX12_sundayOf_74 (lv_topi (fun v62 e62 => ?_))
          have t62 : v62.toInt = v61.toInt - v25.toInt := by rw [e62]; exact i_sub rfl rfl (by omega) (by omega)
          refine g_iF (w1 := fun (_ : Unit) => [cell22_ qm sm tm, cell5_ k qm sm, cell13_ k qm sm, cell8_ k qm sm, cell6_ k qm sm, cell15_ k qm sm, cell14_ k qm tm, cell12_ k qm tm, cell18_ k qm tm, cell17_ k qm tm, cell19_ k qm tm, cell21_ k qm tm, cell20_ k qm sm, cell16_ k qm sm, cell11_ k qm sm, cell10_ k qm sm, cell9_ k qm sm, cell7_ k qm sm]) (g_runVF (ws := [cell22_ qm sm tm, cell5_ k qm sm, cell13_ k qm sm, cell8_ k qm sm, cell6_ k qm sm, cell15_ k qm sm, cell14_ k qm tm, cell12_ k qm tm, cell18_ k qm tm, cell17_ k qm tm, cell19_ k qm tm, cell21_ k qm tm, cell20_ k qm sm, cell16_ k qm sm, cell11_ k qm sm, cell10_ k qm sm, cell9_ k qm sm, cell7_ k qm sm]) (rest := [.int v60, .int v26]) cx hP hD hS [.int 2, .int v4, .int v62] (c_X12_stays l D k b qm sm tm H.size 2 v4 v62 (show 0 ≤ (2 : Int32).toInt ∧ (2 : Int32).toInt ≤ 2 from by first | decide | omega)) gX12_sundayOf_X12_stays rfl rfl rfl nd_X12_stays ⟨Nat.le_of_ble_eq_true rfl, Nat.le_of_ble_eq_true rfl⟩ (ci := 10) (q0 := 0) rfl rfl rfl hl.1 rfl (Nat.le_of_ble_eq_true rfl) ⟨Nat.zero_le _, Nat.zero_le _⟩ dX12_sundayOf_75) cx.2.2.1 hD hS (fun r64 _ H locs hw63 hP hD hS => ?_)
          have w65 : r64 = J_X12_stays sm tm (2 : Int32) v4 v62 := hw63
          clear hw63
          refine lv_imul hx hb dX12_sundayOf_78 (lv_topi (fun v67 e67 => ?_))
          refine lv_iadd hx hb dX12_sundayOf_79 (lv_topi (fun v68 e68 => ?_))
          refine lv_istore_n (lv' := [(3, .int v68), (7, .int v25), (6, .int v4), (5, .int v3), (4, .int v1), (0, .ref (qm 0)), (1, .int p0), (2, .int p1)]) hx hb dX12_sundayOf_80 rfl hl (by decide) rfl (fun ls hl => ?_)
          obtain ⟨v69, e69⟩ : ∃ z : Int32, z = v25 + 1 := ⟨_, rfl⟩
          refine lv_iinc (v := v69) (lv' := [(7, .int v69), (3, .int v68), (6, .int v4), (5, .int v3), (4, .int v1), (0, .ref (qm 0)), (1, .int p0), (2, .int p1)]) hx hb dX12_sundayOf_81 hl (k := 1) rfl (by rw [e69]; rfl) (by decide) rfl (fun ls hl => ?_)
          have t69 : v69.toInt = v25.toInt + 1 := by rw [e69]; exact i_add rfl (by decide) (by omega) (by omega)
          refine lv_goto (tgt := 26) hx hb dX12_sundayOf_84 (by decide) ?_
          exact ih26 v69 v68 _ _ _ (by omega) (by first | decide | omega) (LT_g hzrr26_1 (exl_X12_sundayOf_3 e1 e2 e3 e4 e50 e51 e60 e61 e62 e67 e68 e69 c28 c39 w54 w58 w65)) hP hD hS (lv_sub hl [0, 2, 3, 4, 1, 5, 6, 7] rfl)
  have hlit70 : (0 : Int32).toInt = 0 := by decide
  have hlit71 : (0 : Int32).toInt = 0 := by decide
  exact hL26 (11) 0 0 _ _ _ (by omega) (by first | decide | omega) err26_1 hP hD hS (lv_sub hl [0, 1, 2, 3, 4, 5, 6, 7] rfl)
def B_X12_common_6 (p0 : Int64) (p1 : Int64) (z : Int64 × Int64) : Sum (Int64 × Int64) (Int64) := let v3 := (z.1); let v4 := (z.2); if (lg_cmp v3 0) = 0 then Sum.inr (v4) else Sum.inl (((v4 - v4 / v3 * v3), v3))
def J_X12_common (p0 : Int64) (p1 : Int64) : Int64 := LTs default (B_X12_common_6 p0 p1) (p1.toInt.natAbs + 1) (p1, p0)
set_option maxHeartbeats 4000000 in
set_option maxRecDepth 100000 in
theorem c_X12_common (l : Launch) (D : va_G) (k : Nat → ClassId) (b : Nat → Nat) (sz : Nat) (p0 : Int64) (p1 : Int64) (hz : ¬ p1.toInt = 0) : MetL l D k b yX12_common wsX12_common ({ frames := 0, cells := 0, slots := 0, locals := 0 } : Room) [] sz [.long p0, .long p1] (fun (r : Int64) (u : Unit) => (¬ r.toInt = 0) ∧ (r = J_X12_common p0 p1)) (fun u => []) := by
  refine g_enter (cc := cX12_common) (maxL := 10) (ret := (some .long)) (by decide) rfl (Nat.le_of_ble_eq_true rfl) ?_
  intro p e s m below meth c A hsz hAe cx hr hP hD hS ls hl
  rw [hAe]
  refine g_q (fun Q hQ => ?_)
  have hx := cx.1.1
  have hb := cx.1.2.1
  have hl : lv_has ls 10 [(0, .long p0), (2, .long p1)] := hl
  obtain ⟨H, eH⟩ : ∃ H : Heap, H = s.heap := ⟨_, rfl⟩
  obtain ⟨locs, el⟩ : ∃ L : List Loc, L = [] := ⟨_, rfl⟩
  have hP : va_P D vwCl [] H := by rw [eH]; exact hP
  have hD : va_D A [] := hD
  have hS : va_S A s.heap H locs := by rw [eH, el]; exact hS
  suffices goal : W p l e ({ frames := 0, cells := 0, slots := 0, locals := 0 } : Room) s m ([.long p0, .long p1] : List Value).toArray below meth c H locs 0 0 Q (F0 m 0 ls []) by rw [eH, el] at goal; exact goal
  refine lv_lload_n hx hb dX12_common_0 rfl (lv_at hl 0 rfl) ?_
  refine lv_lstore (lv' := [(4, .long p0), (0, .long p0), (2, .long p1)]) hx hb dX12_common_1 hl (by decide) rfl (fun ls hl => ?_)
  refine lv_lload_n hx hb dX12_common_3 rfl (lv_at hl 2 rfl) ?_
  refine lv_lstore (lv' := [(6, .long p1), (4, .long p0), (0, .long p0), (2, .long p1)]) hx hb dX12_common_4 hl (by decide) rfl (fun ls hl => ?_)
  obtain ⟨rr6_1, err6_1⟩ : ∃ r : Int64, LTs (default : Int64) (B_X12_common_6 p0 p1) (p1.toInt.natAbs + 1) (p1, p0) = r := ⟨_, rfl⟩
  have hrr6_1 : J_X12_common p0 p1 = rr6_1 := by exact err6_1
  have hL6 : ∀ (n5 : Nat) (v3 : Int64) (v4 : Int64) (H : Heap) (locs : List Loc) (ls : Array Slot), (v3.toInt.natAbs : Int) < (n5 : Int) → (¬ v4.toInt = 0 ∨ ¬ v3.toInt = 0) → (LTs (default : Int64) (B_X12_common_6 p0 p1) n5 (v3, v4) = rr6_1) → va_P D vwCl [] H → va_D A [] → va_S A s.heap H locs → lv_has ls 10 [(6, .long v3), (4, .long v4)] → W p l e ({ frames := 0, cells := 0, slots := 0, locals := 0 } : Room) s m ([.long p0, .long p1] : List Value).toArray below meth c H locs 0 0 Q (F0 m 6 ls []) := by
    intro n5
    induction n5 with
    | zero => intro v3 v4 H locs ls hmn5 nz hzrr6_1 hP hD hS hl; exact absurd hmn5 (by omega)
    | succ n5 ih6 =>
      intro v3 v4 H locs ls hmn5 nz hzrr6_1 hP hD hS hl
      refine lv_lload hx hb dX12_common_6 (lv_at hl 0 rfl) ?_
      refine lv_lconst (v := 0) hx hb dX12_common_8 (by decide) ?_
      refine W.lcmp hx hb dX12_common_9 (lv_topi (fun v6 e6 => ?_))
      refine lv_if_eq (tgt := 31) hx hb dX12_common_10 (by decide) (fun c7 => ?_) (fun c7 => ?_)
      · have f7 : v6.toInt = 0 := f_eq rfl (by decide) c7
        have y0 := lcz e6 c7
        refine lv_lload hx hb dX12_common_31 (lv_at hl 1 rfl) ?_
        rw [hQ]
        exact x_l cx hr () hP hD hS ⟨(show ¬ v4.toInt = 0 from by omega), (show v4 = J_X12_common p0 p1 from ((hrr6_1.trans (LT_r hzrr6_1 (show (B_X12_common_6 p0 p1) (v3, v4) = Sum.inr (v4) from by subst e6; refine Eq.trans (if_pos c7) ?_; rfl)))).symm)⟩ dX12_common_33
      · have f7 : ¬ v6.toInt = 0 := f_ne rfl (by decide) c7
        have y1 := lcnz e6 c7
        refine lv_lload hx hb dX12_common_13 (lv_at hl 1 rfl) ?_
        refine lv_lload hx hb dX12_common_15 (lv_at hl 0 rfl) ?_
        refine lv_lrem hx hb dX12_common_17 (nz64 (by omega)) (lv_topl (fun v8 e8 => ?_))
        have rm := rem64 e8 y1
        refine lv_lstore (lv' := [(8, .long v8), (6, .long v3), (4, .long v4)]) hx hb dX12_common_18 hl (by decide) rfl (fun ls hl => ?_)
        refine lv_lload hx hb dX12_common_20 (lv_at hl 1 rfl) ?_
        refine lv_lstore (lv' := [(4, .long v3), (8, .long v8), (6, .long v3)]) hx hb dX12_common_22 hl (by decide) rfl (fun ls hl => ?_)
        refine lv_lload hx hb dX12_common_24 (lv_at hl 1 rfl) ?_
        refine lv_lstore (lv' := [(6, .long v8), (4, .long v3), (8, .long v8)]) hx hb dX12_common_26 hl (by decide) rfl (fun ls hl => ?_)
        refine lv_goto (tgt := 6) hx hb dX12_common_28 (by decide) ?_
        exact ih6 v8 v3 _ _ _ (by omega) (by first | decide | omega) (LT_g hzrr6_1 (show (B_X12_common_6 p0 p1) (v3, v4) = Sum.inl (v8, v3) from by subst e6 e8; refine Eq.trans (if_neg c7) ?_; rfl)) hP hD hS (lv_sub hl [0, 1] rfl)
  exact hL6 ((p1.toInt.natAbs + 1)) p1 p0 _ _ _ (by omega) (by first | decide | omega) err6_1 hP hD hS (lv_sub hl [0, 1] rfl)
theorem nd_X12_common : yX12_common.cls ≠ "java/lang/invoke/MethodHandle" ∧ yX12_common.cls ≠ "java/lang/invoke/VarHandle" ∧ (parseMethodDescriptor yX12_common.desc).map (fun d => d.parameters.length) = some 2 := by decide +kernel
def J_X12_told (p0 : Int64) (p1 : Int64) (p2 : Int32) : Int64 := let y5 := J_X12_common p0 p1; if p2 = 0 then (p1 / y5) else (p0 / y5)
set_option maxHeartbeats 4000000 in
set_option maxRecDepth 100000 in
theorem c_X12_told (l : Launch) (D : va_G) (k : Nat → ClassId) (b : Nat → Nat) (sz : Nat) (p0 : Int64) (p1 : Int64) (p2 : Int32) (hz : ¬ p1.toInt = 0) : MetL l D k b yX12_told wsX12_told ({ frames := 1, cells := 0, slots := 0, locals := 29 } : Room) [] sz [.long p0, .long p1, .int p2] (fun (r : Int64) (u : Unit) => r = J_X12_told p0 p1 p2) (fun u => []) := by
  refine g_enter (cc := cX12_told) (maxL := 7) (ret := (some .long)) (by decide) rfl (Nat.le_of_ble_eq_true rfl) ?_
  intro p e s m below meth c A hsz hAe cx hr hP hD hS ls hl
  rw [hAe]
  refine g_q (fun Q hQ => ?_)
  have hx := cx.1.1
  have hb := cx.1.2.1
  have bp2 := i_rng p2
  have hl : lv_has ls 7 [(0, .long p0), (2, .long p1), (4, .int p2)] := hl
  obtain ⟨H, eH⟩ : ∃ H : Heap, H = s.heap := ⟨_, rfl⟩
  obtain ⟨locs, el⟩ : ∃ L : List Loc, L = [] := ⟨_, rfl⟩
  have hP : va_P D vwCl [] H := by rw [eH]; exact hP
  have hD : va_D A [] := hD
  have hS : va_S A s.heap H locs := by rw [eH, el]; exact hS
  suffices goal : W p l e ({ frames := 1, cells := 0, slots := 0, locals := 29 } : Room) s m ([.long p0, .long p1, .int p2] : List Value).toArray below meth c H locs 0 0 Q (F0 m 0 ls []) by rw [eH, el] at goal; exact goal
  refine lv_lload_n hx hb dX12_told_0 rfl (lv_at hl 0 rfl) ?_
  refine lv_lload_n hx hb dX12_told_1 rfl (lv_at hl 1 rfl) ?_
  refine g_lr (g_runS (wc := []) (rest := []) cx hP hD hS [] rfl (by decide) [.long p0, .long p1] (c_X12_common l D k b H.size p0 p1 (show ¬ p1.toInt = 0 from by first | decide | omega)) gX12_told_X12_common rfl rfl rfl nd_X12_common ⟨Nat.le_of_ble_eq_true rfl, Nat.le_of_ble_eq_true rfl⟩ rfl hl.1 rfl (Nat.le_of_ble_eq_true rfl) ⟨Nat.zero_le _, Nat.zero_le _⟩ dX12_told_2) cx.2.2.1 hP hD hS [] rfl rfl (fun r2 H locs hw1 hP hS => ?_)
  replace hw1 : (¬ r2.toInt = 0) ∧ (r2 = J_X12_common p0 p1) := hw1
  obtain ⟨w3, w4⟩ := hw1
  have k6 : r2 = (J_X12_common p0 p1) := congrArg (fun z => z) w4
  refine lv_lstore (lv' := [(5, .long r2), (0, .long p0), (2, .long p1), (4, .int p2)]) hx hb dX12_told_5 hl (by decide) rfl (fun ls hl => ?_)
  refine lv_iload hx hb dX12_told_7 (lv_at hl 3 rfl) ?_
  refine lv_if_eq (tgt := 19) hx hb dX12_told_9 (by decide) (fun c7 => ?_) (fun c7 => ?_)
  · have f7 : p2.toInt = 0 := f_eq rfl (by decide) c7
    refine lv_lload_n hx hb dX12_told_19 rfl (lv_at hl 2 rfl) ?_
    refine lv_lload hx hb dX12_told_20 (lv_at hl 0 rfl) ?_
    refine lv_ldiv hx hb dX12_told_22 (nz64 (by omega)) (lv_topl (fun v8 e8 => ?_))
    rw [hQ]
    exact x_l cx hr () hP hD hS (show v8 = J_X12_told p0 p1 p2 from by subst k6 e8; first | (refine Eq.symm ?_; refine Eq.trans (if_pos c7) ?_; rfl) | (unfold J_X12_told; try dsimp only; rw [if_pos c7])) dX12_told_23
  · have f7 : ¬ p2.toInt = 0 := f_ne rfl (by decide) c7
    refine lv_lload_n hx hb dX12_told_12 rfl (lv_at hl 1 rfl) ?_
    refine lv_lload hx hb dX12_told_13 (lv_at hl 0 rfl) ?_
    refine lv_ldiv hx hb dX12_told_15 (nz64 (by omega)) (lv_topl (fun v9 e9 => ?_))
    refine lv_goto (tgt := 23) hx hb dX12_told_16 (by decide) ?_
    rw [hQ]
    exact x_l cx hr () hP hD hS (show v9 = J_X12_told p0 p1 p2 from by subst k6 e9; first | (refine Eq.symm ?_; refine Eq.trans (if_neg c7) ?_; rfl) | (unfold J_X12_told; try dsimp only; rw [if_neg c7])) dX12_told_23
theorem fw_X12_ruleAct_13 : Cond.fieldLink RX12 13 "StillInAugustModel" "house" "[I" ∈ wsX12_ruleAct := by decide +kernel
theorem fw_X12_ruleAct_19 : Cond.fieldLink RX12 19 "StillInAugustModel" "levels" "[I" ∈ wsX12_ruleAct := by decide +kernel
theorem iw_X12_ruleAct_X12 : ∀ w ∈ u_ws RX12 TX12 33, w ∈ wsX12_ruleAct := fun _ h => List.mem_cons_of_mem _ (List.mem_append_right _ h)
def J_X12_ruleAct (sm : Nat → Nat → Int32) (tm : Nat → Nat → Int64) (p0 : Int32) (p1 : Int32) (p2 : Int32) : Int32 := if ((sm 2) (((15 : Int32) + p1)).toNatClampNeg) ≤ (((sm 4) ((((5 : Int32) * p0) + p1)).toNatClampNeg) - (J_X12_all p2)) then if (((sm 2) (1 : Int32).toNatClampNeg) - (J_X12_all p2)) ≤ ((sm 2) (((15 : Int32) + p1)).toNatClampNeg) then if (((sm 2) (1 : Int32).toNatClampNeg) - (J_X12_all p2)) ≤ 0 then (0 : Int32) else ((100 : Int32) * (((sm 2) (1 : Int32).toNatClampNeg) - (J_X12_all p2))) else if ((sm 2) (((15 : Int32) + p1)).toNatClampNeg) ≤ 0 then (0 : Int32) else ((100 : Int32) * ((sm 2) (((15 : Int32) + p1)).toNatClampNeg)) else if (((sm 2) (1 : Int32).toNatClampNeg) - (J_X12_all p2)) ≤ (((sm 4) ((((5 : Int32) * p0) + p1)).toNatClampNeg) - (J_X12_all p2)) then if (((sm 2) (1 : Int32).toNatClampNeg) - (J_X12_all p2)) ≤ 0 then (0 : Int32) else ((100 : Int32) * (((sm 2) (1 : Int32).toNatClampNeg) - (J_X12_all p2))) else if (((sm 4) ((((5 : Int32) * p0) + p1)).toNatClampNeg) - (J_X12_all p2)) ≤ 0 then (0 : Int32) else ((100 : Int32) * (((sm 4) ((((5 : Int32) * p0) + p1)).toNatClampNeg) - (J_X12_all p2)))
set_option maxHeartbeats 4000000 in
set_option maxRecDepth 100000 in
theorem c_X12_ruleAct (l : Launch) (D : va_G) (k : Nat → ClassId) (b : Nat → Nat) (qm : Nat → Nat) (sm : Nat → Nat → Int32) (tm : Nat → Nat → Int64) (sz : Nat) (p0 : Int32) (p1 : Int32) (p2 : Int32) (hp0 : 0 ≤ p0.toInt ∧ p0.toInt ≤ 2) (hp1 : 0 ≤ p1.toInt ∧ p1.toInt ≤ 4) : MetI l D k b yX12_ruleAct wsX12_ruleAct ({ frames := 1, cells := 0, slots := 0, locals := 20 } : Room) [cell22_ qm sm tm, cell5_ k qm sm, cell13_ k qm sm, cell8_ k qm sm, cell6_ k qm sm, cell15_ k qm sm, cell14_ k qm tm, cell12_ k qm tm, cell18_ k qm tm, cell17_ k qm tm, cell19_ k qm tm, cell21_ k qm tm, cell20_ k qm sm, cell16_ k qm sm, cell11_ k qm sm, cell10_ k qm sm, cell9_ k qm sm, cell7_ k qm sm] sz [.ref (qm 0), .int p0, .int p1, .int p2] (fun (r : Int32) (u : Unit) => r = J_X12_ruleAct sm tm p0 p1 p2) (fun u => [cell22_ qm sm tm, cell5_ k qm sm, cell13_ k qm sm, cell8_ k qm sm, cell6_ k qm sm, cell15_ k qm sm, cell14_ k qm tm, cell12_ k qm tm, cell18_ k qm tm, cell17_ k qm tm, cell19_ k qm tm, cell21_ k qm tm, cell20_ k qm sm, cell16_ k qm sm, cell11_ k qm sm, cell10_ k qm sm, cell9_ k qm sm, cell7_ k qm sm]) := by
  refine g_enter (cc := cX12_ruleAct) (maxL := 7) (ret := (some .int)) (by decide) rfl (Nat.le_of_ble_eq_true rfl) ?_
  intro p e s m below meth c A hsz hAe cx hr hP hD hS ls hl
  rw [hAe]
  refine g_q (fun Q hQ => ?_)
  have hx := cx.1.1
  have hb := cx.1.2.1
  have bp0 := i_rng p0
  have bp1 := i_rng p1
  have bp2 := i_rng p2
  have hl : lv_has ls 7 [(0, .ref (qm 0)), (1, .int p0), (2, .int p1), (3, .int p2)] := hl
  obtain ⟨H, eH⟩ : ∃ H : Heap, H = s.heap := ⟨_, rfl⟩
  obtain ⟨locs, el⟩ : ∃ L : List Loc, L = [] := ⟨_, rfl⟩
  have hP : va_P D vwCl [cell22_ qm sm tm, cell5_ k qm sm, cell13_ k qm sm, cell8_ k qm sm, cell6_ k qm sm, cell15_ k qm sm, cell14_ k qm tm, cell12_ k qm tm, cell18_ k qm tm, cell17_ k qm tm, cell19_ k qm tm, cell21_ k qm tm, cell20_ k qm sm, cell16_ k qm sm, cell11_ k qm sm, cell10_ k qm sm, cell9_ k qm sm, cell7_ k qm sm] H := by rw [eH]; exact hP
  have hD : va_D A [cell22_ qm sm tm, cell5_ k qm sm, cell13_ k qm sm, cell8_ k qm sm, cell6_ k qm sm, cell15_ k qm sm, cell14_ k qm tm, cell12_ k qm tm, cell18_ k qm tm, cell17_ k qm tm, cell19_ k qm tm, cell21_ k qm tm, cell20_ k qm sm, cell16_ k qm sm, cell11_ k qm sm, cell10_ k qm sm, cell9_ k qm sm, cell7_ k qm sm] := hD
  have hS : va_S A s.heap H locs := by rw [eH, el]; exact hS
  suffices goal : W p l e ({ frames := 1, cells := 0, slots := 0, locals := 20 } : Room) s m ([.ref (qm 0), .int p0, .int p1, .int p2] : List Value).toArray below meth c H locs 0 0 Q (F0 m 0 ls []) by rw [eH, el] at goal; exact goal
  refine lv_aload_n hx hb dX12_ruleAct_0 rfl (lv_at hl 0 rfl) ?_
  refine g_get cx hP iw_X12_ruleAct_X12 0 rfl rfl 11 (by decide) rfl fw_X12_ruleAct_19 rfl dX12_ruleAct_1 ?_
  refine lv_iconst (v := 5) hx hb dX12_ruleAct_4 (by decide) ?_
  refine lv_iload_n hx hb dX12_ruleAct_5 rfl (lv_at hl 1 rfl) ?_
  refine lv_imul hx hb dX12_ruleAct_6 (lv_topi (fun v1 e1 => ?_))
  have t1 : v1.toInt = 5 * p0.toInt := by rw [e1]; exact i_mul (by decide) rfl (by omega) (by omega)
  refine lv_iload_n hx hb dX12_ruleAct_7 rfl (lv_at hl 2 rfl) ?_
  refine lv_iadd hx hb dX12_ruleAct_8 (lv_topi (fun v2 e2 => ?_))
  have t2 : v2.toInt = v1.toInt + p1.toInt := by rw [e2]; exact i_add rfl rfl (by omega) (by omega)
  have hn3 : vp_in v2 15 := f_in (a := v2.toInt) rfl (by omega) (by omega)
  refine va_iald hx hb cx.2.1 hP 4 0 rfl rfl hn3 dX12_ruleAct_9 (lv_topi (fun v4 e4 => ?_))
  refine lv_iload_n hx hb dX12_ruleAct_10 rfl (lv_at hl 3 rfl) ?_
  refine g_ir (g_runS (wc := []) (rest := [.int v4]) cx hP hD hS [] rfl (by decide) [.int p2] (c_X12_all l D k b H.size p2) gX12_ruleAct_X12_all rfl rfl rfl nd_X12_all ⟨Nat.le_of_ble_eq_true rfl, Nat.le_of_ble_eq_true rfl⟩ rfl hl.1 rfl (Nat.le_of_ble_eq_true rfl) ⟨Nat.zero_le _, Nat.zero_le _⟩ dX12_ruleAct_11) cx.2.2.1 hP hD hS [] rfl rfl (fun r6 H locs hw5 hP hS => ?_)
  have w7 : r6 = J_X12_all p2 := hw5
  clear hw5
  refine lv_isub hx hb dX12_ruleAct_14 (lv_topi (fun v8 e8 => ?_))
  refine lv_istore (lv' := [(4, .int v8), (0, .ref (qm 0)), (1, .int p0), (2, .int p1), (3, .int p2)]) hx hb dX12_ruleAct_15 hl (by decide) rfl (fun ls hl => ?_)
  refine lv_aload_n hx hb dX12_ruleAct_17 rfl (lv_at hl 1 rfl) ?_
  refine g_get cx hP iw_X12_ruleAct_X12 0 rfl rfl 1 (by decide) rfl fw_X12_ruleAct_13 rfl dX12_ruleAct_18 ?_
  refine lv_iconst (v := 1) hx hb dX12_ruleAct_21 (by decide) ?_
  have hn9 : vp_in 1 26 := f_in (a := 1) (by decide) (by omega) (by omega)
  refine va_iald hx hb cx.2.1 hP 2 0 rfl rfl hn9 dX12_ruleAct_22 (lv_topi (fun v10 e10 => ?_))
  have uv10 : v10.toInt = ((sm 2) 1).toInt := congrArg Int32.toInt e10
  refine lv_iload_n hx hb dX12_ruleAct_23 rfl (lv_at hl 4 rfl) ?_
  refine g_ir (g_runS (wc := []) (rest := [.int v10]) cx hP hD hS [] rfl (by decide) [.int p2] (c_X12_all l D k b H.size p2) gX12_ruleAct_X12_all rfl rfl rfl nd_X12_all ⟨Nat.le_of_ble_eq_true rfl, Nat.le_of_ble_eq_true rfl⟩ rfl hl.1 rfl (Nat.le_of_ble_eq_true rfl) ⟨Nat.zero_le _, Nat.zero_le _⟩ dX12_ruleAct_24) cx.2.2.1 hP hD hS [] rfl rfl (fun r12 H locs hw11 hP hS => ?_)
  have w13 : r12 = J_X12_all p2 := hw11
  clear hw11
  refine lv_isub hx hb dX12_ruleAct_27 (lv_topi (fun v14 e14 => ?_))
  refine lv_istore (lv' := [(5, .int v14), (4, .int v8), (0, .ref (qm 0)), (1, .int p0), (2, .int p1), (3, .int p2)]) hx hb dX12_ruleAct_28 hl (by decide) rfl (fun ls hl => ?_)
  refine lv_iload hx hb dX12_ruleAct_30 (lv_at hl 1 rfl) ?_
  refine lv_aload_n hx hb dX12_ruleAct_32 rfl (lv_at hl 2 rfl) ?_
  refine g_get cx hP iw_X12_ruleAct_X12 0 rfl rfl 1 (by decide) rfl fw_X12_ruleAct_13 rfl dX12_ruleAct_33 ?_
  refine lv_bipush (v := 15) hx hb dX12_ruleAct_36 (by decide) ?_
  refine lv_iload_n hx hb dX12_ruleAct_38 rfl (lv_at hl 4 rfl) ?_
  refine lv_iadd hx hb dX12_ruleAct_39 (lv_topi (fun v15 e15 => ?_))
  have t15 : v15.toInt = 15 + p1.toInt := by rw [e15]; exact i_add (by decide) rfl (by omega) (by omega)
  have hn16 : vp_in v15 26 := f_in (a := v15.toInt) rfl (by omega) (by omega)
  refine va_iald hx hb cx.2.1 hP 2 0 rfl rfl hn16 dX12_ruleAct_40 (lv_topi (fun v17 e17 => ?_))
  refine lv_icmp_ge (tgt := 49) hx hb dX12_ruleAct_41 (by decide) (fun c18 => ?_) (fun c18 => ?_)
  · have f18 : v17.toInt ≤ v8.toInt := f_le rfl rfl c18
    refine lv_aload_n hx hb dX12_ruleAct_49 rfl (lv_at hl 2 rfl) ?_
    refine g_get cx hP iw_X12_ruleAct_X12 0 rfl rfl 1 (by decide) rfl fw_X12_ruleAct_13 rfl dX12_ruleAct_50 ?_
    refine lv_bipush (v := 15) hx hb dX12_ruleAct_53 (by decide) ?_
    refine lv_iload_n hx hb dX12_ruleAct_55 rfl (lv_at hl 4 rfl) ?_
    refine lv_iadd hx hb dX12_ruleAct_56 (lv_topi (fun v19 e19 => ?_))
    have t19 : v19.toInt = 15 + p1.toInt := by rw [e19]; exact i_add (by decide) rfl (by omega) (by omega)
    have hn20 : vp_in v19 26 := f_in (a := v19.toInt) rfl (by omega) (by omega)
    refine va_iald hx hb cx.2.1 hP 2 0 rfl rfl hn20 dX12_ruleAct_57 (lv_topi (fun v21 e21 => ?_))
    refine lv_istore (lv' := [(6, .int v21), (5, .int v14), (4, .int v8), (0, .ref (qm 0)), (1, .int p0), (2, .int p1), (3, .int p2)]) hx hb dX12_ruleAct_58 hl (by decide) rfl (fun ls hl => ?_)
    refine lv_iload hx hb dX12_ruleAct_60 (lv_at hl 0 rfl) ?_
    refine lv_iload hx hb dX12_ruleAct_62 (lv_at hl 1 rfl) ?_
    refine lv_icmp_ge (tgt := 72) hx hb dX12_ruleAct_64 (by decide) (fun c22 => ?_) (fun c22 => ?_)
    · have f22 : v14.toInt ≤ v21.toInt := f_le rfl rfl c22
      refine lv_iload hx hb dX12_ruleAct_72 (lv_at hl 1 rfl) ?_
      refine lv_istore (lv' := [(6, .int v14), (5, .int v14), (4, .int v8), (0, .ref (qm 0)), (1, .int p0), (2, .int p1), (3, .int p2)]) hx hb dX12_ruleAct_74 hl (by decide) rfl (fun ls hl => ?_)
      refine lv_iload hx hb dX12_ruleAct_76 (lv_at hl 0 rfl) ?_
      refine lv_if_le (tgt := 89) hx hb dX12_ruleAct_78 (by decide) (fun c23 => ?_) (fun c23 => ?_)
      · have f23 : v14.toInt ≤ 0 := f_le rfl (by decide) c23
        refine lv_iconst (v := 0) hx hb dX12_ruleAct_89 (by decide) ?_
        have hlit24 : (0 : Int32).toInt = 0 := by decide
        rw [hQ]
        exact x_i cx hr () hP hD hS (show (0 : Int32) = J_X12_ruleAct sm tm p0 p1 p2 from by subst e1 e2 e4 w7 e8 e10 w13 e14 e15 e17 e19 e21; first | (refine Eq.symm ?_; refine Eq.trans (if_pos c18) ?_; refine Eq.trans (if_pos c22) ?_; refine Eq.trans (if_pos c23) ?_; rfl) | (unfold J_X12_ruleAct; try dsimp only; rw [if_pos c18, if_pos c22, if_pos c23])) dX12_ruleAct_90
      · have f23 : 0 < v14.toInt := f_nle rfl (by decide) c23
        refine lv_bipush (v := 100) hx hb dX12_ruleAct_81 (by decide) ?_
        refine lv_iload hx hb dX12_ruleAct_83 (lv_at hl 0 rfl) ?_
        refine lv_imul hx hb dX12_ruleAct_85 (lv_topi (fun v25 e25 => ?_))
        refine lv_goto (tgt := 90) hx hb dX12_ruleAct_86 (by decide) ?_
        rw [hQ]
        exact x_i cx hr () hP hD hS (show v25 = J_X12_ruleAct sm tm p0 p1 p2 from by subst e1 e2 e4 w7 e8 e10 w13 e14 e15 e17 e19 e21 e25; first | (refine Eq.symm ?_; refine Eq.trans (if_pos c18) ?_; refine Eq.trans (if_pos c22) ?_; refine Eq.trans (if_neg c23) ?_; rfl) | (unfold J_X12_ruleAct; try dsimp only; rw [if_pos c18, if_pos c22, if_neg c23])) dX12_ruleAct_90
    · have f22 : v21.toInt < v14.toInt := f_nle rfl rfl c22
      refine lv_iload hx hb dX12_ruleAct_67 (lv_at hl 0 rfl) ?_
      refine lv_goto (tgt := 74) hx hb dX12_ruleAct_69 (by decide) ?_
      refine lv_istore (lv' := [(6, .int v21), (5, .int v14), (4, .int v8), (0, .ref (qm 0)), (1, .int p0), (2, .int p1), (3, .int p2)]) hx hb dX12_ruleAct_74 hl (by decide) rfl (fun ls hl => ?_)
      refine lv_iload hx hb dX12_ruleAct_76 (lv_at hl 0 rfl) ?_
      refine lv_if_le (tgt := 89) hx hb dX12_ruleAct_78 (by decide) (fun c26 => ?_) (fun c26 => ?_)
      · have f26 : v21.toInt ≤ 0 := f_le rfl (by decide) c26
        refine lv_iconst (v := 0) hx hb dX12_ruleAct_89 (by decide) ?_
        have hlit27 : (0 : Int32).toInt = 0 := by decide
        rw [hQ]
        exact x_i cx hr () hP hD hS (show (0 : Int32) = J_X12_ruleAct sm tm p0 p1 p2 from by subst e1 e2 e4 w7 e8 e10 w13 e14 e15 e17 e19 e21; first | (refine Eq.symm ?_; refine Eq.trans (if_pos c18) ?_; refine Eq.trans (if_neg c22) ?_; refine Eq.trans (if_pos c26) ?_; rfl) | (unfold J_X12_ruleAct; try dsimp only; rw [if_pos c18, if_neg c22, if_pos c26])) dX12_ruleAct_90
      · have f26 : 0 < v21.toInt := f_nle rfl (by decide) c26
        refine lv_bipush (v := 100) hx hb dX12_ruleAct_81 (by decide) ?_
        refine lv_iload hx hb dX12_ruleAct_83 (lv_at hl 0 rfl) ?_
        refine lv_imul hx hb dX12_ruleAct_85 (lv_topi (fun v28 e28 => ?_))
        refine lv_goto (tgt := 90) hx hb dX12_ruleAct_86 (by decide) ?_
        rw [hQ]
        exact x_i cx hr () hP hD hS (show v28 = J_X12_ruleAct sm tm p0 p1 p2 from by subst e1 e2 e4 w7 e8 e10 w13 e14 e15 e17 e19 e21 e28; first | (refine Eq.symm ?_; refine Eq.trans (if_pos c18) ?_; refine Eq.trans (if_neg c22) ?_; refine Eq.trans (if_neg c26) ?_; rfl) | (unfold J_X12_ruleAct; try dsimp only; rw [if_pos c18, if_neg c22, if_neg c26])) dX12_ruleAct_90
  · have f18 : v8.toInt < v17.toInt := f_nle rfl rfl c18
    refine lv_iload hx hb dX12_ruleAct_44 (lv_at hl 1 rfl) ?_
    refine lv_goto (tgt := 58) hx hb dX12_ruleAct_46 (by decide) ?_
    refine lv_istore (lv' := [(6, .int v8), (5, .int v14), (4, .int v8), (0, .ref (qm 0)), (1, .int p0), (2, .int p1), (3, .int p2)]) hx hb dX12_ruleAct_58 hl (by decide) rfl (fun ls hl => ?_)
    refine lv_iload hx hb dX12_ruleAct_60 (lv_at hl 0 rfl) ?_
    refine lv_iload hx hb dX12_ruleAct_62 (lv_at hl 1 rfl) ?_
    refine lv_icmp_ge (tgt := 72) hx hb dX12_ruleAct_64 (by decide) (fun c29 => ?_) (fun c29 => ?_)
    · have f29 : v14.toInt ≤ v8.toInt := f_le rfl rfl c29
      refine lv_iload hx hb dX12_ruleAct_72 (lv_at hl 1 rfl) ?_
      refine lv_istore (lv' := [(6, .int v14), (5, .int v14), (4, .int v8), (0, .ref (qm 0)), (1, .int p0), (2, .int p1), (3, .int p2)]) hx hb dX12_ruleAct_74 hl (by decide) rfl (fun ls hl => ?_)
      refine lv_iload hx hb dX12_ruleAct_76 (lv_at hl 0 rfl) ?_
      refine lv_if_le (tgt := 89) hx hb dX12_ruleAct_78 (by decide) (fun c30 => ?_) (fun c30 => ?_)
      · have f30 : v14.toInt ≤ 0 := f_le rfl (by decide) c30
        refine lv_iconst (v := 0) hx hb dX12_ruleAct_89 (by decide) ?_
        have hlit31 : (0 : Int32).toInt = 0 := by decide
        rw [hQ]
        exact x_i cx hr () hP hD hS (show (0 : Int32) = J_X12_ruleAct sm tm p0 p1 p2 from by subst e1 e2 e4 w7 e8 e10 w13 e14 e15 e17; first | (refine Eq.symm ?_; refine Eq.trans (if_neg c18) ?_; refine Eq.trans (if_pos c29) ?_; refine Eq.trans (if_pos c30) ?_; rfl) | (unfold J_X12_ruleAct; try dsimp only; rw [if_neg c18, if_pos c29, if_pos c30])) dX12_ruleAct_90
      · have f30 : 0 < v14.toInt := f_nle rfl (by decide) c30
        refine lv_bipush (v := 100) hx hb dX12_ruleAct_81 (by decide) ?_
        refine lv_iload hx hb dX12_ruleAct_83 (lv_at hl 0 rfl) ?_
        refine lv_imul hx hb dX12_ruleAct_85 (lv_topi (fun v32 e32 => ?_))
        refine lv_goto (tgt := 90) hx hb dX12_ruleAct_86 (by decide) ?_
        rw [hQ]
        exact x_i cx hr () hP hD hS (show v32 = J_X12_ruleAct sm tm p0 p1 p2 from by subst e1 e2 e4 w7 e8 e10 w13 e14 e15 e17 e32; first | (refine Eq.symm ?_; refine Eq.trans (if_neg c18) ?_; refine Eq.trans (if_pos c29) ?_; refine Eq.trans (if_neg c30) ?_; rfl) | (unfold J_X12_ruleAct; try dsimp only; rw [if_neg c18, if_pos c29, if_neg c30])) dX12_ruleAct_90
    · have f29 : v8.toInt < v14.toInt := f_nle rfl rfl c29
      refine lv_iload hx hb dX12_ruleAct_67 (lv_at hl 0 rfl) ?_
      refine lv_goto (tgt := 74) hx hb dX12_ruleAct_69 (by decide) ?_
      refine lv_istore (lv' := [(6, .int v8), (5, .int v14), (4, .int v8), (0, .ref (qm 0)), (1, .int p0), (2, .int p1), (3, .int p2)]) hx hb dX12_ruleAct_74 hl (by decide) rfl (fun ls hl => ?_)
      refine lv_iload hx hb dX12_ruleAct_76 (lv_at hl 0 rfl) ?_
      refine lv_if_le (tgt := 89) hx hb dX12_ruleAct_78 (by decide) (fun c33 => ?_) (fun c33 => ?_)
      · have f33 : v8.toInt ≤ 0 := f_le rfl (by decide) c33
        refine lv_iconst (v := 0) hx hb dX12_ruleAct_89 (by decide) ?_
        have hlit34 : (0 : Int32).toInt = 0 := by decide
        rw [hQ]
        exact x_i cx hr () hP hD hS (show (0 : Int32) = J_X12_ruleAct sm tm p0 p1 p2 from by subst e1 e2 e4 w7 e8 e10 w13 e14 e15 e17; first | (refine Eq.symm ?_; refine Eq.trans (if_neg c18) ?_; refine Eq.trans (if_neg c29) ?_; refine Eq.trans (if_pos c33) ?_; rfl) | (unfold J_X12_ruleAct; try dsimp only; rw [if_neg c18, if_neg c29, if_pos c33])) dX12_ruleAct_90
      · have f33 : 0 < v8.toInt := f_nle rfl (by decide) c33
        refine lv_bipush (v := 100) hx hb dX12_ruleAct_81 (by decide) ?_
        refine lv_iload hx hb dX12_ruleAct_83 (lv_at hl 0 rfl) ?_
        refine lv_imul hx hb dX12_ruleAct_85 (lv_topi (fun v35 e35 => ?_))
        refine lv_goto (tgt := 90) hx hb dX12_ruleAct_86 (by decide) ?_
        rw [hQ]
        exact x_i cx hr () hP hD hS (show v35 = J_X12_ruleAct sm tm p0 p1 p2 from by subst e1 e2 e4 w7 e8 e10 w13 e14 e15 e17 e35; first | (refine Eq.symm ?_; refine Eq.trans (if_neg c18) ?_; refine Eq.trans (if_neg c29) ?_; refine Eq.trans (if_neg c33) ?_; rfl) | (unfold J_X12_ruleAct; try dsimp only; rw [if_neg c18, if_neg c29, if_neg c33])) dX12_ruleAct_90
theorem kJ_X12_parts_200 : Cond.constantLong RX12 200 (625) ∈ wsX12_parts := by decide +kernel
def B_X12_parts_4 (p0 : Int32) (z : Int32 × Int64) : Sum (Int32 × Int64) (Int64) := let v3 := (z.1); let v4 := (z.2); if p0 ≤ v3 then Sum.inr (v4) else Sum.inl (((v3 + 1), (v4 * (625 : Int64))))
def J_X12_parts (p0 : Int32) : Int64 := LTs default (B_X12_parts_4 p0) (Int.toNat p0.toInt + 1) ((0 : Int32), (1 : Int64))
set_option maxHeartbeats 4000000 in
set_option maxRecDepth 100000 in
theorem c_X12_parts (l : Launch) (D : va_G) (k : Nat → ClassId) (b : Nat → Nat) (sz : Nat) (p0 : Int32) : MetL l D k b yX12_parts wsX12_parts ({ frames := 0, cells := 0, slots := 0, locals := 0 } : Room) [] sz [.int p0] (fun (r : Int64) (u : Unit) => (r.toInt % 2 = 1) ∧ (r = J_X12_parts p0)) (fun u => []) := by
  refine g_enter (cc := cX12_parts) (maxL := 4) (ret := (some .long)) (by decide) rfl (Nat.le_of_ble_eq_true rfl) ?_
  intro p e s m below meth c A hsz hAe cx hr hP hD hS ls hl
  rw [hAe]
  refine g_q (fun Q hQ => ?_)
  have hx := cx.1.1
  have hb := cx.1.2.1
  have bp0 := i_rng p0
  have hl : lv_has ls 4 [(0, .int p0)] := hl
  obtain ⟨H, eH⟩ : ∃ H : Heap, H = s.heap := ⟨_, rfl⟩
  obtain ⟨locs, el⟩ : ∃ L : List Loc, L = [] := ⟨_, rfl⟩
  have hP : va_P D vwCl [] H := by rw [eH]; exact hP
  have hD : va_D A [] := hD
  have hS : va_S A s.heap H locs := by rw [eH, el]; exact hS
  suffices goal : W p l e ({ frames := 0, cells := 0, slots := 0, locals := 0 } : Room) s m ([.int p0] : List Value).toArray below meth c H locs 0 0 Q (F0 m 0 ls []) by rw [eH, el] at goal; exact goal
  refine lv_lconst (v := 1) hx hb dX12_parts_0 (by decide) ?_
  refine lv_lstore_n (lv' := [(1, .long 1), (0, .int p0)]) hx hb dX12_parts_1 rfl hl (by decide) rfl (fun ls hl => ?_)
  refine lv_iconst (v := 0) hx hb dX12_parts_2 (by decide) ?_
  refine lv_istore_n (lv' := [(3, .int 0), (1, .long 1), (0, .int p0)]) hx hb dX12_parts_3 rfl hl (by decide) rfl (fun ls hl => ?_)
  obtain ⟨rr4_1, err4_1⟩ : ∃ r : Int64, LTs (default : Int64) (B_X12_parts_4 p0) (Int.toNat p0.toInt + 1) ((0 : Int32), (1 : Int64)) = r := ⟨_, rfl⟩
  have hrr4_1 : J_X12_parts p0 = rr4_1 := by exact err4_1
  have hL4 : ∀ (n5 : Nat) (v3 : Int32) (v4 : Int64) (H : Heap) (locs : List Loc) (ls : Array Slot), (p0.toInt - v3.toInt < (n5 : Int) ∧ 0 < (n5 : Int)) → (0 ≤ v3.toInt) → (v4.toInt % 2 = 1) → (LTs (default : Int64) (B_X12_parts_4 p0) n5 (v3, v4) = rr4_1) → va_P D vwCl [] H → va_D A [] → va_S A s.heap H locs → lv_has ls 4 [(3, .int v3), (1, .long v4), (0, .int p0)] → W p l e ({ frames := 0, cells := 0, slots := 0, locals := 0 } : Room) s m ([.int p0] : List Value).toArray below meth c H locs 0 0 Q (F0 m 4 ls []) := by
    intro n5
    induction n5 with
    | zero => intro v3 v4 H locs ls hmn5 bv3 qo hzrr4_1 hP hD hS hl; exact absurd hmn5 (by omega)
    | succ n5 ih4 =>
      intro v3 v4 H locs ls hmn5 bv3 qo hzrr4_1 hP hD hS hl
      refine lv_iload_n hx hb dX12_parts_4 rfl (lv_at hl 0 rfl) ?_
      refine lv_iload_n hx hb dX12_parts_5 rfl (lv_at hl 2 rfl) ?_
      refine lv_icmp_ge (tgt := 21) hx hb dX12_parts_6 (by decide) (fun c6 => ?_) (fun c6 => ?_)
      · have f6 : p0.toInt ≤ v3.toInt := f_le rfl rfl c6
        refine lv_lload_n hx hb dX12_parts_21 rfl (lv_at hl 1 rfl) ?_
        rw [hQ]
        exact x_l cx hr () hP hD hS ⟨(show v4.toInt % 2 = 1 from by omega), (show v4 = J_X12_parts p0 from ((hrr4_1.trans (LT_r hzrr4_1 (show (B_X12_parts_4 p0) (v3, v4) = Sum.inr (v4) from by refine Eq.trans (if_pos c6) ?_; rfl)))).symm)⟩ dX12_parts_22
      · have f6 : v3.toInt < p0.toInt := f_nle rfl rfl c6
        refine lv_lload_n hx hb dX12_parts_9 rfl (lv_at hl 1 rfl) ?_
        refine lv_ldc2 (v := 625) hx hb cx.1.2.2.2.1 (cx.1.2.2.2.2 _ kJ_X12_parts_200) dX12_parts_10 ?_
        refine lv_lmul hx hb dX12_parts_13 (lv_topl (fun v7 e7 => ?_))
        have ov7 : v7.toInt % 2 = 1 := by rw [e7]; exact odd64 (by omega) (by decide)
        refine lv_lstore_n (lv' := [(1, .long v7), (3, .int v3), (0, .int p0)]) hx hb dX12_parts_14 rfl hl (by decide) rfl (fun ls hl => ?_)
        obtain ⟨v8, e8⟩ : ∃ z : Int32, z = v3 + 1 := ⟨_, rfl⟩
        refine lv_iinc (v := v8) (lv' := [(3, .int v8), (1, .long v7), (0, .int p0)]) hx hb dX12_parts_15 hl (k := 1) rfl (by rw [e8]; rfl) (by decide) rfl (fun ls hl => ?_)
        have t8 : v8.toInt = v3.toInt + 1 := by rw [e8]; exact i_add rfl (by decide) (by omega) (by omega)
        refine lv_goto (tgt := 4) hx hb dX12_parts_18 (by decide) ?_
        exact ih4 v8 v7 _ _ _ (by omega) (by first | decide | omega) (by first | decide | omega) (LT_g hzrr4_1 (show (B_X12_parts_4 p0) (v3, v4) = Sum.inl (v8, v7) from by subst e7 e8; refine Eq.trans (if_neg c6) ?_; rfl)) hP hD hS (lv_sub hl [0, 1, 2] rfl)
  have hlit9 : (0 : Int32).toInt = 0 := by decide
  have hlit10 : (1 : Int32).toInt = 1 := by decide
  exact hL4 ((Int.toNat p0.toInt + 1)) 0 1 _ _ _ (by omega) (by first | decide | omega) (by first | decide | omega) err4_1 hP hD hS (lv_sub hl [0, 1, 2] rfl)
theorem fw_X12_bonus_13 : Cond.fieldLink RX12 13 "StillInAugustModel" "house" "[I" ∈ wsX12_bonus := by decide +kernel
theorem iw_X12_bonus_X12 : ∀ w ∈ u_ws RX12 TX12 33, w ∈ wsX12_bonus := fun _ h => List.mem_cons_of_mem _ (List.mem_append_right _ h)
def J_X12_bonus (sm : Nat → Nat → Int32) (tm : Nat → Nat → Int64) (p0 : Int32) : Int32 := if ((sm 2) (7 : Int32).toNatClampNeg) = (-9) then (0 : Int32) else (((sm 2) (7 : Int32).toNatClampNeg) * (J_X12_all p0))
set_option maxHeartbeats 4000000 in
set_option maxRecDepth 100000 in
theorem c_X12_bonus (l : Launch) (D : va_G) (k : Nat → ClassId) (b : Nat → Nat) (qm : Nat → Nat) (sm : Nat → Nat → Int32) (tm : Nat → Nat → Int64) (sz : Nat) (p0 : Int32) : MetI l D k b yX12_bonus wsX12_bonus ({ frames := 1, cells := 0, slots := 0, locals := 20 } : Room) [cell22_ qm sm tm, cell5_ k qm sm, cell13_ k qm sm, cell8_ k qm sm, cell6_ k qm sm, cell15_ k qm sm, cell14_ k qm tm, cell12_ k qm tm, cell18_ k qm tm, cell17_ k qm tm, cell19_ k qm tm, cell21_ k qm tm, cell20_ k qm sm, cell16_ k qm sm, cell11_ k qm sm, cell10_ k qm sm, cell9_ k qm sm, cell7_ k qm sm] sz [.ref (qm 0), .int p0] (fun (r : Int32) (u : Unit) => r = J_X12_bonus sm tm p0) (fun u => [cell22_ qm sm tm, cell5_ k qm sm, cell13_ k qm sm, cell8_ k qm sm, cell6_ k qm sm, cell15_ k qm sm, cell14_ k qm tm, cell12_ k qm tm, cell18_ k qm tm, cell17_ k qm tm, cell19_ k qm tm, cell21_ k qm tm, cell20_ k qm sm, cell16_ k qm sm, cell11_ k qm sm, cell10_ k qm sm, cell9_ k qm sm, cell7_ k qm sm]) := by
  refine g_enter (cc := cX12_bonus) (maxL := 2) (ret := (some .int)) (by decide) rfl (Nat.le_of_ble_eq_true rfl) ?_
  intro p e s m below meth c A hsz hAe cx hr hP hD hS ls hl
  rw [hAe]
  refine g_q (fun Q hQ => ?_)
  have hx := cx.1.1
  have hb := cx.1.2.1
  have bp0 := i_rng p0
  have hl : lv_has ls 2 [(0, .ref (qm 0)), (1, .int p0)] := hl
  obtain ⟨H, eH⟩ : ∃ H : Heap, H = s.heap := ⟨_, rfl⟩
  obtain ⟨locs, el⟩ : ∃ L : List Loc, L = [] := ⟨_, rfl⟩
  have hP : va_P D vwCl [cell22_ qm sm tm, cell5_ k qm sm, cell13_ k qm sm, cell8_ k qm sm, cell6_ k qm sm, cell15_ k qm sm, cell14_ k qm tm, cell12_ k qm tm, cell18_ k qm tm, cell17_ k qm tm, cell19_ k qm tm, cell21_ k qm tm, cell20_ k qm sm, cell16_ k qm sm, cell11_ k qm sm, cell10_ k qm sm, cell9_ k qm sm, cell7_ k qm sm] H := by rw [eH]; exact hP
  have hD : va_D A [cell22_ qm sm tm, cell5_ k qm sm, cell13_ k qm sm, cell8_ k qm sm, cell6_ k qm sm, cell15_ k qm sm, cell14_ k qm tm, cell12_ k qm tm, cell18_ k qm tm, cell17_ k qm tm, cell19_ k qm tm, cell21_ k qm tm, cell20_ k qm sm, cell16_ k qm sm, cell11_ k qm sm, cell10_ k qm sm, cell9_ k qm sm, cell7_ k qm sm] := hD
  have hS : va_S A s.heap H locs := by rw [eH, el]; exact hS
  suffices goal : W p l e ({ frames := 1, cells := 0, slots := 0, locals := 20 } : Room) s m ([.ref (qm 0), .int p0] : List Value).toArray below meth c H locs 0 0 Q (F0 m 0 ls []) by rw [eH, el] at goal; exact goal
  refine lv_aload_n hx hb dX12_bonus_0 rfl (lv_at hl 0 rfl) ?_
  refine g_get cx hP iw_X12_bonus_X12 0 rfl rfl 1 (by decide) rfl fw_X12_bonus_13 rfl dX12_bonus_1 ?_
  refine lv_bipush (v := 7) hx hb dX12_bonus_4 (by decide) ?_
  have hn1 : vp_in 7 26 := f_in (a := 7) (by decide) (by omega) (by omega)
  refine va_iald hx hb cx.2.1 hP 2 0 rfl rfl hn1 dX12_bonus_6 (lv_topi (fun v2 e2 => ?_))
  have uv2 : v2.toInt = ((sm 2) 7).toInt := congrArg Int32.toInt e2
  refine lv_bipush (v := (-9)) hx hb dX12_bonus_7 (by decide) ?_
  refine lv_icmp_ne (tgt := 16) hx hb dX12_bonus_9 (by decide) (fun c3 => ?_) (fun c3 => ?_)
  · have f3 : ¬ v2.toInt = (-9) := f_ne rfl (by decide) c3
    refine lv_aload_n hx hb dX12_bonus_16 rfl (lv_at hl 0 rfl) ?_
    refine g_get cx hP iw_X12_bonus_X12 0 rfl rfl 1 (by decide) rfl fw_X12_bonus_13 rfl dX12_bonus_17 ?_
    refine lv_bipush (v := 7) hx hb dX12_bonus_20 (by decide) ?_
    have hn4 : vp_in 7 26 := f_in (a := 7) (by decide) (by omega) (by omega)
    refine va_iald hx hb cx.2.1 hP 2 0 rfl rfl hn4 dX12_bonus_22 (lv_topi (fun v5 e5 => ?_))
    have qv5_ : v5.toInt = v2.toInt := congrArg Int32.toInt (e5.trans e2.symm)
    have uv5 : v5.toInt = ((sm 2) 7).toInt := congrArg Int32.toInt e5
    refine lv_iload_n hx hb dX12_bonus_23 rfl (lv_at hl 1 rfl) ?_
    refine g_ir (g_runS (wc := []) (rest := [.int v5]) cx hP hD hS [] rfl (by decide) [.int p0] (c_X12_all l D k b H.size p0) gX12_bonus_X12_all rfl rfl rfl nd_X12_all ⟨Nat.le_of_ble_eq_true rfl, Nat.le_of_ble_eq_true rfl⟩ rfl hl.1 rfl (Nat.le_of_ble_eq_true rfl) ⟨Nat.zero_le _, Nat.zero_le _⟩ dX12_bonus_24) cx.2.2.1 hP hD hS [] rfl rfl (fun r7 H locs hw6 hP hS => ?_)
    have w8 : r7 = J_X12_all p0 := hw6
    clear hw6
    refine lv_imul hx hb dX12_bonus_27 (lv_topi (fun v9 e9 => ?_))
    rw [hQ]
    exact x_i cx hr () hP hD hS (show v9 = J_X12_bonus sm tm p0 from by subst e2 e5 w8 e9; first | (refine Eq.symm ?_; refine Eq.trans (if_neg c3) ?_; rfl) | (unfold J_X12_bonus; try dsimp only; rw [if_neg c3])) dX12_bonus_28
  · have f3 : v2.toInt = (-9) := f_eq rfl (by decide) c3
    refine lv_iconst (v := 0) hx hb dX12_bonus_12 (by decide) ?_
    refine lv_goto (tgt := 28) hx hb dX12_bonus_13 (by decide) ?_
    have hlit10 : (0 : Int32).toInt = 0 := by decide
    rw [hQ]
    exact x_i cx hr () hP hD hS (show (0 : Int32) = J_X12_bonus sm tm p0 from by subst e2; first | (refine Eq.symm ?_; refine Eq.trans (if_pos c3) ?_; rfl) | (unfold J_X12_bonus; try dsimp only; rw [if_pos c3])) dX12_bonus_28
