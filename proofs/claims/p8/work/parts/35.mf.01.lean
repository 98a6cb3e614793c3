theorem fw_X12_layBestOf_41 : Cond.fieldLink RX12 41 "StillInAugustModel" "bestsBefore" "[J" ∈ wsX12_layBestOf := by decide +kernel
theorem fw_X12_layBestOf_44 : Cond.fieldLink RX12 44 "StillInAugustModel" "bestActs" "[I" ∈ wsX12_layBestOf := by decide +kernel
theorem kJ_X12_layBestOf_221 : Cond.constantLong RX12 221 (-1) ∈ wsX12_layBestOf := by decide +kernel
theorem nd_X12_onwardBest : yX12_onwardBest.cls = RX12 ∧ yX12_onwardBest.cls ≠ "java/lang/invoke/MethodHandle" ∧ yX12_onwardBest.cls ≠ "java/lang/invoke/VarHandle" ∧ (parseMethodDescriptor yX12_onwardBest.desc).map (fun d => d.parameters.length) = some 2 := by decide +kernel
theorem iw_X12_layBestOf_X12 : ∀ w ∈ u_ws RX12 TX12 33, w ∈ wsX12_layBestOf := fun _ h => List.mem_cons_of_mem _ (List.mem_append_right _ h)
set_option maxHeartbeats 4000000 in
set_option maxRecDepth 100000 in
theorem c_X12_layBestOf (l : Launch) (D : va_G) (k : Nat → ClassId) (b : Nat → Nat) (qm : Nat → Nat) (sm : Nat → Nat → Int32) (tm : Nat → Nat → Int64) (sz : Nat) (p0 : Int32) (p1 : Int32) (p2 : Int64) (h_w0 : 0 ≤ (sm 2 0).toInt ∧ (sm 2 0).toInt ≤ 5) (h_k1 : 0 ≤ (sm 2 1).toInt ∧ (sm 2 1).toInt ≤ 4) (hp0 : 0 ≤ p0.toInt ∧ p0.toInt ≤ 4) (hp1 : 0 ≤ p1.toInt ∧ p1.toInt ≤ 400) : MetV l D k b yX12_layBestOf wsX12_layBestOf ({ frames := 4, cells := 0, slots := 0, locals := 100 } : Room) [cell22_ qm sm tm, cell5_ k qm sm, cell13_ k qm sm, cell8_ k qm sm, cell6_ k qm sm, cell14_ k qm sm, cell15_ k qm tm, cell12_ k qm tm, cell18_ k qm tm, cell17_ k qm tm, cell19_ k qm tm, cell21_ k qm tm, cell20_ k qm sm, cell16_ k qm sm, cell11_ k qm sm, cell10_ k qm sm, cell9_ k qm sm, cell7_ k qm sm] sz [.ref (qm 0), .int p0, .int p1, .long p2] (fun (u : (Nat → Int64) × (Nat → Int32)) => True) (fun u => [cell22_ qm sm tm, cell5_ k qm sm, cell13_ k qm sm, cell8_ k qm sm, cell6_ k qm sm, cell14_ k qm sm, cell15_ k qm tm, cell12_ k qm tm, cell18_ k qm tm, cell17_ k qm tm, cell19_ k qm tm, cell122_ k qm (u.1), cell123_ k qm (u.2), cell16_ k qm sm, cell11_ k qm sm, cell10_ k qm sm, cell9_ k qm sm, cell7_ k qm sm]) := by
  refine g_enter (cc := cX12_layBestOf) (maxL := 13) (ret := none) (by decide) rfl (Nat.le_of_ble_eq_true rfl) ?_
  intro p e s m below meth c A hsz hAe cx hr hP hD hS ls hl
  rw [hAe]
  refine g_q (fun Q hQ => ?_)
  have hx := cx.1.1
  have hb := cx.1.2.1
  have bp0 := i_rng p0
  have bp1 := i_rng p1
  have hl : lv_has ls 13 [(0, .ref (qm 0)), (1, .int p0), (2, .int p1), (3, .long p2)] := hl
  obtain ⟨H, eH⟩ : ∃ H : Heap, H = s.heap := ⟨_, rfl⟩
  obtain ⟨locs, el⟩ : ∃ L : List Loc, L = [] := ⟨_, rfl⟩
  have hP : va_P D vwCl [cell22_ qm sm tm, cell5_ k qm sm, cell13_ k qm sm, cell8_ k qm sm, cell6_ k qm sm, cell14_ k qm sm, cell15_ k qm tm, cell12_ k qm tm, cell18_ k qm tm, cell17_ k qm tm, cell19_ k qm tm, cell21_ k qm tm, cell20_ k qm sm, cell16_ k qm sm, cell11_ k qm sm, cell10_ k qm sm, cell9_ k qm sm, cell7_ k qm sm] H := by rw [eH]; exact hP
  have hD : va_D A [cell22_ qm sm tm, cell5_ k qm sm, cell13_ k qm sm, cell8_ k qm sm, cell6_ k qm sm, cell14_ k qm sm, cell15_ k qm tm, cell12_ k qm tm, cell18_ k qm tm, cell17_ k qm tm, cell19_ k qm tm, cell21_ k qm tm, cell20_ k qm sm, cell16_ k qm sm, cell11_ k qm sm, cell10_ k qm sm, cell9_ k qm sm, cell7_ k qm sm] := hD
  have hS : va_S A s.heap H locs := by rw [eH, el]; exact hS
  suffices goal : W p l e ({ frames := 4, cells := 0, slots := 0, locals := 100 } : Room) s m ([.ref (qm 0), .int p0, .int p1, .long p2] : List Value).toArray below meth c H locs 0 0 Q (F0 m 0 ls []) by rw [eH, el] at goal; exact goal
  refine lv_iconst (v := 0) hx hb dX12_layBestOf_0 (by decide) ?_
  refine lv_istore (lv' := [(5, .int 0), (0, .ref (qm 0)), (1, .int p0), (2, .int p1), (3, .long p2)]) hx hb dX12_layBestOf_1 hl (by decide) rfl (fun ls hl => ?_)
  have hL3 : ∀ (n8 : Nat) (v6 : Int32) (g7 : Nat → Int64) (H : Heap) (locs : List Loc) (ls : Array Slot), 3 - v6.toInt < (n8 : Int) → (0 ≤ v6.toInt ∧ v6.toInt ≤ 3) → va_P D vwCl [cell22_ qm sm tm, cell5_ k qm sm, cell13_ k qm sm, cell8_ k qm sm, cell6_ k qm sm, cell14_ k qm sm, cell15_ k qm tm, cell12_ k qm tm, cell18_ k qm tm, cell17_ k qm tm, cell19_ k qm tm, (qm 11, .inl (k 1, 1500, .inr (.inl g7))), cell20_ k qm sm, cell16_ k qm sm, cell11_ k qm sm, cell10_ k qm sm, cell9_ k qm sm, cell7_ k qm sm] H → va_D A [cell22_ qm sm tm, cell5_ k qm sm, cell13_ k qm sm, cell8_ k qm sm, cell6_ k qm sm, cell14_ k qm sm, cell15_ k qm tm, cell12_ k qm tm, cell18_ k qm tm, cell17_ k qm tm, cell19_ k qm tm, (qm 11, .inl (k 1, 1500, .inr (.inl g7))), cell20_ k qm sm, cell16_ k qm sm, cell11_ k qm sm, cell10_ k qm sm, cell9_ k qm sm, cell7_ k qm sm] → va_S A s.heap H locs → lv_has ls 13 [(5, .int v6), (0, .ref (qm 0)), (1, .int p0), (2, .int p1), (3, .long p2)] → W p l e ({ frames := 4, cells := 0, slots := 0, locals := 100 } : Room) s m ([.ref (qm 0), .int p0, .int p1, .long p2] : List Value).toArray below meth c H locs 0 0 Q (F0 m 3 ls []) := by
    intro n8
    induction n8 with
    | zero => intro v6 g7 H locs ls hmn8 bv6 hP hD hS hl; exact absurd hmn8 (by omega)
    | succ n8 ih3 =>
      intro v6 g7 H locs ls hmn8 bv6 hP hD hS hl
      refine lv_iload hx hb dX12_layBestOf_3 (lv_at hl 0 rfl) ?_
      refine lv_iconst (v := 3) hx hb dX12_layBestOf_5 (by decide) ?_
      refine lv_icmp_ge (tgt := 29) hx hb dX12_layBestOf_6 (by decide) (fun c9 => ?_) (fun c9 => ?_)
      · have f9 : 3 ≤ v6.toInt := f_le (by decide) rfl c9
        refine lv_iconst (v := 0) hx hb dX12_layBestOf_29 (by decide) ?_
        refine lv_istore (lv' := [(5, .int 0), (0, .ref (qm 0)), (1, .int p0), (2, .int p1), (3, .long p2)]) hx hb dX12_layBestOf_30 hl (by decide) rfl (fun ls hl => ?_)
        have hL32 : ∀ (n61 : Nat) (v58 : Int32) (g59 : Nat → Int64) (g60 : Nat → Int32) (H : Heap) (locs : List Loc) (ls : Array Slot), 150 - v58.toInt < (n61 : Int) → (0 ≤ v58.toInt ∧ v58.toInt ≤ 150) → va_P D vwCl [cell22_ qm sm tm, cell5_ k qm sm, cell13_ k qm sm, cell8_ k qm sm, cell6_ k qm sm, cell14_ k qm sm, cell15_ k qm tm, cell12_ k qm tm, cell18_ k qm tm, cell17_ k qm tm, cell19_ k qm tm, (qm 11, .inl (k 1, 1500, .inr (.inl g59))), (qm 12, .inl (k 0, 1500, .inl g60)), cell16_ k qm sm, cell11_ k qm sm, cell10_ k qm sm, cell9_ k qm sm, cell7_ k qm sm] H → va_D A [cell22_ qm sm tm, cell5_ k qm sm, cell13_ k qm sm, cell8_ k qm sm, cell6_ k qm sm, cell14_ k qm sm, cell15_ k qm tm, cell12_ k qm tm, cell18_ k qm tm, cell17_ k qm tm, cell19_ k qm tm, (qm 11, .inl (k 1, 1500, .inr (.inl g59))), (qm 12, .inl (k 0, 1500, .inl g60)), cell16_ k qm sm, cell11_ k qm sm, cell10_ k qm sm, cell9_ k qm sm, cell7_ k qm sm] → va_S A s.heap H locs → lv_has ls 13 [(5, .int v58), (0, .ref (qm 0)), (1, .int p0), (2, .int p1), (3, .long p2)] → W p l e ({ frames := 4, cells := 0, slots := 0, locals := 100 } : Room) s m ([.ref (qm 0), .int p0, .int p1, .long p2] : List Value).toArray below meth c H locs 0 0 Q (F0 m 32 ls []) := by
          intro n61
          induction n61 with
          | zero => intro v58 g59 g60 H locs ls hmn61 bv58 hP hD hS hl; exact absurd hmn61 (by omega)
          | succ n61 ih32 =>
            intro v58 g59 g60 H locs ls hmn61 bv58 hP hD hS hl
            refine lv_iload hx hb dX12_layBestOf_32 (lv_at hl 0 rfl) ?_
            refine lv_sipush (v := 150) hx hb dX12_layBestOf_34 (by decide) ?_
            refine lv_icmp_ge (tgt := 206) hx hb dX12_layBestOf_37 (by decide) (fun c62 => ?_) (fun c62 => ?_)
            · have f62 : 150 ≤ v58.toInt := f_le (by decide) rfl c62
              rw [hQ]
              exact x_v cx hr (g59, g60) hP hD hS trivial dX12_layBestOf_206
            · have f62 : v58.toInt < 150 := f_nle (by decide) rfl c62
              refine lv_sipush (v := 1000) hx hb dX12_layBestOf_40 (by decide) ?_
              refine lv_iload hx hb dX12_layBestOf_43 (lv_at hl 0 rfl) ?_
              refine lv_bipush (v := 30) hx hb dX12_layBestOf_45 (by decide) ?_
              refine lv_idiv hx hb dX12_layBestOf_47 (by decide) (lv_topi (fun v63 e63 => ?_))
              have t63 : v63.toInt = v58.toInt / 30 := by rw [e63]; exact i_div rfl (by decide) (by omega) (by omega) (by omega)
              refine lv_imul hx hb dX12_layBestOf_48 (lv_topi (fun v64 e64 => ?_))
              have t64 : v64.toInt = 1000 * v63.toInt := by rw [e64]; exact i_mul (by decide) rfl (by omega) (by omega)
              refine lv_bipush (v := 100) hx hb dX12_layBestOf_49 (by decide) ?_
              refine lv_iload hx hb dX12_layBestOf_51 (lv_at hl 0 rfl) ?_
              refine lv_bipush (v := 6) hx hb dX12_layBestOf_53 (by decide) ?_
              refine lv_idiv hx hb dX12_layBestOf_55 (by decide) (lv_topi (fun v65 e65 => ?_))
              have t65 : v65.toInt = v58.toInt / 6 := by rw [e65]; exact i_div rfl (by decide) (by omega) (by omega) (by omega)
              refine lv_iconst (v := 5) hx hb dX12_layBestOf_56 (by decide) ?_
              refine lv_irem hx hb dX12_layBestOf_57 (by decide) (lv_topi (fun v66 e66 => ?_))
              have t66 : v66.toInt = v65.toInt % 5 := by rw [e66]; exact i_rem rfl (by decide) (by omega) (by omega) (by omega) (by omega)
              refine lv_imul hx hb dX12_layBestOf_58 (lv_topi (fun v67 e67 => ?_))
              have t67 : v67.toInt = 100 * v66.toInt := by rw [e67]; exact i_mul (by decide) rfl (by omega) (by omega)
              refine lv_iadd hx hb dX12_layBestOf_59 (lv_topi (fun v68 e68 => ?_))
              have t68 : v68.toInt = v64.toInt + v67.toInt := by rw [e68]; exact i_add rfl rfl (by omega) (by omega)
              refine lv_bipush (v := 10) hx hb dX12_layBestOf_60 (by decide) ?_
              refine lv_iload hx hb dX12_layBestOf_62 (lv_at hl 0 rfl) ?_
              refine lv_iconst (v := 3) hx hb dX12_layBestOf_64 (by decide) ?_
              refine lv_idiv hx hb dX12_layBestOf_65 (by decide) (lv_topi (fun v69 e69 => ?_))
              have t69 : v69.toInt = v58.toInt / 3 := by rw [e69]; exact i_div rfl (by decide) (by omega) (by omega) (by omega)
              refine lv_iconst (v := 2) hx hb dX12_layBestOf_66 (by decide) ?_
              refine lv_irem hx hb dX12_layBestOf_67 (by decide) (lv_topi (fun v70 e70 => ?_))
              have t70 : v70.toInt = v69.toInt % 2 := by rw [e70]; exact i_rem rfl (by decide) (by omega) (by omega) (by omega) (by omega)
              refine lv_imul hx hb dX12_layBestOf_68 (lv_topi (fun v71 e71 => ?_))
              have t71 : v71.toInt = 10 * v70.toInt := by rw [e71]; exact i_mul (by decide) rfl (by omega) (by omega)
              refine lv_iadd hx hb dX12_layBestOf_69 (lv_topi (fun v72 e72 => ?_))
              have t72 : v72.toInt = v68.toInt + v71.toInt := by rw [e72]; exact i_add rfl rfl (by omega) (by omega)
              refine lv_iload hx hb dX12_layBestOf_70 (lv_at hl 0 rfl) ?_
              refine lv_iconst (v := 3) hx hb dX12_layBestOf_72 (by decide) ?_
              refine lv_irem hx hb dX12_layBestOf_73 (by decide) (lv_topi (fun v73 e73 => ?_))
              have t73 : v73.toInt = v58.toInt % 3 := by rw [e73]; exact i_rem rfl (by decide) (by omega) (by omega) (by omega) (by omega)
              refine lv_iadd hx hb dX12_layBestOf_74 (lv_topi (fun v74 e74 => ?_))
              have t74 : v74.toInt = v72.toInt + v73.toInt := by rw [e74]; exact i_add rfl rfl (by omega) (by omega)
              refine lv_istore (lv' := [(6, .int v74), (5, .int v58), (0, .ref (qm 0)), (1, .int p0), (2, .int p1), (3, .long p2)]) hx hb dX12_layBestOf_75 hl (by decide) rfl (fun ls hl => ?_)
              refine lv_aload_n hx hb dX12_layBestOf_77 rfl (lv_at hl 2 rfl) ?_
              refine lv_iload_n hx hb dX12_layBestOf_78 rfl (lv_at hl 3 rfl) ?_
              refine lv_iload_n hx hb dX12_layBestOf_79 rfl (lv_at hl 4 rfl) ?_
              refine lv_iload hx hb dX12_layBestOf_80 (lv_at hl 0 rfl) ?_
              refine g_iF (w1 := fun (_ : Unit) => [cell22_ qm sm tm, cell5_ k qm sm, cell13_ k qm sm, cell8_ k qm sm, cell6_ k qm sm, cell14_ k qm sm, cell15_ k qm tm, cell12_ k qm tm, cell18_ k qm tm, cell17_ k qm tm, cell19_ k qm tm, (qm 11, .inl (k 1, 1500, .inr (.inl g59))), (qm 12, .inl (k 0, 1500, .inl g60)), cell16_ k qm sm, cell11_ k qm sm, cell10_ k qm sm, cell9_ k qm sm, cell7_ k qm sm]) (g_runVF (ws := [cell22_ qm sm tm, cell5_ k qm sm, cell13_ k qm sm, cell8_ k qm sm, cell6_ k qm sm, cell14_ k qm sm, cell15_ k qm tm, cell12_ k qm tm, cell18_ k qm tm, cell17_ k qm tm, cell19_ k qm tm, (qm 11, .inl (k 1, 1500, .inr (.inl g59))), (qm 12, .inl (k 0, 1500, .inl g60)), cell16_ k qm sm, cell11_ k qm sm, cell10_ k qm sm, cell9_ k qm sm, cell7_ k qm sm]) (rest := []) cx hP hD hS [.int p0, .int p1, .int v74] (c_X12_after l D k b qm (up2 sm 12 g60) (up2L tm 11 g59) H.size p0 p1 v74 (show 0 ≤ ((sm 2) 0).toInt ∧ ((sm 2) 0).toInt ≤ 5 from by first | decide | omega) (show 0 ≤ p0.toInt ∧ p0.toInt ≤ 4 from by first | decide | omega)) gX12_layBestOf_X12_after rfl rfl rfl nd_X12_after ⟨Nat.le_of_ble_eq_true rfl, Nat.le_of_ble_eq_true rfl⟩ (ci := 10) (q0 := 0) rfl rfl rfl hl.1 rfl (Nat.le_of_ble_eq_true rfl) ⟨Nat.zero_le _, Nat.zero_le _⟩ dX12_layBestOf_82) cx.2.2.1 hD hS (fun r76 _ H locs hw75 hP hD hS => ?_)
              have w77 : r76 = J_X12_after (up2 sm 12 g60) (up2L tm 11 g59) p0 p1 v74 := hw75
              clear hw75
              have k79 : r76 = (J_X12_after (up2 sm 12 g60) (up2L tm 11 g59) p0 p1 v74) := congrArg (fun z => z) w77
              refine lv_istore (lv' := [(7, .int r76), (6, .int v74), (5, .int v58), (0, .ref (qm 0)), (1, .int p0), (2, .int p1), (3, .long p2)]) hx hb dX12_layBestOf_85 hl (by decide) rfl (fun ls hl => ?_)
              refine lv_iload hx hb dX12_layBestOf_87 (lv_at hl 0 rfl) ?_
              refine lv_bipush (v := (-9)) hx hb dX12_layBestOf_89 (by decide) ?_
              have hJ200 : ∀ (g150 : Nat → Int64) (g151 : Nat → Int32) (H : Heap) (locs : List Loc) (ls : Array Slot), va_P D vwCl [cell22_ qm sm tm, cell5_ k qm sm, cell13_ k qm sm, cell8_ k qm sm, cell6_ k qm sm, cell14_ k qm sm, cell15_ k qm tm, cell12_ k qm tm, cell18_ k qm tm, cell17_ k qm tm, cell19_ k qm tm, (qm 11, .inl (k 1, 1500, .inr (.inl g150))), (qm 12, .inl (k 0, 1500, .inl g151)), cell16_ k qm sm, cell11_ k qm sm, cell10_ k qm sm, cell9_ k qm sm, cell7_ k qm sm] H → va_D A [cell22_ qm sm tm, cell5_ k qm sm, cell13_ k qm sm, cell8_ k qm sm, cell6_ k qm sm, cell14_ k qm sm, cell15_ k qm tm, cell12_ k qm tm, cell18_ k qm tm, cell17_ k qm tm, cell19_ k qm tm, (qm 11, .inl (k 1, 1500, .inr (.inl g150))), (qm 12, .inl (k 0, 1500, .inl g151)), cell16_ k qm sm, cell11_ k qm sm, cell10_ k qm sm, cell9_ k qm sm, cell7_ k qm sm] → va_S A s.heap H locs → lv_has ls 13 [(5, .int v58), (0, .ref (qm 0)), (1, .int p0), (2, .int p1), (3, .long p2)] → W p l e ({ frames := 4, cells := 0, slots := 0, locals := 100 } : Room) s m ([.ref (qm 0), .int p0, .int p1, .long p2] : List Value).toArray below meth c H locs 0 0 Q (F0 m 200 ls []) := by
                intro g150 g151 H locs ls  hP hD hS hl
                obtain ⟨v152, e152⟩ : ∃ z : Int32, z = v58 + 1 := ⟨_, rfl⟩
                refine lv_iinc (v := v152) (lv' := [(5, .int v152), (0, .ref (qm 0)), (1, .int p0), (2, .int p1), (3, .long p2)]) hx hb dX12_layBestOf_200 hl (k := 0) rfl (by rw [e152]; rfl) (by decide) rfl (fun ls hl => ?_)
                have t152 : v152.toInt = v58.toInt + 1 := by rw [e152]; exact i_add rfl (by decide) (by omega) (by omega)
                refine lv_goto (tgt := 32) hx hb dX12_layBestOf_203 (by decide) ?_
                exact ih32 v152 g150 g151 _ _ _ (by omega) (by first | decide | omega) hP hD hS (lv_sub hl [0, 1, 2, 3, 4] rfl)
              refine lv_icmp_eq (tgt := 200) hx hb dX12_layBestOf_91 (by decide) (fun c153 => ?_) (fun c153 => ?_)
              · have f153 : r76.toInt = (-9) := f_eq rfl (by decide) c153
                exact hJ200 g59 g60 _ _ _  hP hD hS (lv_sub hl [2, 3, 4, 5, 6] rfl)
              · have f153 : ¬ r76.toInt = (-9) := f_ne rfl (by decide) c153
                refine lv_aload_n hx hb dX12_layBestOf_94 rfl (lv_at hl 3 rfl) ?_
                refine lv_iload hx hb dX12_layBestOf_95 (lv_at hl 0 rfl) ?_
                refine lv_iload hx hb dX12_layBestOf_97 (lv_at hl 1 rfl) ?_
                refine lv_bipush (v := 10) hx hb dX12_layBestOf_99 (by decide) ?_
                refine lv_irem hx hb dX12_layBestOf_101 (by decide) (lv_topi (fun v154 e154 => ?_))
                have t154 : v154.toInt = v74.toInt % 10 := by rw [e154]; exact i_rem rfl (by decide) (by omega) (by omega) (by omega) (by omega)
                refine g_lF (w1 := fun (_ : Unit) => [cell22_ qm sm tm, cell5_ k qm sm, cell13_ k qm sm, cell8_ k qm sm, cell6_ k qm sm, cell14_ k qm sm, cell15_ k qm tm, cell12_ k qm tm, cell18_ k qm tm, cell17_ k qm tm, cell19_ k qm tm, (qm 11, .inl (k 1, 1500, .inr (.inl g59))), (qm 12, .inl (k 0, 1500, .inl g60)), cell16_ k qm sm, cell11_ k qm sm, cell10_ k qm sm, cell9_ k qm sm, cell7_ k qm sm]) (g_runVF (ws := [cell22_ qm sm tm, cell5_ k qm sm, cell13_ k qm sm, cell8_ k qm sm, cell6_ k qm sm, cell14_ k qm sm, cell15_ k qm tm, cell12_ k qm tm, cell18_ k qm tm, cell17_ k qm tm, cell19_ k qm tm, (qm 11, .inl (k 1, 1500, .inr (.inl g59))), (qm 12, .inl (k 0, 1500, .inl g60)), cell16_ k qm sm, cell11_ k qm sm, cell10_ k qm sm, cell9_ k qm sm, cell7_ k qm sm]) (rest := []) cx hP hD hS [.int r76, .int v154] (c_X12_onwardBest l D k b qm (up2 sm 12 g60) (up2L tm 11 g59) H.size r76 v154 (show 0 ≤ ((sm 2) 1).toInt ∧ ((sm 2) 1).toInt ≤ 4 from by first | decide | omega) (show 0 ≤ v154.toInt ∧ v154.toInt ≤ 2 from by first | decide | omega)) gX12_layBestOf_X12_onwardBest rfl rfl rfl nd_X12_onwardBest ⟨Nat.le_of_ble_eq_true rfl, Nat.le_of_ble_eq_true rfl⟩ (ci := 10) (q0 := 0) rfl rfl rfl hl.1 rfl (Nat.le_of_ble_eq_true rfl) ⟨Nat.zero_le _, Nat.zero_le _⟩ dX12_layBestOf_102) cx.2.2.1 hD hS (fun r156 _ H locs hw155 hP hD hS => ?_)
                refine lv_lstore (lv' := [(8, .long r156), (7, .int r76), (6, .int v74), (5, .int v58), (0, .ref (qm 0)), (1, .int p0), (2, .int p1), (3, .long p2)]) hx hb dX12_layBestOf_105 hl (by decide) rfl (fun ls hl => ?_)
                refine lv_iconst (v := 0) hx hb dX12_layBestOf_107 (by decide) ?_
                refine lv_istore (lv' := [(10, .int 0), (8, .long r156), (7, .int r76), (6, .int v74), (5, .int v58), (0, .ref (qm 0)), (1, .int p0), (2, .int p1), (3, .long p2)]) hx hb dX12_layBestOf_108 hl (by decide) rfl (fun ls hl => ?_)
                have hL110 : ∀ (n187 : Nat) (v184 : Int32) (g185 : Nat → Int64) (g186 : Nat → Int32) (H : Heap) (locs : List Loc) (ls : Array Slot), 3 - v184.toInt < (n187 : Int) → (0 ≤ v184.toInt ∧ v184.toInt ≤ 3) → va_P D vwCl [cell22_ qm sm tm, cell5_ k qm sm, cell13_ k qm sm, cell8_ k qm sm, cell6_ k qm sm, cell14_ k qm sm, cell15_ k qm tm, cell12_ k qm tm, cell18_ k qm tm, cell17_ k qm tm, cell19_ k qm tm, (qm 11, .inl (k 1, 1500, .inr (.inl g185))), (qm 12, .inl (k 0, 1500, .inl g186)), cell16_ k qm sm, cell11_ k qm sm, cell10_ k qm sm, cell9_ k qm sm, cell7_ k qm sm] H → va_D A [cell22_ qm sm tm, cell5_ k qm sm, cell13_ k qm sm, cell8_ k qm sm, cell6_ k qm sm, cell14_ k qm sm, cell15_ k qm tm, cell12_ k qm tm, cell18_ k qm tm, cell17_ k qm tm, cell19_ k qm tm, (qm 11, .inl (k 1, 1500, .inr (.inl g185))), (qm 12, .inl (k 0, 1500, .inl g186)), cell16_ k qm sm, cell11_ k qm sm, cell10_ k qm sm, cell9_ k qm sm, cell7_ k qm sm] → va_S A s.heap H locs → lv_has ls 13 [(10, .int v184), (8, .long r156), (7, .int r76), (6, .int v74), (5, .int v58), (0, .ref (qm 0)), (1, .int p0), (2, .int p1), (3, .long p2)] → W p l e ({ frames := 4, cells := 0, slots := 0, locals := 100 } : Room) s m ([.ref (qm 0), .int p0, .int p1, .long p2] : List Value).toArray below meth c H locs 0 0 Q (F0 m 110 ls []) := by
                  intro n187
                  induction n187 with
                  | zero => intro v184 g185 g186 H locs ls hmn187 bv184 hP hD hS hl; exact absurd hmn187 (by omega)
                  | succ n187 ih110 =>
                    intro v184 g185 g186 H locs ls hmn187 bv184 hP hD hS hl
                    refine lv_iload hx hb dX12_layBestOf_110 (lv_at hl 0 rfl) ?_
                    refine lv_iconst (v := 3) hx hb dX12_layBestOf_112 (by decide) ?_
                    refine lv_icmp_ge (tgt := 200) hx hb dX12_layBestOf_113 (by decide) (fun c188 => ?_) (fun c188 => ?_)
                    · have f188 : 3 ≤ v184.toInt := f_le (by decide) rfl c188
                      exact hJ200 g185 g186 _ _ _  hP hD hS (lv_sub hl [4, 5, 6, 7, 8] rfl)
                    · have f188 : v184.toInt < 3 := f_nle (by decide) rfl c188
                      refine lv_aload_n hx hb dX12_layBestOf_116 rfl (lv_at hl 5 rfl) ?_
                      refine lv_iload_n hx hb dX12_layBestOf_117 rfl (lv_at hl 6 rfl) ?_
                      refine lv_iload hx hb dX12_layBestOf_118 (lv_at hl 2 rfl) ?_
                      refine lv_iload hx hb dX12_layBestOf_120 (lv_at hl 0 rfl) ?_
                      refine lv_iload hx hb dX12_layBestOf_122 (lv_at hl 3 rfl) ?_
                      refine g_iF (w1 := fun (_ : Unit) => [cell22_ qm sm tm, cell5_ k qm sm, cell13_ k qm sm, cell8_ k qm sm, cell6_ k qm sm, cell14_ k qm sm, cell15_ k qm tm, cell12_ k qm tm, cell18_ k qm tm, cell17_ k qm tm, cell19_ k qm tm, (qm 11, .inl (k 1, 1500, .inr (.inl g185))), (qm 12, .inl (k 0, 1500, .inl g186)), cell16_ k qm sm, cell11_ k qm sm, cell10_ k qm sm, cell9_ k qm sm, cell7_ k qm sm]) (g_runVF (ws := [cell22_ qm sm tm, cell5_ k qm sm, cell13_ k qm sm, cell8_ k qm sm, cell6_ k qm sm, cell14_ k qm sm, cell15_ k qm tm, cell12_ k qm tm, cell18_ k qm tm, cell17_ k qm tm, cell19_ k qm tm, (qm 11, .inl (k 1, 1500, .inr (.inl g185))), (qm 12, .inl (k 0, 1500, .inl g186)), cell16_ k qm sm, cell11_ k qm sm, cell10_ k qm sm, cell9_ k qm sm, cell7_ k qm sm]) (rest := []) cx hP hD hS [.int p0, .int r76, .int v184, .int v74] (c_X12_costOf l D k b qm (up2 sm 12 g186) (up2L tm 11 g185) H.size p0 r76 v184 v74 (show 0 ≤ p0.toInt ∧ p0.toInt ≤ 4 from by first | decide | omega)) gX12_layBestOf_X12_costOf rfl rfl rfl nd_X12_costOf ⟨Nat.le_of_ble_eq_true rfl, Nat.le_of_ble_eq_true rfl⟩ (ci := 10) (q0 := 0) rfl rfl rfl hl.1 rfl (Nat.le_of_ble_eq_true rfl) ⟨Nat.zero_le _, Nat.zero_le _⟩ dX12_layBestOf_124) cx.2.2.1 hD hS (fun r190 _ H locs hw189 hP hD hS => ?_)
                      have w191 : r190 = J_X12_costOf (up2 sm 12 g186) (up2L tm 11 g185) p0 r76 v184 v74 := hw189
                      clear hw189
                      have k193 : r190 = (J_X12_costOf (up2 sm 12 g186) (up2L tm 11 g185) p0 r76 v184 v74) := congrArg (fun z => z) w191
                      obtain ⟨v194, e194⟩ : ∃ z : Int64, z = (r190 : Int32).toInt64 := ⟨_, rfl⟩
                      refine lv_i2l (v := v194) hx hb dX12_layBestOf_127 e194.symm ?_
                      refine lv_lload_n hx hb dX12_layBestOf_128 rfl (lv_at hl 8 rfl) ?_
                      refine lv_lmul hx hb dX12_layBestOf_129 (lv_topl (fun v195 e195 => ?_))
                      refine lv_lload hx hb dX12_layBestOf_130 (lv_at hl 1 rfl) ?_
                      refine lv_ladd hx hb dX12_layBestOf_132 (lv_topl (fun v196 e196 => ?_))
                      refine lv_lstore (lv' := [(11, .long v196), (10, .int v184), (8, .long r156), (7, .int r76), (6, .int v74), (5, .int v58), (0, .ref (qm 0)), (1, .int p0), (2, .int p1), (3, .long p2)]) hx hb dX12_layBestOf_133 hl (by decide) rfl (fun ls hl => ?_)
                      refine lv_aload_n hx hb dX12_layBestOf_135 rfl (lv_at hl 6 rfl) ?_
                      refine g_get cx hP iw_X12_layBestOf_X12 0 rfl rfl 19 (by decide) rfl fw_X12_layBestOf_41 rfl dX12_layBestOf_136 ?_
                      refine lv_iconst (v := 3) hx hb dX12_layBestOf_139 (by decide) ?_
                      refine lv_iload_n hx hb dX12_layBestOf_140 rfl (lv_at hl 8 rfl) ?_
                      refine lv_imul hx hb dX12_layBestOf_141 (lv_topi (fun v197 e197 => ?_))
                      have t197 : v197.toInt = 3 * p1.toInt := by rw [e197]; exact i_mul (by decide) rfl (by omega) (by omega)
                      refine lv_iload hx hb dX12_layBestOf_142 (lv_at hl 1 rfl) ?_
                      refine lv_iadd hx hb dX12_layBestOf_144 (lv_topi (fun v198 e198 => ?_))
                      have t198 : v198.toInt = v197.toInt + v184.toInt := by rw [e198]; exact i_add rfl rfl (by omega) (by omega)
                      have hn199 : vp_in v198 1500 := f_in (a := v198.toInt) rfl (by omega) (by omega)
                      refine va_lald hx hb cx.2.1 hP 11 1 rfl rfl hn199 dX12_layBestOf_145 (lv_topl (fun v200 e200 => ?_))
                      refine lv_lconst (v := 0) hx hb dX12_layBestOf_146 (by decide) ?_
                      refine W.lcmp hx hb dX12_layBestOf_147 (lv_topi (fun v201 e201 => ?_))
                      have hJ194 : ∀ (g223 : Nat → Int64) (g224 : Nat → Int32) (H : Heap) (locs : List Loc) (ls : Array Slot), va_P D vwCl [cell22_ qm sm tm, cell5_ k qm sm, cell13_ k qm sm, cell8_ k qm sm, cell6_ k qm sm, cell14_ k qm sm, cell15_ k qm tm, cell12_ k qm tm, cell18_ k qm tm, cell17_ k qm tm, cell19_ k qm tm, (qm 11, .inl (k 1, 1500, .inr (.inl g223))), (qm 12, .inl (k 0, 1500, .inl g224)), cell16_ k qm sm, cell11_ k qm sm, cell10_ k qm sm, cell9_ k qm sm, cell7_ k qm sm] H → va_D A [cell22_ qm sm tm, cell5_ k qm sm, cell13_ k qm sm, cell8_ k qm sm, cell6_ k qm sm, cell14_ k qm sm, cell15_ k qm tm, cell12_ k qm tm, cell18_ k qm tm, cell17_ k qm tm, cell19_ k qm tm, (qm 11, .inl (k 1, 1500, .inr (.inl g223))), (qm 12, .inl (k 0, 1500, .inl g224)), cell16_ k qm sm, cell11_ k qm sm, cell10_ k qm sm, cell9_ k qm sm, cell7_ k qm sm] → va_S A s.heap H locs → lv_has ls 13 [(10, .int v184), (8, .long r156), (7, .int r76), (6, .int v74), (5, .int v58), (0, .ref (qm 0)), (1, .int p0), (2, .int p1), (3, .long p2)] → W p l e ({ frames := 4, cells := 0, slots := 0, locals := 100 } : Room) s m ([.ref (qm 0), .int p0, .int p1, .long p2] : List Value).toArray below meth c H locs 0 0 Q (F0 m 194 ls []) := by
                        intro g223 g224 H locs ls  hP hD hS hl
                        obtain ⟨v225, e225⟩ : ∃ z : Int32, z = v184 + 1 := ⟨_, rfl⟩
                        refine lv_iinc (v := v225) (lv' := [(10, .int v225), (8, .long r156), (7, .int r76), (6, .int v74), (5, .int v58), (0, .ref (qm 0)), (1, .int p0), (2, .int p1), (3, .long p2)]) hx hb dX12_layBestOf_194 hl (k := 0) rfl (by rw [e225]; rfl) (by decide) rfl (fun ls hl => ?_)
                        have t225 : v225.toInt = v184.toInt + 1 := by rw [e225]; exact i_add rfl (by decide) (by omega) (by omega)
                        refine lv_goto (tgt := 110) hx hb dX12_layBestOf_197 (by decide) ?_
                        exact ih110 v225 g223 g224 _ _ _ (by omega) (by first | decide | omega) hP hD hS (lv_sub hl [0, 1, 2, 3, 4, 5, 6, 7, 8] rfl)
                      have hJ168 : ∀  (H : Heap) (locs : List Loc) (ls : Array Slot), va_P D vwCl [cell22_ qm sm tm, cell5_ k qm sm, cell13_ k qm sm, cell8_ k qm sm, cell6_ k qm sm, cell14_ k qm sm, cell15_ k qm tm, cell12_ k qm tm, cell18_ k qm tm, cell17_ k qm tm, cell19_ k qm tm, (qm 11, .inl (k 1, 1500, .inr (.inl g185))), (qm 12, .inl (k 0, 1500, .inl g186)), cell16_ k qm sm, cell11_ k qm sm, cell10_ k qm sm, cell9_ k qm sm, cell7_ k qm sm] H → va_D A [cell22_ qm sm tm, cell5_ k qm sm, cell13_ k qm sm, cell8_ k qm sm, cell6_ k qm sm, cell14_ k qm sm, cell15_ k qm tm, cell12_ k qm tm, cell18_ k qm tm, cell17_ k qm tm, cell19_ k qm tm, (qm 11, .inl (k 1, 1500, .inr (.inl g185))), (qm 12, .inl (k 0, 1500, .inl g186)), cell16_ k qm sm, cell11_ k qm sm, cell10_ k qm sm, cell9_ k qm sm, cell7_ k qm sm] → va_S A s.heap H locs → lv_has ls 13 [(11, .long v196), (10, .int v184), (8, .long r156), (7, .int r76), (6, .int v74), (5, .int v58), (0, .ref (qm 0)), (1, .int p0), (2, .int p1), (3, .long p2)] → W p l e ({ frames := 4, cells := 0, slots := 0, locals := 100 } : Room) s m ([.ref (qm 0), .int p0, .int p1, .long p2] : List Value).toArray below meth c H locs 0 0 Q (F0 m 168 ls []) := by
                        intro  H locs ls  hP hD hS hl
                        refine lv_aload_n hx hb dX12_layBestOf_168 rfl (lv_at hl 6 rfl) ?_
                        refine g_get cx hP iw_X12_layBestOf_X12 0 rfl rfl 19 (by decide) rfl fw_X12_layBestOf_41 rfl dX12_layBestOf_169 ?_
                        refine lv_iconst (v := 3) hx hb dX12_layBestOf_172 (by decide) ?_
                        refine lv_iload_n hx hb dX12_layBestOf_173 rfl (lv_at hl 8 rfl) ?_
                        refine lv_imul hx hb dX12_layBestOf_174 (lv_topi (fun v231 e231 => ?_))
                        have t231 : v231.toInt = 3 * p1.toInt := by rw [e231]; exact i_mul (by decide) rfl (by omega) (by omega)
                        refine lv_iload hx hb dX12_layBestOf_175 (lv_at hl 1 rfl) ?_
                        refine lv_iadd hx hb dX12_layBestOf_177 (lv_topi (fun v232 e232 => ?_))
                        have t232 : v232.toInt = v231.toInt + v184.toInt := by rw [e232]; exact i_add rfl rfl (by omega) (by omega)
                        refine lv_lload hx hb dX12_layBestOf_178 (lv_at hl 0 rfl) ?_
                        have hn233 : vp_in v232 1500 := f_in (a := v232.toInt) rfl (by omega) (by omega)
                        refine va_last hx hb cx.2.1 hP hD hS 11 1 rfl rfl hn233 dX12_layBestOf_180 (fun H locs hP hD hS => ?_)
                        obtain ⟨g234, eg234⟩ : ∃ g : Nat → Int64, g = vp_updL g185 (v232).toNatClampNeg v196 := ⟨_, rfl⟩
                        rw [← eg234] at hP hD
                        have hP : va_P D vwCl [cell22_ qm sm tm, cell5_ k qm sm, cell13_ k qm sm, cell8_ k qm sm, cell6_ k qm sm, cell14_ k qm sm, cell15_ k qm tm, cell12_ k qm tm, cell18_ k qm tm, cell17_ k qm tm, cell19_ k qm tm, (qm 11, .inl (k 1, 1500, .inr (.inl g234))), (qm 12, .inl (k 0, 1500, .inl g186)), cell16_ k qm sm, cell11_ k qm sm, cell10_ k qm sm, cell9_ k qm sm, cell7_ k qm sm] H := hP
                        have hD : va_D A [cell22_ qm sm tm, cell5_ k qm sm, cell13_ k qm sm, cell8_ k qm sm, cell6_ k qm sm, cell14_ k qm sm, cell15_ k qm tm, cell12_ k qm tm, cell18_ k qm tm, cell17_ k qm tm, cell19_ k qm tm, (qm 11, .inl (k 1, 1500, .inr (.inl g234))), (qm 12, .inl (k 0, 1500, .inl g186)), cell16_ k qm sm, cell11_ k qm sm, cell10_ k qm sm, cell9_ k qm sm, cell7_ k qm sm] := hD
                        refine lv_aload_n hx hb dX12_layBestOf_181 rfl (lv_at hl 6 rfl) ?_
                        refine g_get cx hP iw_X12_layBestOf_X12 0 rfl rfl 20 (by decide) rfl fw_X12_layBestOf_44 rfl dX12_layBestOf_182 ?_
                        refine lv_iconst (v := 3) hx hb dX12_layBestOf_185 (by decide) ?_
                        refine lv_iload_n hx hb dX12_layBestOf_186 rfl (lv_at hl 8 rfl) ?_
                        refine lv_imul hx hb dX12_layBestOf_187 (lv_topi (fun v235 e235 => ?_))
                        have t235 : v235.toInt = 3 * p1.toInt := by rw [e235]; exact i_mul (by decide) rfl (by omega) (by omega)
                        refine lv_iload hx hb dX12_layBestOf_188 (lv_at hl 1 rfl) ?_
                        refine lv_iadd hx hb dX12_layBestOf_190 (lv_topi (fun v236 e236 => ?_))
                        have t236 : v236.toInt = v235.toInt + v184.toInt := by rw [e236]; exact i_add rfl rfl (by omega) (by omega)
                        refine lv_iload hx hb dX12_layBestOf_191 (lv_at hl 4 rfl) ?_
                        have hn237 : vp_in v236 1500 := f_in (a := v236.toInt) rfl (by omega) (by omega)
                        refine va_iast hx hb cx.2.1 hP hD hS 12 0 rfl rfl hn237 dX12_layBestOf_193 (fun H locs hP hD hS => ?_)
                        obtain ⟨g238, eg238⟩ : ∃ g : Nat → Int32, g = upd g186 (v236).toNatClampNeg v74 := ⟨_, rfl⟩
                        rw [← eg238] at hP hD
                        have hP : va_P D vwCl [cell22_ qm sm tm, cell5_ k qm sm, cell13_ k qm sm, cell8_ k qm sm, cell6_ k qm sm, cell14_ k qm sm, cell15_ k qm tm, cell12_ k qm tm, cell18_ k qm tm, cell17_ k qm tm, cell19_ k qm tm, (qm 11, .inl (k 1, 1500, .inr (.inl g234))), (qm 12, .inl (k 0, 1500, .inl g238)), cell16_ k qm sm, cell11_ k qm sm, cell10_ k qm sm, cell9_ k qm sm, cell7_ k qm sm] H := hP
                        have hD : va_D A [cell22_ qm sm tm, cell5_ k qm sm, cell13_ k qm sm, cell8_ k qm sm, cell6_ k qm sm, cell14_ k qm sm, cell15_ k qm tm, cell12_ k qm tm, cell18_ k qm tm, cell17_ k qm tm, cell19_ k qm tm, (qm 11, .inl (k 1, 1500, .inr (.inl g234))), (qm 12, .inl (k 0, 1500, .inl g238)), cell16_ k qm sm, cell11_ k qm sm, cell10_ k qm sm, cell9_ k qm sm, cell7_ k qm sm] := hD
                        exact hJ194 g234 g238 _ _ _  hP hD hS (lv_sub hl [1, 2, 3, 4, 5, 6, 7, 8, 9] rfl)
                      refine lv_if_lt (tgt := 168) hx hb dX12_layBestOf_148 (by decide) (fun c239 => ?_) (fun c239 => ?_)
                      · have f239 : v201.toInt < 0 := f_lt rfl (by decide) c239
                        exact hJ168  _ _ _  hP hD hS (lv_sub hl [0, 1, 2, 3, 4, 5, 6, 7, 8, 9] rfl)
                      · have f239 : 0 ≤ v201.toInt := f_nlt rfl (by decide) c239
                        refine lv_lload hx hb dX12_layBestOf_151 (lv_at hl 0 rfl) ?_
                        refine lv_aload_n hx hb dX12_layBestOf_153 rfl (lv_at hl 6 rfl) ?_
                        refine g_get cx hP iw_X12_layBestOf_X12 0 rfl rfl 19 (by decide) rfl fw_X12_layBestOf_41 rfl dX12_layBestOf_154 ?_
                        refine lv_iconst (v := 3) hx hb dX12_layBestOf_157 (by decide) ?_
                        refine lv_iload_n hx hb dX12_layBestOf_158 rfl (lv_at hl 8 rfl) ?_
                        refine lv_imul hx hb dX12_layBestOf_159 (lv_topi (fun v240 e240 => ?_))
                        have t240 : v240.toInt = 3 * p1.toInt := by rw [e240]; exact i_mul (by decide) rfl (by omega) (by omega)
                        refine lv_iload hx hb dX12_layBestOf_160 (lv_at hl 1 rfl) ?_
                        refine lv_iadd hx hb dX12_layBestOf_162 (lv_topi (fun v241 e241 => ?_))
                        have t241 : v241.toInt = v240.toInt + v184.toInt := by rw [e241]; exact i_add rfl rfl (by omega) (by omega)
                        have hn242 : vp_in v241 1500 := f_in (a := v241.toInt) rfl (by omega) (by omega)
                        refine va_lald hx hb cx.2.1 hP 11 1 rfl rfl hn242 dX12_layBestOf_163 (lv_topl (fun v243 e243 => ?_))
                        refine W.lcmp hx hb dX12_layBestOf_164 (lv_topi (fun v244 e244 => ?_))
                        refine lv_if_ge (tgt := 194) hx hb dX12_layBestOf_165 (by decide) (fun c245 => ?_) (fun c245 => ?_)
                        · have f245 : 0 ≤ v244.toInt := f_le (by decide) rfl c245
                          exact hJ194 g185 g186 _ _ _  hP hD hS (lv_sub hl [1, 2, 3, 4, 5, 6, 7, 8, 9] rfl)
                        · have f245 : v244.toInt < 0 := f_nle (by decide) rfl c245
                          exact hJ168  _ _ _  hP hD hS (lv_sub hl [0, 1, 2, 3, 4, 5, 6, 7, 8, 9] rfl)
                have hlit246 : (0 : Int32).toInt = 0 := by decide
                exact hL110 (Int.toNat (3 - 0) + 1) 0 g59 g60 _ _ _ (by omega) (by first | decide | omega) hP hD hS (lv_sub hl [0, 1, 2, 3, 4, 5, 6, 7, 8] rfl)
        have hlit247 : (0 : Int32).toInt = 0 := by decide
        exact hL32 (Int.toNat (150 - 0) + 1) 0 g7 (sm 12) _ _ _ (by omega) (by first | decide | omega) hP hD hS (lv_sub hl [0, 1, 2, 3, 4] rfl)
      · have f9 : v6.toInt < 3 := f_nle (by decide) rfl c9
        refine lv_aload_n hx hb dX12_layBestOf_9 rfl (lv_at hl 1 rfl) ?_
        refine g_get cx hP iw_X12_layBestOf_X12 0 rfl rfl 19 (by decide) rfl fw_X12_layBestOf_41 rfl dX12_layBestOf_10 ?_
        refine lv_iconst (v := 3) hx hb dX12_layBestOf_13 (by decide) ?_
        refine lv_iload_n hx hb dX12_layBestOf_14 rfl (lv_at hl 3 rfl) ?_
        refine lv_imul hx hb dX12_layBestOf_15 (lv_topi (fun v248 e248 => ?_))
        have t248 : v248.toInt = 3 * p1.toInt := by rw [e248]; exact i_mul (by decide) rfl (by omega) (by omega)
        refine lv_iload hx hb dX12_layBestOf_16 (lv_at hl 0 rfl) ?_
        refine lv_iadd hx hb dX12_layBestOf_18 (lv_topi (fun v249 e249 => ?_))
        have t249 : v249.toInt = v248.toInt + v6.toInt := by rw [e249]; exact i_add rfl rfl (by omega) (by omega)
        refine lv_ldc2 (v := (-1)) hx hb cx.1.2.2.2.1 (cx.1.2.2.2.2 _ kJ_X12_layBestOf_221) dX12_layBestOf_19 ?_
        have hn250 : vp_in v249 1500 := f_in (a := v249.toInt) rfl (by omega) (by omega)
        refine va_last hx hb cx.2.1 hP hD hS 11 1 rfl rfl hn250 dX12_layBestOf_22 (fun H locs hP hD hS => ?_)
        obtain ⟨g251, eg251⟩ : ∃ g : Nat → Int64, g = vp_updL g7 (v249).toNatClampNeg (-1) := ⟨_, rfl⟩
        rw [← eg251] at hP hD
        have hP : va_P D vwCl [cell22_ qm sm tm, cell5_ k qm sm, cell13_ k qm sm, cell8_ k qm sm, cell6_ k qm sm, cell14_ k qm sm, cell15_ k qm tm, cell12_ k qm tm, cell18_ k qm tm, cell17_ k qm tm, cell19_ k qm tm, (qm 11, .inl (k 1, 1500, .inr (.inl g251))), cell20_ k qm sm, cell16_ k qm sm, cell11_ k qm sm, cell10_ k qm sm, cell9_ k qm sm, cell7_ k qm sm] H := hP
        have hD : va_D A [cell22_ qm sm tm, cell5_ k qm sm, cell13_ k qm sm, cell8_ k qm sm, cell6_ k qm sm, cell14_ k qm sm, cell15_ k qm tm, cell12_ k qm tm, cell18_ k qm tm, cell17_ k qm tm, cell19_ k qm tm, (qm 11, .inl (k 1, 1500, .inr (.inl g251))), cell20_ k qm sm, cell16_ k qm sm, cell11_ k qm sm, cell10_ k qm sm, cell9_ k qm sm, cell7_ k qm sm] := hD
        obtain ⟨v252, e252⟩ : ∃ z : Int32, z = v6 + 1 := ⟨_, rfl⟩
        refine lv_iinc (v := v252) (lv' := [(5, .int v252), (0, .ref (qm 0)), (1, .int p0), (2, .int p1), (3, .long p2)]) hx hb dX12_layBestOf_23 hl (k := 0) rfl (by rw [e252]; rfl) (by decide) rfl (fun ls hl => ?_)
        have t252 : v252.toInt = v6.toInt + 1 := by rw [e252]; exact i_add rfl (by decide) (by omega) (by omega)
        refine lv_goto (tgt := 3) hx hb dX12_layBestOf_26 (by decide) ?_
        exact ih3 v252 g251 _ _ _ (by omega) (by first | decide | omega) hP hD hS (lv_sub hl [0, 1, 2, 3, 4] rfl)
  have hlit253 : (0 : Int32).toInt = 0 := by decide
  exact hL3 (Int.toNat (3 - 0) + 1) 0 (tm 11) _ _ _ (by omega) (by first | decide | omega) hP hD hS (lv_sub hl [0, 1, 2, 3, 4] rfl)
