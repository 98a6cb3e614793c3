theorem fw_X12_layMean_13 : Cond.fieldLink RX12 13 "StillInAugustModel" "house" "[I" ∈ wsX12_layMean := by decide +kernel
theorem fw_X12_layMean_25 : Cond.fieldLink RX12 25 "StillInAugustModel" "worth" "[J" ∈ wsX12_layMean := by decide +kernel
theorem fw_X12_layMean_29 : Cond.fieldLink RX12 29 "StillInAugustModel" "before" "[J" ∈ wsX12_layMean := by decide +kernel
theorem nd_X12_bonus : yX12_bonus.cls = RX12 ∧ yX12_bonus.cls ≠ "java/lang/invoke/MethodHandle" ∧ yX12_bonus.cls ≠ "java/lang/invoke/VarHandle" ∧ (parseMethodDescriptor yX12_bonus.desc).map (fun d => d.parameters.length) = some 1 := by decide +kernel
theorem nd_X12_onward : yX12_onward.cls = RX12 ∧ yX12_onward.cls ≠ "java/lang/invoke/MethodHandle" ∧ yX12_onward.cls ≠ "java/lang/invoke/VarHandle" ∧ (parseMethodDescriptor yX12_onward.desc).map (fun d => d.parameters.length) = some 1 := by decide +kernel
theorem nd_X12_parts : yX12_parts.cls ≠ "java/lang/invoke/MethodHandle" ∧ yX12_parts.cls ≠ "java/lang/invoke/VarHandle" ∧ (parseMethodDescriptor yX12_parts.desc).map (fun d => d.parameters.length) = some 1 := by decide +kernel
theorem iw_X12_layMean_X12 : ∀ w ∈ u_ws RX12 TX12 33, w ∈ wsX12_layMean := fun _ h => List.mem_cons_of_mem _ (List.mem_append_right _ h)
set_option maxHeartbeats 4000000 in
set_option maxRecDepth 100000 in
theorem c_X12_layMean (l : Launch) (D : va_G) (k : Nat → ClassId) (b : Nat → Nat) (qm : Nat → Nat) (sm : Nat → Nat → Int32) (tm : Nat → Nat → Int64) (sz : Nat) (p0 : Int32) (p1 : Int32) (p2 : Int32) (p3 : Int32) (h_w0 : 0 ≤ (sm 2 0).toInt ∧ (sm 2 0).toInt ≤ 5) (h_k1 : 0 ≤ (sm 2 1).toInt ∧ (sm 2 1).toInt ≤ 4) (hp0 : 0 ≤ p0.toInt ∧ p0.toInt ≤ 2) (hp1 : 0 ≤ p1.toInt ∧ p1.toInt ≤ 4) (hp2 : 0 ≤ p2.toInt ∧ p2.toInt ≤ 999) : MetL l D k b yX12_layMean wsX12_layMean ({ frames := 4, cells := 0, slots := 0, locals := 99 } : Room) [cell22_ qm sm tm, cell5_ k qm sm, cell13_ k qm sm, cell8_ k qm sm, cell6_ k qm sm, cell14_ k qm sm, cell15_ k qm tm, cell12_ k qm tm, cell18_ k qm tm, cell17_ k qm tm, cell19_ k qm tm, cell21_ k qm tm, cell20_ k qm sm, cell16_ k qm sm, cell11_ k qm sm, cell10_ k qm sm, cell9_ k qm sm, cell7_ k qm sm] sz [.ref (qm 0), .int p0, .int p1, .int p2, .int p3] (fun (r : Int64) (u : (Nat → Int64) × (Nat → Int64)) => True) (fun u => [cell22_ qm sm tm, cell5_ k qm sm, cell13_ k qm sm, cell8_ k qm sm, cell6_ k qm sm, cell14_ k qm sm, cell155_ k qm (u.1), cell156_ k qm (u.2), cell18_ k qm tm, cell17_ k qm tm, cell19_ k qm tm, cell21_ k qm tm, cell20_ k qm sm, cell16_ k qm sm, cell11_ k qm sm, cell10_ k qm sm, cell9_ k qm sm, cell7_ k qm sm]) := by
  refine g_enter (cc := cX12_layMean) (maxL := 9) (ret := (some .long)) (by decide) rfl (Nat.le_of_ble_eq_true rfl) ?_
  intro p e s m below meth c A hsz hAe cx hr hP hD hS ls hl
  rw [hAe]
  refine g_q (fun Q hQ => ?_)
  have hx := cx.1.1
  have hb := cx.1.2.1
  have bp0 := i_rng p0
  have bp1 := i_rng p1
  have bp2 := i_rng p2
  have bp3 := i_rng p3
  have hl : lv_has ls 9 [(0, .ref (qm 0)), (1, .int p0), (2, .int p1), (3, .int p2), (4, .int p3)] := hl
  obtain ⟨H, eH⟩ : ∃ H : Heap, H = s.heap := ⟨_, rfl⟩
  obtain ⟨locs, el⟩ : ∃ L : List Loc, L = [] := ⟨_, rfl⟩
  have hP : va_P D vwCl [cell22_ qm sm tm, cell5_ k qm sm, cell13_ k qm sm, cell8_ k qm sm, cell6_ k qm sm, cell14_ k qm sm, cell15_ k qm tm, cell12_ k qm tm, cell18_ k qm tm, cell17_ k qm tm, cell19_ k qm tm, cell21_ k qm tm, cell20_ k qm sm, cell16_ k qm sm, cell11_ k qm sm, cell10_ k qm sm, cell9_ k qm sm, cell7_ k qm sm] H := by rw [eH]; exact hP
  have hD : va_D A [cell22_ qm sm tm, cell5_ k qm sm, cell13_ k qm sm, cell8_ k qm sm, cell6_ k qm sm, cell14_ k qm sm, cell15_ k qm tm, cell12_ k qm tm, cell18_ k qm tm, cell17_ k qm tm, cell19_ k qm tm, cell21_ k qm tm, cell20_ k qm sm, cell16_ k qm sm, cell11_ k qm sm, cell10_ k qm sm, cell9_ k qm sm, cell7_ k qm sm] := hD
  have hS : va_S A s.heap H locs := by rw [eH, el]; exact hS
  suffices goal : W p l e ({ frames := 4, cells := 0, slots := 0, locals := 99 } : Room) s m ([.ref (qm 0), .int p0, .int p1, .int p2, .int p3] : List Value).toArray below meth c H locs 0 0 Q (F0 m 0 ls []) by rw [eH, el] at goal; exact goal
  refine lv_iconst (v := 0) hx hb dX12_layMean_0 (by decide) ?_
  refine lv_istore (lv' := [(5, .int 0), (0, .ref (qm 0)), (1, .int p0), (2, .int p1), (3, .int p2), (4, .int p3)]) hx hb dX12_layMean_1 hl (by decide) rfl (fun ls hl => ?_)
  have hL3 : ∀ (n19 : Nat) (v17 : Int32) (g18 : Nat → Int64) (H : Heap) (locs : List Loc) (ls : Array Slot), 1000 - v17.toInt < (n19 : Int) → (0 ≤ v17.toInt ∧ v17.toInt ≤ 1000) → va_P D vwCl [cell22_ qm sm tm, cell5_ k qm sm, cell13_ k qm sm, cell8_ k qm sm, cell6_ k qm sm, cell14_ k qm sm, (qm 6, .inl (k 1, 1000, .inr (.inl g18))), cell12_ k qm tm, cell18_ k qm tm, cell17_ k qm tm, cell19_ k qm tm, cell21_ k qm tm, cell20_ k qm sm, cell16_ k qm sm, cell11_ k qm sm, cell10_ k qm sm, cell9_ k qm sm, cell7_ k qm sm] H → va_D A [cell22_ qm sm tm, cell5_ k qm sm, cell13_ k qm sm, cell8_ k qm sm, cell6_ k qm sm, cell14_ k qm sm, (qm 6, .inl (k 1, 1000, .inr (.inl g18))), cell12_ k qm tm, cell18_ k qm tm, cell17_ k qm tm, cell19_ k qm tm, cell21_ k qm tm, cell20_ k qm sm, cell16_ k qm sm, cell11_ k qm sm, cell10_ k qm sm, cell9_ k qm sm, cell7_ k qm sm] → va_S A s.heap H locs → lv_has ls 9 [(5, .int v17), (0, .ref (qm 0)), (1, .int p0), (2, .int p1), (3, .int p2), (4, .int p3)] → W p l e ({ frames := 4, cells := 0, slots := 0, locals := 99 } : Room) s m ([.ref (qm 0), .int p0, .int p1, .int p2, .int p3] : List Value).toArray below meth c H locs 0 0 Q (F0 m 3 ls []) := by
    intro n19
    induction n19 with
    | zero => intro v17 g18 H locs ls hmn19 bv17 hP hD hS hl; exact absurd hmn19 (by omega)
    | succ n19 ih3 =>
      intro v17 g18 H locs ls hmn19 bv17 hP hD hS hl
      refine lv_iload hx hb dX12_layMean_3 (lv_at hl 0 rfl) ?_
      refine lv_sipush (v := 1000) hx hb dX12_layMean_5 (by decide) ?_
      refine lv_icmp_ge (tgt := 44) hx hb dX12_layMean_8 (by decide) (fun c20 => ?_) (fun c20 => ?_)
      · have f20 : 1000 ≤ v17.toInt := f_le (by decide) rfl c20
        refine lv_aload_n hx hb dX12_layMean_44 rfl (lv_at hl 1 rfl) ?_
        refine g_get cx hP iw_X12_layMean_X12 0 rfl rfl 1 (by decide) rfl fw_X12_layMean_13 rfl dX12_layMean_45 ?_
        refine lv_iconst (v := 0) hx hb dX12_layMean_48 (by decide) ?_
        have hn21 : vp_in 0 26 := f_in (a := 0) (by decide) (by omega) (by omega)
        refine va_iald hx hb cx.2.1 hP 2 0 rfl rfl hn21 dX12_layMean_49 (lv_topi (fun v22 e22 => ?_))
        have uv22 : v22.toInt = ((sm 2) 0).toInt := congrArg Int32.toInt e22
        have t22 : 0 ≤ v22.toInt ∧ v22.toInt ≤ 5 := by rw [e22]; exact h_w0
        refine lv_iconst (v := 1) hx hb dX12_layMean_50 (by decide) ?_
        refine lv_isub hx hb dX12_layMean_51 (lv_topi (fun v23 e23 => ?_))
        have t23 : v23.toInt = v22.toInt - 1 := by rw [e23]; exact i_sub rfl (by decide) (by omega) (by omega)
        refine lv_istore (lv' := [(5, .int v23), (0, .ref (qm 0)), (1, .int p0), (2, .int p1), (3, .int p2), (4, .int p3)]) hx hb dX12_layMean_52 hl (by decide) rfl (fun ls hl => ?_)
        have hL54 : ∀ (n69 : Nat) (v66 : Int32) (g67 : Nat → Int64) (g68 : Nat → Int64) (H : Heap) (locs : List Loc) (ls : Array Slot), v66.toInt + 1 < (n69 : Int) → (-1 ≤ v66.toInt ∧ v66.toInt ≤ 4) → va_P D vwCl [cell22_ qm sm tm, cell5_ k qm sm, cell13_ k qm sm, cell8_ k qm sm, cell6_ k qm sm, cell14_ k qm sm, (qm 6, .inl (k 1, 1000, .inr (.inl g67))), (qm 7, .inl (k 1, 1000, .inr (.inl g68))), cell18_ k qm tm, cell17_ k qm tm, cell19_ k qm tm, cell21_ k qm tm, cell20_ k qm sm, cell16_ k qm sm, cell11_ k qm sm, cell10_ k qm sm, cell9_ k qm sm, cell7_ k qm sm] H → va_D A [cell22_ qm sm tm, cell5_ k qm sm, cell13_ k qm sm, cell8_ k qm sm, cell6_ k qm sm, cell14_ k qm sm, (qm 6, .inl (k 1, 1000, .inr (.inl g67))), (qm 7, .inl (k 1, 1000, .inr (.inl g68))), cell18_ k qm tm, cell17_ k qm tm, cell19_ k qm tm, cell21_ k qm tm, cell20_ k qm sm, cell16_ k qm sm, cell11_ k qm sm, cell10_ k qm sm, cell9_ k qm sm, cell7_ k qm sm] → va_S A s.heap H locs → lv_has ls 9 [(5, .int v66), (0, .ref (qm 0)), (1, .int p0), (2, .int p1), (3, .int p2), (4, .int p3)] → W p l e ({ frames := 4, cells := 0, slots := 0, locals := 99 } : Room) s m ([.ref (qm 0), .int p0, .int p1, .int p2, .int p3] : List Value).toArray below meth c H locs 0 0 Q (F0 m 54 ls []) := by
          intro n69
          induction n69 with
          | zero => intro v66 g67 g68 H locs ls hmn69 bv66 hP hD hS hl; exact absurd hmn69 (by omega)
          | succ n69 ih54 =>
            intro v66 g67 g68 H locs ls hmn69 bv66 hP hD hS hl
            refine lv_iload hx hb dX12_layMean_54 (lv_at hl 0 rfl) ?_
            refine lv_iload_n hx hb dX12_layMean_56 rfl (lv_at hl 3 rfl) ?_
            refine lv_icmp_lt (tgt := 196) hx hb dX12_layMean_57 (by decide) (fun c70 => ?_) (fun c70 => ?_)
            · have f70 : v66.toInt < p1.toInt := f_lt rfl rfl c70
              refine lv_aload_n hx hb dX12_layMean_196 rfl (lv_at hl 1 rfl) ?_
              refine g_get cx hP iw_X12_layMean_X12 0 rfl rfl 14 (by decide) rfl fw_X12_layMean_25 rfl dX12_layMean_197 ?_
              refine lv_iload_n hx hb dX12_layMean_200 rfl (lv_at hl 4 rfl) ?_
              have hn71 : vp_in p2 1000 := f_in (a := p2.toInt) rfl (by omega) (by omega)
              refine va_lald hx hb cx.2.1 hP 6 1 rfl rfl hn71 dX12_layMean_201 (lv_topl (fun v72 e72 => ?_))
              rw [hQ]
              exact x_l cx hr (g67, g68) hP hD hS trivial dX12_layMean_202
            · have f70 : p1.toInt ≤ v66.toInt := f_nlt rfl rfl c70
              refine lv_iconst (v := 0) hx hb dX12_layMean_60 (by decide) ?_
              refine lv_istore (lv' := [(6, .int 0), (5, .int v66), (0, .ref (qm 0)), (1, .int p0), (2, .int p1), (3, .int p2), (4, .int p3)]) hx hb dX12_layMean_61 hl (by decide) rfl (fun ls hl => ?_)
              have hL63 : ∀ (n111 : Nat) (v109 : Int32) (g110 : Nat → Int64) (H : Heap) (locs : List Loc) (ls : Array Slot), 500 - v109.toInt < (n111 : Int) → (0 ≤ v109.toInt ∧ v109.toInt ≤ 500) → va_P D vwCl [cell22_ qm sm tm, cell5_ k qm sm, cell13_ k qm sm, cell8_ k qm sm, cell6_ k qm sm, cell14_ k qm sm, (qm 6, .inl (k 1, 1000, .inr (.inl g67))), (qm 7, .inl (k 1, 1000, .inr (.inl g110))), cell18_ k qm tm, cell17_ k qm tm, cell19_ k qm tm, cell21_ k qm tm, cell20_ k qm sm, cell16_ k qm sm, cell11_ k qm sm, cell10_ k qm sm, cell9_ k qm sm, cell7_ k qm sm] H → va_D A [cell22_ qm sm tm, cell5_ k qm sm, cell13_ k qm sm, cell8_ k qm sm, cell6_ k qm sm, cell14_ k qm sm, (qm 6, .inl (k 1, 1000, .inr (.inl g67))), (qm 7, .inl (k 1, 1000, .inr (.inl g110))), cell18_ k qm tm, cell17_ k qm tm, cell19_ k qm tm, cell21_ k qm tm, cell20_ k qm sm, cell16_ k qm sm, cell11_ k qm sm, cell10_ k qm sm, cell9_ k qm sm, cell7_ k qm sm] → va_S A s.heap H locs → lv_has ls 9 [(6, .int v109), (5, .int v66), (0, .ref (qm 0)), (1, .int p0), (2, .int p1), (3, .int p2), (4, .int p3)] → W p l e ({ frames := 4, cells := 0, slots := 0, locals := 99 } : Room) s m ([.ref (qm 0), .int p0, .int p1, .int p2, .int p3] : List Value).toArray below meth c H locs 0 0 Q (F0 m 63 ls []) := by
                intro n111
                induction n111 with
                | zero => intro v109 g110 H locs ls hmn111 bv109 hP hD hS hl; exact absurd hmn111 (by omega)
                | succ n111 ih63 =>
                  intro v109 g110 H locs ls hmn111 bv109 hP hD hS hl
                  refine lv_iload hx hb dX12_layMean_63 (lv_at hl 0 rfl) ?_
                  refine lv_sipush (v := 500) hx hb dX12_layMean_65 (by decide) ?_
                  refine lv_icmp_ge (tgt := 159) hx hb dX12_layMean_68 (by decide) (fun c112 => ?_) (fun c112 => ?_)
                  · have f112 : 500 ≤ v109.toInt := f_le (by decide) rfl c112
                    refine lv_iconst (v := 0) hx hb dX12_layMean_159 (by decide) ?_
                    refine lv_istore (lv' := [(6, .int 0), (5, .int v66), (0, .ref (qm 0)), (1, .int p0), (2, .int p1), (3, .int p2), (4, .int p3)]) hx hb dX12_layMean_160 hl (by decide) rfl (fun ls hl => ?_)
                    have hL162 : ∀ (n120 : Nat) (v118 : Int32) (g119 : Nat → Int64) (H : Heap) (locs : List Loc) (ls : Array Slot), 500 - v118.toInt < (n120 : Int) → (0 ≤ v118.toInt ∧ v118.toInt ≤ 500) → va_P D vwCl [cell22_ qm sm tm, cell5_ k qm sm, cell13_ k qm sm, cell8_ k qm sm, cell6_ k qm sm, cell14_ k qm sm, (qm 6, .inl (k 1, 1000, .inr (.inl g119))), (qm 7, .inl (k 1, 1000, .inr (.inl g110))), cell18_ k qm tm, cell17_ k qm tm, cell19_ k qm tm, cell21_ k qm tm, cell20_ k qm sm, cell16_ k qm sm, cell11_ k qm sm, cell10_ k qm sm, cell9_ k qm sm, cell7_ k qm sm] H → va_D A [cell22_ qm sm tm, cell5_ k qm sm, cell13_ k qm sm, cell8_ k qm sm, cell6_ k qm sm, cell14_ k qm sm, (qm 6, .inl (k 1, 1000, .inr (.inl g119))), (qm 7, .inl (k 1, 1000, .inr (.inl g110))), cell18_ k qm tm, cell17_ k qm tm, cell19_ k qm tm, cell21_ k qm tm, cell20_ k qm sm, cell16_ k qm sm, cell11_ k qm sm, cell10_ k qm sm, cell9_ k qm sm, cell7_ k qm sm] → va_S A s.heap H locs → lv_has ls 9 [(6, .int v118), (5, .int v66), (0, .ref (qm 0)), (1, .int p0), (2, .int p1), (3, .int p2), (4, .int p3)] → W p l e ({ frames := 4, cells := 0, slots := 0, locals := 99 } : Room) s m ([.ref (qm 0), .int p0, .int p1, .int p2, .int p3] : List Value).toArray below meth c H locs 0 0 Q (F0 m 162 ls []) := by
                      intro n120
                      induction n120 with
                      | zero => intro v118 g119 H locs ls hmn120 bv118 hP hD hS hl; exact absurd hmn120 (by omega)
                      | succ n120 ih162 =>
                        intro v118 g119 H locs ls hmn120 bv118 hP hD hS hl
                        refine lv_iload hx hb dX12_layMean_162 (lv_at hl 0 rfl) ?_
                        refine lv_sipush (v := 500) hx hb dX12_layMean_164 (by decide) ?_
                        refine lv_icmp_ge (tgt := 190) hx hb dX12_layMean_167 (by decide) (fun c121 => ?_) (fun c121 => ?_)
                        · have f121 : 500 ≤ v118.toInt := f_le (by decide) rfl c121
                          obtain ⟨v122, e122⟩ : ∃ z : Int32, z = v66 + (-1) := ⟨_, rfl⟩
                          refine lv_iinc (v := v122) (lv' := [(5, .int v122), (6, .int v118), (0, .ref (qm 0)), (1, .int p0), (2, .int p1), (3, .int p2), (4, .int p3)]) hx hb dX12_layMean_190 hl (k := 1) rfl (by rw [e122]; rfl) (by decide) rfl (fun ls hl => ?_)
                          have t122 : v122.toInt = v66.toInt + (-1) := by rw [e122]; exact i_add rfl (by decide) (by omega) (by omega)
                          refine lv_goto (tgt := 54) hx hb dX12_layMean_193 (by decide) ?_
                          exact ih54 v122 g119 g110 _ _ _ (by omega) (by first | decide | omega) hP hD hS (lv_sub hl [0, 2, 3, 4, 5, 6] rfl)
                        · have f121 : v118.toInt < 500 := f_nle (by decide) rfl c121
                          refine lv_aload_n hx hb dX12_layMean_170 rfl (lv_at hl 2 rfl) ?_
                          refine g_get cx hP iw_X12_layMean_X12 0 rfl rfl 14 (by decide) rfl fw_X12_layMean_25 rfl dX12_layMean_171 ?_
                          refine lv_iload hx hb dX12_layMean_174 (lv_at hl 0 rfl) ?_
                          refine lv_aload_n hx hb dX12_layMean_176 rfl (lv_at hl 2 rfl) ?_
                          refine g_get cx hP iw_X12_layMean_X12 0 rfl rfl 15 (by decide) rfl fw_X12_layMean_29 rfl dX12_layMean_177 ?_
                          refine lv_iload hx hb dX12_layMean_180 (lv_at hl 0 rfl) ?_
                          have hn123 : vp_in v118 1000 := f_in (a := v118.toInt) rfl (by omega) (by omega)
                          refine va_lald hx hb cx.2.1 hP 7 1 rfl rfl hn123 dX12_layMean_182 (lv_topl (fun v124 e124 => ?_))
                          have hn125 : vp_in v118 1000 := f_in (a := v118.toInt) rfl (by omega) (by omega)
                          refine va_last hx hb cx.2.1 hP hD hS 6 1 rfl rfl hn125 dX12_layMean_183 (fun H locs hP hD hS => ?_)
                          obtain ⟨g126, eg126⟩ : ∃ g : Nat → Int64, g = vp_updL g119 (v118).toNatClampNeg v124 := ⟨_, rfl⟩
                          rw [← eg126] at hP hD
                          have hP : va_P D vwCl [cell22_ qm sm tm, cell5_ k qm sm, cell13_ k qm sm, cell8_ k qm sm, cell6_ k qm sm, cell14_ k qm sm, (qm 6, .inl (k 1, 1000, .inr (.inl g126))), (qm 7, .inl (k 1, 1000, .inr (.inl g110))), cell18_ k qm tm, cell17_ k qm tm, cell19_ k qm tm, cell21_ k qm tm, cell20_ k qm sm, cell16_ k qm sm, cell11_ k qm sm, cell10_ k qm sm, cell9_ k qm sm, cell7_ k qm sm] H := hP
                          have hD : va_D A [cell22_ qm sm tm, cell5_ k qm sm, cell13_ k qm sm, cell8_ k qm sm, cell6_ k qm sm, cell14_ k qm sm, (qm 6, .inl (k 1, 1000, .inr (.inl g126))), (qm 7, .inl (k 1, 1000, .inr (.inl g110))), cell18_ k qm tm, cell17_ k qm tm, cell19_ k qm tm, cell21_ k qm tm, cell20_ k qm sm, cell16_ k qm sm, cell11_ k qm sm, cell10_ k qm sm, cell9_ k qm sm, cell7_ k qm sm] := hD
                          obtain ⟨v127, e127⟩ : ∃ z : Int32, z = v118 + 1 := ⟨_, rfl⟩
                          refine lv_iinc (v := v127) (lv' := [(6, .int v127), (5, .int v66), (0, .ref (qm 0)), (1, .int p0), (2, .int p1), (3, .int p2), (4, .int p3)]) hx hb dX12_layMean_184 hl (k := 0) rfl (by rw [e127]; rfl) (by decide) rfl (fun ls hl => ?_)
                          have t127 : v127.toInt = v118.toInt + 1 := by rw [e127]; exact i_add rfl (by decide) (by omega) (by omega)
                          refine lv_goto (tgt := 162) hx hb dX12_layMean_187 (by decide) ?_
                          exact ih162 v127 g126 _ _ _ (by omega) (by first | decide | omega) hP hD hS (lv_sub hl [0, 1, 2, 3, 4, 5, 6] rfl)
                    have hlit128 : (0 : Int32).toInt = 0 := by decide
                    exact hL162 (Int.toNat (500 - 0) + 1) 0 g67 _ _ _ (by omega) (by first | decide | omega) hP hD hS (lv_sub hl [0, 1, 2, 3, 4, 5, 6] rfl)
                  · have f112 : v109.toInt < 500 := f_nle (by decide) rfl c112
                    refine lv_aload_n hx hb dX12_layMean_71 rfl (lv_at hl 2 rfl) ?_
                    refine lv_iload hx hb dX12_layMean_72 (lv_at hl 0 rfl) ?_
                    refine g_iF (w1 := fun (_ : Unit) => [cell22_ qm sm tm, cell5_ k qm sm, cell13_ k qm sm, cell8_ k qm sm, cell6_ k qm sm, cell14_ k qm sm, (qm 6, .inl (k 1, 1000, .inr (.inl g67))), (qm 7, .inl (k 1, 1000, .inr (.inl g110))), cell18_ k qm tm, cell17_ k qm tm, cell19_ k qm tm, cell21_ k qm tm, cell20_ k qm sm, cell16_ k qm sm, cell11_ k qm sm, cell10_ k qm sm, cell9_ k qm sm, cell7_ k qm sm]) (g_runVF (ws := [cell22_ qm sm tm, cell5_ k qm sm, cell13_ k qm sm, cell8_ k qm sm, cell6_ k qm sm, cell14_ k qm sm, (qm 6, .inl (k 1, 1000, .inr (.inl g67))), (qm 7, .inl (k 1, 1000, .inr (.inl g110))), cell18_ k qm tm, cell17_ k qm tm, cell19_ k qm tm, cell21_ k qm tm, cell20_ k qm sm, cell16_ k qm sm, cell11_ k qm sm, cell10_ k qm sm, cell9_ k qm sm, cell7_ k qm sm]) (rest := []) cx hP hD hS [.int v109] (c_X12_isHands l D k b qm sm (up2L (up2L tm 6 g67) 7 g110) H.size v109 (show 0 ≤ ((sm 2) 1).toInt ∧ ((sm 2) 1).toInt ≤ 4 from by first | decide | omega)) gX12_layMean_X12_isHands rfl rfl rfl nd_X12_isHands ⟨Nat.le_of_ble_eq_true rfl, Nat.le_of_ble_eq_true rfl⟩ (ci := 10) (q0 := 0) rfl rfl rfl hl.1 rfl (Nat.le_of_ble_eq_true rfl) ⟨Nat.zero_le _, Nat.zero_le _⟩ dX12_layMean_74) cx.2.2.1 hD hS (fun r130 _ H locs hw129 hP hD hS => ?_)
                    replace hw129 : (0 ≤ r130.toInt ∧ r130.toInt ≤ 1) ∧ (Imp (r130.toInt = 1) (0 ≤ v109.toInt ∧ v109.toInt ≤ 400)) ∧ (r130 = J_X12_isHands sm (up2L (up2L tm 6 g67) 7 g110) v109) := hw129
                    obtain ⟨w131, w132, w133⟩ := hw129
                    have k135 : r130 = (J_X12_isHands sm (up2L (up2L tm 6 g67) 7 g110) v109) := congrArg (fun z => z) w133
                    have zr130 : 0 ≤ r130.toInt ∧ r130.toInt ≤ 1 := w131
                    have hJ153 : ∀ (g182 : Nat → Int64) (H : Heap) (locs : List Loc) (ls : Array Slot), va_P D vwCl [cell22_ qm sm tm, cell5_ k qm sm, cell13_ k qm sm, cell8_ k qm sm, cell6_ k qm sm, cell14_ k qm sm, (qm 6, .inl (k 1, 1000, .inr (.inl g67))), (qm 7, .inl (k 1, 1000, .inr (.inl g182))), cell18_ k qm tm, cell17_ k qm tm, cell19_ k qm tm, cell21_ k qm tm, cell20_ k qm sm, cell16_ k qm sm, cell11_ k qm sm, cell10_ k qm sm, cell9_ k qm sm, cell7_ k qm sm] H → va_D A [cell22_ qm sm tm, cell5_ k qm sm, cell13_ k qm sm, cell8_ k qm sm, cell6_ k qm sm, cell14_ k qm sm, (qm 6, .inl (k 1, 1000, .inr (.inl g67))), (qm 7, .inl (k 1, 1000, .inr (.inl g182))), cell18_ k qm tm, cell17_ k qm tm, cell19_ k qm tm, cell21_ k qm tm, cell20_ k qm sm, cell16_ k qm sm, cell11_ k qm sm, cell10_ k qm sm, cell9_ k qm sm, cell7_ k qm sm] → va_S A s.heap H locs → lv_has ls 9 [(6, .int v109), (5, .int v66), (0, .ref (qm 0)), (1, .int p0), (2, .int p1), (3, .int p2), (4, .int p3)] → W p l e ({ frames := 4, cells := 0, slots := 0, locals := 99 } : Room) s m ([.ref (qm 0), .int p0, .int p1, .int p2, .int p3] : List Value).toArray below meth c H locs 0 0 Q (F0 m 153 ls []) := by
                      intro g182 H locs ls  hP hD hS hl
                      obtain ⟨v183, e183⟩ : ∃ z : Int32, z = v109 + 1 := ⟨_, rfl⟩
                      refine lv_iinc (v := v183) (lv' := [(6, .int v183), (5, .int v66), (0, .ref (qm 0)), (1, .int p0), (2, .int p1), (3, .int p2), (4, .int p3)]) hx hb dX12_layMean_153 hl (k := 0) rfl (by rw [e183]; rfl) (by decide) rfl (fun ls hl => ?_)
                      have t183 : v183.toInt = v109.toInt + 1 := by rw [e183]; exact i_add rfl (by decide) (by omega) (by omega)
                      refine lv_goto (tgt := 63) hx hb dX12_layMean_156 (by decide) ?_
                      exact ih63 v183 g182 _ _ _ (by omega) (by first | decide | omega) hP hD hS (lv_sub hl [0, 1, 2, 3, 4, 5, 6] rfl)
                    refine lv_if_eq (tgt := 153) hx hb dX12_layMean_77 (by decide) (fun c184 => ?_) (fun c184 => ?_)
                    · have f184 : r130.toInt = 0 := f_eq rfl (by decide) c184
                      exact hJ153 g110 _ _ _  hP hD hS (lv_sub hl [0, 1, 2, 3, 4, 5, 6] rfl)
                    · have f184 : ¬ r130.toInt = 0 := f_ne rfl (by decide) c184
                      have k184 : (0 ≤ v109.toInt ∧ v109.toInt ≤ 400) := w132 (by omega)
                      refine lv_aload_n hx hb dX12_layMean_80 rfl (lv_at hl 2 rfl) ?_
                      refine lv_iload_n hx hb dX12_layMean_81 rfl (lv_at hl 3 rfl) ?_
                      refine lv_iload hx hb dX12_layMean_82 (lv_at hl 1 rfl) ?_
                      refine lv_iload hx hb dX12_layMean_84 (lv_at hl 0 rfl) ?_
                      refine g_iF (w1 := fun (_ : Unit) => [cell22_ qm sm tm, cell5_ k qm sm, cell13_ k qm sm, cell8_ k qm sm, cell6_ k qm sm, cell14_ k qm sm, (qm 6, .inl (k 1, 1000, .inr (.inl g67))), (qm 7, .inl (k 1, 1000, .inr (.inl g110))), cell18_ k qm tm, cell17_ k qm tm, cell19_ k qm tm, cell21_ k qm tm, cell20_ k qm sm, cell16_ k qm sm, cell11_ k qm sm, cell10_ k qm sm, cell9_ k qm sm, cell7_ k qm sm]) (g_runVF (ws := [cell22_ qm sm tm, cell5_ k qm sm, cell13_ k qm sm, cell8_ k qm sm, cell6_ k qm sm, cell14_ k qm sm, (qm 6, .inl (k 1, 1000, .inr (.inl g67))), (qm 7, .inl (k 1, 1000, .inr (.inl g110))), cell18_ k qm tm, cell17_ k qm tm, cell19_ k qm tm, cell21_ k qm tm, cell20_ k qm sm, cell16_ k qm sm, cell11_ k qm sm, cell10_ k qm sm, cell9_ k qm sm, cell7_ k qm sm]) (rest := []) cx hP hD hS [.int p0, .int v66, .int v109] (c_X12_ruleAct l D k b qm sm (up2L (up2L tm 6 g67) 7 g110) H.size p0 v66 v109 (show 0 ≤ p0.toInt ∧ p0.toInt ≤ 2 from by first | decide | omega) (show 0 ≤ v66.toInt ∧ v66.toInt ≤ 4 from by first | decide | omega)) gX12_layMean_X12_ruleAct rfl rfl rfl nd_X12_ruleAct ⟨Nat.le_of_ble_eq_true rfl, Nat.le_of_ble_eq_true rfl⟩ (ci := 10) (q0 := 0) rfl rfl rfl hl.1 rfl (Nat.le_of_ble_eq_true rfl) ⟨Nat.zero_le _, Nat.zero_le _⟩ dX12_layMean_86) cx.2.2.1 hD hS (fun r186 _ H locs hw185 hP hD hS => ?_)
                      have w187 : r186 = J_X12_ruleAct sm (up2L (up2L tm 6 g67) 7 g110) p0 v66 v109 := hw185
                      clear hw185
                      have k189 : r186 = (J_X12_ruleAct sm (up2L (up2L tm 6 g67) 7 g110) p0 v66 v109) := congrArg (fun z => z) w187
                      refine lv_istore (lv' := [(7, .int r186), (6, .int v109), (5, .int v66), (0, .ref (qm 0)), (1, .int p0), (2, .int p1), (3, .int p2), (4, .int p3)]) hx hb dX12_layMean_89 hl (by decide) rfl (fun ls hl => ?_)
                      refine lv_aload_n hx hb dX12_layMean_91 rfl (lv_at hl 3 rfl) ?_
                      refine lv_iload hx hb dX12_layMean_92 (lv_at hl 2 rfl) ?_
                      refine lv_iload hx hb dX12_layMean_94 (lv_at hl 1 rfl) ?_
                      refine lv_iload hx hb dX12_layMean_96 (lv_at hl 0 rfl) ?_
                      refine g_iF (w1 := fun (_ : Unit) => [cell22_ qm sm tm, cell5_ k qm sm, cell13_ k qm sm, cell8_ k qm sm, cell6_ k qm sm, cell14_ k qm sm, (qm 6, .inl (k 1, 1000, .inr (.inl g67))), (qm 7, .inl (k 1, 1000, .inr (.inl g110))), cell18_ k qm tm, cell17_ k qm tm, cell19_ k qm tm, cell21_ k qm tm, cell20_ k qm sm, cell16_ k qm sm, cell11_ k qm sm, cell10_ k qm sm, cell9_ k qm sm, cell7_ k qm sm]) (g_runVF (ws := [cell22_ qm sm tm, cell5_ k qm sm, cell13_ k qm sm, cell8_ k qm sm, cell6_ k qm sm, cell14_ k qm sm, (qm 6, .inl (k 1, 1000, .inr (.inl g67))), (qm 7, .inl (k 1, 1000, .inr (.inl g110))), cell18_ k qm tm, cell17_ k qm tm, cell19_ k qm tm, cell21_ k qm tm, cell20_ k qm sm, cell16_ k qm sm, cell11_ k qm sm, cell10_ k qm sm, cell9_ k qm sm, cell7_ k qm sm]) (rest := []) cx hP hD hS [.int v66, .int v109, .int r186] (c_X12_after l D k b qm sm (up2L (up2L tm 6 g67) 7 g110) H.size v66 v109 r186 (show 0 ≤ ((sm 2) 0).toInt ∧ ((sm 2) 0).toInt ≤ 5 from by first | decide | omega) (show 0 ≤ v66.toInt ∧ v66.toInt ≤ 4 from by first | decide | omega)) gX12_layMean_X12_after rfl rfl rfl nd_X12_after ⟨Nat.le_of_ble_eq_true rfl, Nat.le_of_ble_eq_true rfl⟩ (ci := 10) (q0 := 0) rfl rfl rfl hl.1 rfl (Nat.le_of_ble_eq_true rfl) ⟨Nat.zero_le _, Nat.zero_le _⟩ dX12_layMean_98) cx.2.2.1 hD hS (fun r191 _ H locs hw190 hP hD hS => ?_)
                      have w192 : r191 = J_X12_after sm (up2L (up2L tm 6 g67) 7 g110) v66 v109 r186 := hw190
                      clear hw190
                      have k194 : r191 = (J_X12_after sm (up2L (up2L tm 6 g67) 7 g110) v66 v109 r186) := congrArg (fun z => z) w192
                      refine lv_istore (lv' := [(8, .int r191), (7, .int r186), (6, .int v109), (5, .int v66), (0, .ref (qm 0)), (1, .int p0), (2, .int p1), (3, .int p2), (4, .int p3)]) hx hb dX12_layMean_101 hl (by decide) rfl (fun ls hl => ?_)
                      refine lv_aload_n hx hb dX12_layMean_103 rfl (lv_at hl 4 rfl) ?_
                      refine g_get cx hP iw_X12_layMean_X12 0 rfl rfl 15 (by decide) rfl fw_X12_layMean_29 rfl dX12_layMean_104 ?_
                      refine lv_iload hx hb dX12_layMean_107 (lv_at hl 2 rfl) ?_
                      refine lv_aload_n hx hb dX12_layMean_109 rfl (lv_at hl 4 rfl) ?_
                      refine lv_iload hx hb dX12_layMean_110 (lv_at hl 3 rfl) ?_
                      refine lv_iload hx hb dX12_layMean_112 (lv_at hl 0 rfl) ?_
                      refine lv_iload hx hb dX12_layMean_114 (lv_at hl 3 rfl) ?_
                      refine lv_iload_n hx hb dX12_layMean_116 rfl (lv_at hl 6 rfl) ?_
                      have hJ126 : ∀ (v195 : Int32) (H : Heap) (locs : List Loc) (ls : Array Slot), va_P D vwCl [cell22_ qm sm tm, cell5_ k qm sm, cell13_ k qm sm, cell8_ k qm sm, cell6_ k qm sm, cell14_ k qm sm, (qm 6, .inl (k 1, 1000, .inr (.inl g67))), (qm 7, .inl (k 1, 1000, .inr (.inl g110))), cell18_ k qm tm, cell17_ k qm tm, cell19_ k qm tm, cell21_ k qm tm, cell20_ k qm sm, cell16_ k qm sm, cell11_ k qm sm, cell10_ k qm sm, cell9_ k qm sm, cell7_ k qm sm] H → va_D A [cell22_ qm sm tm, cell5_ k qm sm, cell13_ k qm sm, cell8_ k qm sm, cell6_ k qm sm, cell14_ k qm sm, (qm 6, .inl (k 1, 1000, .inr (.inl g67))), (qm 7, .inl (k 1, 1000, .inr (.inl g110))), cell18_ k qm tm, cell17_ k qm tm, cell19_ k qm tm, cell21_ k qm tm, cell20_ k qm sm, cell16_ k qm sm, cell11_ k qm sm, cell10_ k qm sm, cell9_ k qm sm, cell7_ k qm sm] → va_S A s.heap H locs → lv_has ls 9 [(8, .int r191), (7, .int r186), (6, .int v109), (5, .int v66), (0, .ref (qm 0)), (1, .int p0), (2, .int p1), (3, .int p2), (4, .int p3)] → W p l e ({ frames := 4, cells := 0, slots := 0, locals := 99 } : Room) s m ([.ref (qm 0), .int p0, .int p1, .int p2, .int p3] : List Value).toArray below meth c H locs 0 0 Q (F0 m 126 ls [.int v195, .int r191, .int v66, .ref (qm 0), .int v109, .ref (qm 7)]) := by
                        intro v195 H locs ls  hP hD hS hl
                        refine lv_iload hx hb dX12_layMean_126 (lv_at hl 1 rfl) ?_
                        refine g_iF (w1 := fun (_ : Unit) => [cell22_ qm sm tm, cell5_ k qm sm, cell13_ k qm sm, cell8_ k qm sm, cell6_ k qm sm, cell14_ k qm sm, (qm 6, .inl (k 1, 1000, .inr (.inl g67))), (qm 7, .inl (k 1, 1000, .inr (.inl g110))), cell18_ k qm tm, cell17_ k qm tm, cell19_ k qm tm, cell21_ k qm tm, cell20_ k qm sm, cell16_ k qm sm, cell11_ k qm sm, cell10_ k qm sm, cell9_ k qm sm, cell7_ k qm sm]) (g_runVF (ws := [cell22_ qm sm tm, cell5_ k qm sm, cell13_ k qm sm, cell8_ k qm sm, cell6_ k qm sm, cell14_ k qm sm, (qm 6, .inl (k 1, 1000, .inr (.inl g67))), (qm 7, .inl (k 1, 1000, .inr (.inl g110))), cell18_ k qm tm, cell17_ k qm tm, cell19_ k qm tm, cell21_ k qm tm, cell20_ k qm sm, cell16_ k qm sm, cell11_ k qm sm, cell10_ k qm sm, cell9_ k qm sm, cell7_ k qm sm]) (rest := [.int v109, .ref (qm 7)]) cx hP hD hS [.int v66, .int r191, .int v195, .int r186] (c_X12_costOf l D k b qm sm (up2L (up2L tm 6 g67) 7 g110) H.size v66 r191 v195 r186 (show 0 ≤ v66.toInt ∧ v66.toInt ≤ 4 from by first | decide | omega)) gX12_layMean_X12_costOf rfl rfl rfl nd_X12_costOf ⟨Nat.le_of_ble_eq_true rfl, Nat.le_of_ble_eq_true rfl⟩ (ci := 10) (q0 := 0) rfl rfl rfl hl.1 rfl (Nat.le_of_ble_eq_true rfl) ⟨Nat.zero_le _, Nat.zero_le _⟩ dX12_layMean_128) cx.2.2.1 hD hS (fun r197 _ H locs hw196 hP hD hS => ?_)
                        have w198 : r197 = J_X12_costOf sm (up2L (up2L tm 6 g67) 7 g110) v66 r191 v195 r186 := hw196
                        clear hw196
                        have k200 : r197 = (J_X12_costOf sm (up2L (up2L tm 6 g67) 7 g110) v66 r191 v195 r186) := congrArg (fun z => z) w198
                        obtain ⟨v201, e201⟩ : ∃ z : Int64, z = (r197 : Int32).toInt64 := ⟨_, rfl⟩
                        refine lv_i2l (v := v201) hx hb dX12_layMean_131 e201.symm ?_
                        refine lv_aload_n hx hb dX12_layMean_132 rfl (lv_at hl 4 rfl) ?_
                        refine g_get cx hP iw_X12_layMean_X12 0 rfl rfl 1 (by decide) rfl fw_X12_layMean_13 rfl dX12_layMean_133 ?_
                        refine lv_iconst (v := 0) hx hb dX12_layMean_136 (by decide) ?_
                        have hn202 : vp_in 0 26 := f_in (a := 0) (by decide) (by omega) (by omega)
                        refine va_iald hx hb cx.2.1 hP 2 0 rfl rfl hn202 dX12_layMean_137 (lv_topi (fun v203 e203 => ?_))
                        obtain rfl : v22 = v203 := e22.trans e203.symm
                        refine lv_iload hx hb dX12_layMean_138 (lv_at hl 3 rfl) ?_
                        refine lv_isub hx hb dX12_layMean_140 (lv_topi (fun v204 e204 => ?_))
                        have t204 : v204.toInt = v22.toInt - v66.toInt := by rw [e204]; exact i_sub rfl rfl (by omega) (by omega)
                        refine g_lr (g_runS (wc := []) (rest := [.long v201, .int v109, .ref (qm 7)]) cx hP hD hS [] rfl (by decide) [.int v204] (c_X12_parts l D k b H.size v204) gX12_layMean_X12_parts rfl rfl rfl nd_X12_parts ⟨Nat.le_of_ble_eq_true rfl, Nat.le_of_ble_eq_true rfl⟩ rfl hl.1 rfl (Nat.le_of_ble_eq_true rfl) ⟨Nat.zero_le _, Nat.zero_le _⟩ dX12_layMean_141) cx.2.2.1 hP hD hS [] rfl rfl (fun r206 H locs hw205 hP hS => ?_)
                        have w207 : r206.toInt % 2 = 1 := hw205
                        clear hw205
                        refine lv_lmul hx hb dX12_layMean_144 (lv_topl (fun v208 e208 => ?_))
                        refine lv_aload_n hx hb dX12_layMean_145 rfl (lv_at hl 4 rfl) ?_
                        refine lv_iload hx hb dX12_layMean_146 (lv_at hl 0 rfl) ?_
                        refine g_lF (w1 := fun (_ : Unit) => [cell22_ qm sm tm, cell5_ k qm sm, cell13_ k qm sm, cell8_ k qm sm, cell6_ k qm sm, cell14_ k qm sm, (qm 6, .inl (k 1, 1000, .inr (.inl g67))), (qm 7, .inl (k 1, 1000, .inr (.inl g110))), cell18_ k qm tm, cell17_ k qm tm, cell19_ k qm tm, cell21_ k qm tm, cell20_ k qm sm, cell16_ k qm sm, cell11_ k qm sm, cell10_ k qm sm, cell9_ k qm sm, cell7_ k qm sm]) (g_runVF (ws := [cell22_ qm sm tm, cell5_ k qm sm, cell13_ k qm sm, cell8_ k qm sm, cell6_ k qm sm, cell14_ k qm sm, (qm 6, .inl (k 1, 1000, .inr (.inl g67))), (qm 7, .inl (k 1, 1000, .inr (.inl g110))), cell18_ k qm tm, cell17_ k qm tm, cell19_ k qm tm, cell21_ k qm tm, cell20_ k qm sm, cell16_ k qm sm, cell11_ k qm sm, cell10_ k qm sm, cell9_ k qm sm, cell7_ k qm sm]) (rest := [.long v208, .int v109, .ref (qm 7)]) cx hP hD hS [.int r191] (c_X12_onward l D k b qm sm (up2L (up2L tm 6 g67) 7 g110) H.size r191 (show 0 ≤ ((sm 2) 1).toInt ∧ ((sm 2) 1).toInt ≤ 4 from by first | decide | omega)) gX12_layMean_X12_onward rfl rfl rfl nd_X12_onward ⟨Nat.le_of_ble_eq_true rfl, Nat.le_of_ble_eq_true rfl⟩ (ci := 10) (q0 := 0) rfl rfl rfl hl.1 rfl (Nat.le_of_ble_eq_true rfl) ⟨Nat.zero_le _, Nat.zero_le _⟩ dX12_layMean_148) cx.2.2.1 hD hS (fun r210 _ H locs hw209 hP hD hS => ?_)
                        refine lv_ladd hx hb dX12_layMean_151 (lv_topl (fun v211 e211 => ?_))
                        have hn212 : vp_in v109 1000 := f_in (a := v109.toInt) rfl (by omega) (by omega)
                        refine va_last hx hb cx.2.1 hP hD hS 7 1 rfl rfl hn212 dX12_layMean_152 (fun H locs hP hD hS => ?_)
                        obtain ⟨g213, eg213⟩ : ∃ g : Nat → Int64, g = vp_updL g110 (v109).toNatClampNeg v211 := ⟨_, rfl⟩
                        rw [← eg213] at hP hD
                        have hP : va_P D vwCl [cell22_ qm sm tm, cell5_ k qm sm, cell13_ k qm sm, cell8_ k qm sm, cell6_ k qm sm, cell14_ k qm sm, (qm 6, .inl (k 1, 1000, .inr (.inl g67))), (qm 7, .inl (k 1, 1000, .inr (.inl g213))), cell18_ k qm tm, cell17_ k qm tm, cell19_ k qm tm, cell21_ k qm tm, cell20_ k qm sm, cell16_ k qm sm, cell11_ k qm sm, cell10_ k qm sm, cell9_ k qm sm, cell7_ k qm sm] H := hP
                        have hD : va_D A [cell22_ qm sm tm, cell5_ k qm sm, cell13_ k qm sm, cell8_ k qm sm, cell6_ k qm sm, cell14_ k qm sm, (qm 6, .inl (k 1, 1000, .inr (.inl g67))), (qm 7, .inl (k 1, 1000, .inr (.inl g213))), cell18_ k qm tm, cell17_ k qm tm, cell19_ k qm tm, cell21_ k qm tm, cell20_ k qm sm, cell16_ k qm sm, cell11_ k qm sm, cell10_ k qm sm, cell9_ k qm sm, cell7_ k qm sm] := hD
                        exact hJ153 g213 _ _ _  hP hD hS (lv_sub hl [2, 3, 4, 5, 6, 7, 8] rfl)
                      refine lv_icmp_ne (tgt := 125) hx hb dX12_layMean_117 (by decide) (fun c214 => ?_) (fun c214 => ?_)
                      · have f214 : ¬ v66.toInt = p1.toInt := f_ne rfl rfl c214
                        refine lv_iconst (v := 0) hx hb dX12_layMean_125 (by decide) ?_
                        have hlit215 : (0 : Int32).toInt = 0 := by decide
                        exact hJ126 0 _ _ _  hP hD hS (lv_sub hl [0, 1, 2, 3, 4, 5, 6, 7, 8] rfl)
                      · have f214 : v66.toInt = p1.toInt := f_eq rfl rfl c214
                        refine lv_iload hx hb dX12_layMean_120 (lv_at hl 8 rfl) ?_
                        refine lv_goto (tgt := 126) hx hb dX12_layMean_122 (by decide) ?_
                        exact hJ126 p3 _ _ _  hP hD hS (lv_sub hl [0, 1, 2, 3, 4, 5, 6, 7, 8] rfl)
              have hlit216 : (0 : Int32).toInt = 0 := by decide
              exact hL63 (Int.toNat (500 - 0) + 1) 0 g68 _ _ _ (by omega) (by first | decide | omega) hP hD hS (lv_sub hl [0, 1, 2, 3, 4, 5, 6] rfl)
        exact hL54 (Int.toNat (v23.toInt + 1) + 1) v23 g18 (tm 7) _ _ _ (by omega) (by first | decide | omega) hP hD hS (lv_sub hl [0, 1, 2, 3, 4, 5] rfl)
      · have f20 : v17.toInt < 1000 := f_nle (by decide) rfl c20
        refine lv_aload_n hx hb dX12_layMean_11 rfl (lv_at hl 1 rfl) ?_
        refine g_get cx hP iw_X12_layMean_X12 0 rfl rfl 14 (by decide) rfl fw_X12_layMean_25 rfl dX12_layMean_12 ?_
        refine lv_iload hx hb dX12_layMean_15 (lv_at hl 0 rfl) ?_
        refine lv_aload_n hx hb dX12_layMean_17 rfl (lv_at hl 1 rfl) ?_
        refine lv_iload hx hb dX12_layMean_18 (lv_at hl 0 rfl) ?_
        refine g_iF (w1 := fun (_ : Unit) => [cell22_ qm sm tm, cell5_ k qm sm, cell13_ k qm sm, cell8_ k qm sm, cell6_ k qm sm, cell14_ k qm sm, (qm 6, .inl (k 1, 1000, .inr (.inl g18))), cell12_ k qm tm, cell18_ k qm tm, cell17_ k qm tm, cell19_ k qm tm, cell21_ k qm tm, cell20_ k qm sm, cell16_ k qm sm, cell11_ k qm sm, cell10_ k qm sm, cell9_ k qm sm, cell7_ k qm sm]) (g_runVF (ws := [cell22_ qm sm tm, cell5_ k qm sm, cell13_ k qm sm, cell8_ k qm sm, cell6_ k qm sm, cell14_ k qm sm, (qm 6, .inl (k 1, 1000, .inr (.inl g18))), cell12_ k qm tm, cell18_ k qm tm, cell17_ k qm tm, cell19_ k qm tm, cell21_ k qm tm, cell20_ k qm sm, cell16_ k qm sm, cell11_ k qm sm, cell10_ k qm sm, cell9_ k qm sm, cell7_ k qm sm]) (rest := [.int v17, .ref (qm 6)]) cx hP hD hS [.int v17] (c_X12_isHands l D k b qm sm (up2L tm 6 g18) H.size v17 (show 0 ≤ ((sm 2) 1).toInt ∧ ((sm 2) 1).toInt ≤ 4 from by first | decide | omega)) gX12_layMean_X12_isHands rfl rfl rfl nd_X12_isHands ⟨Nat.le_of_ble_eq_true rfl, Nat.le_of_ble_eq_true rfl⟩ (ci := 10) (q0 := 0) rfl rfl rfl hl.1 rfl (Nat.le_of_ble_eq_true rfl) ⟨Nat.zero_le _, Nat.zero_le _⟩ dX12_layMean_20) cx.2.2.1 hD hS (fun r218 _ H locs hw217 hP hD hS => ?_)
        replace hw217 : (0 ≤ r218.toInt ∧ r218.toInt ≤ 1) ∧ (Imp (r218.toInt = 1) (0 ≤ v17.toInt ∧ v17.toInt ≤ 400)) ∧ (r218 = J_X12_isHands sm (up2L tm 6 g18) v17) := hw217
        obtain ⟨w219, w220, w221⟩ := hw217
        have k223 : r218 = (J_X12_isHands sm (up2L tm 6 g18) v17) := congrArg (fun z => z) w221
        have zr218 : 0 ≤ r218.toInt ∧ r218.toInt ≤ 1 := w219
        have hJ37 : ∀ (v230 : Int64) (H : Heap) (locs : List Loc) (ls : Array Slot), va_P D vwCl [cell22_ qm sm tm, cell5_ k qm sm, cell13_ k qm sm, cell8_ k qm sm, cell6_ k qm sm, cell14_ k qm sm, (qm 6, .inl (k 1, 1000, .inr (.inl g18))), cell12_ k qm tm, cell18_ k qm tm, cell17_ k qm tm, cell19_ k qm tm, cell21_ k qm tm, cell20_ k qm sm, cell16_ k qm sm, cell11_ k qm sm, cell10_ k qm sm, cell9_ k qm sm, cell7_ k qm sm] H → va_D A [cell22_ qm sm tm, cell5_ k qm sm, cell13_ k qm sm, cell8_ k qm sm, cell6_ k qm sm, cell14_ k qm sm, (qm 6, .inl (k 1, 1000, .inr (.inl g18))), cell12_ k qm tm, cell18_ k qm tm, cell17_ k qm tm, cell19_ k qm tm, cell21_ k qm tm, cell20_ k qm sm, cell16_ k qm sm, cell11_ k qm sm, cell10_ k qm sm, cell9_ k qm sm, cell7_ k qm sm] → va_S A s.heap H locs → lv_has ls 9 [(5, .int v17), (0, .ref (qm 0)), (1, .int p0), (2, .int p1), (3, .int p2), (4, .int p3)] → W p l e ({ frames := 4, cells := 0, slots := 0, locals := 99 } : Room) s m ([.ref (qm 0), .int p0, .int p1, .int p2, .int p3] : List Value).toArray below meth c H locs 0 0 Q (F0 m 37 ls [.long v230, .int v17, .ref (qm 6)]) := by
          intro v230 H locs ls  hP hD hS hl
          have hn231 : vp_in v17 1000 := f_in (a := v17.toInt) rfl (by omega) (by omega)
          refine va_last hx hb cx.2.1 hP hD hS 6 1 rfl rfl hn231 dX12_layMean_37 (fun H locs hP hD hS => ?_)
          obtain ⟨g232, eg232⟩ : ∃ g : Nat → Int64, g = vp_updL g18 (v17).toNatClampNeg v230 := ⟨_, rfl⟩
          rw [← eg232] at hP hD
          have hP : va_P D vwCl [cell22_ qm sm tm, cell5_ k qm sm, cell13_ k qm sm, cell8_ k qm sm, cell6_ k qm sm, cell14_ k qm sm, (qm 6, .inl (k 1, 1000, .inr (.inl g232))), cell12_ k qm tm, cell18_ k qm tm, cell17_ k qm tm, cell19_ k qm tm, cell21_ k qm tm, cell20_ k qm sm, cell16_ k qm sm, cell11_ k qm sm, cell10_ k qm sm, cell9_ k qm sm, cell7_ k qm sm] H := hP
          have hD : va_D A [cell22_ qm sm tm, cell5_ k qm sm, cell13_ k qm sm, cell8_ k qm sm, cell6_ k qm sm, cell14_ k qm sm, (qm 6, .inl (k 1, 1000, .inr (.inl g232))), cell12_ k qm tm, cell18_ k qm tm, cell17_ k qm tm, cell19_ k qm tm, cell21_ k qm tm, cell20_ k qm sm, cell16_ k qm sm, cell11_ k qm sm, cell10_ k qm sm, cell9_ k qm sm, cell7_ k qm sm] := hD
          obtain ⟨v233, e233⟩ : ∃ z : Int32, z = v17 + 1 := ⟨_, rfl⟩
          refine lv_iinc (v := v233) (lv' := [(5, .int v233), (0, .ref (qm 0)), (1, .int p0), (2, .int p1), (3, .int p2), (4, .int p3)]) hx hb dX12_layMean_38 hl (k := 0) rfl (by rw [e233]; rfl) (by decide) rfl (fun ls hl => ?_)
          have t233 : v233.toInt = v17.toInt + 1 := by rw [e233]; exact i_add rfl (by decide) (by omega) (by omega)
          refine lv_goto (tgt := 3) hx hb dX12_layMean_41 (by decide) ?_
          exact ih3 v233 g232 _ _ _ (by omega) (by first | decide | omega) hP hD hS (lv_sub hl [0, 1, 2, 3, 4, 5] rfl)
        refine lv_if_eq (tgt := 36) hx hb dX12_layMean_23 (by decide) (fun c234 => ?_) (fun c234 => ?_)
        · have f234 : r218.toInt = 0 := f_eq rfl (by decide) c234
          refine lv_lconst (v := 0) hx hb dX12_layMean_36 (by decide) ?_
          have hlit235 : (0 : Int32).toInt = 0 := by decide
          exact hJ37 0 _ _ _  hP hD hS (lv_sub hl [0, 1, 2, 3, 4, 5] rfl)
        · have f234 : ¬ r218.toInt = 0 := f_ne rfl (by decide) c234
          have k234 : (0 ≤ v17.toInt ∧ v17.toInt ≤ 400) := w220 (by omega)
          refine lv_aload_n hx hb dX12_layMean_26 rfl (lv_at hl 1 rfl) ?_
          refine lv_iload hx hb dX12_layMean_27 (lv_at hl 0 rfl) ?_
          refine g_iF (w1 := fun (_ : Unit) => [cell22_ qm sm tm, cell5_ k qm sm, cell13_ k qm sm, cell8_ k qm sm, cell6_ k qm sm, cell14_ k qm sm, (qm 6, .inl (k 1, 1000, .inr (.inl g18))), cell12_ k qm tm, cell18_ k qm tm, cell17_ k qm tm, cell19_ k qm tm, cell21_ k qm tm, cell20_ k qm sm, cell16_ k qm sm, cell11_ k qm sm, cell10_ k qm sm, cell9_ k qm sm, cell7_ k qm sm]) (g_runVF (ws := [cell22_ qm sm tm, cell5_ k qm sm, cell13_ k qm sm, cell8_ k qm sm, cell6_ k qm sm, cell14_ k qm sm, (qm 6, .inl (k 1, 1000, .inr (.inl g18))), cell12_ k qm tm, cell18_ k qm tm, cell17_ k qm tm, cell19_ k qm tm, cell21_ k qm tm, cell20_ k qm sm, cell16_ k qm sm, cell11_ k qm sm, cell10_ k qm sm, cell9_ k qm sm, cell7_ k qm sm]) (rest := [.int v17, .ref (qm 6)]) cx hP hD hS [.int v17] (c_X12_bonus l D k b qm sm (up2L tm 6 g18) H.size v17) gX12_layMean_X12_bonus rfl rfl rfl nd_X12_bonus ⟨Nat.le_of_ble_eq_true rfl, Nat.le_of_ble_eq_true rfl⟩ (ci := 10) (q0 := 0) rfl rfl rfl hl.1 rfl (Nat.le_of_ble_eq_true rfl) ⟨Nat.zero_le _, Nat.zero_le _⟩ dX12_layMean_29) cx.2.2.1 hD hS (fun r237 _ H locs hw236 hP hD hS => ?_)
          have w238 : r237 = J_X12_bonus sm (up2L tm 6 g18) v17 := hw236
          clear hw236
          have k240 : r237 = (J_X12_bonus sm (up2L tm 6 g18) v17) := congrArg (fun z => z) w238
          obtain ⟨v241, e241⟩ : ∃ z : Int64, z = (r237 : Int32).toInt64 := ⟨_, rfl⟩
          refine lv_i2l (v := v241) hx hb dX12_layMean_32 e241.symm ?_
          refine lv_goto (tgt := 37) hx hb dX12_layMean_33 (by decide) ?_
          exact hJ37 v241 _ _ _  hP hD hS (lv_sub hl [0, 1, 2, 3, 4, 5] rfl)
  have hlit242 : (0 : Int32).toInt = 0 := by decide
  exact hL3 (Int.toNat (1000 - 0) + 1) 0 (tm 6) _ _ _ (by omega) (by first | decide | omega) hP hD hS (lv_sub hl [0, 1, 2, 3, 4, 5] rfl)
