theorem fw_X12_layBest_13 : Cond.fieldLink RX12 13 "StillInAugustModel" "house" "[I" ∈ wsX12_layBest := by decide +kernel
theorem fw_X12_layBest_38 : Cond.fieldLink RX12 38 "StillInAugustModel" "bests" "[J" ∈ wsX12_layBest := by decide +kernel
theorem fw_X12_layBest_41 : Cond.fieldLink RX12 41 "StillInAugustModel" "bestsBefore" "[J" ∈ wsX12_layBest := by decide +kernel
theorem nd_X12_layBestOf : yX12_layBestOf.cls = RX12 ∧ yX12_layBestOf.cls ≠ "java/lang/invoke/MethodHandle" ∧ yX12_layBestOf.cls ≠ "java/lang/invoke/VarHandle" ∧ (parseMethodDescriptor yX12_layBestOf.desc).map (fun d => d.parameters.length) = some 3 := by decide +kernel
theorem iw_X12_layBest_X12 : ∀ w ∈ u_ws RX12 TX12 33, w ∈ wsX12_layBest := fun _ h => List.mem_cons_of_mem _ (List.mem_append_right _ h)
set_option maxHeartbeats 4000000 in
set_option maxRecDepth 100000 in
theorem c_X12_layBest (l : Launch) (D : va_G) (k : Nat → ClassId) (b : Nat → Nat) (qm : Nat → Nat) (sm : Nat → Nat → Int32) (tm : Nat → Nat → Int64) (sz : Nat) (p0 : Int32) (h_w0 : 0 ≤ (sm 2 0).toInt ∧ (sm 2 0).toInt ≤ 5) (h_k1 : 0 ≤ (sm 2 1).toInt ∧ (sm 2 1).toInt ≤ 4) (hp0 : 0 ≤ p0.toInt ∧ p0.toInt ≤ 4) : MetV l D k b yX12_layBest wsX12_layBest ({ frames := 5, cells := 0, slots := 0, locals := 132 } : Room) [cell22_ qm sm tm, cell5_ k qm sm, cell13_ k qm sm, cell8_ k qm sm, cell6_ k qm sm, cell14_ k qm sm, cell15_ k qm tm, cell12_ k qm tm, cell18_ k qm tm, cell17_ k qm tm, cell19_ k qm tm, cell21_ k qm tm, cell20_ k qm sm, cell16_ k qm sm, cell11_ k qm sm, cell10_ k qm sm, cell9_ k qm sm, cell7_ k qm sm] sz [.ref (qm 0), .int p0] (fun (u : (Nat → Int64) × (Nat → Int64) × (Nat → Int32)) => True) (fun u => [cell22_ qm sm tm, cell5_ k qm sm, cell13_ k qm sm, cell8_ k qm sm, cell6_ k qm sm, cell14_ k qm sm, cell15_ k qm tm, cell12_ k qm tm, cell18_ k qm tm, cell17_ k qm tm, cell130_ k qm (u.1), cell122_ k qm (u.2.1), cell123_ k qm (u.2.2), cell16_ k qm sm, cell11_ k qm sm, cell10_ k qm sm, cell9_ k qm sm, cell7_ k qm sm]) := by
  refine g_enter (cc := cX12_layBest) (maxL := 6) (ret := none) (by decide) rfl (Nat.le_of_ble_eq_true rfl) ?_
  intro p e s m below meth c A hsz hAe cx hr hP hD hS ls hl
  rw [hAe]
  refine g_q (fun Q hQ => ?_)
  have hx := cx.1.1
  have hb := cx.1.2.1
  have bp0 := i_rng p0
  have hl : lv_has ls 6 [(0, .ref (qm 0)), (1, .int p0)] := hl
  obtain ⟨H, eH⟩ : ∃ H : Heap, H = s.heap := ⟨_, rfl⟩
  obtain ⟨locs, el⟩ : ∃ L : List Loc, L = [] := ⟨_, rfl⟩
  have hP : va_P D vwCl [cell22_ qm sm tm, cell5_ k qm sm, cell13_ k qm sm, cell8_ k qm sm, cell6_ k qm sm, cell14_ k qm sm, cell15_ k qm tm, cell12_ k qm tm, cell18_ k qm tm, cell17_ k qm tm, cell19_ k qm tm, cell21_ k qm tm, cell20_ k qm sm, cell16_ k qm sm, cell11_ k qm sm, cell10_ k qm sm, cell9_ k qm sm, cell7_ k qm sm] H := by rw [eH]; exact hP
  have hD : va_D A [cell22_ qm sm tm, cell5_ k qm sm, cell13_ k qm sm, cell8_ k qm sm, cell6_ k qm sm, cell14_ k qm sm, cell15_ k qm tm, cell12_ k qm tm, cell18_ k qm tm, cell17_ k qm tm, cell19_ k qm tm, cell21_ k qm tm, cell20_ k qm sm, cell16_ k qm sm, cell11_ k qm sm, cell10_ k qm sm, cell9_ k qm sm, cell7_ k qm sm] := hD
  have hS : va_S A s.heap H locs := by rw [eH, el]; exact hS
  suffices goal : W p l e ({ frames := 5, cells := 0, slots := 0, locals := 132 } : Room) s m ([.ref (qm 0), .int p0] : List Value).toArray below meth c H locs 0 0 Q (F0 m 0 ls []) by rw [eH, el] at goal; exact goal
  refine lv_iconst (v := 0) hx hb dX12_layBest_0 (by decide) ?_
  refine lv_istore_n (lv' := [(2, .int 0), (0, .ref (qm 0)), (1, .int p0)]) hx hb dX12_layBest_1 rfl hl (by decide) rfl (fun ls hl => ?_)
  have hL2 : ∀ (n21 : Nat) (v19 : Int32) (g20 : Nat → Int64) (H : Heap) (locs : List Loc) (ls : Array Slot), 1500 - v19.toInt < (n21 : Int) → (0 ≤ v19.toInt ∧ v19.toInt ≤ 1500) → va_P D vwCl [cell22_ qm sm tm, cell5_ k qm sm, cell13_ k qm sm, cell8_ k qm sm, cell6_ k qm sm, cell14_ k qm sm, cell15_ k qm tm, cell12_ k qm tm, cell18_ k qm tm, cell17_ k qm tm, (qm 10, .inl (k 1, 1500, .inr (.inl g20))), cell21_ k qm tm, cell20_ k qm sm, cell16_ k qm sm, cell11_ k qm sm, cell10_ k qm sm, cell9_ k qm sm, cell7_ k qm sm] H → va_D A [cell22_ qm sm tm, cell5_ k qm sm, cell13_ k qm sm, cell8_ k qm sm, cell6_ k qm sm, cell14_ k qm sm, cell15_ k qm tm, cell12_ k qm tm, cell18_ k qm tm, cell17_ k qm tm, (qm 10, .inl (k 1, 1500, .inr (.inl g20))), cell21_ k qm tm, cell20_ k qm sm, cell16_ k qm sm, cell11_ k qm sm, cell10_ k qm sm, cell9_ k qm sm, cell7_ k qm sm] → va_S A s.heap H locs → lv_has ls 6 [(2, .int v19), (0, .ref (qm 0)), (1, .int p0)] → W p l e ({ frames := 5, cells := 0, slots := 0, locals := 132 } : Room) s m ([.ref (qm 0), .int p0] : List Value).toArray below meth c H locs 0 0 Q (F0 m 2 ls []) := by
    intro n21
    induction n21 with
    | zero => intro v19 g20 H locs ls hmn21 bv19 hP hD hS hl; exact absurd hmn21 (by omega)
    | succ n21 ih2 =>
      intro v19 g20 H locs ls hmn21 bv19 hP hD hS hl
      refine lv_iload_n hx hb dX12_layBest_2 rfl (lv_at hl 0 rfl) ?_
      refine lv_sipush (v := 1500) hx hb dX12_layBest_3 (by decide) ?_
      refine lv_icmp_ge (tgt := 43) hx hb dX12_layBest_6 (by decide) (fun c22 => ?_) (fun c22 => ?_)
      · have f22 : 1500 ≤ v19.toInt := f_le (by decide) rfl c22
        refine lv_aload_n hx hb dX12_layBest_43 rfl (lv_at hl 1 rfl) ?_
        refine g_get cx hP iw_X12_layBest_X12 0 rfl rfl 1 (by decide) rfl fw_X12_layBest_13 rfl dX12_layBest_44 ?_
        refine lv_iconst (v := 0) hx hb dX12_layBest_47 (by decide) ?_
        have hn23 : vp_in 0 26 := f_in (a := 0) (by decide) (by omega) (by omega)
        refine va_iald hx hb cx.2.1 hP 2 0 rfl rfl hn23 dX12_layBest_48 (lv_topi (fun v24 e24 => ?_))
        have uv24 : v24.toInt = ((sm 2) 0).toInt := congrArg Int32.toInt e24
        have t24 : 0 ≤ v24.toInt ∧ v24.toInt ≤ 5 := by rw [e24]; exact h_w0
        refine lv_iconst (v := 1) hx hb dX12_layBest_49 (by decide) ?_
        refine lv_isub hx hb dX12_layBest_50 (lv_topi (fun v25 e25 => ?_))
        have t25 : v25.toInt = v24.toInt - 1 := by rw [e25]; exact i_sub rfl (by decide) (by omega) (by omega)
        refine lv_istore_n (lv' := [(2, .int v25), (0, .ref (qm 0)), (1, .int p0)]) hx hb dX12_layBest_51 rfl hl (by decide) rfl (fun ls hl => ?_)
        have hL52 : ∀ (n54 : Nat) (v50 : Int32) (g51 : Nat → Int64) (g52 : Nat → Int64) (g53 : Nat → Int32) (H : Heap) (locs : List Loc) (ls : Array Slot), v50.toInt + 1 < (n54 : Int) → (-1 ≤ v50.toInt ∧ v50.toInt ≤ 4) → va_P D vwCl [cell22_ qm sm tm, cell5_ k qm sm, cell13_ k qm sm, cell8_ k qm sm, cell6_ k qm sm, cell14_ k qm sm, cell15_ k qm tm, cell12_ k qm tm, cell18_ k qm tm, cell17_ k qm tm, (qm 10, .inl (k 1, 1500, .inr (.inl g51))), (qm 11, .inl (k 1, 1500, .inr (.inl g52))), (qm 12, .inl (k 0, 1500, .inl g53)), cell16_ k qm sm, cell11_ k qm sm, cell10_ k qm sm, cell9_ k qm sm, cell7_ k qm sm] H → va_D A [cell22_ qm sm tm, cell5_ k qm sm, cell13_ k qm sm, cell8_ k qm sm, cell6_ k qm sm, cell14_ k qm sm, cell15_ k qm tm, cell12_ k qm tm, cell18_ k qm tm, cell17_ k qm tm, (qm 10, .inl (k 1, 1500, .inr (.inl g51))), (qm 11, .inl (k 1, 1500, .inr (.inl g52))), (qm 12, .inl (k 0, 1500, .inl g53)), cell16_ k qm sm, cell11_ k qm sm, cell10_ k qm sm, cell9_ k qm sm, cell7_ k qm sm] → va_S A s.heap H locs → lv_has ls 6 [(2, .int v50), (0, .ref (qm 0)), (1, .int p0)] → W p l e ({ frames := 5, cells := 0, slots := 0, locals := 132 } : Room) s m ([.ref (qm 0), .int p0] : List Value).toArray below meth c H locs 0 0 Q (F0 m 52 ls []) := by
          intro n54
          induction n54 with
          | zero => intro v50 g51 g52 g53 H locs ls hmn54 bv50 hP hD hS hl; exact absurd hmn54 (by omega)
          | succ n54 ih52 =>
            intro v50 g51 g52 g53 H locs ls hmn54 bv50 hP hD hS hl
            refine lv_iload_n hx hb dX12_layBest_52 rfl (lv_at hl 0 rfl) ?_
            refine lv_iload_n hx hb dX12_layBest_53 rfl (lv_at hl 2 rfl) ?_
            refine lv_icmp_lt (tgt := 140) hx hb dX12_layBest_54 (by decide) (fun c55 => ?_) (fun c55 => ?_)
            · have f55 : v50.toInt < p0.toInt := f_lt rfl rfl c55
              rw [hQ]
              exact x_v cx hr (g51, g52, g53) hP hD hS trivial dX12_layBest_140
            · have f55 : p0.toInt ≤ v50.toInt := f_nlt rfl rfl c55
              refine lv_aload_n hx hb dX12_layBest_57 rfl (lv_at hl 1 rfl) ?_
              refine g_get cx hP iw_X12_layBest_X12 0 rfl rfl 1 (by decide) rfl fw_X12_layBest_13 rfl dX12_layBest_58 ?_
              refine lv_iconst (v := 0) hx hb dX12_layBest_61 (by decide) ?_
              have hn56 : vp_in 0 26 := f_in (a := 0) (by decide) (by omega) (by omega)
              refine va_iald hx hb cx.2.1 hP 2 0 rfl rfl hn56 dX12_layBest_62 (lv_topi (fun v57 e57 => ?_))
              obtain rfl : v24 = v57 := e24.trans e57.symm
              refine lv_iload_n hx hb dX12_layBest_63 rfl (lv_at hl 0 rfl) ?_
              refine lv_isub hx hb dX12_layBest_64 (lv_topi (fun v58 e58 => ?_))
              have t58 : v58.toInt = v24.toInt - v50.toInt := by rw [e58]; exact i_sub rfl rfl (by omega) (by omega)
              refine g_lr (g_runS (wc := []) (rest := []) cx hP hD hS [] rfl (by decide) [.int v58] (c_X12_parts l D k b H.size v58) gX12_layBest_X12_parts rfl rfl rfl nd_X12_parts ⟨Nat.le_of_ble_eq_true rfl, Nat.le_of_ble_eq_true rfl⟩ rfl hl.1 rfl (Nat.le_of_ble_eq_true rfl) ⟨Nat.zero_le _, Nat.zero_le _⟩ dX12_layBest_65) cx.2.2.1 hP hD hS [] rfl rfl (fun r60 H locs hw59 hP hS => ?_)
              have w61 : r60.toInt % 2 = 1 := hw59
              clear hw59
              refine lv_lstore_n (lv' := [(3, .long r60), (2, .int v50), (0, .ref (qm 0)), (1, .int p0)]) hx hb dX12_layBest_68 rfl hl (by decide) rfl (fun ls hl => ?_)
              refine lv_iconst (v := 0) hx hb dX12_layBest_69 (by decide) ?_
              refine lv_istore (lv' := [(5, .int 0), (3, .long r60), (2, .int v50), (0, .ref (qm 0)), (1, .int p0)]) hx hb dX12_layBest_70 hl (by decide) rfl (fun ls hl => ?_)
              have hL72 : ∀ (n77 : Nat) (v74 : Int32) (g75 : Nat → Int64) (g76 : Nat → Int32) (H : Heap) (locs : List Loc) (ls : Array Slot), 500 - v74.toInt < (n77 : Int) → (0 ≤ v74.toInt ∧ v74.toInt ≤ 500) → va_P D vwCl [cell22_ qm sm tm, cell5_ k qm sm, cell13_ k qm sm, cell8_ k qm sm, cell6_ k qm sm, cell14_ k qm sm, cell15_ k qm tm, cell12_ k qm tm, cell18_ k qm tm, cell17_ k qm tm, (qm 10, .inl (k 1, 1500, .inr (.inl g51))), (qm 11, .inl (k 1, 1500, .inr (.inl g75))), (qm 12, .inl (k 0, 1500, .inl g76)), cell16_ k qm sm, cell11_ k qm sm, cell10_ k qm sm, cell9_ k qm sm, cell7_ k qm sm] H → va_D A [cell22_ qm sm tm, cell5_ k qm sm, cell13_ k qm sm, cell8_ k qm sm, cell6_ k qm sm, cell14_ k qm sm, cell15_ k qm tm, cell12_ k qm tm, cell18_ k qm tm, cell17_ k qm tm, (qm 10, .inl (k 1, 1500, .inr (.inl g51))), (qm 11, .inl (k 1, 1500, .inr (.inl g75))), (qm 12, .inl (k 0, 1500, .inl g76)), cell16_ k qm sm, cell11_ k qm sm, cell10_ k qm sm, cell9_ k qm sm, cell7_ k qm sm] → va_S A s.heap H locs → lv_has ls 6 [(5, .int v74), (3, .long r60), (2, .int v50), (0, .ref (qm 0)), (1, .int p0)] → W p l e ({ frames := 5, cells := 0, slots := 0, locals := 132 } : Room) s m ([.ref (qm 0), .int p0] : List Value).toArray below meth c H locs 0 0 Q (F0 m 72 ls []) := by
                intro n77
                induction n77 with
                | zero => intro v74 g75 g76 H locs ls hmn77 bv74 hP hD hS hl; exact absurd hmn77 (by omega)
                | succ n77 ih72 =>
                  intro v74 g75 g76 H locs ls hmn77 bv74 hP hD hS hl
                  refine lv_iload hx hb dX12_layBest_72 (lv_at hl 0 rfl) ?_
                  refine lv_sipush (v := 500) hx hb dX12_layBest_74 (by decide) ?_
                  refine lv_icmp_ge (tgt := 103) hx hb dX12_layBest_77 (by decide) (fun c78 => ?_) (fun c78 => ?_)
                  · have f78 : 500 ≤ v74.toInt := f_le (by decide) rfl c78
                    refine lv_iconst (v := 0) hx hb dX12_layBest_103 (by decide) ?_
                    refine lv_istore (lv' := [(5, .int 0), (3, .long r60), (2, .int v50), (0, .ref (qm 0)), (1, .int p0)]) hx hb dX12_layBest_104 hl (by decide) rfl (fun ls hl => ?_)
                    have hL106 : ∀ (n86 : Nat) (v84 : Int32) (g85 : Nat → Int64) (H : Heap) (locs : List Loc) (ls : Array Slot), 1500 - v84.toInt < (n86 : Int) → (0 ≤ v84.toInt ∧ v84.toInt ≤ 1500) → va_P D vwCl [cell22_ qm sm tm, cell5_ k qm sm, cell13_ k qm sm, cell8_ k qm sm, cell6_ k qm sm, cell14_ k qm sm, cell15_ k qm tm, cell12_ k qm tm, cell18_ k qm tm, cell17_ k qm tm, (qm 10, .inl (k 1, 1500, .inr (.inl g85))), (qm 11, .inl (k 1, 1500, .inr (.inl g75))), (qm 12, .inl (k 0, 1500, .inl g76)), cell16_ k qm sm, cell11_ k qm sm, cell10_ k qm sm, cell9_ k qm sm, cell7_ k qm sm] H → va_D A [cell22_ qm sm tm, cell5_ k qm sm, cell13_ k qm sm, cell8_ k qm sm, cell6_ k qm sm, cell14_ k qm sm, cell15_ k qm tm, cell12_ k qm tm, cell18_ k qm tm, cell17_ k qm tm, (qm 10, .inl (k 1, 1500, .inr (.inl g85))), (qm 11, .inl (k 1, 1500, .inr (.inl g75))), (qm 12, .inl (k 0, 1500, .inl g76)), cell16_ k qm sm, cell11_ k qm sm, cell10_ k qm sm, cell9_ k qm sm, cell7_ k qm sm] → va_S A s.heap H locs → lv_has ls 6 [(5, .int v84), (2, .int v50), (0, .ref (qm 0)), (1, .int p0)] → W p l e ({ frames := 5, cells := 0, slots := 0, locals := 132 } : Room) s m ([.ref (qm 0), .int p0] : List Value).toArray below meth c H locs 0 0 Q (F0 m 106 ls []) := by
                      intro n86
                      induction n86 with
                      | zero => intro v84 g85 H locs ls hmn86 bv84 hP hD hS hl; exact absurd hmn86 (by omega)
                      | succ n86 ih106 =>
                        intro v84 g85 H locs ls hmn86 bv84 hP hD hS hl
                        refine lv_iload hx hb dX12_layBest_106 (lv_at hl 0 rfl) ?_
                        refine lv_sipush (v := 1500) hx hb dX12_layBest_108 (by decide) ?_
                        refine lv_icmp_ge (tgt := 134) hx hb dX12_layBest_111 (by decide) (fun c87 => ?_) (fun c87 => ?_)
                        · have f87 : 1500 ≤ v84.toInt := f_le (by decide) rfl c87
                          obtain ⟨v88, e88⟩ : ∃ z : Int32, z = v50 + (-1) := ⟨_, rfl⟩
                          refine lv_iinc (v := v88) (lv' := [(2, .int v88), (5, .int v84), (0, .ref (qm 0)), (1, .int p0)]) hx hb dX12_layBest_134 hl (k := 1) rfl (by rw [e88]; rfl) (by decide) rfl (fun ls hl => ?_)
                          have t88 : v88.toInt = v50.toInt + (-1) := by rw [e88]; exact i_add rfl (by decide) (by omega) (by omega)
                          refine lv_goto (tgt := 52) hx hb dX12_layBest_137 (by decide) ?_
                          exact ih52 v88 g85 g75 g76 _ _ _ (by omega) (by first | decide | omega) hP hD hS (lv_sub hl [0, 2, 3] rfl)
                        · have f87 : v84.toInt < 1500 := f_nle (by decide) rfl c87
                          refine lv_aload_n hx hb dX12_layBest_114 rfl (lv_at hl 2 rfl) ?_
                          refine g_get cx hP iw_X12_layBest_X12 0 rfl rfl 18 (by decide) rfl fw_X12_layBest_38 rfl dX12_layBest_115 ?_
                          refine lv_iload hx hb dX12_layBest_118 (lv_at hl 0 rfl) ?_
                          refine lv_aload_n hx hb dX12_layBest_120 rfl (lv_at hl 2 rfl) ?_
                          refine g_get cx hP iw_X12_layBest_X12 0 rfl rfl 19 (by decide) rfl fw_X12_layBest_41 rfl dX12_layBest_121 ?_
                          refine lv_iload hx hb dX12_layBest_124 (lv_at hl 0 rfl) ?_
                          have hn89 : vp_in v84 1500 := f_in (a := v84.toInt) rfl (by omega) (by omega)
                          refine va_lald hx hb cx.2.1 hP 11 1 rfl rfl hn89 dX12_layBest_126 (lv_topl (fun v90 e90 => ?_))
                          have hn91 : vp_in v84 1500 := f_in (a := v84.toInt) rfl (by omega) (by omega)
                          refine va_last hx hb cx.2.1 hP hD hS 10 1 rfl rfl hn91 dX12_layBest_127 (fun H locs hP hD hS => ?_)
                          obtain ⟨g92, eg92⟩ : ∃ g : Nat → Int64, g = vp_updL g85 (v84).toNatClampNeg v90 := ⟨_, rfl⟩
                          rw [← eg92] at hP hD
                          have hP : va_P D vwCl [cell22_ qm sm tm, cell5_ k qm sm, cell13_ k qm sm, cell8_ k qm sm, cell6_ k qm sm, cell14_ k qm sm, cell15_ k qm tm, cell12_ k qm tm, cell18_ k qm tm, cell17_ k qm tm, (qm 10, .inl (k 1, 1500, .inr (.inl g92))), (qm 11, .inl (k 1, 1500, .inr (.inl g75))), (qm 12, .inl (k 0, 1500, .inl g76)), cell16_ k qm sm, cell11_ k qm sm, cell10_ k qm sm, cell9_ k qm sm, cell7_ k qm sm] H := hP
                          have hD : va_D A [cell22_ qm sm tm, cell5_ k qm sm, cell13_ k qm sm, cell8_ k qm sm, cell6_ k qm sm, cell14_ k qm sm, cell15_ k qm tm, cell12_ k qm tm, cell18_ k qm tm, cell17_ k qm tm, (qm 10, .inl (k 1, 1500, .inr (.inl g92))), (qm 11, .inl (k 1, 1500, .inr (.inl g75))), (qm 12, .inl (k 0, 1500, .inl g76)), cell16_ k qm sm, cell11_ k qm sm, cell10_ k qm sm, cell9_ k qm sm, cell7_ k qm sm] := hD
                          obtain ⟨v93, e93⟩ : ∃ z : Int32, z = v84 + 1 := ⟨_, rfl⟩
                          refine lv_iinc (v := v93) (lv' := [(5, .int v93), (2, .int v50), (0, .ref (qm 0)), (1, .int p0)]) hx hb dX12_layBest_128 hl (k := 0) rfl (by rw [e93]; rfl) (by decide) rfl (fun ls hl => ?_)
                          have t93 : v93.toInt = v84.toInt + 1 := by rw [e93]; exact i_add rfl (by decide) (by omega) (by omega)
                          refine lv_goto (tgt := 106) hx hb dX12_layBest_131 (by decide) ?_
                          exact ih106 v93 g92 _ _ _ (by omega) (by first | decide | omega) hP hD hS (lv_sub hl [0, 1, 2, 3] rfl)
                    have hlit94 : (0 : Int32).toInt = 0 := by decide
                    exact hL106 (Int.toNat (1500 - 0) + 1) 0 g51 _ _ _ (by omega) (by first | decide | omega) hP hD hS (lv_sub hl [0, 2, 3, 4] rfl)
                  · have f78 : v74.toInt < 500 := f_nle (by decide) rfl c78
                    refine lv_aload_n hx hb dX12_layBest_80 rfl (lv_at hl 3 rfl) ?_
                    refine lv_iload hx hb dX12_layBest_81 (lv_at hl 0 rfl) ?_
                    refine g_iF (w1 := fun (_ : Unit) => [cell22_ qm sm tm, cell5_ k qm sm, cell13_ k qm sm, cell8_ k qm sm, cell6_ k qm sm, cell14_ k qm sm, cell15_ k qm tm, cell12_ k qm tm, cell18_ k qm tm, cell17_ k qm tm, (qm 10, .inl (k 1, 1500, .inr (.inl g51))), (qm 11, .inl (k 1, 1500, .inr (.inl g75))), (qm 12, .inl (k 0, 1500, .inl g76)), cell16_ k qm sm, cell11_ k qm sm, cell10_ k qm sm, cell9_ k qm sm, cell7_ k qm sm]) (g_runVF (ws := [cell22_ qm sm tm, cell5_ k qm sm, cell13_ k qm sm, cell8_ k qm sm, cell6_ k qm sm, cell14_ k qm sm, cell15_ k qm tm, cell12_ k qm tm, cell18_ k qm tm, cell17_ k qm tm, (qm 10, .inl (k 1, 1500, .inr (.inl g51))), (qm 11, .inl (k 1, 1500, .inr (.inl g75))), (qm 12, .inl (k 0, 1500, .inl g76)), cell16_ k qm sm, cell11_ k qm sm, cell10_ k qm sm, cell9_ k qm sm, cell7_ k qm sm]) (rest := []) cx hP hD hS [.int v74] (c_X12_isHands l D k b qm (up2 sm 12 g76) (up2L (up2L tm 10 g51) 11 g75) H.size v74 (show 0 ≤ ((sm 2) 1).toInt ∧ ((sm 2) 1).toInt ≤ 4 from by first | decide | omega)) gX12_layBest_X12_isHands rfl rfl rfl nd_X12_isHands ⟨Nat.le_of_ble_eq_true rfl, Nat.le_of_ble_eq_true rfl⟩ (ci := 10) (q0 := 0) rfl rfl rfl hl.1 rfl (Nat.le_of_ble_eq_true rfl) ⟨Nat.zero_le _, Nat.zero_le _⟩ dX12_layBest_83) cx.2.2.1 hD hS (fun r96 _ H locs hw95 hP hD hS => ?_)
                    replace hw95 : (0 ≤ r96.toInt ∧ r96.toInt ≤ 1) ∧ (Imp (r96.toInt = 1) (0 ≤ v74.toInt ∧ v74.toInt ≤ 400)) ∧ (r96 = J_X12_isHands (up2 sm 12 g76) (up2L (up2L tm 10 g51) 11 g75) v74) := hw95
                    obtain ⟨w97, w98, w99⟩ := hw95
                    have k101 : r96 = (J_X12_isHands (up2 sm 12 g76) (up2L (up2L tm 10 g51) 11 g75) v74) := congrArg (fun z => z) w99
                    have zr96 : 0 ≤ r96.toInt ∧ r96.toInt ≤ 1 := w97
                    have hJ97 : ∀ (g106 : Nat → Int64) (g107 : Nat → Int32) (H : Heap) (locs : List Loc) (ls : Array Slot), va_P D vwCl [cell22_ qm sm tm, cell5_ k qm sm, cell13_ k qm sm, cell8_ k qm sm, cell6_ k qm sm, cell14_ k qm sm, cell15_ k qm tm, cell12_ k qm tm, cell18_ k qm tm, cell17_ k qm tm, (qm 10, .inl (k 1, 1500, .inr (.inl g51))), (qm 11, .inl (k 1, 1500, .inr (.inl g106))), (qm 12, .inl (k 0, 1500, .inl g107)), cell16_ k qm sm, cell11_ k qm sm, cell10_ k qm sm, cell9_ k qm sm, cell7_ k qm sm] H → va_D A [cell22_ qm sm tm, cell5_ k qm sm, cell13_ k qm sm, cell8_ k qm sm, cell6_ k qm sm, cell14_ k qm sm, cell15_ k qm tm, cell12_ k qm tm, cell18_ k qm tm, cell17_ k qm tm, (qm 10, .inl (k 1, 1500, .inr (.inl g51))), (qm 11, .inl (k 1, 1500, .inr (.inl g106))), (qm 12, .inl (k 0, 1500, .inl g107)), cell16_ k qm sm, cell11_ k qm sm, cell10_ k qm sm, cell9_ k qm sm, cell7_ k qm sm] → va_S A s.heap H locs → lv_has ls 6 [(5, .int v74), (3, .long r60), (2, .int v50), (0, .ref (qm 0)), (1, .int p0)] → W p l e ({ frames := 5, cells := 0, slots := 0, locals := 132 } : Room) s m ([.ref (qm 0), .int p0] : List Value).toArray below meth c H locs 0 0 Q (F0 m 97 ls []) := by
                      intro g106 g107 H locs ls  hP hD hS hl
                      obtain ⟨v108, e108⟩ : ∃ z : Int32, z = v74 + 1 := ⟨_, rfl⟩
                      refine lv_iinc (v := v108) (lv' := [(5, .int v108), (3, .long r60), (2, .int v50), (0, .ref (qm 0)), (1, .int p0)]) hx hb dX12_layBest_97 hl (k := 0) rfl (by rw [e108]; rfl) (by decide) rfl (fun ls hl => ?_)
                      have t108 : v108.toInt = v74.toInt + 1 := by rw [e108]; exact i_add rfl (by decide) (by omega) (by omega)
                      refine lv_goto (tgt := 72) hx hb dX12_layBest_100 (by decide) ?_
                      exact ih72 v108 g106 g107 _ _ _ (by omega) (by first | decide | omega) hP hD hS (lv_sub hl [0, 1, 2, 3, 4] rfl)
                    refine lv_if_eq (tgt := 97) hx hb dX12_layBest_86 (by decide) (fun c109 => ?_) (fun c109 => ?_)
                    · have f109 : r96.toInt = 0 := f_eq rfl (by decide) c109
                      exact hJ97 g75 g76 _ _ _  hP hD hS (lv_sub hl [0, 1, 2, 3, 4] rfl)
                    · have f109 : ¬ r96.toInt = 0 := f_ne rfl (by decide) c109
                      have k109 : (0 ≤ v74.toInt ∧ v74.toInt ≤ 400) := w98 (by omega)
                      refine lv_aload_n hx hb dX12_layBest_89 rfl (lv_at hl 3 rfl) ?_
                      refine lv_iload_n hx hb dX12_layBest_90 rfl (lv_at hl 2 rfl) ?_
                      refine lv_iload hx hb dX12_layBest_91 (lv_at hl 0 rfl) ?_
                      refine lv_lload_n hx hb dX12_layBest_93 rfl (lv_at hl 1 rfl) ?_
                      refine g_vF (w1 := fun (u : (Nat → Int64) × (Nat → Int32)) => [cell22_ qm sm tm, cell5_ k qm sm, cell13_ k qm sm, cell8_ k qm sm, cell6_ k qm sm, cell14_ k qm sm, cell15_ k qm tm, cell12_ k qm tm, cell18_ k qm tm, cell17_ k qm tm, (qm 10, .inl (k 1, 1500, .inr (.inl g51))), cell122_ k qm (u.1), cell123_ k qm (u.2), cell16_ k qm sm, cell11_ k qm sm, cell10_ k qm sm, cell9_ k qm sm, cell7_ k qm sm]) (g_runVF (ws := [cell22_ qm sm tm, cell5_ k qm sm, cell13_ k qm sm, cell8_ k qm sm, cell6_ k qm sm, cell14_ k qm sm, cell15_ k qm tm, cell12_ k qm tm, cell18_ k qm tm, cell17_ k qm tm, (qm 10, .inl (k 1, 1500, .inr (.inl g51))), (qm 11, .inl (k 1, 1500, .inr (.inl g75))), (qm 12, .inl (k 0, 1500, .inl g76)), cell16_ k qm sm, cell11_ k qm sm, cell10_ k qm sm, cell9_ k qm sm, cell7_ k qm sm]) (rest := []) cx hP hD hS [.int v50, .int v74, .long r60] (c_X12_layBestOf l D k b qm (up2 sm 12 g76) (up2L (up2L tm 10 g51) 11 g75) H.size v50 v74 r60 (show 0 ≤ ((sm 2) 0).toInt ∧ ((sm 2) 0).toInt ≤ 5 from by first | decide | omega) (show 0 ≤ ((sm 2) 1).toInt ∧ ((sm 2) 1).toInt ≤ 4 from by first | decide | omega) (show 0 ≤ v50.toInt ∧ v50.toInt ≤ 4 from by first | decide | omega) (show 0 ≤ v74.toInt ∧ v74.toInt ≤ 400 from by first | decide | omega)) gX12_layBest_X12_layBestOf rfl rfl rfl nd_X12_layBestOf ⟨Nat.le_of_ble_eq_true rfl, Nat.le_of_ble_eq_true rfl⟩ (ci := 10) (q0 := 0) rfl rfl rfl hl.1 rfl (Nat.le_of_ble_eq_true rfl) ⟨Nat.zero_le _, Nat.zero_le _⟩ dX12_layBest_94) cx.2.2.1 hD hS (fun u111 H locs hw110 hP hD hS => ?_)
                      obtain ⟨m112, m113⟩ := u111
                      have hP : va_P D vwCl [cell22_ qm sm tm, cell5_ k qm sm, cell13_ k qm sm, cell8_ k qm sm, cell6_ k qm sm, cell14_ k qm sm, cell15_ k qm tm, cell12_ k qm tm, cell18_ k qm tm, cell17_ k qm tm, (qm 10, .inl (k 1, 1500, .inr (.inl g51))), (qm 11, .inl (k 1, 1500, .inr (.inl m112))), (qm 12, .inl (k 0, 1500, .inl m113)), cell16_ k qm sm, cell11_ k qm sm, cell10_ k qm sm, cell9_ k qm sm, cell7_ k qm sm] H := hP
                      have hD : va_D A [cell22_ qm sm tm, cell5_ k qm sm, cell13_ k qm sm, cell8_ k qm sm, cell6_ k qm sm, cell14_ k qm sm, cell15_ k qm tm, cell12_ k qm tm, cell18_ k qm tm, cell17_ k qm tm, (qm 10, .inl (k 1, 1500, .inr (.inl g51))), (qm 11, .inl (k 1, 1500, .inr (.inl m112))), (qm 12, .inl (k 0, 1500, .inl m113)), cell16_ k qm sm, cell11_ k qm sm, cell10_ k qm sm, cell9_ k qm sm, cell7_ k qm sm] := hD
                      exact hJ97 m112 m113 _ _ _  hP hD hS (lv_sub hl [0, 1, 2, 3, 4] rfl)
              have hlit114 : (0 : Int32).toInt = 0 := by decide
              exact hL72 (Int.toNat (500 - 0) + 1) 0 g52 g53 _ _ _ (by omega) (by first | decide | omega) hP hD hS (lv_sub hl [0, 1, 2, 3, 4] rfl)
        exact hL52 (Int.toNat (v25.toInt + 1) + 1) v25 g20 (tm 11) (sm 12) _ _ _ (by omega) (by first | decide | omega) hP hD hS (lv_sub hl [0, 1, 2] rfl)
      · have f22 : v19.toInt < 1500 := f_nle (by decide) rfl c22
        refine lv_aload_n hx hb dX12_layBest_9 rfl (lv_at hl 1 rfl) ?_
        refine g_get cx hP iw_X12_layBest_X12 0 rfl rfl 18 (by decide) rfl fw_X12_layBest_38 rfl dX12_layBest_10 ?_
        refine lv_iload_n hx hb dX12_layBest_13 rfl (lv_at hl 0 rfl) ?_
        refine lv_aload_n hx hb dX12_layBest_14 rfl (lv_at hl 1 rfl) ?_
        refine lv_iload_n hx hb dX12_layBest_15 rfl (lv_at hl 0 rfl) ?_
        refine lv_iconst (v := 3) hx hb dX12_layBest_16 (by decide) ?_
        refine lv_idiv hx hb dX12_layBest_17 (by decide) (lv_topi (fun v115 e115 => ?_))
        have t115 : v115.toInt = v19.toInt / 3 := by rw [e115]; exact i_div rfl (by decide) (by omega) (by omega) (by omega)
        refine g_iF (w1 := fun (_ : Unit) => [cell22_ qm sm tm, cell5_ k qm sm, cell13_ k qm sm, cell8_ k qm sm, cell6_ k qm sm, cell14_ k qm sm, cell15_ k qm tm, cell12_ k qm tm, cell18_ k qm tm, cell17_ k qm tm, (qm 10, .inl (k 1, 1500, .inr (.inl g20))), cell21_ k qm tm, cell20_ k qm sm, cell16_ k qm sm, cell11_ k qm sm, cell10_ k qm sm, cell9_ k qm sm, cell7_ k qm sm]) (g_runVF (ws := [cell22_ qm sm tm, cell5_ k qm sm, cell13_ k qm sm, cell8_ k qm sm, cell6_ k qm sm, cell14_ k qm sm, cell15_ k qm tm, cell12_ k qm tm, cell18_ k qm tm, cell17_ k qm tm, (qm 10, .inl (k 1, 1500, .inr (.inl g20))), cell21_ k qm tm, cell20_ k qm sm, cell16_ k qm sm, cell11_ k qm sm, cell10_ k qm sm, cell9_ k qm sm, cell7_ k qm sm]) (rest := [.int v19, .ref (qm 10)]) cx hP hD hS [.int v115] (c_X12_isHands l D k b qm sm (up2L tm 10 g20) H.size v115 (show 0 ≤ ((sm 2) 1).toInt ∧ ((sm 2) 1).toInt ≤ 4 from by first | decide | omega)) gX12_layBest_X12_isHands rfl rfl rfl nd_X12_isHands ⟨Nat.le_of_ble_eq_true rfl, Nat.le_of_ble_eq_true rfl⟩ (ci := 10) (q0 := 0) rfl rfl rfl hl.1 rfl (Nat.le_of_ble_eq_true rfl) ⟨Nat.zero_le _, Nat.zero_le _⟩ dX12_layBest_18) cx.2.2.1 hD hS (fun r117 _ H locs hw116 hP hD hS => ?_)
        replace hw116 : (0 ≤ r117.toInt ∧ r117.toInt ≤ 1) ∧ (Imp (r117.toInt = 1) (0 ≤ v115.toInt ∧ v115.toInt ≤ 400)) ∧ (r117 = J_X12_isHands sm (up2L tm 10 g20) v115) := hw116
        obtain ⟨w118, w119, w120⟩ := hw116
        have k122 : r117 = (J_X12_isHands sm (up2L tm 10 g20) v115) := congrArg (fun z => z) w120
        have zr117 : 0 ≤ r117.toInt ∧ r117.toInt ≤ 1 := w118
        have hJ36 : ∀ (v130 : Int64) (H : Heap) (locs : List Loc) (ls : Array Slot), va_P D vwCl [cell22_ qm sm tm, cell5_ k qm sm, cell13_ k qm sm, cell8_ k qm sm, cell6_ k qm sm, cell14_ k qm sm, cell15_ k qm tm, cell12_ k qm tm, cell18_ k qm tm, cell17_ k qm tm, (qm 10, .inl (k 1, 1500, .inr (.inl g20))), cell21_ k qm tm, cell20_ k qm sm, cell16_ k qm sm, cell11_ k qm sm, cell10_ k qm sm, cell9_ k qm sm, cell7_ k qm sm] H → va_D A [cell22_ qm sm tm, cell5_ k qm sm, cell13_ k qm sm, cell8_ k qm sm, cell6_ k qm sm, cell14_ k qm sm, cell15_ k qm tm, cell12_ k qm tm, cell18_ k qm tm, cell17_ k qm tm, (qm 10, .inl (k 1, 1500, .inr (.inl g20))), cell21_ k qm tm, cell20_ k qm sm, cell16_ k qm sm, cell11_ k qm sm, cell10_ k qm sm, cell9_ k qm sm, cell7_ k qm sm] → va_S A s.heap H locs → lv_has ls 6 [(2, .int v19), (0, .ref (qm 0)), (1, .int p0)] → W p l e ({ frames := 5, cells := 0, slots := 0, locals := 132 } : Room) s m ([.ref (qm 0), .int p0] : List Value).toArray below meth c H locs 0 0 Q (F0 m 36 ls [.long v130, .int v19, .ref (qm 10)]) := by
          intro v130 H locs ls  hP hD hS hl
          have hn131 : vp_in v19 1500 := f_in (a := v19.toInt) rfl (by omega) (by omega)
          refine va_last hx hb cx.2.1 hP hD hS 10 1 rfl rfl hn131 dX12_layBest_36 (fun H locs hP hD hS => ?_)
          obtain ⟨g132, eg132⟩ : ∃ g : Nat → Int64, g = vp_updL g20 (v19).toNatClampNeg v130 := ⟨_, rfl⟩
          rw [← eg132] at hP hD
          have hP : va_P D vwCl [cell22_ qm sm tm, cell5_ k qm sm, cell13_ k qm sm, cell8_ k qm sm, cell6_ k qm sm, cell14_ k qm sm, cell15_ k qm tm, cell12_ k qm tm, cell18_ k qm tm, cell17_ k qm tm, (qm 10, .inl (k 1, 1500, .inr (.inl g132))), cell21_ k qm tm, cell20_ k qm sm, cell16_ k qm sm, cell11_ k qm sm, cell10_ k qm sm, cell9_ k qm sm, cell7_ k qm sm] H := hP
          have hD : va_D A [cell22_ qm sm tm, cell5_ k qm sm, cell13_ k qm sm, cell8_ k qm sm, cell6_ k qm sm, cell14_ k qm sm, cell15_ k qm tm, cell12_ k qm tm, cell18_ k qm tm, cell17_ k qm tm, (qm 10, .inl (k 1, 1500, .inr (.inl g132))), cell21_ k qm tm, cell20_ k qm sm, cell16_ k qm sm, cell11_ k qm sm, cell10_ k qm sm, cell9_ k qm sm, cell7_ k qm sm] := hD
          obtain ⟨v133, e133⟩ : ∃ z : Int32, z = v19 + 1 := ⟨_, rfl⟩
          refine lv_iinc (v := v133) (lv' := [(2, .int v133), (0, .ref (qm 0)), (1, .int p0)]) hx hb dX12_layBest_37 hl (k := 0) rfl (by rw [e133]; rfl) (by decide) rfl (fun ls hl => ?_)
          have t133 : v133.toInt = v19.toInt + 1 := by rw [e133]; exact i_add rfl (by decide) (by omega) (by omega)
          refine lv_goto (tgt := 2) hx hb dX12_layBest_40 (by decide) ?_
          exact ih2 v133 g132 _ _ _ (by omega) (by first | decide | omega) hP hD hS (lv_sub hl [0, 1, 2] rfl)
        refine lv_if_eq (tgt := 35) hx hb dX12_layBest_21 (by decide) (fun c134 => ?_) (fun c134 => ?_)
        · have f134 : r117.toInt = 0 := f_eq rfl (by decide) c134
          refine lv_lconst (v := 0) hx hb dX12_layBest_35 (by decide) ?_
          have hlit135 : (0 : Int32).toInt = 0 := by decide
          exact hJ36 0 _ _ _  hP hD hS (lv_sub hl [0, 1, 2] rfl)
        · have f134 : ¬ r117.toInt = 0 := f_ne rfl (by decide) c134
          have k134 : (0 ≤ v115.toInt ∧ v115.toInt ≤ 400) := w119 (by omega)
          refine lv_aload_n hx hb dX12_layBest_24 rfl (lv_at hl 1 rfl) ?_
          refine lv_iload_n hx hb dX12_layBest_25 rfl (lv_at hl 0 rfl) ?_
          refine lv_iconst (v := 3) hx hb dX12_layBest_26 (by decide) ?_
          refine lv_idiv hx hb dX12_layBest_27 (by decide) (lv_topi (fun v136 e136 => ?_))
          have t136 : v136.toInt = v19.toInt / 3 := by rw [e136]; exact i_div rfl (by decide) (by omega) (by omega) (by omega)
          refine g_iF (w1 := fun (_ : Unit) => [cell22_ qm sm tm, cell5_ k qm sm, cell13_ k qm sm, cell8_ k qm sm, cell6_ k qm sm, cell14_ k qm sm, cell15_ k qm tm, cell12_ k qm tm, cell18_ k qm tm, cell17_ k qm tm, (qm 10, .inl (k 1, 1500, .inr (.inl g20))), cell21_ k qm tm, cell20_ k qm sm, cell16_ k qm sm, cell11_ k qm sm, cell10_ k qm sm, cell9_ k qm sm, cell7_ k qm sm]) (g_runVF (ws := [cell22_ qm sm tm, cell5_ k qm sm, cell13_ k qm sm, cell8_ k qm sm, cell6_ k qm sm, cell14_ k qm sm, cell15_ k qm tm, cell12_ k qm tm, cell18_ k qm tm, cell17_ k qm tm, (qm 10, .inl (k 1, 1500, .inr (.inl g20))), cell21_ k qm tm, cell20_ k qm sm, cell16_ k qm sm, cell11_ k qm sm, cell10_ k qm sm, cell9_ k qm sm, cell7_ k qm sm]) (rest := [.int v19, .ref (qm 10)]) cx hP hD hS [.int v136] (c_X12_bonus l D k b qm sm (up2L tm 10 g20) H.size v136) gX12_layBest_X12_bonus rfl rfl rfl nd_X12_bonus ⟨Nat.le_of_ble_eq_true rfl, Nat.le_of_ble_eq_true rfl⟩ (ci := 10) (q0 := 0) rfl rfl rfl hl.1 rfl (Nat.le_of_ble_eq_true rfl) ⟨Nat.zero_le _, Nat.zero_le _⟩ dX12_layBest_28) cx.2.2.1 hD hS (fun r138 _ H locs hw137 hP hD hS => ?_)
          have w139 : r138 = J_X12_bonus sm (up2L tm 10 g20) v136 := hw137
          clear hw137
          have k141 : r138 = (J_X12_bonus sm (up2L tm 10 g20) v136) := congrArg (fun z => z) w139
          obtain ⟨v142, e142⟩ : ∃ z : Int64, z = (r138 : Int32).toInt64 := ⟨_, rfl⟩
          refine lv_i2l (v := v142) hx hb dX12_layBest_31 e142.symm ?_
          refine lv_goto (tgt := 36) hx hb dX12_layBest_32 (by decide) ?_
          exact hJ36 v142 _ _ _  hP hD hS (lv_sub hl [0, 1, 2] rfl)
  have hlit143 : (0 : Int32).toInt = 0 := by decide
  exact hL2 (Int.toNat (1500 - 0) + 1) 0 (tm 10) _ _ _ (by omega) (by first | decide | omega) hP hD hS (lv_sub hl [0, 1, 2] rfl)
