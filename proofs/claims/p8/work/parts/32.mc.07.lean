theorem fw_X12_after_13 : Cond.fieldLink RX12 13 "StillInAugustModel" "house" "[I" ∈ wsX12_after := by decide +kernel
theorem nd_X12_fewer : yX12_fewer.cls ≠ "java/lang/invoke/MethodHandle" ∧ yX12_fewer.cls ≠ "java/lang/invoke/VarHandle" ∧ (parseMethodDescriptor yX12_fewer.desc).map (fun d => d.parameters.length) = some 2 := by decide +kernel
theorem iw_X12_after_X12 : ∀ w ∈ u_ws RX12 TX12 33, w ∈ wsX12_after := fun _ h => List.mem_cons_of_mem _ (List.mem_append_right _ h)
def J_X12_after (sm : Nat → Nat → Int32) (tm : Nat → Nat → Int64) (p0 : Int32) (p1 : Int32) (p2 : Int32) : Int32 := if 10000 ≤ p2 then ((-9) : Int32) else if (J_X12_all p1) < (p2 / (1000 : Int32)) then ((-9) : Int32) else if ((sm 2) (((15 : Int32) + p0)).toNatClampNeg) < ((p2 / (100 : Int32)) - (p2 / (100 : Int32)) / (10 : Int32) * (10 : Int32)) then ((-9) : Int32) else if 2 ≤ ((p2 / (10 : Int32)) - (p2 / (10 : Int32)) / (10 : Int32) * (10 : Int32)) then ((-9) : Int32) else if 3 ≤ (p2 - p2 / (10 : Int32) * (10 : Int32)) then ((-9) : Int32) else if (p2 / (1000 : Int32)) = 0 then if ((p2 / (10 : Int32)) - (p2 / (10 : Int32)) / (10 : Int32) * (10 : Int32)) = 0 then if (p2 - p2 / (10 : Int32) * (10 : Int32)) = 0 then if ((sm 2) (1 : Int32).toNatClampNeg) < (J_X12_all (((J_X12_fewer p1 (p2 / (1000 : Int32))) + ((100 : Int32) * ((p2 / (100 : Int32)) - (p2 / (100 : Int32)) / (10 : Int32) * (10 : Int32)))))) then ((-9) : Int32) else ((J_X12_fewer p1 (p2 / (1000 : Int32))) + ((100 : Int32) * ((p2 / (100 : Int32)) - (p2 / (100 : Int32)) / (10 : Int32) * (10 : Int32)))) else if ((sm 2) (6 : Int32).toNatClampNeg) = (-9) then ((-9) : Int32) else if (((sm 2) (0 : Int32).toNatClampNeg) - (1 : Int32)) ≤ p0 then ((-9) : Int32) else if ((sm 2) (1 : Int32).toNatClampNeg) < (J_X12_all (((J_X12_fewer p1 (p2 / (1000 : Int32))) + ((100 : Int32) * ((p2 / (100 : Int32)) - (p2 / (100 : Int32)) / (10 : Int32) * (10 : Int32)))))) then ((-9) : Int32) else ((J_X12_fewer p1 (p2 / (1000 : Int32))) + ((100 : Int32) * ((p2 / (100 : Int32)) - (p2 / (100 : Int32)) / (10 : Int32) * (10 : Int32)))) else if ((sm 2) (5 : Int32).toNatClampNeg) = (-9) then ((-9) : Int32) else if (p2 - p2 / (10 : Int32) * (10 : Int32)) = 0 then if ((sm 2) (1 : Int32).toNatClampNeg) < (J_X12_all (((J_X12_fewer p1 (p2 / (1000 : Int32))) + ((100 : Int32) * ((p2 / (100 : Int32)) - (p2 / (100 : Int32)) / (10 : Int32) * (10 : Int32)))))) then ((-9) : Int32) else if ((p2 / (10 : Int32)) - (p2 / (10 : Int32)) / (10 : Int32) * (10 : Int32)) = 1 then if (((J_X12_fewer p1 (p2 / (1000 : Int32))) + ((100 : Int32) * ((p2 / (100 : Int32)) - (p2 / (100 : Int32)) / (10 : Int32) * (10 : Int32)))) / (100 : Int32)) = 0 then ((-9) : Int32) else if (((J_X12_fewer p1 (p2 / (1000 : Int32))) + ((100 : Int32) * ((p2 / (100 : Int32)) - (p2 / (100 : Int32)) / (10 : Int32) * (10 : Int32)))) - ((J_X12_fewer p1 (p2 / (1000 : Int32))) + ((100 : Int32) * ((p2 / (100 : Int32)) - (p2 / (100 : Int32)) / (10 : Int32) * (10 : Int32)))) / (10 : Int32) * (10 : Int32)) = 0 then ((-9) : Int32) else (((J_X12_fewer p1 (p2 / (1000 : Int32))) + ((100 : Int32) * ((p2 / (100 : Int32)) - (p2 / (100 : Int32)) / (10 : Int32) * (10 : Int32)))) - (90 : Int32)) else if ((p2 / (10 : Int32)) - (p2 / (10 : Int32)) / (10 : Int32) * (10 : Int32)) = 1 then (((J_X12_fewer p1 (p2 / (1000 : Int32))) + ((100 : Int32) * ((p2 / (100 : Int32)) - (p2 / (100 : Int32)) / (10 : Int32) * (10 : Int32)))) - (90 : Int32)) else ((J_X12_fewer p1 (p2 / (1000 : Int32))) + ((100 : Int32) * ((p2 / (100 : Int32)) - (p2 / (100 : Int32)) / (10 : Int32) * (10 : Int32)))) else if ((sm 2) (6 : Int32).toNatClampNeg) = (-9) then ((-9) : Int32) else if (((sm 2) (0 : Int32).toNatClampNeg) - (1 : Int32)) ≤ p0 then ((-9) : Int32) else if ((sm 2) (1 : Int32).toNatClampNeg) < (J_X12_all (((J_X12_fewer p1 (p2 / (1000 : Int32))) + ((100 : Int32) * ((p2 / (100 : Int32)) - (p2 / (100 : Int32)) / (10 : Int32) * (10 : Int32)))))) then ((-9) : Int32) else if ((p2 / (10 : Int32)) - (p2 / (10 : Int32)) / (10 : Int32) * (10 : Int32)) = 1 then if (((J_X12_fewer p1 (p2 / (1000 : Int32))) + ((100 : Int32) * ((p2 / (100 : Int32)) - (p2 / (100 : Int32)) / (10 : Int32) * (10 : Int32)))) / (100 : Int32)) = 0 then ((-9) : Int32) else if (((J_X12_fewer p1 (p2 / (1000 : Int32))) + ((100 : Int32) * ((p2 / (100 : Int32)) - (p2 / (100 : Int32)) / (10 : Int32) * (10 : Int32)))) - ((J_X12_fewer p1 (p2 / (1000 : Int32))) + ((100 : Int32) * ((p2 / (100 : Int32)) - (p2 / (100 : Int32)) / (10 : Int32) * (10 : Int32)))) / (10 : Int32) * (10 : Int32)) = 0 then ((-9) : Int32) else (((J_X12_fewer p1 (p2 / (1000 : Int32))) + ((100 : Int32) * ((p2 / (100 : Int32)) - (p2 / (100 : Int32)) / (10 : Int32) * (10 : Int32)))) - (90 : Int32)) else if ((p2 / (10 : Int32)) - (p2 / (10 : Int32)) / (10 : Int32) * (10 : Int32)) = 1 then (((J_X12_fewer p1 (p2 / (1000 : Int32))) + ((100 : Int32) * ((p2 / (100 : Int32)) - (p2 / (100 : Int32)) / (10 : Int32) * (10 : Int32)))) - (90 : Int32)) else ((J_X12_fewer p1 (p2 / (1000 : Int32))) + ((100 : Int32) * ((p2 / (100 : Int32)) - (p2 / (100 : Int32)) / (10 : Int32) * (10 : Int32)))) else if ((sm 2) (4 : Int32).toNatClampNeg) = (-9) then ((-9) : Int32) else if ((p2 / (10 : Int32)) - (p2 / (10 : Int32)) / (10 : Int32) * (10 : Int32)) = 0 then if (p2 - p2 / (10 : Int32) * (10 : Int32)) = 0 then if ((sm 2) (1 : Int32).toNatClampNeg) < (J_X12_all (((J_X12_fewer p1 (p2 / (1000 : Int32))) + ((100 : Int32) * ((p2 / (100 : Int32)) - (p2 / (100 : Int32)) / (10 : Int32) * (10 : Int32)))))) then ((-9) : Int32) else ((J_X12_fewer p1 (p2 / (1000 : Int32))) + ((100 : Int32) * ((p2 / (100 : Int32)) - (p2 / (100 : Int32)) / (10 : Int32) * (10 : Int32)))) else if ((sm 2) (6 : Int32).toNatClampNeg) = (-9) then ((-9) : Int32) else if (((sm 2) (0 : Int32).toNatClampNeg) - (1 : Int32)) ≤ p0 then ((-9) : Int32) else if ((sm 2) (1 : Int32).toNatClampNeg) < (J_X12_all (((J_X12_fewer p1 (p2 / (1000 : Int32))) + ((100 : Int32) * ((p2 / (100 : Int32)) - (p2 / (100 : Int32)) / (10 : Int32) * (10 : Int32)))))) then ((-9) : Int32) else ((J_X12_fewer p1 (p2 / (1000 : Int32))) + ((100 : Int32) * ((p2 / (100 : Int32)) - (p2 / (100 : Int32)) / (10 : Int32) * (10 : Int32)))) else if ((sm 2) (5 : Int32).toNatClampNeg) = (-9) then ((-9) : Int32) else if (p2 - p2 / (10 : Int32) * (10 : Int32)) = 0 then if ((sm 2) (1 : Int32).toNatClampNeg) < (J_X12_all (((J_X12_fewer p1 (p2 / (1000 : Int32))) + ((100 : Int32) * ((p2 / (100 : Int32)) - (p2 / (100 : Int32)) / (10 : Int32) * (10 : Int32)))))) then ((-9) : Int32) else if ((p2 / (10 : Int32)) - (p2 / (10 : Int32)) / (10 : Int32) * (10 : Int32)) = 1 then if (((J_X12_fewer p1 (p2 / (1000 : Int32))) + ((100 : Int32) * ((p2 / (100 : Int32)) - (p2 / (100 : Int32)) / (10 : Int32) * (10 : Int32)))) / (100 : Int32)) = 0 then ((-9) : Int32) else if (((J_X12_fewer p1 (p2 / (1000 : Int32))) + ((100 : Int32) * ((p2 / (100 : Int32)) - (p2 / (100 : Int32)) / (10 : Int32) * (10 : Int32)))) - ((J_X12_fewer p1 (p2 / (1000 : Int32))) + ((100 : Int32) * ((p2 / (100 : Int32)) - (p2 / (100 : Int32)) / (10 : Int32) * (10 : Int32)))) / (10 : Int32) * (10 : Int32)) = 0 then ((-9) : Int32) else (((J_X12_fewer p1 (p2 / (1000 : Int32))) + ((100 : Int32) * ((p2 / (100 : Int32)) - (p2 / (100 : Int32)) / (10 : Int32) * (10 : Int32)))) - (90 : Int32)) else if ((p2 / (10 : Int32)) - (p2 / (10 : Int32)) / (10 : Int32) * (10 : Int32)) = 1 then (((J_X12_fewer p1 (p2 / (1000 : Int32))) + ((100 : Int32) * ((p2 / (100 : Int32)) - (p2 / (100 : Int32)) / (10 : Int32) * (10 : Int32)))) - (90 : Int32)) else ((J_X12_fewer p1 (p2 / (1000 : Int32))) + ((100 : Int32) * ((p2 / (100 : Int32)) - (p2 / (100 : Int32)) / (10 : Int32) * (10 : Int32)))) else if ((sm 2) (6 : Int32).toNatClampNeg) = (-9) then ((-9) : Int32) else if (((sm 2) (0 : Int32).toNatClampNeg) - (1 : Int32)) ≤ p0 then ((-9) : Int32) else if ((sm 2) (1 : Int32).toNatClampNeg) < (J_X12_all (((J_X12_fewer p1 (p2 / (1000 : Int32))) + ((100 : Int32) * ((p2 / (100 : Int32)) - (p2 / (100 : Int32)) / (10 : Int32) * (10 : Int32)))))) then ((-9) : Int32) else if ((p2 / (10 : Int32)) - (p2 / (10 : Int32)) / (10 : Int32) * (10 : Int32)) = 1 then if (((J_X12_fewer p1 (p2 / (1000 : Int32))) + ((100 : Int32) * ((p2 / (100 : Int32)) - (p2 / (100 : Int32)) / (10 : Int32) * (10 : Int32)))) / (100 : Int32)) = 0 then ((-9) : Int32) else if (((J_X12_fewer p1 (p2 / (1000 : Int32))) + ((100 : Int32) * ((p2 / (100 : Int32)) - (p2 / (100 : Int32)) / (10 : Int32) * (10 : Int32)))) - ((J_X12_fewer p1 (p2 / (1000 : Int32))) + ((100 : Int32) * ((p2 / (100 : Int32)) - (p2 / (100 : Int32)) / (10 : Int32) * (10 : Int32)))) / (10 : Int32) * (10 : Int32)) = 0 then ((-9) : Int32) else (((J_X12_fewer p1 (p2 / (1000 : Int32))) + ((100 : Int32) * ((p2 / (100 : Int32)) - (p2 / (100 : Int32)) / (10 : Int32) * (10 : Int32)))) - (90 : Int32)) else if ((p2 / (10 : Int32)) - (p2 / (10 : Int32)) / (10 : Int32) * (10 : Int32)) = 1 then (((J_X12_fewer p1 (p2 / (1000 : Int32))) + ((100 : Int32) * ((p2 / (100 : Int32)) - (p2 / (100 : Int32)) / (10 : Int32) * (10 : Int32)))) - (90 : Int32)) else ((J_X12_fewer p1 (p2 / (1000 : Int32))) + ((100 : Int32) * ((p2 / (100 : Int32)) - (p2 / (100 : Int32)) / (10 : Int32) * (10 : Int32))))
set_option maxHeartbeats 4000000 in
set_option maxRecDepth 100000 in
theorem c_X12_after (l : Launch) (D : va_G) (k : Nat → ClassId) (b : Nat → Nat) (qm : Nat → Nat) (sm : Nat → Nat → Int32) (tm : Nat → Nat → Int64) (sz : Nat) (p0 : Int32) (p1 : Int32) (p2 : Int32) (h_w0 : 0 ≤ (sm 2 0).toInt ∧ (sm 2 0).toInt ≤ 5) (hp0 : 0 ≤ p0.toInt ∧ p0.toInt ≤ 4) : MetI l D k b yX12_after wsX12_after ({ frames := 1, cells := 0, slots := 0, locals := 26 } : Room) [cell22_ qm sm tm, cell5_ k qm sm, cell13_ k qm sm, cell8_ k qm sm, cell6_ k qm sm, cell14_ k qm sm, cell15_ k qm tm, cell12_ k qm tm, cell18_ k qm tm, cell17_ k qm tm, cell19_ k qm tm, cell21_ k qm tm, cell20_ k qm sm, cell16_ k qm sm, cell11_ k qm sm, cell10_ k qm sm, cell9_ k qm sm, cell7_ k qm sm] sz [.ref (qm 0), .int p0, .int p1, .int p2] (fun (r : Int32) (u : Unit) => r = J_X12_after sm tm p0 p1 p2) (fun u => [cell22_ qm sm tm, cell5_ k qm sm, cell13_ k qm sm, cell8_ k qm sm, cell6_ k qm sm, cell14_ k qm sm, cell15_ k qm tm, cell12_ k qm tm, cell18_ k qm tm, cell17_ k qm tm, cell19_ k qm tm, cell21_ k qm tm, cell20_ k qm sm, cell16_ k qm sm, cell11_ k qm sm, cell10_ k qm sm, cell9_ k qm sm, cell7_ k qm sm]) := by
  refine g_enter (cc := cX12_after) (maxL := 10) (ret := (some .int)) (by decide) rfl (Nat.le_of_ble_eq_true rfl) ?_
  intro p e s m below meth c A hsz hAe cx hr hP hD hS ls hl
  rw [hAe]
  refine g_q (fun Q hQ => ?_)
  have hx := cx.1.1
  have hb := cx.1.2.1
  have bp0 := i_rng p0
  have bp1 := i_rng p1
  have bp2 := i_rng p2
  have hl : lv_has ls 10 [(0, .ref (qm 0)), (1, .int p0), (2, .int p1), (3, .int p2)] := hl
  obtain ⟨H, eH⟩ : ∃ H : Heap, H = s.heap := ⟨_, rfl⟩
  obtain ⟨locs, el⟩ : ∃ L : List Loc, L = [] := ⟨_, rfl⟩
  have hP : va_P D vwCl [cell22_ qm sm tm, cell5_ k qm sm, cell13_ k qm sm, cell8_ k qm sm, cell6_ k qm sm, cell14_ k qm sm, cell15_ k qm tm, cell12_ k qm tm, cell18_ k qm tm, cell17_ k qm tm, cell19_ k qm tm, cell21_ k qm tm, cell20_ k qm sm, cell16_ k qm sm, cell11_ k qm sm, cell10_ k qm sm, cell9_ k qm sm, cell7_ k qm sm] H := by rw [eH]; exact hP
  have hD : va_D A [cell22_ qm sm tm, cell5_ k qm sm, cell13_ k qm sm, cell8_ k qm sm, cell6_ k qm sm, cell14_ k qm sm, cell15_ k qm tm, cell12_ k qm tm, cell18_ k qm tm, cell17_ k qm tm, cell19_ k qm tm, cell21_ k qm tm, cell20_ k qm sm, cell16_ k qm sm, cell11_ k qm sm, cell10_ k qm sm, cell9_ k qm sm, cell7_ k qm sm] := hD
  have hS : va_S A s.heap H locs := by rw [eH, el]; exact hS
  suffices goal : W p l e ({ frames := 1, cells := 0, slots := 0, locals := 26 } : Room) s m ([.ref (qm 0), .int p0, .int p1, .int p2] : List Value).toArray below meth c H locs 0 0 Q (F0 m 0 ls []) by rw [eH, el] at goal; exact goal
  refine lv_iload_n hx hb dX12_after_0 rfl (lv_at hl 3 rfl) ?_
  refine lv_sipush (v := 1000) hx hb dX12_after_1 (by decide) ?_
  refine lv_idiv hx hb dX12_after_4 (by decide) (lv_topi (fun v1 e1 => ?_))
  refine lv_istore (lv' := [(4, .int v1), (0, .ref (qm 0)), (1, .int p0), (2, .int p1), (3, .int p2)]) hx hb dX12_after_5 hl (by decide) rfl (fun ls hl => ?_)
  refine lv_iload_n hx hb dX12_after_7 rfl (lv_at hl 4 rfl) ?_
  refine lv_bipush (v := 100) hx hb dX12_after_8 (by decide) ?_
  refine lv_idiv hx hb dX12_after_10 (by decide) (lv_topi (fun v2 e2 => ?_))
  refine lv_bipush (v := 10) hx hb dX12_after_11 (by decide) ?_
  refine lv_irem hx hb dX12_after_13 (by decide) (lv_topi (fun v3 e3 => ?_))
  have t3 : -10 < v3.toInt ∧ v3.toInt < 10 := by rw [e3]; exact i_remb (by decide) (by decide)
  refine lv_istore (lv' := [(5, .int v3), (4, .int v1), (0, .ref (qm 0)), (1, .int p0), (2, .int p1), (3, .int p2)]) hx hb dX12_after_14 hl (by decide) rfl (fun ls hl => ?_)
  refine lv_iload_n hx hb dX12_after_16 rfl (lv_at hl 5 rfl) ?_
  refine lv_bipush (v := 10) hx hb dX12_after_17 (by decide) ?_
  refine lv_idiv hx hb dX12_after_19 (by decide) (lv_topi (fun v4 e4 => ?_))
  refine lv_bipush (v := 10) hx hb dX12_after_20 (by decide) ?_
  refine lv_irem hx hb dX12_after_22 (by decide) (lv_topi (fun v5 e5 => ?_))
  have t5 : -10 < v5.toInt ∧ v5.toInt < 10 := by rw [e5]; exact i_remb (by decide) (by decide)
  refine lv_istore (lv' := [(6, .int v5), (5, .int v3), (4, .int v1), (0, .ref (qm 0)), (1, .int p0), (2, .int p1), (3, .int p2)]) hx hb dX12_after_23 hl (by decide) rfl (fun ls hl => ?_)
  refine lv_iload_n hx hb dX12_after_25 rfl (lv_at hl 6 rfl) ?_
  refine lv_bipush (v := 10) hx hb dX12_after_26 (by decide) ?_
  refine lv_irem hx hb dX12_after_28 (by decide) (lv_topi (fun v6 e6 => ?_))
  have t6 : -10 < v6.toInt ∧ v6.toInt < 10 := by rw [e6]; exact i_remb (by decide) (by decide)
  refine lv_istore (lv' := [(7, .int v6), (6, .int v5), (5, .int v3), (4, .int v1), (0, .ref (qm 0)), (1, .int p0), (2, .int p1), (3, .int p2)]) hx hb dX12_after_29 hl (by decide) rfl (fun ls hl => ?_)
  refine lv_iload_n hx hb dX12_after_31 rfl (lv_at hl 7 rfl) ?_
  refine lv_sipush (v := 10000) hx hb dX12_after_32 (by decide) ?_
  refine lv_icmp_ge (tgt := 77) hx hb dX12_after_35 (by decide) (fun c7 => ?_) (fun c7 => ?_)
  · have f7 : 10000 ≤ p2.toInt := f_le (by decide) rfl c7
    refine lv_iconst (v := 0) hx hb dX12_after_77 (by decide) ?_
    refine lv_istore (lv' := [(8, .int 0), (7, .int v6), (6, .int v5), (5, .int v3), (4, .int v1), (0, .ref (qm 0)), (1, .int p0), (2, .int p1), (3, .int p2)]) hx hb dX12_after_78 hl (by decide) rfl (fun ls hl => ?_)
    refine lv_iload hx hb dX12_after_80 (lv_at hl 0 rfl) ?_
    refine lv_if_eq (tgt := 150) hx hb dX12_after_82 (by decide) (fun c8 => ?_) (fun c8 => ?_)
    · refine lv_iconst (v := 0) hx hb dX12_after_150 (by decide) ?_
      refine lv_istore (lv' := [(8, .int 0), (7, .int v6), (6, .int v5), (5, .int v3), (4, .int v1), (0, .ref (qm 0)), (1, .int p0), (2, .int p1), (3, .int p2)]) hx hb dX12_after_151 hl (by decide) rfl (fun ls hl => ?_)
      refine lv_iload hx hb dX12_after_153 (lv_at hl 0 rfl) ?_
      refine lv_if_ne (tgt := 161) hx hb dX12_after_155 (by decide) (fun c9 => ?_) (fun c9 => ?_)
      · exact absurd c9 (by decide)
      · refine lv_bipush (v := (-9)) hx hb dX12_after_158 (by decide) ?_
        have hlit10 : ((-9) : Int32).toInt = -9 := by decide
        rw [hQ]
        exact x_i cx hr () hP hD hS (show ((-9) : Int32) = J_X12_after sm tm p0 p1 p2 from by subst e1 e2 e3 e4 e5 e6; first | (refine Eq.symm ?_; refine Eq.trans (if_pos c7) ?_; rfl) | (unfold J_X12_after; try dsimp only; rw [if_pos c7])) dX12_after_160
    · exact absurd c8 (by decide)
  · have f7 : p2.toInt < 10000 := f_nle (by decide) rfl c7
    refine lv_iload hx hb dX12_after_38 (lv_at hl 3 rfl) ?_
    refine lv_iload_n hx hb dX12_after_40 rfl (lv_at hl 6 rfl) ?_
    refine g_ir (g_runS (wc := []) (rest := [.int v1]) cx hP hD hS [] rfl (by decide) [.int p1] (c_X12_all l D k b H.size p1) gX12_after_X12_all rfl rfl rfl nd_X12_all ⟨Nat.le_of_ble_eq_true rfl, Nat.le_of_ble_eq_true rfl⟩ rfl hl.1 rfl (Nat.le_of_ble_eq_true rfl) ⟨Nat.zero_le _, Nat.zero_le _⟩ dX12_after_41) cx.2.2.1 hP hD hS [] rfl rfl (fun r12 H locs hw11 hP hS => ?_)
    have w13 : r12 = J_X12_all p1 := hw11
    clear hw11
    refine lv_icmp_gt (tgt := 77) hx hb dX12_after_44 (by decide) (fun c14 => ?_) (fun c14 => ?_)
    · have f14 : r12.toInt < v1.toInt := f_lt rfl rfl c14
      refine lv_iconst (v := 0) hx hb dX12_after_77 (by decide) ?_
      refine lv_istore (lv' := [(8, .int 0), (7, .int v6), (6, .int v5), (5, .int v3), (4, .int v1), (0, .ref (qm 0)), (1, .int p0), (2, .int p1), (3, .int p2)]) hx hb dX12_after_78 hl (by decide) rfl (fun ls hl => ?_)
      refine lv_iload hx hb dX12_after_80 (lv_at hl 0 rfl) ?_
      refine lv_if_eq (tgt := 150) hx hb dX12_after_82 (by decide) (fun c15 => ?_) (fun c15 => ?_)
      · refine lv_iconst (v := 0) hx hb dX12_after_150 (by decide) ?_
        refine lv_istore (lv' := [(8, .int 0), (7, .int v6), (6, .int v5), (5, .int v3), (4, .int v1), (0, .ref (qm 0)), (1, .int p0), (2, .int p1), (3, .int p2)]) hx hb dX12_after_151 hl (by decide) rfl (fun ls hl => ?_)
        refine lv_iload hx hb dX12_after_153 (lv_at hl 0 rfl) ?_
        refine lv_if_ne (tgt := 161) hx hb dX12_after_155 (by decide) (fun c16 => ?_) (fun c16 => ?_)
        · exact absurd c16 (by decide)
        · refine lv_bipush (v := (-9)) hx hb dX12_after_158 (by decide) ?_
          have hlit17 : ((-9) : Int32).toInt = -9 := by decide
          rw [hQ]
          exact x_i cx hr () hP hD hS (show ((-9) : Int32) = J_X12_after sm tm p0 p1 p2 from by subst e1 e2 e3 e4 e5 e6 w13; first | (refine Eq.symm ?_; refine Eq.trans (if_neg c7) ?_; refine Eq.trans (if_pos c14) ?_; rfl) | (unfold J_X12_after; try dsimp only; rw [if_neg c7, if_pos c14])) dX12_after_160
      · exact absurd c15 (by decide)
    · have f14 : v1.toInt ≤ r12.toInt := f_nlt rfl rfl c14
      refine lv_iload hx hb dX12_after_47 (lv_at hl 2 rfl) ?_
      refine lv_aload_n hx hb dX12_after_49 rfl (lv_at hl 4 rfl) ?_
      refine g_get cx hP iw_X12_after_X12 0 rfl rfl 1 (by decide) rfl fw_X12_after_13 rfl dX12_after_50 ?_
      refine lv_bipush (v := 15) hx hb dX12_after_53 (by decide) ?_
      refine lv_iload_n hx hb dX12_after_55 rfl (lv_at hl 5 rfl) ?_
      refine lv_iadd hx hb dX12_after_56 (lv_topi (fun v18 e18 => ?_))
      have t18 : v18.toInt = 15 + p0.toInt := by rw [e18]; exact i_add (by decide) rfl (by omega) (by omega)
      have hn19 : vp_in v18 26 := f_in (a := v18.toInt) rfl (by omega) (by omega)
      refine va_iald hx hb cx.2.1 hP 2 0 rfl rfl hn19 dX12_after_57 (lv_topi (fun v20 e20 => ?_))
      refine lv_icmp_gt (tgt := 77) hx hb dX12_after_58 (by decide) (fun c21 => ?_) (fun c21 => ?_)
      · have f21 : v20.toInt < v3.toInt := f_lt rfl rfl c21
        refine lv_iconst (v := 0) hx hb dX12_after_77 (by decide) ?_
        refine lv_istore (lv' := [(8, .int 0), (7, .int v6), (6, .int v5), (5, .int v3), (4, .int v1), (0, .ref (qm 0)), (1, .int p0), (2, .int p1), (3, .int p2)]) hx hb dX12_after_78 hl (by decide) rfl (fun ls hl => ?_)
        refine lv_iload hx hb dX12_after_80 (lv_at hl 0 rfl) ?_
        refine lv_if_eq (tgt := 150) hx hb dX12_after_82 (by decide) (fun c22 => ?_) (fun c22 => ?_)
        · refine lv_iconst (v := 0) hx hb dX12_after_150 (by decide) ?_
          refine lv_istore (lv' := [(8, .int 0), (7, .int v6), (6, .int v5), (5, .int v3), (4, .int v1), (0, .ref (qm 0)), (1, .int p0), (2, .int p1), (3, .int p2)]) hx hb dX12_after_151 hl (by decide) rfl (fun ls hl => ?_)
          refine lv_iload hx hb dX12_after_153 (lv_at hl 0 rfl) ?_
          refine lv_if_ne (tgt := 161) hx hb dX12_after_155 (by decide) (fun c23 => ?_) (fun c23 => ?_)
          · exact absurd c23 (by decide)
          · refine lv_bipush (v := (-9)) hx hb dX12_after_158 (by decide) ?_
            have hlit24 : ((-9) : Int32).toInt = -9 := by decide
            rw [hQ]
            exact x_i cx hr () hP hD hS (show ((-9) : Int32) = J_X12_after sm tm p0 p1 p2 from by subst e1 e2 e3 e4 e5 e6 w13 e18 e20; first | (refine Eq.symm ?_; refine Eq.trans (if_neg c7) ?_; refine Eq.trans (if_neg c14) ?_; refine Eq.trans (if_pos c21) ?_; rfl) | (unfold J_X12_after; try dsimp only; rw [if_neg c7, if_neg c14, if_pos c21])) dX12_after_160
        · exact absurd c22 (by decide)
      · have f21 : v3.toInt ≤ v20.toInt := f_nlt rfl rfl c21
        refine lv_iload hx hb dX12_after_61 (lv_at hl 1 rfl) ?_
        refine lv_iconst (v := 2) hx hb dX12_after_63 (by decide) ?_
        refine lv_icmp_ge (tgt := 77) hx hb dX12_after_64 (by decide) (fun c25 => ?_) (fun c25 => ?_)
        · have f25 : 2 ≤ v5.toInt := f_le (by decide) rfl c25
          refine lv_iconst (v := 0) hx hb dX12_after_77 (by decide) ?_
          refine lv_istore (lv' := [(8, .int 0), (7, .int v6), (6, .int v5), (5, .int v3), (4, .int v1), (0, .ref (qm 0)), (1, .int p0), (2, .int p1), (3, .int p2)]) hx hb dX12_after_78 hl (by decide) rfl (fun ls hl => ?_)
          refine lv_iload hx hb dX12_after_80 (lv_at hl 0 rfl) ?_
          refine lv_if_eq (tgt := 150) hx hb dX12_after_82 (by decide) (fun c26 => ?_) (fun c26 => ?_)
          · refine lv_iconst (v := 0) hx hb dX12_after_150 (by decide) ?_
            refine lv_istore (lv' := [(8, .int 0), (7, .int v6), (6, .int v5), (5, .int v3), (4, .int v1), (0, .ref (qm 0)), (1, .int p0), (2, .int p1), (3, .int p2)]) hx hb dX12_after_151 hl (by decide) rfl (fun ls hl => ?_)
            refine lv_iload hx hb dX12_after_153 (lv_at hl 0 rfl) ?_
            refine lv_if_ne (tgt := 161) hx hb dX12_after_155 (by decide) (fun c27 => ?_) (fun c27 => ?_)
            · exact absurd c27 (by decide)
            · refine lv_bipush (v := (-9)) hx hb dX12_after_158 (by decide) ?_
              have hlit28 : ((-9) : Int32).toInt = -9 := by decide
              rw [hQ]
              exact x_i cx hr () hP hD hS (show ((-9) : Int32) = J_X12_after sm tm p0 p1 p2 from by subst e1 e2 e3 e4 e5 e6 w13 e18 e20; first | (refine Eq.symm ?_; refine Eq.trans (if_neg c7) ?_; refine Eq.trans (if_neg c14) ?_; refine Eq.trans (if_neg c21) ?_; refine Eq.trans (if_pos c25) ?_; rfl) | (unfold J_X12_after; try dsimp only; rw [if_neg c7, if_neg c14, if_neg c21, if_pos c25])) dX12_after_160
          · exact absurd c26 (by decide)
        · have f25 : v5.toInt < 2 := f_nle (by decide) rfl c25
          refine lv_iload hx hb dX12_after_67 (lv_at hl 0 rfl) ?_
          refine lv_iconst (v := 3) hx hb dX12_after_69 (by decide) ?_
          refine lv_icmp_ge (tgt := 77) hx hb dX12_after_70 (by decide) (fun c29 => ?_) (fun c29 => ?_)
          · have f29 : 3 ≤ v6.toInt := f_le (by decide) rfl c29
            refine lv_iconst (v := 0) hx hb dX12_after_77 (by decide) ?_
            refine lv_istore (lv' := [(8, .int 0), (7, .int v6), (6, .int v5), (5, .int v3), (4, .int v1), (0, .ref (qm 0)), (1, .int p0), (2, .int p1), (3, .int p2)]) hx hb dX12_after_78 hl (by decide) rfl (fun ls hl => ?_)
            refine lv_iload hx hb dX12_after_80 (lv_at hl 0 rfl) ?_
            refine lv_if_eq (tgt := 150) hx hb dX12_after_82 (by decide) (fun c30 => ?_) (fun c30 => ?_)
            · refine lv_iconst (v := 0) hx hb dX12_after_150 (by decide) ?_
              refine lv_istore (lv' := [(8, .int 0), (7, .int v6), (6, .int v5), (5, .int v3), (4, .int v1), (0, .ref (qm 0)), (1, .int p0), (2, .int p1), (3, .int p2)]) hx hb dX12_after_151 hl (by decide) rfl (fun ls hl => ?_)
              refine lv_iload hx hb dX12_after_153 (lv_at hl 0 rfl) ?_
              refine lv_if_ne (tgt := 161) hx hb dX12_after_155 (by decide) (fun c31 => ?_) (fun c31 => ?_)
              · exact absurd c31 (by decide)
              · refine lv_bipush (v := (-9)) hx hb dX12_after_158 (by decide) ?_
                have hlit32 : ((-9) : Int32).toInt = -9 := by decide
                rw [hQ]
                exact x_i cx hr () hP hD hS (show ((-9) : Int32) = J_X12_after sm tm p0 p1 p2 from by subst e1 e2 e3 e4 e5 e6 w13 e18 e20; first | (refine Eq.symm ?_; refine Eq.trans (if_neg c7) ?_; refine Eq.trans (if_neg c14) ?_; refine Eq.trans (if_neg c21) ?_; refine Eq.trans (if_neg c25) ?_; refine Eq.trans (if_pos c29) ?_; rfl) | (unfold J_X12_after; try dsimp only; rw [if_neg c7, if_neg c14, if_neg c21, if_neg c25, if_pos c29])) dX12_after_160
            · exact absurd c30 (by decide)
          · have f29 : v6.toInt < 3 := f_nle (by decide) rfl c29
            refine lv_iconst (v := 1) hx hb dX12_after_73 (by decide) ?_
            refine lv_goto (tgt := 78) hx hb dX12_after_74 (by decide) ?_
            refine lv_istore (lv' := [(8, .int 1), (7, .int v6), (6, .int v5), (5, .int v3), (4, .int v1), (0, .ref (qm 0)), (1, .int p0), (2, .int p1), (3, .int p2)]) hx hb dX12_after_78 hl (by decide) rfl (fun ls hl => ?_)
            refine lv_iload hx hb dX12_after_80 (lv_at hl 0 rfl) ?_
            refine lv_if_eq (tgt := 150) hx hb dX12_after_82 (by decide) (fun c33 => ?_) (fun c33 => ?_)
            · exact absurd c33 (by decide)
            · refine lv_iload hx hb dX12_after_85 (lv_at hl 4 rfl) ?_
              refine lv_if_eq (tgt := 101) hx hb dX12_after_87 (by decide) (fun c34 => ?_) (fun c34 => ?_)
              · have f34 : v1.toInt = 0 := f_eq rfl (by decide) c34
                refine lv_iload hx hb dX12_after_101 (lv_at hl 2 rfl) ?_
                refine lv_if_eq (tgt := 117) hx hb dX12_after_103 (by decide) (fun c35 => ?_) (fun c35 => ?_)
                · have f35 : v5.toInt = 0 := f_eq rfl (by decide) c35
                  refine lv_iload hx hb dX12_after_117 (lv_at hl 1 rfl) ?_
                  refine lv_if_eq (tgt := 146) hx hb dX12_after_119 (by decide) (fun c36 => ?_) (fun c36 => ?_)
                  · have f36 : v6.toInt = 0 := f_eq rfl (by decide) c36
                    refine lv_iconst (v := 1) hx hb dX12_after_146 (by decide) ?_
                    refine lv_goto (tgt := 151) hx hb dX12_after_147 (by decide) ?_
                    refine lv_istore (lv' := [(8, .int 1), (7, .int v6), (6, .int v5), (5, .int v3), (4, .int v1), (0, .ref (qm 0)), (1, .int p0), (2, .int p1), (3, .int p2)]) hx hb dX12_after_151 hl (by decide) rfl (fun ls hl => ?_)
                    refine lv_iload hx hb dX12_after_153 (lv_at hl 0 rfl) ?_
                    refine lv_if_ne (tgt := 161) hx hb dX12_after_155 (by decide) (fun c37 => ?_) (fun c37 => ?_)
                    · refine lv_iload_n hx hb dX12_after_161 rfl (lv_at hl 7 rfl) ?_
                      refine lv_iload hx hb dX12_after_162 (lv_at hl 4 rfl) ?_
                      refine g_ir (g_runS (wc := []) (rest := []) cx hP hD hS [] rfl (by decide) [.int p1, .int v1] (c_X12_fewer l D k b H.size p1 v1) gX12_after_X12_fewer rfl rfl rfl nd_X12_fewer ⟨Nat.le_of_ble_eq_true rfl, Nat.le_of_ble_eq_true rfl⟩ rfl hl.1 rfl (Nat.le_of_ble_eq_true rfl) ⟨Nat.zero_le _, Nat.zero_le _⟩ dX12_after_164) cx.2.2.1 hP hD hS [] rfl rfl (fun r39 H locs hw38 hP hS => ?_)
                      have w40 : r39 = J_X12_fewer p1 v1 := hw38
                      clear hw38
                      refine lv_bipush (v := 100) hx hb dX12_after_167 (by decide) ?_
                      refine lv_iload hx hb dX12_after_169 (lv_at hl 3 rfl) ?_
                      refine lv_imul hx hb dX12_after_171 (lv_topi (fun v41 e41 => ?_))
                      have t41 : v41.toInt = 100 * v3.toInt := by rw [e41]; exact i_mul (by decide) rfl (by omega) (by omega)
                      refine lv_iadd hx hb dX12_after_172 (lv_topi (fun v42 e42 => ?_))
                      refine lv_istore (lv' := [(9, .int v42), (8, .int 1), (7, .int v6), (6, .int v5), (5, .int v3), (4, .int v1), (0, .ref (qm 0)), (1, .int p0), (2, .int p1), (3, .int p2)]) hx hb dX12_after_173 hl (by decide) rfl (fun ls hl => ?_)
                      refine lv_iload hx hb dX12_after_175 (lv_at hl 0 rfl) ?_
                      refine g_ir (g_runS (wc := []) (rest := []) cx hP hD hS [] rfl (by decide) [.int v42] (c_X12_all l D k b H.size v42) gX12_after_X12_all rfl rfl rfl nd_X12_all ⟨Nat.le_of_ble_eq_true rfl, Nat.le_of_ble_eq_true rfl⟩ rfl hl.1 rfl (Nat.le_of_ble_eq_true rfl) ⟨Nat.zero_le _, Nat.zero_le _⟩ dX12_after_177) cx.2.2.1 hP hD hS [] rfl rfl (fun r44 H locs hw43 hP hS => ?_)
                      have w45 : r44 = J_X12_all v42 := hw43
                      clear hw43
                      refine lv_aload_n hx hb dX12_after_180 rfl (lv_at hl 6 rfl) ?_
                      refine g_get cx hP iw_X12_after_X12 0 rfl rfl 1 (by decide) rfl fw_X12_after_13 rfl dX12_after_181 ?_
                      refine lv_iconst (v := 1) hx hb dX12_after_184 (by decide) ?_
                      have hn46 : vp_in 1 26 := f_in (a := 1) (by decide) (by omega) (by omega)
                      refine va_iald hx hb cx.2.1 hP 2 0 rfl rfl hn46 dX12_after_185 (lv_topi (fun v47 e47 => ?_))
                      have uv47 : v47.toInt = ((sm 2) 1).toInt := congrArg Int32.toInt e47
                      refine lv_icmp_gt (tgt := 211) hx hb dX12_after_186 (by decide) (fun c48 => ?_) (fun c48 => ?_)
                      · have f48 : v47.toInt < r44.toInt := f_lt rfl rfl c48
                        refine lv_bipush (v := (-9)) hx hb dX12_after_211 (by decide) ?_
                        have hlit49 : ((-9) : Int32).toInt = -9 := by decide
                        rw [hQ]
                        exact x_i cx hr () hP hD hS (show ((-9) : Int32) = J_X12_after sm tm p0 p1 p2 from by subst e1 e2 e3 e4 e5 e6 w13 e18 e20 w40 e41 e42 w45 e47; first | (refine Eq.symm ?_; refine Eq.trans (if_neg c7) ?_; refine Eq.trans (if_neg c14) ?_; refine Eq.trans (if_neg c21) ?_; refine Eq.trans (if_neg c25) ?_; refine Eq.trans (if_neg c29) ?_; refine Eq.trans (if_pos c34) ?_; refine Eq.trans (if_pos c35) ?_; refine Eq.trans (if_pos c36) ?_; refine Eq.trans (if_pos c48) ?_; rfl) | (unfold J_X12_after; try dsimp only; rw [if_neg c7, if_neg c14, if_neg c21, if_neg c25, if_neg c29, if_pos c34, if_pos c35, if_pos c36, if_pos c48])) dX12_after_213
                      · have f48 : r44.toInt ≤ v47.toInt := f_nlt rfl rfl c48
                        refine lv_iload hx hb dX12_after_189 (lv_at hl 3 rfl) ?_
                        refine lv_iconst (v := 1) hx hb dX12_after_191 (by decide) ?_
                        refine lv_icmp_ne (tgt := 214) hx hb dX12_after_192 (by decide) (fun c50 => ?_) (fun c50 => ?_)
                        · have f50 : ¬ v5.toInt = 1 := f_ne rfl (by decide) c50
                          refine lv_iload hx hb dX12_after_214 (lv_at hl 3 rfl) ?_
                          refine lv_iconst (v := 1) hx hb dX12_after_216 (by decide) ?_
                          refine lv_icmp_ne (tgt := 228) hx hb dX12_after_217 (by decide) (fun c51 => ?_) (fun c51 => ?_)
                          · have f51 : ¬ v5.toInt = 1 := f_ne rfl (by decide) c51
                            refine lv_iload hx hb dX12_after_228 (lv_at hl 0 rfl) ?_
                            rw [hQ]
                            exact x_i cx hr () hP hD hS (show v42 = J_X12_after sm tm p0 p1 p2 from by subst e1 e2 e3 e4 e5 e6 w13 e18 e20 w40 e41 e42 w45 e47; first | (refine Eq.symm ?_; refine Eq.trans (if_neg c7) ?_; refine Eq.trans (if_neg c14) ?_; refine Eq.trans (if_neg c21) ?_; refine Eq.trans (if_neg c25) ?_; refine Eq.trans (if_neg c29) ?_; refine Eq.trans (if_pos c34) ?_; refine Eq.trans (if_pos c35) ?_; refine Eq.trans (if_pos c36) ?_; refine Eq.trans (if_neg c48) ?_; rfl) | (unfold J_X12_after; try dsimp only; rw [if_neg c7, if_neg c14, if_neg c21, if_neg c25, if_neg c29, if_pos c34, if_pos c35, if_pos c36, if_neg c48])) dX12_after_230
                          · have f51 : v5.toInt = 1 := f_eq rfl (by decide) c51
                            exact absurd f51 (by omega)
                        · have f50 : v5.toInt = 1 := f_eq rfl (by decide) c50
                          exact absurd f50 (by omega)
                    · exact absurd c37 (by decide)
                  · have f36 : ¬ v6.toInt = 0 := f_ne rfl (by decide) c36
                    refine lv_aload_n hx hb dX12_after_122 rfl (lv_at hl 5 rfl) ?_
                    refine g_get cx hP iw_X12_after_X12 0 rfl rfl 1 (by decide) rfl fw_X12_after_13 rfl dX12_after_123 ?_
                    refine lv_bipush (v := 6) hx hb dX12_after_126 (by decide) ?_
                    have hn52 : vp_in 6 26 := f_in (a := 6) (by decide) (by omega) (by omega)
                    refine va_iald hx hb cx.2.1 hP 2 0 rfl rfl hn52 dX12_after_128 (lv_topi (fun v53 e53 => ?_))
                    have uv53 : v53.toInt = ((sm 2) 6).toInt := congrArg Int32.toInt e53
                    refine lv_bipush (v := (-9)) hx hb dX12_after_129 (by decide) ?_
                    refine lv_icmp_eq (tgt := 150) hx hb dX12_after_131 (by decide) (fun c54 => ?_) (fun c54 => ?_)
                    · have f54 : v53.toInt = (-9) := f_eq rfl (by decide) c54
                      refine lv_iconst (v := 0) hx hb dX12_after_150 (by decide) ?_
                      refine lv_istore (lv' := [(8, .int 0), (7, .int v6), (6, .int v5), (5, .int v3), (4, .int v1), (0, .ref (qm 0)), (1, .int p0), (2, .int p1), (3, .int p2)]) hx hb dX12_after_151 hl (by decide) rfl (fun ls hl => ?_)
                      refine lv_iload hx hb dX12_after_153 (lv_at hl 0 rfl) ?_
                      refine lv_if_ne (tgt := 161) hx hb dX12_after_155 (by decide) (fun c55 => ?_) (fun c55 => ?_)
                      · exact absurd c55 (by decide)
                      · refine lv_bipush (v := (-9)) hx hb dX12_after_158 (by decide) ?_
                        have hlit56 : ((-9) : Int32).toInt = -9 := by decide
                        rw [hQ]
                        exact x_i cx hr () hP hD hS (show ((-9) : Int32) = J_X12_after sm tm p0 p1 p2 from by subst e1 e2 e3 e4 e5 e6 w13 e18 e20 e53; first | (refine Eq.symm ?_; refine Eq.trans (if_neg c7) ?_; refine Eq.trans (if_neg c14) ?_; refine Eq.trans (if_neg c21) ?_; refine Eq.trans (if_neg c25) ?_; refine Eq.trans (if_neg c29) ?_; refine Eq.trans (if_pos c34) ?_; refine Eq.trans (if_pos c35) ?_; refine Eq.trans (if_neg c36) ?_; refine Eq.trans (if_pos c54) ?_; rfl) | (unfold J_X12_after; try dsimp only; rw [if_neg c7, if_neg c14, if_neg c21, if_neg c25, if_neg c29, if_pos c34, if_pos c35, if_neg c36, if_pos c54])) dX12_after_160
                    · have f54 : ¬ v53.toInt = (-9) := f_ne rfl (by decide) c54
                      refine lv_iload_n hx hb dX12_after_134 rfl (lv_at hl 6 rfl) ?_
                      refine lv_aload_n hx hb dX12_after_135 rfl (lv_at hl 5 rfl) ?_
                      refine g_get cx hP iw_X12_after_X12 0 rfl rfl 1 (by decide) rfl fw_X12_after_13 rfl dX12_after_136 ?_
                      refine lv_iconst (v := 0) hx hb dX12_after_139 (by decide) ?_
                      have hn57 : vp_in 0 26 := f_in (a := 0) (by decide) (by omega) (by omega)
                      refine va_iald hx hb cx.2.1 hP 2 0 rfl rfl hn57 dX12_after_140 (lv_topi (fun v58 e58 => ?_))
                      have uv58 : v58.toInt = ((sm 2) 0).toInt := congrArg Int32.toInt e58
                      have t58 : 0 ≤ v58.toInt ∧ v58.toInt ≤ 5 := by rw [e58]; exact h_w0
                      refine lv_iconst (v := 1) hx hb dX12_after_141 (by decide) ?_
                      refine lv_isub hx hb dX12_after_142 (lv_topi (fun v59 e59 => ?_))
                      have t59 : v59.toInt = v58.toInt - 1 := by rw [e59]; exact i_sub rfl (by decide) (by omega) (by omega)
                      refine lv_icmp_ge (tgt := 150) hx hb dX12_after_143 (by decide) (fun c60 => ?_) (fun c60 => ?_)
                      · have f60 : v59.toInt ≤ p0.toInt := f_le rfl rfl c60
                        refine lv_iconst (v := 0) hx hb dX12_after_150 (by decide) ?_
                        refine lv_istore (lv' := [(8, .int 0), (7, .int v6), (6, .int v5), (5, .int v3), (4, .int v1), (0, .ref (qm 0)), (1, .int p0), (2, .int p1), (3, .int p2)]) hx hb dX12_after_151 hl (by decide) rfl (fun ls hl => ?_)
                        refine lv_iload hx hb dX12_after_153 (lv_at hl 0 rfl) ?_
                        refine lv_if_ne (tgt := 161) hx hb dX12_after_155 (by decide) (fun c61 => ?_) (fun c61 => ?_)
                        · exact absurd c61 (by decide)
                        · refine lv_bipush (v := (-9)) hx hb dX12_after_158 (by decide) ?_
                          have hlit62 : ((-9) : Int32).toInt = -9 := by decide
                          rw [hQ]
                          exact x_i cx hr () hP hD hS (show ((-9) : Int32) = J_X12_after sm tm p0 p1 p2 from by subst e1 e2 e3 e4 e5 e6 w13 e18 e20 e53 e58 e59; first | (refine Eq.symm ?_; refine Eq.trans (if_neg c7) ?_; refine Eq.trans (if_neg c14) ?_; refine Eq.trans (if_neg c21) ?_; refine Eq.trans (if_neg c25) ?_; refine Eq.trans (if_neg c29) ?_; refine Eq.trans (if_pos c34) ?_; refine Eq.trans (if_pos c35) ?_; refine Eq.trans (if_neg c36) ?_; refine Eq.trans (if_neg c54) ?_; refine Eq.trans (if_pos c60) ?_; rfl) | (unfold J_X12_after; try dsimp only; rw [if_neg c7, if_neg c14, if_neg c21, if_neg c25, if_neg c29, if_pos c34, if_pos c35, if_neg c36, if_neg c54, if_pos c60])) dX12_after_160
                      · have f60 : p0.toInt < v59.toInt := f_nle rfl rfl c60
                        refine lv_iconst (v := 1) hx hb dX12_after_146 (by decide) ?_
                        refine lv_goto (tgt := 151) hx hb dX12_after_147 (by decide) ?_
                        refine lv_istore (lv' := [(8, .int 1), (7, .int v6), (6, .int v5), (5, .int v3), (4, .int v1), (0, .ref (qm 0)), (1, .int p0), (2, .int p1), (3, .int p2)]) hx hb dX12_after_151 hl (by decide) rfl (fun ls hl => ?_)
                        refine lv_iload hx hb dX12_after_153 (lv_at hl 0 rfl) ?_
                        refine lv_if_ne (tgt := 161) hx hb dX12_after_155 (by decide) (fun c63 => ?_) (fun c63 => ?_)
                        · refine lv_iload_n hx hb dX12_after_161 rfl (lv_at hl 7 rfl) ?_
                          refine lv_iload hx hb dX12_after_162 (lv_at hl 4 rfl) ?_
                          refine g_ir (g_runS (wc := []) (rest := []) cx hP hD hS [] rfl (by decide) [.int p1, .int v1] (c_X12_fewer l D k b H.size p1 v1) gX12_after_X12_fewer rfl rfl rfl nd_X12_fewer ⟨Nat.le_of_ble_eq_true rfl, Nat.le_of_ble_eq_true rfl⟩ rfl hl.1 rfl (Nat.le_of_ble_eq_true rfl) ⟨Nat.zero_le _, Nat.zero_le _⟩ dX12_after_164) cx.2.2.1 hP hD hS [] rfl rfl (fun r65 H locs hw64 hP hS => ?_)
                          have w66 : r65 = J_X12_fewer p1 v1 := hw64
                          clear hw64
                          refine lv_bipush (v := 100) hx hb dX12_after_167 (by decide) ?_
                          refine lv_iload hx hb dX12_after_169 (lv_at hl 3 rfl) ?_
                          refine lv_imul hx hb dX12_after_171 (lv_topi (fun v67 e67 => ?_))
                          have t67 : v67.toInt = 100 * v3.toInt := by rw [e67]; exact i_mul (by decide) rfl (by omega) (by omega)
                          refine lv_iadd hx hb dX12_after_172 (lv_topi (fun v68 e68 => ?_))
                          refine lv_istore (lv' := [(9, .int v68), (8, .int 1), (7, .int v6), (6, .int v5), (5, .int v3), (4, .int v1), (0, .ref (qm 0)), (1, .int p0), (2, .int p1), (3, .int p2)]) hx hb dX12_after_173 hl (by decide) rfl (fun ls hl => ?_)
                          refine lv_iload hx hb dX12_after_175 (lv_at hl 0 rfl) ?_
                          refine g_ir (g_runS (wc := []) (rest := []) cx hP hD hS [] rfl (by decide) [.int v68] (c_X12_all l D k b H.size v68) gX12_after_X12_all rfl rfl rfl nd_X12_all ⟨Nat.le_of_ble_eq_true rfl, Nat.le_of_ble_eq_true rfl⟩ rfl hl.1 rfl (Nat.le_of_ble_eq_true rfl) ⟨Nat.zero_le _, Nat.zero_le _⟩ dX12_after_177) cx.2.2.1 hP hD hS [] rfl rfl (fun r70 H locs hw69 hP hS => ?_)
                          have w71 : r70 = J_X12_all v68 := hw69
                          clear hw69
                          refine lv_aload_n hx hb dX12_after_180 rfl (lv_at hl 6 rfl) ?_
                          refine g_get cx hP iw_X12_after_X12 0 rfl rfl 1 (by decide) rfl fw_X12_after_13 rfl dX12_after_181 ?_
                          refine lv_iconst (v := 1) hx hb dX12_after_184 (by decide) ?_
                          have hn72 : vp_in 1 26 := f_in (a := 1) (by decide) (by omega) (by omega)
                          refine va_iald hx hb cx.2.1 hP 2 0 rfl rfl hn72 dX12_after_185 (lv_topi (fun v73 e73 => ?_))
                          have uv73 : v73.toInt = ((sm 2) 1).toInt := congrArg Int32.toInt e73
                          refine lv_icmp_gt (tgt := 211) hx hb dX12_after_186 (by decide) (fun c74 => ?_) (fun c74 => ?_)
                          · have f74 : v73.toInt < r70.toInt := f_lt rfl rfl c74
                            refine lv_bipush (v := (-9)) hx hb dX12_after_211 (by decide) ?_
                            have hlit75 : ((-9) : Int32).toInt = -9 := by decide
                            rw [hQ]
                            exact x_i cx hr () hP hD hS (show ((-9) : Int32) = J_X12_after sm tm p0 p1 p2 from by subst e1 e2 e3 e4 e5 e6 w13 e18 e20 e53 e58 e59 w66 e67 e68 w71 e73; first | (refine Eq.symm ?_; refine Eq.trans (if_neg c7) ?_; refine Eq.trans (if_neg c14) ?_; refine Eq.trans (if_neg c21) ?_; refine Eq.trans (if_neg c25) ?_; refine Eq.trans (if_neg c29) ?_; refine Eq.trans (if_pos c34) ?_; refine Eq.trans (if_pos c35) ?_; refine Eq.trans (if_neg c36) ?_; refine Eq.trans (if_neg c54) ?_; refine Eq.trans (if_neg c60) ?_; refine Eq.trans (if_pos c74) ?_; rfl) | (unfold J_X12_after; try dsimp only; rw [if_neg c7, if_neg c14, if_neg c21, if_neg c25, if_neg c29, if_pos c34, if_pos c35, if_neg c36, if_neg c54, if_neg c60, if_pos c74])) dX12_after_213
                          · have f74 : r70.toInt ≤ v73.toInt := f_nlt rfl rfl c74
                            refine lv_iload hx hb dX12_after_189 (lv_at hl 3 rfl) ?_
                            refine lv_iconst (v := 1) hx hb dX12_after_191 (by decide) ?_
                            refine lv_icmp_ne (tgt := 214) hx hb dX12_after_192 (by decide) (fun c76 => ?_) (fun c76 => ?_)
                            · have f76 : ¬ v5.toInt = 1 := f_ne rfl (by decide) c76
                              refine lv_iload hx hb dX12_after_214 (lv_at hl 3 rfl) ?_
                              refine lv_iconst (v := 1) hx hb dX12_after_216 (by decide) ?_
                              refine lv_icmp_ne (tgt := 228) hx hb dX12_after_217 (by decide) (fun c77 => ?_) (fun c77 => ?_)
                              · have f77 : ¬ v5.toInt = 1 := f_ne rfl (by decide) c77
                                refine lv_iload hx hb dX12_after_228 (lv_at hl 0 rfl) ?_
                                rw [hQ]
                                exact x_i cx hr () hP hD hS (show v68 = J_X12_after sm tm p0 p1 p2 from by subst e1 e2 e3 e4 e5 e6 w13 e18 e20 e53 e58 e59 w66 e67 e68 w71 e73; first | (refine Eq.symm ?_; refine Eq.trans (if_neg c7) ?_; refine Eq.trans (if_neg c14) ?_; refine Eq.trans (if_neg c21) ?_; refine Eq.trans (if_neg c25) ?_; refine Eq.trans (if_neg c29) ?_; refine Eq.trans (if_pos c34) ?_; refine Eq.trans (if_pos c35) ?_; refine Eq.trans (if_neg c36) ?_; refine Eq.trans (if_neg c54) ?_; refine Eq.trans (if_neg c60) ?_; refine Eq.trans (if_neg c74) ?_; rfl) | (unfold J_X12_after; try dsimp only; rw [if_neg c7, if_neg c14, if_neg c21, if_neg c25, if_neg c29, if_pos c34, if_pos c35, if_neg c36, if_neg c54, if_neg c60, if_neg c74])) dX12_after_230
                              · have f77 : v5.toInt = 1 := f_eq rfl (by decide) c77
                                exact absurd f77 (by omega)
                            · have f76 : v5.toInt = 1 := f_eq rfl (by decide) c76
                              exact absurd f76 (by omega)
                        · exact absurd c63 (by decide)
                · have f35 : ¬ v5.toInt = 0 := f_ne rfl (by decide) c35
                  refine lv_aload_n hx hb dX12_after_106 rfl (lv_at hl 5 rfl) ?_
                  refine g_get cx hP iw_X12_after_X12 0 rfl rfl 1 (by decide) rfl fw_X12_after_13 rfl dX12_after_107 ?_
                  refine lv_iconst (v := 5) hx hb dX12_after_110 (by decide) ?_
                  have hn78 : vp_in 5 26 := f_in (a := 5) (by decide) (by omega) (by omega)
                  refine va_iald hx hb cx.2.1 hP 2 0 rfl rfl hn78 dX12_after_111 (lv_topi (fun v79 e79 => ?_))
                  have uv79 : v79.toInt = ((sm 2) 5).toInt := congrArg Int32.toInt e79
                  refine lv_bipush (v := (-9)) hx hb dX12_after_112 (by decide) ?_
                  refine lv_icmp_eq (tgt := 150) hx hb dX12_after_114 (by decide) (fun c80 => ?_) (fun c80 => ?_)
                  · have f80 : v79.toInt = (-9) := f_eq rfl (by decide) c80
                    refine lv_iconst (v := 0) hx hb dX12_after_150 (by decide) ?_
                    refine lv_istore (lv' := [(8, .int 0), (7, .int v6), (6, .int v5), (5, .int v3), (4, .int v1), (0, .ref (qm 0)), (1, .int p0), (2, .int p1), (3, .int p2)]) hx hb dX12_after_151 hl (by decide) rfl (fun ls hl => ?_)
                    refine lv_iload hx hb dX12_after_153 (lv_at hl 0 rfl) ?_
                    refine lv_if_ne (tgt := 161) hx hb dX12_after_155 (by decide) (fun c81 => ?_) (fun c81 => ?_)
                    · exact absurd c81 (by decide)
                    · refine lv_bipush (v := (-9)) hx hb dX12_after_158 (by decide) ?_
                      have hlit82 : ((-9) : Int32).toInt = -9 := by decide
                      rw [hQ]
                      exact x_i cx hr () hP hD hS (show ((-9) : Int32) = J_X12_after sm tm p0 p1 p2 from by subst e1 e2 e3 e4 e5 e6 w13 e18 e20 e79; first | (refine Eq.symm ?_; refine Eq.trans (if_neg c7) ?_; refine Eq.trans (if_neg c14) ?_; refine Eq.trans (if_neg c21) ?_; refine Eq.trans (if_neg c25) ?_; refine Eq.trans (if_neg c29) ?_; refine Eq.trans (if_pos c34) ?_; refine Eq.trans (if_neg c35) ?_; refine Eq.trans (if_pos c80) ?_; rfl) | (unfold J_X12_after; try dsimp only; rw [if_neg c7, if_neg c14, if_neg c21, if_neg c25, if_neg c29, if_pos c34, if_neg c35, if_pos c80])) dX12_after_160
                  · have f80 : ¬ v79.toInt = (-9) := f_ne rfl (by decide) c80
                    refine lv_iload hx hb dX12_after_117 (lv_at hl 1 rfl) ?_
                    refine lv_if_eq (tgt := 146) hx hb dX12_after_119 (by decide) (fun c83 => ?_) (fun c83 => ?_)
                    · have f83 : v6.toInt = 0 := f_eq rfl (by decide) c83
                      refine lv_iconst (v := 1) hx hb dX12_after_146 (by decide) ?_
                      refine lv_goto (tgt := 151) hx hb dX12_after_147 (by decide) ?_
                      refine lv_istore (lv' := [(8, .int 1), (7, .int v6), (6, .int v5), (5, .int v3), (4, .int v1), (0, .ref (qm 0)), (1, .int p0), (2, .int p1), (3, .int p2)]) hx hb dX12_after_151 hl (by decide) rfl (fun ls hl => ?_)
                      refine lv_iload hx hb dX12_after_153 (lv_at hl 0 rfl) ?_
                      refine lv_if_ne (tgt := 161) hx hb dX12_after_155 (by decide) (fun c84 => ?_) (fun c84 => ?_)
                      · refine lv_iload_n hx hb dX12_after_161 rfl (lv_at hl 7 rfl) ?_
                        refine lv_iload hx hb dX12_after_162 (lv_at hl 4 rfl) ?_
                        refine g_ir (g_runS (wc := []) (rest := []) cx hP hD hS [] rfl (by decide) [.int p1, .int v1] (c_X12_fewer l D k b H.size p1 v1) gX12_after_X12_fewer rfl rfl rfl nd_X12_fewer ⟨Nat.le_of_ble_eq_true rfl, Nat.le_of_ble_eq_true rfl⟩ rfl hl.1 rfl (Nat.le_of_ble_eq_true rfl) ⟨Nat.zero_le _, Nat.zero_le _⟩ dX12_after_164) cx.2.2.1 hP hD hS [] rfl rfl (fun r86 H locs hw85 hP hS => ?_)
                        have w87 : r86 = J_X12_fewer p1 v1 := hw85
                        clear hw85
                        refine lv_bipush (v := 100) hx hb dX12_after_167 (by decide) ?_
                        refine lv_iload hx hb dX12_after_169 (lv_at hl 3 rfl) ?_
                        refine lv_imul hx hb dX12_after_171 (lv_topi (fun v88 e88 => ?_))
                        have t88 : v88.toInt = 100 * v3.toInt := by rw [e88]; exact i_mul (by decide) rfl (by omega) (by omega)
                        refine lv_iadd hx hb dX12_after_172 (lv_topi (fun v89 e89 => ?_))
                        refine lv_istore (lv' := [(9, .int v89), (8, .int 1), (7, .int v6), (6, .int v5), (5, .int v3), (4, .int v1), (0, .ref (qm 0)), (1, .int p0), (2, .int p1), (3, .int p2)]) hx hb dX12_after_173 hl (by decide) rfl (fun ls hl => ?_)
                        refine lv_iload hx hb dX12_after_175 (lv_at hl 0 rfl) ?_
                        refine g_ir (g_runS (wc := []) (rest := []) cx hP hD hS [] rfl (by decide) [.int v89] (c_X12_all l D k b H.size v89) gX12_after_X12_all rfl rfl rfl nd_X12_all ⟨Nat.le_of_ble_eq_true rfl, Nat.le_of_ble_eq_true rfl⟩ rfl hl.1 rfl (Nat.le_of_ble_eq_true rfl) ⟨Nat.zero_le _, Nat.zero_le _⟩ dX12_after_177) cx.2.2.1 hP hD hS [] rfl rfl (fun r91 H locs hw90 hP hS => ?_)
                        have w92 : r91 = J_X12_all v89 := hw90
                        clear hw90
                        refine lv_aload_n hx hb dX12_after_180 rfl (lv_at hl 6 rfl) ?_
                        refine g_get cx hP iw_X12_after_X12 0 rfl rfl 1 (by decide) rfl fw_X12_after_13 rfl dX12_after_181 ?_
                        refine lv_iconst (v := 1) hx hb dX12_after_184 (by decide) ?_
                        have hn93 : vp_in 1 26 := f_in (a := 1) (by decide) (by omega) (by omega)
                        refine va_iald hx hb cx.2.1 hP 2 0 rfl rfl hn93 dX12_after_185 (lv_topi (fun v94 e94 => ?_))
                        have uv94 : v94.toInt = ((sm 2) 1).toInt := congrArg Int32.toInt e94
                        refine lv_icmp_gt (tgt := 211) hx hb dX12_after_186 (by decide) (fun c95 => ?_) (fun c95 => ?_)
                        · have f95 : v94.toInt < r91.toInt := f_lt rfl rfl c95
                          refine lv_bipush (v := (-9)) hx hb dX12_after_211 (by decide) ?_
                          have hlit96 : ((-9) : Int32).toInt = -9 := by decide
                          rw [hQ]
                          exact x_i cx hr () hP hD hS (show ((-9) : Int32) = J_X12_after sm tm p0 p1 p2 from by subst e1 e2 e3 e4 e5 e6 w13 e18 e20 e79 w87 e88 e89 w92 e94; first | (refine Eq.symm ?_; refine Eq.trans (if_neg c7) ?_; refine Eq.trans (if_neg c14) ?_; refine Eq.trans (if_neg c21) ?_; refine Eq.trans (if_neg c25) ?_; refine Eq.trans (if_neg c29) ?_; refine Eq.trans (if_pos c34) ?_; refine Eq.trans (if_neg c35) ?_; refine Eq.trans (if_neg c80) ?_; refine Eq.trans (if_pos c83) ?_; refine Eq.trans (if_pos c95) ?_; rfl) | (unfold J_X12_after; try dsimp only; rw [if_neg c7, if_neg c14, if_neg c21, if_neg c25, if_neg c29, if_pos c34, if_neg c35, if_neg c80, if_pos c83, if_pos c95])) dX12_after_213
                        · have f95 : r91.toInt ≤ v94.toInt := f_nlt rfl rfl c95
                          refine lv_iload hx hb dX12_after_189 (lv_at hl 3 rfl) ?_
                          refine lv_iconst (v := 1) hx hb dX12_after_191 (by decide) ?_
                          refine lv_icmp_ne (tgt := 214) hx hb dX12_after_192 (by decide) (fun c97 => ?_) (fun c97 => ?_)
                          · have f97 : ¬ v5.toInt = 1 := f_ne rfl (by decide) c97
                            refine lv_iload hx hb dX12_after_214 (lv_at hl 3 rfl) ?_
                            refine lv_iconst (v := 1) hx hb dX12_after_216 (by decide) ?_
                            refine lv_icmp_ne (tgt := 228) hx hb dX12_after_217 (by decide) (fun c98 => ?_) (fun c98 => ?_)
                            · have f98 : ¬ v5.toInt = 1 := f_ne rfl (by decide) c98
                              refine lv_iload hx hb dX12_after_228 (lv_at hl 0 rfl) ?_
                              rw [hQ]
                              exact x_i cx hr () hP hD hS (show v89 = J_X12_after sm tm p0 p1 p2 from by subst e1 e2 e3 e4 e5 e6 w13 e18 e20 e79 w87 e88 e89 w92 e94; first | (refine Eq.symm ?_; refine Eq.trans (if_neg c7) ?_; refine Eq.trans (if_neg c14) ?_; refine Eq.trans (if_neg c21) ?_; refine Eq.trans (if_neg c25) ?_; refine Eq.trans (if_neg c29) ?_; refine Eq.trans (if_pos c34) ?_; refine Eq.trans (if_neg c35) ?_; refine Eq.trans (if_neg c80) ?_; refine Eq.trans (if_pos c83) ?_; refine Eq.trans (if_neg c95) ?_; refine Eq.trans (if_neg c97) ?_; refine Eq.trans (if_neg c98) ?_; rfl) | (unfold J_X12_after; try dsimp only; rw [if_neg c7, if_neg c14, if_neg c21, if_neg c25, if_neg c29, if_pos c34, if_neg c35, if_neg c80, if_pos c83, if_neg c95, if_neg c97, if_neg c98])) dX12_after_230
                            · have f98 : v5.toInt = 1 := f_eq rfl (by decide) c98
                              refine lv_iload hx hb dX12_after_220 (lv_at hl 0 rfl) ?_
                              refine lv_bipush (v := 90) hx hb dX12_after_222 (by decide) ?_
                              refine lv_isub hx hb dX12_after_224 (lv_topi (fun v99 e99 => ?_))
                              refine lv_goto (tgt := 230) hx hb dX12_after_225 (by decide) ?_
                              rw [hQ]
                              exact x_i cx hr () hP hD hS (show v99 = J_X12_after sm tm p0 p1 p2 from by subst e1 e2 e3 e4 e5 e6 w13 e18 e20 e79 w87 e88 e89 w92 e94 e99; first | (refine Eq.symm ?_; refine Eq.trans (if_neg c7) ?_; refine Eq.trans (if_neg c14) ?_; refine Eq.trans (if_neg c21) ?_; refine Eq.trans (if_neg c25) ?_; refine Eq.trans (if_neg c29) ?_; refine Eq.trans (if_pos c34) ?_; refine Eq.trans (if_neg c35) ?_; refine Eq.trans (if_neg c80) ?_; refine Eq.trans (if_pos c83) ?_; refine Eq.trans (if_neg c95) ?_; refine Eq.trans (if_neg c97) ?_; refine Eq.trans (if_pos c98) ?_; rfl) | (unfold J_X12_after; try dsimp only; rw [if_neg c7, if_neg c14, if_neg c21, if_neg c25, if_neg c29, if_pos c34, if_neg c35, if_neg c80, if_pos c83, if_neg c95, if_neg c97, if_pos c98])) dX12_after_230
                          · have f97 : v5.toInt = 1 := f_eq rfl (by decide) c97
                            refine lv_iload hx hb dX12_after_195 (lv_at hl 0 rfl) ?_
                            refine lv_bipush (v := 100) hx hb dX12_after_197 (by decide) ?_
                            refine lv_idiv hx hb dX12_after_199 (by decide) (lv_topi (fun v100 e100 => ?_))
                            refine lv_if_eq (tgt := 211) hx hb dX12_after_200 (by decide) (fun c101 => ?_) (fun c101 => ?_)
                            · have f101 : v100.toInt = 0 := f_eq rfl (by decide) c101
                              refine lv_bipush (v := (-9)) hx hb dX12_after_211 (by decide) ?_
                              have hlit102 : ((-9) : Int32).toInt = -9 := by decide
                              rw [hQ]
                              exact x_i cx hr () hP hD hS (show ((-9) : Int32) = J_X12_after sm tm p0 p1 p2 from by subst e1 e2 e3 e4 e5 e6 w13 e18 e20 e79 w87 e88 e89 w92 e94 e100; first | (refine Eq.symm ?_; refine Eq.trans (if_neg c7) ?_; refine Eq.trans (if_neg c14) ?_; refine Eq.trans (if_neg c21) ?_; refine Eq.trans (if_neg c25) ?_; refine Eq.trans (if_neg c29) ?_; refine Eq.trans (if_pos c34) ?_; refine Eq.trans (if_neg c35) ?_; refine Eq.trans (if_neg c80) ?_; refine Eq.trans (if_pos c83) ?_; refine Eq.trans (if_neg c95) ?_; refine Eq.trans (if_pos c97) ?_; refine Eq.trans (if_pos c101) ?_; rfl) | (unfold J_X12_after; try dsimp only; rw [if_neg c7, if_neg c14, if_neg c21, if_neg c25, if_neg c29, if_pos c34, if_neg c35, if_neg c80, if_pos c83, if_neg c95, if_pos c97, if_pos c101])) dX12_after_213
                            · have f101 : ¬ v100.toInt = 0 := f_ne rfl (by decide) c101
                              refine lv_iload hx hb dX12_after_203 (lv_at hl 0 rfl) ?_
                              refine lv_bipush (v := 10) hx hb dX12_after_205 (by decide) ?_
                              refine lv_irem hx hb dX12_after_207 (by decide) (lv_topi (fun v103 e103 => ?_))
                              have t103 : -10 < v103.toInt ∧ v103.toInt < 10 := by rw [e103]; exact i_remb (by decide) (by decide)
                              refine lv_if_ne (tgt := 214) hx hb dX12_after_208 (by decide) (fun c104 => ?_) (fun c104 => ?_)
                              · have f104 : ¬ v103.toInt = 0 := f_ne rfl (by decide) c104
                                refine lv_iload hx hb dX12_after_214 (lv_at hl 3 rfl) ?_
                                refine lv_iconst (v := 1) hx hb dX12_after_216 (by decide) ?_
                                refine lv_icmp_ne (tgt := 228) hx hb dX12_after_217 (by decide) (fun c105 => ?_) (fun c105 => ?_)
                                · have f105 : ¬ v5.toInt = 1 := f_ne rfl (by decide) c105
                                  exact absurd f105 (by omega)
                                · have f105 : v5.toInt = 1 := f_eq rfl (by decide) c105
                                  refine lv_iload hx hb dX12_after_220 (lv_at hl 0 rfl) ?_
                                  refine lv_bipush (v := 90) hx hb dX12_after_222 (by decide) ?_
                                  refine lv_isub hx hb dX12_after_224 (lv_topi (fun v106 e106 => ?_))
                                  refine lv_goto (tgt := 230) hx hb dX12_after_225 (by decide) ?_
                                  rw [hQ]
                                  exact x_i cx hr () hP hD hS (show v106 = J_X12_after sm tm p0 p1 p2 from by subst e1 e2 e3 e4 e5 e6 w13 e18 e20 e79 w87 e88 e89 w92 e94 e100 e103 e106; first | (refine Eq.symm ?_; refine Eq.trans (if_neg c7) ?_; refine Eq.trans (if_neg c14) ?_; refine Eq.trans (if_neg c21) ?_; refine Eq.trans (if_neg c25) ?_; refine Eq.trans (if_neg c29) ?_; refine Eq.trans (if_pos c34) ?_; refine Eq.trans (if_neg c35) ?_; refine Eq.trans (if_neg c80) ?_; refine Eq.trans (if_pos c83) ?_; refine Eq.trans (if_neg c95) ?_; refine Eq.trans (if_pos c97) ?_; refine Eq.trans (if_neg c101) ?_; refine Eq.trans (if_neg c104) ?_; rfl) | (unfold J_X12_after; try dsimp only; rw [if_neg c7, if_neg c14, if_neg c21, if_neg c25, if_neg c29, if_pos c34, if_neg c35, if_neg c80, if_pos c83, if_neg c95, if_pos c97, if_neg c101, if_neg c104])) dX12_after_230
                              · have f104 : v103.toInt = 0 := f_eq rfl (by decide) c104
                                refine lv_bipush (v := (-9)) hx hb dX12_after_211 (by decide) ?_
                                have hlit107 : ((-9) : Int32).toInt = -9 := by decide
                                rw [hQ]
                                exact x_i cx hr () hP hD hS (show ((-9) : Int32) = J_X12_after sm tm p0 p1 p2 from by subst e1 e2 e3 e4 e5 e6 w13 e18 e20 e79 w87 e88 e89 w92 e94 e100 e103; first | (refine Eq.symm ?_; refine Eq.trans (if_neg c7) ?_; refine Eq.trans (if_neg c14) ?_; refine Eq.trans (if_neg c21) ?_; refine Eq.trans (if_neg c25) ?_; refine Eq.trans (if_neg c29) ?_; refine Eq.trans (if_pos c34) ?_; refine Eq.trans (if_neg c35) ?_; refine Eq.trans (if_neg c80) ?_; refine Eq.trans (if_pos c83) ?_; refine Eq.trans (if_neg c95) ?_; refine Eq.trans (if_pos c97) ?_; refine Eq.trans (if_neg c101) ?_; refine Eq.trans (if_pos c104) ?_; rfl) | (unfold J_X12_after; try dsimp only; rw [if_neg c7, if_neg c14, if_neg c21, if_neg c25, if_neg c29, if_pos c34, if_neg c35, if_neg c80, if_pos c83, if_neg c95, if_pos c97, if_neg c101, if_pos c104])) dX12_after_213
                      · exact absurd c84 (by decide)
                    · have f83 : ¬ v6.toInt = 0 := f_ne rfl (by decide) c83
                      refine lv_aload_n hx hb dX12_after_122 rfl (lv_at hl 5 rfl) ?_
                      refine g_get cx hP iw_X12_after_X12 0 rfl rfl 1 (by decide) rfl fw_X12_after_13 rfl dX12_after_123 ?_
                      refine lv_bipush (v := 6) hx hb dX12_after_126 (by decide) ?_
                      have hn108 : vp_in 6 26 := f_in (a := 6) (by decide) (by omega) (by omega)
                      refine va_iald hx hb cx.2.1 hP 2 0 rfl rfl hn108 dX12_after_128 (lv_topi (fun v109 e109 => ?_))
                      have uv109 : v109.toInt = ((sm 2) 6).toInt := congrArg Int32.toInt e109
                      refine lv_bipush (v := (-9)) hx hb dX12_after_129 (by decide) ?_
                      refine lv_icmp_eq (tgt := 150) hx hb dX12_after_131 (by decide) (fun c110 => ?_) (fun c110 => ?_)
                      · have f110 : v109.toInt = (-9) := f_eq rfl (by decide) c110
                        refine lv_iconst (v := 0) hx hb dX12_after_150 (by decide) ?_
                        refine lv_istore (lv' := [(8, .int 0), (7, .int v6), (6, .int v5), (5, .int v3), (4, .int v1), (0, .ref (qm 0)), (1, .int p0), (2, .int p1), (3, .int p2)]) hx hb dX12_after_151 hl (by decide) rfl (fun ls hl => ?_)
                        refine lv_iload hx hb dX12_after_153 (lv_at hl 0 rfl) ?_
                        refine lv_if_ne (tgt := 161) hx hb dX12_after_155 (by decide) (fun c111 => ?_) (fun c111 => ?_)
                        · exact absurd c111 (by decide)
                        · refine lv_bipush (v := (-9)) hx hb dX12_after_158 (by decide) ?_
                          have hlit112 : ((-9) : Int32).toInt = -9 := by decide
                          rw [hQ]
                          exact x_i cx hr () hP hD hS (show ((-9) : Int32) = J_X12_after sm tm p0 p1 p2 from by subst e1 e2 e3 e4 e5 e6 w13 e18 e20 e79 e109; first | (refine Eq.symm ?_; refine Eq.trans (if_neg c7) ?_; refine Eq.trans (if_neg c14) ?_; refine Eq.trans (if_neg c21) ?_; refine Eq.trans (if_neg c25) ?_; refine Eq.trans (if_neg c29) ?_; refine Eq.trans (if_pos c34) ?_; refine Eq.trans (if_neg c35) ?_; refine Eq.trans (if_neg c80) ?_; refine Eq.trans (if_neg c83) ?_; refine Eq.trans (if_pos c110) ?_; rfl) | (unfold J_X12_after; try dsimp only; rw [if_neg c7, if_neg c14, if_neg c21, if_neg c25, if_neg c29, if_pos c34, if_neg c35, if_neg c80, if_neg c83, if_pos c110])) dX12_after_160
                      · have f110 : ¬ v109.toInt = (-9) := f_ne rfl (by decide) c110
                        refine lv_iload_n hx hb dX12_after_134 rfl (lv_at hl 6 rfl) ?_
                        refine lv_aload_n hx hb dX12_after_135 rfl (lv_at hl 5 rfl) ?_
                        refine g_get cx hP iw_X12_after_X12 0 rfl rfl 1 (by decide) rfl fw_X12_after_13 rfl dX12_after_136 ?_
                        refine lv_iconst (v := 0) hx hb dX12_after_139 (by decide) ?_
                        have hn113 : vp_in 0 26 := f_in (a := 0) (by decide) (by omega) (by omega)
                        refine va_iald hx hb cx.2.1 hP 2 0 rfl rfl hn113 dX12_after_140 (lv_topi (fun v114 e114 => ?_))
                        have uv114 : v114.toInt = ((sm 2) 0).toInt := congrArg Int32.toInt e114
                        have t114 : 0 ≤ v114.toInt ∧ v114.toInt ≤ 5 := by rw [e114]; exact h_w0
                        refine lv_iconst (v := 1) hx hb dX12_after_141 (by decide) ?_
                        refine lv_isub hx hb dX12_after_142 (lv_topi (fun v115 e115 => ?_))
                        have t115 : v115.toInt = v114.toInt - 1 := by rw [e115]; exact i_sub rfl (by decide) (by omega) (by omega)
                        refine lv_icmp_ge (tgt := 150) hx hb dX12_after_143 (by decide) (fun c116 => ?_) (fun c116 => ?_)
                        · have f116 : v115.toInt ≤ p0.toInt := f_le rfl rfl c116
                          refine lv_iconst (v := 0) hx hb dX12_after_150 (by decide) ?_
                          refine lv_istore (lv' := [(8, .int 0), (7, .int v6), (6, .int v5), (5, .int v3), (4, .int v1), (0, .ref (qm 0)), (1, .int p0), (2, .int p1), (3, .int p2)]) hx hb dX12_after_151 hl (by decide) rfl (fun ls hl => ?_)
                          refine lv_iload hx hb dX12_after_153 (lv_at hl 0 rfl) ?_
                          refine lv_if_ne (tgt := 161) hx hb dX12_after_155 (by decide) (fun c117 => ?_) (fun c117 => ?_)
                          · exact absurd c117 (by decide)
                          · refine lv_bipush (v := (-9)) hx hb dX12_after_158 (by decide) ?_
                            have hlit118 : ((-9) : Int32).toInt = -9 := by decide
                            rw [hQ]
                            exact x_i cx hr () hP hD hS (show ((-9) : Int32) = J_X12_after sm tm p0 p1 p2 from by subst e1 e2 e3 e4 e5 e6 w13 e18 e20 e79 e109 e114 e115; first | (refine Eq.symm ?_; refine Eq.trans (if_neg c7) ?_; refine Eq.trans (if_neg c14) ?_; refine Eq.trans (if_neg c21) ?_; refine Eq.trans (if_neg c25) ?_; refine Eq.trans (if_neg c29) ?_; refine Eq.trans (if_pos c34) ?_; refine Eq.trans (if_neg c35) ?_; refine Eq.trans (if_neg c80) ?_; refine Eq.trans (if_neg c83) ?_; refine Eq.trans (if_neg c110) ?_; refine Eq.trans (if_pos c116) ?_; rfl) | (unfold J_X12_after; try dsimp only; rw [if_neg c7, if_neg c14, if_neg c21, if_neg c25, if_neg c29, if_pos c34, if_neg c35, if_neg c80, if_neg c83, if_neg c110, if_pos c116])) dX12_after_160
                        · have f116 : p0.toInt < v115.toInt := f_nle rfl rfl c116
                          refine lv_iconst (v := 1) hx hb dX12_after_146 (by decide) ?_
                          refine lv_goto (tgt := 151) hx hb dX12_after_147 (by decide) ?_
                          refine lv_istore (lv' := [(8, .int 1), (7, .int v6), (6, .int v5), (5, .int v3), (4, .int v1), (0, .ref (qm 0)), (1, .int p0), (2, .int p1), (3, .int p2)]) hx hb dX12_after_151 hl (by decide) rfl (fun ls hl => ?_)
                          refine lv_iload hx hb dX12_after_153 (lv_at hl 0 rfl) ?_
                          refine lv_if_ne (tgt := 161) hx hb dX12_after_155 (by decide) (fun c119 => ?_) (fun c119 => ?_)
                          · refine lv_iload_n hx hb dX12_after_161 rfl (lv_at hl 7 rfl) ?_
                            refine lv_iload hx hb dX12_after_162 (lv_at hl 4 rfl) ?_
                            refine g_ir (g_runS (wc := []) (rest := []) cx hP hD hS [] rfl (by decide) [.int p1, .int v1] (c_X12_fewer l D k b H.size p1 v1) gX12_after_X12_fewer rfl rfl rfl nd_X12_fewer ⟨Nat.le_of_ble_eq_true rfl, Nat.le_of_ble_eq_true rfl⟩ rfl hl.1 rfl (Nat.le_of_ble_eq_true rfl) ⟨Nat.zero_le _, Nat.zero_le _⟩ dX12_after_164) cx.2.2.1 hP hD hS [] rfl rfl (fun r121 H locs hw120 hP hS => ?_)
                            have w122 : r121 = J_X12_fewer p1 v1 := hw120
                            clear hw120
                            refine lv_bipush (v := 100) hx hb dX12_after_167 (by decide) ?_
                            refine lv_iload hx hb dX12_after_169 (lv_at hl 3 rfl) ?_
                            refine lv_imul hx hb dX12_after_171 (lv_topi (fun v123 e123 => ?_))
                            have t123 : v123.toInt = 100 * v3.toInt := by rw [e123]; exact i_mul (by decide) rfl (by omega) (by omega)
                            refine lv_iadd hx hb dX12_after_172 (lv_topi (fun v124 e124 => ?_))
                            refine lv_istore (lv' := [(9, .int v124), (8, .int 1), (7, .int v6), (6, .int v5), (5, .int v3), (4, .int v1), (0, .ref (qm 0)), (1, .int p0), (2, .int p1), (3, .int p2)]) hx hb dX12_after_173 hl (by decide) rfl (fun ls hl => ?_)
                            refine lv_iload hx hb dX12_after_175 (lv_at hl 0 rfl) ?_
                            refine g_ir (g_runS (wc := []) (rest := []) cx hP hD hS [] rfl (by decide) [.int v124] (c_X12_all l D k b H.size v124) gX12_after_X12_all rfl rfl rfl nd_X12_all ⟨Nat.le_of_ble_eq_true rfl, Nat.le_of_ble_eq_true rfl⟩ rfl hl.1 rfl (Nat.le_of_ble_eq_true rfl) ⟨Nat.zero_le _, Nat.zero_le _⟩ dX12_after_177) cx.2.2.1 hP hD hS [] rfl rfl (fun r126 H locs hw125 hP hS => ?_)
                            have w127 : r126 = J_X12_all v124 := hw125
                            clear hw125
                            refine lv_aload_n hx hb dX12_after_180 rfl (lv_at hl 6 rfl) ?_
                            refine g_get cx hP iw_X12_after_X12 0 rfl rfl 1 (by decide) rfl fw_X12_after_13 rfl dX12_after_181 ?_
                            refine lv_iconst (v := 1) hx hb dX12_after_184 (by decide) ?_
                            have hn128 : vp_in 1 26 := f_in (a := 1) (by decide) (by omega) (by omega)
                            refine va_iald hx hb cx.2.1 hP 2 0 rfl rfl hn128 dX12_after_185 (lv_topi (fun v129 e129 => ?_))
                            have uv129 : v129.toInt = ((sm 2) 1).toInt := congrArg Int32.toInt e129
                            refine lv_icmp_gt (tgt := 211) hx hb dX12_after_186 (by decide) (fun c130 => ?_) (fun c130 => ?_)
                            · have f130 : v129.toInt < r126.toInt := f_lt rfl rfl c130
                              refine lv_bipush (v := (-9)) hx hb dX12_after_211 (by decide) ?_
                              have hlit131 : ((-9) : Int32).toInt = -9 := by decide
                              rw [hQ]
                              exact x_i cx hr () hP hD hS (show ((-9) : Int32) = J_X12_after sm tm p0 p1 p2 from by subst e1 e2 e3 e4 e5 e6 w13 e18 e20 e79 e109 e114 e115 w122 e123 e124 w127 e129; first | (refine Eq.symm ?_; refine Eq.trans (if_neg c7) ?_; refine Eq.trans (if_neg c14) ?_; refine Eq.trans (if_neg c21) ?_; refine Eq.trans (if_neg c25) ?_; refine Eq.trans (if_neg c29) ?_; refine Eq.trans (if_pos c34) ?_; refine Eq.trans (if_neg c35) ?_; refine Eq.trans (if_neg c80) ?_; refine Eq.trans (if_neg c83) ?_; refine Eq.trans (if_neg c110) ?_; refine Eq.trans (if_neg c116) ?_; refine Eq.trans (if_pos c130) ?_; rfl) | (unfold J_X12_after; try dsimp only; rw [if_neg c7, if_neg c14, if_neg c21, if_neg c25, if_neg c29, if_pos c34, if_neg c35, if_neg c80, if_neg c83, if_neg c110, if_neg c116, if_pos c130])) dX12_after_213
                            · have f130 : r126.toInt ≤ v129.toInt := f_nlt rfl rfl c130
                              refine lv_iload hx hb dX12_after_189 (lv_at hl 3 rfl) ?_
                              refine lv_iconst (v := 1) hx hb dX12_after_191 (by decide) ?_
                              refine lv_icmp_ne (tgt := 214) hx hb dX12_after_192 (by decide) (fun c132 => ?_) (fun c132 => ?_)
                              · have f132 : ¬ v5.toInt = 1 := f_ne rfl (by decide) c132
                                refine lv_iload hx hb dX12_after_214 (lv_at hl 3 rfl) ?_
                                refine lv_iconst (v := 1) hx hb dX12_after_216 (by decide) ?_
                                refine lv_icmp_ne (tgt := 228) hx hb dX12_after_217 (by decide) (fun c133 => ?_) (fun c133 => ?_)
                                · have f133 : ¬ v5.toInt = 1 := f_ne rfl (by decide) c133
                                  refine lv_iload hx hb dX12_after_228 (lv_at hl 0 rfl) ?_
                                  rw [hQ]
                                  exact x_i cx hr () hP hD hS (show v124 = J_X12_after sm tm p0 p1 p2 from by subst e1 e2 e3 e4 e5 e6 w13 e18 e20 e79 e109 e114 e115 w122 e123 e124 w127 e129; first | (refine Eq.symm ?_; refine Eq.trans (if_neg c7) ?_; refine Eq.trans (if_neg c14) ?_; refine Eq.trans (if_neg c21) ?_; refine Eq.trans (if_neg c25) ?_; refine Eq.trans (if_neg c29) ?_; refine Eq.trans (if_pos c34) ?_; refine Eq.trans (if_neg c35) ?_; refine Eq.trans (if_neg c80) ?_; refine Eq.trans (if_neg c83) ?_; refine Eq.trans (if_neg c110) ?_; refine Eq.trans (if_neg c116) ?_; refine Eq.trans (if_neg c130) ?_; refine Eq.trans (if_neg c132) ?_; refine Eq.trans (if_neg c133) ?_; rfl) | (unfold J_X12_after; try dsimp only; rw [if_neg c7, if_neg c14, if_neg c21, if_neg c25, if_neg c29, if_pos c34, if_neg c35, if_neg c80, if_neg c83, if_neg c110, if_neg c116, if_neg c130, if_neg c132, if_neg c133])) dX12_after_230
                                · have f133 : v5.toInt = 1 := f_eq rfl (by decide) c133
                                  refine lv_iload hx hb dX12_after_220 (lv_at hl 0 rfl) ?_
                                  refine lv_bipush (v := 90) hx hb dX12_after_222 (by decide) ?_
                                  refine lv_isub hx hb dX12_after_224 (lv_topi (fun v134 e134 => ?_))
                                  refine lv_goto (tgt := 230) hx hb dX12_after_225 (by decide) ?_
                                  rw [hQ]
                                  exact x_i cx hr () hP hD hS (show v134 = J_X12_after sm tm p0 p1 p2 from by subst e1 e2 e3 e4 e5 e6 w13 e18 e20 e79 e109 e114 e115 w122 e123 e124 w127 e129 e134; first | (refine Eq.symm ?_; refine Eq.trans (if_neg c7) ?_; refine Eq.trans (if_neg c14) ?_; refine Eq.trans (if_neg c21) ?_; refine Eq.trans (if_neg c25) ?_; refine Eq.trans (if_neg c29) ?_; refine Eq.trans (if_pos c34) ?_; refine Eq.trans (if_neg c35) ?_; refine Eq.trans (if_neg c80) ?_; refine Eq.trans (if_neg c83) ?_; refine Eq.trans (if_neg c110) ?_; refine Eq.trans (if_neg c116) ?_; refine Eq.trans (if_neg c130) ?_; refine Eq.trans (if_neg c132) ?_; refine Eq.trans (if_pos c133) ?_; rfl) | (unfold J_X12_after; try dsimp only; rw [if_neg c7, if_neg c14, if_neg c21, if_neg c25, if_neg c29, if_pos c34, if_neg c35, if_neg c80, if_neg c83, if_neg c110, if_neg c116, if_neg c130, if_neg c132, if_pos c133])) dX12_after_230
                              · have f132 : v5.toInt = 1 := f_eq rfl (by decide) c132
                                refine lv_iload hx hb dX12_after_195 (lv_at hl 0 rfl) ?_
                                refine lv_bipush (v := 100) hx hb dX12_after_197 (by decide) ?_
                                refine lv_idiv hx hb dX12_after_199 (by decide) (lv_topi (fun v135 e135 => ?_))
                                refine lv_if_eq (tgt := 211) hx hb dX12_after_200 (by decide) (fun c136 => ?_) (fun c136 => ?_)
                                · have f136 : v135.toInt = 0 := f_eq rfl (by decide) c136
                                  refine lv_bipush (v := (-9)) hx hb dX12_after_211 (by decide) ?_
                                  have hlit137 : ((-9) : Int32).toInt = -9 := by decide
                                  rw [hQ]
                                  exact x_i cx hr () hP hD hS (show ((-9) : Int32) = J_X12_after sm tm p0 p1 p2 from by subst e1 e2 e3 e4 e5 e6 w13 e18 e20 e79 e109 e114 e115 w122 e123 e124 w127 e129 e135; first | (refine Eq.symm ?_; refine Eq.trans (if_neg c7) ?_; refine Eq.trans (if_neg c14) ?_; refine Eq.trans (if_neg c21) ?_; refine Eq.trans (if_neg c25) ?_; refine Eq.trans (if_neg c29) ?_; refine Eq.trans (if_pos c34) ?_; refine Eq.trans (if_neg c35) ?_; refine Eq.trans (if_neg c80) ?_; refine Eq.trans (if_neg c83) ?_; refine Eq.trans (if_neg c110) ?_; refine Eq.trans (if_neg c116) ?_; refine Eq.trans (if_neg c130) ?_; refine Eq.trans (if_pos c132) ?_; refine Eq.trans (if_pos c136) ?_; rfl) | (unfold J_X12_after; try dsimp only; rw [if_neg c7, if_neg c14, if_neg c21, if_neg c25, if_neg c29, if_pos c34, if_neg c35, if_neg c80, if_neg c83, if_neg c110, if_neg c116, if_neg c130, if_pos c132, if_pos c136])) dX12_after_213
                                · have f136 : ¬ v135.toInt = 0 := f_ne rfl (by decide) c136
                                  refine lv_iload hx hb dX12_after_203 (lv_at hl 0 rfl) ?_
                                  refine lv_bipush (v := 10) hx hb dX12_after_205 (by decide) ?_
                                  refine lv_irem hx hb dX12_after_207 (by decide) (lv_topi (fun v138 e138 => ?_))
                                  have t138 : -10 < v138.toInt ∧ v138.toInt < 10 := by rw [e138]; exact i_remb (by decide) (by decide)
                                  refine lv_if_ne (tgt := 214) hx hb dX12_after_208 (by decide) (fun c139 => ?_) (fun c139 => ?_)
                                  · have f139 : ¬ v138.toInt = 0 := f_ne rfl (by decide) c139
                                    refine lv_iload hx hb dX12_after_214 (lv_at hl 3 rfl) ?_
                                    refine lv_iconst (v := 1) hx hb dX12_after_216 (by decide) ?_
                                    refine lv_icmp_ne (tgt := 228) hx hb dX12_after_217 (by decide) (fun c140 => ?_) (fun c140 => ?_)
                                    · have f140 : ¬ v5.toInt = 1 := f_ne rfl (by decide) c140
                                      exact absurd f140 (by omega)
                                    · have f140 : v5.toInt = 1 := f_eq rfl (by decide) c140
                                      refine lv_iload hx hb dX12_after_220 (lv_at hl 0 rfl) ?_
                                      refine lv_bipush (v := 90) hx hb dX12_after_222 (by decide) ?_
                                      refine lv_isub hx hb dX12_after_224 (lv_topi (fun v141 e141 => ?_))
                                      refine lv_goto (tgt := 230) hx hb dX12_after_225 (by decide) ?_
                                      rw [hQ]
                                      exact x_i cx hr () hP hD hS (show v141 = J_X12_after sm tm p0 p1 p2 from by subst e1 e2 e3 e4 e5 e6 w13 e18 e20 e79 e109 e114 e115 w122 e123 e124 w127 e129 e135 e138 e141; first | (refine Eq.symm ?_; refine Eq.trans (if_neg c7) ?_; refine Eq.trans (if_neg c14) ?_; refine Eq.trans (if_neg c21) ?_; refine Eq.trans (if_neg c25) ?_; refine Eq.trans (if_neg c29) ?_; refine Eq.trans (if_pos c34) ?_; refine Eq.trans (if_neg c35) ?_; refine Eq.trans (if_neg c80) ?_; refine Eq.trans (if_neg c83) ?_; refine Eq.trans (if_neg c110) ?_; refine Eq.trans (if_neg c116) ?_; refine Eq.trans (if_neg c130) ?_; refine Eq.trans (if_pos c132) ?_; refine Eq.trans (if_neg c136) ?_; refine Eq.trans (if_neg c139) ?_; rfl) | (unfold J_X12_after; try dsimp only; rw [if_neg c7, if_neg c14, if_neg c21, if_neg c25, if_neg c29, if_pos c34, if_neg c35, if_neg c80, if_neg c83, if_neg c110, if_neg c116, if_neg c130, if_pos c132, if_neg c136, if_neg c139])) dX12_after_230
                                  · have f139 : v138.toInt = 0 := f_eq rfl (by decide) c139
                                    refine lv_bipush (v := (-9)) hx hb dX12_after_211 (by decide) ?_
                                    have hlit142 : ((-9) : Int32).toInt = -9 := by decide
                                    rw [hQ]
                                    exact x_i cx hr () hP hD hS (show ((-9) : Int32) = J_X12_after sm tm p0 p1 p2 from by subst e1 e2 e3 e4 e5 e6 w13 e18 e20 e79 e109 e114 e115 w122 e123 e124 w127 e129 e135 e138; first | (refine Eq.symm ?_; refine Eq.trans (if_neg c7) ?_; refine Eq.trans (if_neg c14) ?_; refine Eq.trans (if_neg c21) ?_; refine Eq.trans (if_neg c25) ?_; refine Eq.trans (if_neg c29) ?_; refine Eq.trans (if_pos c34) ?_; refine Eq.trans (if_neg c35) ?_; refine Eq.trans (if_neg c80) ?_; refine Eq.trans (if_neg c83) ?_; refine Eq.trans (if_neg c110) ?_; refine Eq.trans (if_neg c116) ?_; refine Eq.trans (if_neg c130) ?_; refine Eq.trans (if_pos c132) ?_; refine Eq.trans (if_neg c136) ?_; refine Eq.trans (if_pos c139) ?_; rfl) | (unfold J_X12_after; try dsimp only; rw [if_neg c7, if_neg c14, if_neg c21, if_neg c25, if_neg c29, if_pos c34, if_neg c35, if_neg c80, if_neg c83, if_neg c110, if_neg c116, if_neg c130, if_pos c132, if_neg c136, if_pos c139])) dX12_after_213
                          · exact absurd c119 (by decide)
              · have f34 : ¬ v1.toInt = 0 := f_ne rfl (by decide) c34
                refine lv_aload_n hx hb dX12_after_90 rfl (lv_at hl 5 rfl) ?_
                refine g_get cx hP iw_X12_after_X12 0 rfl rfl 1 (by decide) rfl fw_X12_after_13 rfl dX12_after_91 ?_
                refine lv_iconst (v := 4) hx hb dX12_after_94 (by decide) ?_
                have hn143 : vp_in 4 26 := f_in (a := 4) (by decide) (by omega) (by omega)
                refine va_iald hx hb cx.2.1 hP 2 0 rfl rfl hn143 dX12_after_95 (lv_topi (fun v144 e144 => ?_))
                have uv144 : v144.toInt = ((sm 2) 4).toInt := congrArg Int32.toInt e144
                refine lv_bipush (v := (-9)) hx hb dX12_after_96 (by decide) ?_
                refine lv_icmp_eq (tgt := 150) hx hb dX12_after_98 (by decide) (fun c145 => ?_) (fun c145 => ?_)
                · have f145 : v144.toInt = (-9) := f_eq rfl (by decide) c145
                  refine lv_iconst (v := 0) hx hb dX12_after_150 (by decide) ?_
                  refine lv_istore (lv' := [(8, .int 0), (7, .int v6), (6, .int v5), (5, .int v3), (4, .int v1), (0, .ref (qm 0)), (1, .int p0), (2, .int p1), (3, .int p2)]) hx hb dX12_after_151 hl (by decide) rfl (fun ls hl => ?_)
                  refine lv_iload hx hb dX12_after_153 (lv_at hl 0 rfl) ?_
                  refine lv_if_ne (tgt := 161) hx hb dX12_after_155 (by decide) (fun c146 => ?_) (fun c146 => ?_)
                  · exact absurd c146 (by decide)
                  · refine lv_bipush (v := (-9)) hx hb dX12_after_158 (by decide) ?_
                    have hlit147 : ((-9) : Int32).toInt = -9 := by decide
                    rw [hQ]
                    exact x_i cx hr () hP hD hS (show ((-9) : Int32) = J_X12_after sm tm p0 p1 p2 from by subst e1 e2 e3 e4 e5 e6 w13 e18 e20 e144; first | (refine Eq.symm ?_; refine Eq.trans (if_neg c7) ?_; refine Eq.trans (if_neg c14) ?_; refine Eq.trans (if_neg c21) ?_; refine Eq.trans (if_neg c25) ?_; refine Eq.trans (if_neg c29) ?_; refine Eq.trans (if_neg c34) ?_; refine Eq.trans (if_pos c145) ?_; rfl) | (unfold J_X12_after; try dsimp only; rw [if_neg c7, if_neg c14, if_neg c21, if_neg c25, if_neg c29, if_neg c34, if_pos c145])) dX12_after_160
                · have f145 : ¬ v144.toInt = (-9) := f_ne rfl (by decide) c145
                  refine lv_iload hx hb dX12_after_101 (lv_at hl 2 rfl) ?_
                  refine lv_if_eq (tgt := 117) hx hb dX12_after_103 (by decide) (fun c148 => ?_) (fun c148 => ?_)
                  · have f148 : v5.toInt = 0 := f_eq rfl (by decide) c148
                    refine lv_iload hx hb dX12_after_117 (lv_at hl 1 rfl) ?_
                    refine lv_if_eq (tgt := 146) hx hb dX12_after_119 (by decide) (fun c149 => ?_) (fun c149 => ?_)
                    · have f149 : v6.toInt = 0 := f_eq rfl (by decide) c149
                      refine lv_iconst (v := 1) hx hb dX12_after_146 (by decide) ?_
                      refine lv_goto (tgt := 151) hx hb dX12_after_147 (by decide) ?_
                      refine lv_istore (lv' := [(8, .int 1), (7, .int v6), (6, .int v5), (5, .int v3), (4, .int v1), (0, .ref (qm 0)), (1, .int p0), (2, .int p1), (3, .int p2)]) hx hb dX12_after_151 hl (by decide) rfl (fun ls hl => ?_)
                      refine lv_iload hx hb dX12_after_153 (lv_at hl 0 rfl) ?_
                      refine lv_if_ne (tgt := 161) hx hb dX12_after_155 (by decide) (fun c150 => ?_) (fun c150 => ?_)
                      · refine lv_iload_n hx hb dX12_after_161 rfl (lv_at hl 7 rfl) ?_
                        refine lv_iload hx hb dX12_after_162 (lv_at hl 4 rfl) ?_
                        refine g_ir (g_runS (wc := []) (rest := []) cx hP hD hS [] rfl (by decide) [.int p1, .int v1] (c_X12_fewer l D k b H.size p1 v1) gX12_after_X12_fewer rfl rfl rfl nd_X12_fewer ⟨Nat.le_of_ble_eq_true rfl, Nat.le_of_ble_eq_true rfl⟩ rfl hl.1 rfl (Nat.le_of_ble_eq_true rfl) ⟨Nat.zero_le _, Nat.zero_le _⟩ dX12_after_164) cx.2.2.1 hP hD hS [] rfl rfl (fun r152 H locs hw151 hP hS => ?_)
                        have w153 : r152 = J_X12_fewer p1 v1 := hw151
                        clear hw151
                        refine lv_bipush (v := 100) hx hb dX12_after_167 (by decide) ?_
                        refine lv_iload hx hb dX12_after_169 (lv_at hl 3 rfl) ?_
                        refine lv_imul hx hb dX12_after_171 (lv_topi (fun v154 e154 => ?_))
                        have t154 : v154.toInt = 100 * v3.toInt := by rw [e154]; exact i_mul (by decide) rfl (by omega) (by omega)
                        refine lv_iadd hx hb dX12_after_172 (lv_topi (fun v155 e155 => ?_))
                        refine lv_istore (lv' := [(9, .int v155), (8, .int 1), (7, .int v6), (6, .int v5), (5, .int v3), (4, .int v1), (0, .ref (qm 0)), (1, .int p0), (2, .int p1), (3, .int p2)]) hx hb dX12_after_173 hl (by decide) rfl (fun ls hl => ?_)
                        refine lv_iload hx hb dX12_after_175 (lv_at hl 0 rfl) ?_
                        refine g_ir (g_runS (wc := []) (rest := []) cx hP hD hS [] rfl (by decide) [.int v155] (c_X12_all l D k b H.size v155) gX12_after_X12_all rfl rfl rfl nd_X12_all ⟨Nat.le_of_ble_eq_true rfl, Nat.le_of_ble_eq_true rfl⟩ rfl hl.1 rfl (Nat.le_of_ble_eq_true rfl) ⟨Nat.zero_le _, Nat.zero_le _⟩ dX12_after_177) cx.2.2.1 hP hD hS [] rfl rfl (fun r157 H locs hw156 hP hS => ?_)
                        have w158 : r157 = J_X12_all v155 := hw156
                        clear hw156
                        refine lv_aload_n hx hb dX12_after_180 rfl (lv_at hl 6 rfl) ?_
                        refine g_get cx hP iw_X12_after_X12 0 rfl rfl 1 (by decide) rfl fw_X12_after_13 rfl dX12_after_181 ?_
                        refine lv_iconst (v := 1) hx hb dX12_after_184 (by decide) ?_
                        have hn159 : vp_in 1 26 := f_in (a := 1) (by decide) (by omega) (by omega)
                        refine va_iald hx hb cx.2.1 hP 2 0 rfl rfl hn159 dX12_after_185 (lv_topi (fun v160 e160 => ?_))
                        have uv160 : v160.toInt = ((sm 2) 1).toInt := congrArg Int32.toInt e160
                        refine lv_icmp_gt (tgt := 211) hx hb dX12_after_186 (by decide) (fun c161 => ?_) (fun c161 => ?_)
                        · have f161 : v160.toInt < r157.toInt := f_lt rfl rfl c161
                          refine lv_bipush (v := (-9)) hx hb dX12_after_211 (by decide) ?_
                          have hlit162 : ((-9) : Int32).toInt = -9 := by decide
                          rw [hQ]
                          exact x_i cx hr () hP hD hS (show ((-9) : Int32) = J_X12_after sm tm p0 p1 p2 from by subst e1 e2 e3 e4 e5 e6 w13 e18 e20 e144 w153 e154 e155 w158 e160; first | (refine Eq.symm ?_; refine Eq.trans (if_neg c7) ?_; refine Eq.trans (if_neg c14) ?_; refine Eq.trans (if_neg c21) ?_; refine Eq.trans (if_neg c25) ?_; refine Eq.trans (if_neg c29) ?_; refine Eq.trans (if_neg c34) ?_; refine Eq.trans (if_neg c145) ?_; refine Eq.trans (if_pos c148) ?_; refine Eq.trans (if_pos c149) ?_; refine Eq.trans (if_pos c161) ?_; rfl) | (unfold J_X12_after; try dsimp only; rw [if_neg c7, if_neg c14, if_neg c21, if_neg c25, if_neg c29, if_neg c34, if_neg c145, if_pos c148, if_pos c149, if_pos c161])) dX12_after_213
                        · have f161 : r157.toInt ≤ v160.toInt := f_nlt rfl rfl c161
                          refine lv_iload hx hb dX12_after_189 (lv_at hl 3 rfl) ?_
                          refine lv_iconst (v := 1) hx hb dX12_after_191 (by decide) ?_
                          refine lv_icmp_ne (tgt := 214) hx hb dX12_after_192 (by decide) (fun c163 => ?_) (fun c163 => ?_)
                          · have f163 : ¬ v5.toInt = 1 := f_ne rfl (by decide) c163
                            refine lv_iload hx hb dX12_after_214 (lv_at hl 3 rfl) ?_
                            refine lv_iconst (v := 1) hx hb dX12_after_216 (by decide) ?_
                            refine lv_icmp_ne (tgt := 228) hx hb dX12_after_217 (by decide) (fun c164 => ?_) (fun c164 => ?_)
                            · have f164 : ¬ v5.toInt = 1 := f_ne rfl (by decide) c164
                              refine lv_iload hx hb dX12_after_228 (lv_at hl 0 rfl) ?_
                              rw [hQ]
                              exact x_i cx hr () hP hD hS (show v155 = J_X12_after sm tm p0 p1 p2 from by subst e1 e2 e3 e4 e5 e6 w13 e18 e20 e144 w153 e154 e155 w158 e160; first | (refine Eq.symm ?_; refine Eq.trans (if_neg c7) ?_; refine Eq.trans (if_neg c14) ?_; refine Eq.trans (if_neg c21) ?_; refine Eq.trans (if_neg c25) ?_; refine Eq.trans (if_neg c29) ?_; refine Eq.trans (if_neg c34) ?_; refine Eq.trans (if_neg c145) ?_; refine Eq.trans (if_pos c148) ?_; refine Eq.trans (if_pos c149) ?_; refine Eq.trans (if_neg c161) ?_; rfl) | (unfold J_X12_after; try dsimp only; rw [if_neg c7, if_neg c14, if_neg c21, if_neg c25, if_neg c29, if_neg c34, if_neg c145, if_pos c148, if_pos c149, if_neg c161])) dX12_after_230
                            · have f164 : v5.toInt = 1 := f_eq rfl (by decide) c164
                              exact absurd f164 (by omega)
                          · have f163 : v5.toInt = 1 := f_eq rfl (by decide) c163
                            exact absurd f163 (by omega)
                      · exact absurd c150 (by decide)
                    · have f149 : ¬ v6.toInt = 0 := f_ne rfl (by decide) c149
                      refine lv_aload_n hx hb dX12_after_122 rfl (lv_at hl 5 rfl) ?_
                      refine g_get cx hP iw_X12_after_X12 0 rfl rfl 1 (by decide) rfl fw_X12_after_13 rfl dX12_after_123 ?_
                      refine lv_bipush (v := 6) hx hb dX12_after_126 (by decide) ?_
                      have hn165 : vp_in 6 26 := f_in (a := 6) (by decide) (by omega) (by omega)
                      refine va_iald hx hb cx.2.1 hP 2 0 rfl rfl hn165 dX12_after_128 (lv_topi (fun v166 e166 => ?_))
                      have uv166 : v166.toInt = ((sm 2) 6).toInt := congrArg Int32.toInt e166
                      refine lv_bipush (v := (-9)) hx hb dX12_after_129 (by decide) ?_
                      refine lv_icmp_eq (tgt := 150) hx hb dX12_after_131 (by decide) (fun c167 => ?_) (fun c167 => ?_)
                      · have f167 : v166.toInt = (-9) := f_eq rfl (by decide) c167
                        refine lv_iconst (v := 0) hx hb dX12_after_150 (by decide) ?_
                        refine lv_istore (lv' := [(8, .int 0), (7, .int v6), (6, .int v5), (5, .int v3), (4, .int v1), (0, .ref (qm 0)), (1, .int p0), (2, .int p1), (3, .int p2)]) hx hb dX12_after_151 hl (by decide) rfl (fun ls hl => ?_)
                        refine lv_iload hx hb dX12_after_153 (lv_at hl 0 rfl) ?_
                        refine lv_if_ne (tgt := 161) hx hb dX12_after_155 (by decide) (fun c168 => ?_) (fun c168 => ?_)
                        · exact absurd c168 (by decide)
                        · refine lv_bipush (v := (-9)) hx hb dX12_after_158 (by decide) ?_
                          have hlit169 : ((-9) : Int32).toInt = -9 := by decide
                          rw [hQ]
                          exact x_i cx hr () hP hD hS (show ((-9) : Int32) = J_X12_after sm tm p0 p1 p2 from by subst e1 e2 e3 e4 e5 e6 w13 e18 e20 e144 e166; first | (refine Eq.symm ?_; refine Eq.trans (if_neg c7) ?_; refine Eq.trans (if_neg c14) ?_; refine Eq.trans (if_neg c21) ?_; refine Eq.trans (if_neg c25) ?_; refine Eq.trans (if_neg c29) ?_; refine Eq.trans (if_neg c34) ?_; refine Eq.trans (if_neg c145) ?_; refine Eq.trans (if_pos c148) ?_; refine Eq.trans (if_neg c149) ?_; refine Eq.trans (if_pos c167) ?_; rfl) | (unfold J_X12_after; try dsimp only; rw [if_neg c7, if_neg c14, if_neg c21, if_neg c25, if_neg c29, if_neg c34, if_neg c145, if_pos c148, if_neg c149, if_pos c167])) dX12_after_160
                      · have f167 : ¬ v166.toInt = (-9) := f_ne rfl (by decide) c167
                        refine lv_iload_n hx hb dX12_after_134 rfl (lv_at hl 6 rfl) ?_
                        refine lv_aload_n hx hb dX12_after_135 rfl (lv_at hl 5 rfl) ?_
                        refine g_get cx hP iw_X12_after_X12 0 rfl rfl 1 (by decide) rfl fw_X12_after_13 rfl dX12_after_136 ?_
                        refine lv_iconst (v := 0) hx hb dX12_after_139 (by decide) ?_
                        have hn170 : vp_in 0 26 := f_in (a := 0) (by decide) (by omega) (by omega)
                        refine va_iald hx hb cx.2.1 hP 2 0 rfl rfl hn170 dX12_after_140 (lv_topi (fun v171 e171 => ?_))
                        have uv171 : v171.toInt = ((sm 2) 0).toInt := congrArg Int32.toInt e171
                        have t171 : 0 ≤ v171.toInt ∧ v171.toInt ≤ 5 := by rw [e171]; exact h_w0
                        refine lv_iconst (v := 1) hx hb dX12_after_141 (by decide) ?_
                        refine lv_isub hx hb dX12_after_142 (lv_topi (fun v172 e172 => ?_))
                        have t172 : v172.toInt = v171.toInt - 1 := by rw [e172]; exact i_sub rfl (by decide) (by omega) (by omega)
                        refine lv_icmp_ge (tgt := 150) hx hb dX12_after_143 (by decide) (fun c173 => ?_) (fun c173 => ?_)
                        · have f173 : v172.toInt ≤ p0.toInt := f_le rfl rfl c173
                          refine lv_iconst (v := 0) hx hb dX12_after_150 (by decide) ?_
                          refine lv_istore (lv' := [(8, .int 0), (7, .int v6), (6, .int v5), (5, .int v3), (4, .int v1), (0, .ref (qm 0)), (1, .int p0), (2, .int p1), (3, .int p2)]) hx hb dX12_after_151 hl (by decide) rfl (fun ls hl => ?_)
                          refine lv_iload hx hb dX12_after_153 (lv_at hl 0 rfl) ?_
                          refine lv_if_ne (tgt := 161) hx hb dX12_after_155 (by decide) (fun c174 => ?_) (fun c174 => ?_)
                          · exact absurd c174 (by decide)
                          · refine lv_bipush (v := (-9)) hx hb dX12_after_158 (by decide) ?_
                            have hlit175 : ((-9) : Int32).toInt = -9 := by decide
                            rw [hQ]
                            exact x_i cx hr () hP hD hS (show ((-9) : Int32) = J_X12_after sm tm p0 p1 p2 from by subst e1 e2 e3 e4 e5 e6 w13 e18 e20 e144 e166 e171 e172; first | (refine Eq.symm ?_; refine Eq.trans (if_neg c7) ?_; refine Eq.trans (if_neg c14) ?_; refine Eq.trans (if_neg c21) ?_; refine Eq.trans (if_neg c25) ?_; refine Eq.trans (if_neg c29) ?_; refine Eq.trans (if_neg c34) ?_; refine Eq.trans (if_neg c145) ?_; refine Eq.trans (if_pos c148) ?_; refine Eq.trans (if_neg c149) ?_; refine Eq.trans (if_neg c167) ?_; refine Eq.trans (if_pos c173) ?_; rfl) | (unfold J_X12_after; try dsimp only; rw [if_neg c7, if_neg c14, if_neg c21, if_neg c25, if_neg c29, if_neg c34, if_neg c145, if_pos c148, if_neg c149, if_neg c167, if_pos c173])) dX12_after_160
                        · have f173 : p0.toInt < v172.toInt := f_nle rfl rfl c173
                          refine lv_iconst (v := 1) hx hb dX12_after_146 (by decide) ?_
                          refine lv_goto (tgt := 151) hx hb dX12_after_147 (by decide) ?_
                          refine lv_istore (lv' := [(8, .int 1), (7, .int v6), (6, .int v5), (5, .int v3), (4, .int v1), (0, .ref (qm 0)), (1, .int p0), (2, .int p1), (3, .int p2)]) hx hb dX12_after_151 hl (by decide) rfl (fun ls hl => ?_)
                          refine lv_iload hx hb dX12_after_153 (lv_at hl 0 rfl) ?_
                          refine lv_if_ne (tgt := 161) hx hb dX12_after_155 (by decide) (fun c176 => ?_) (fun c176 => ?_)
                          · refine lv_iload_n hx hb dX12_after_161 rfl (lv_at hl 7 rfl) ?_
                            refine lv_iload hx hb dX12_after_162 (lv_at hl 4 rfl) ?_
                            refine g_ir (g_runS (wc := []) (rest := []) cx hP hD hS [] rfl (by decide) [.int p1, .int v1] (c_X12_fewer l D k b H.size p1 v1) gX12_after_X12_fewer rfl rfl rfl nd_X12_fewer ⟨Nat.le_of_ble_eq_true rfl, Nat.le_of_ble_eq_true rfl⟩ rfl hl.1 rfl (Nat.le_of_ble_eq_true rfl) ⟨Nat.zero_le _, Nat.zero_le _⟩ dX12_after_164) cx.2.2.1 hP hD hS [] rfl rfl (fun r178 H locs hw177 hP hS => ?_)
                            have w179 : r178 = J_X12_fewer p1 v1 := hw177
                            clear hw177
                            refine lv_bipush (v := 100) hx hb dX12_after_167 (by decide) ?_
                            refine lv_iload hx hb dX12_after_169 (lv_at hl 3 rfl) ?_
                            refine lv_imul hx hb dX12_after_171 (lv_topi (fun v180 e180 => ?_))
                            have t180 : v180.toInt = 100 * v3.toInt := by rw [e180]; exact i_mul (by decide) rfl (by omega) (by omega)
                            refine lv_iadd hx hb dX12_after_172 (lv_topi (fun v181 e181 => ?_))
                            refine lv_istore (lv' := [(9, .int v181), (8, .int 1), (7, .int v6), (6, .int v5), (5, .int v3), (4, .int v1), (0, .ref (qm 0)), (1, .int p0), (2, .int p1), (3, .int p2)]) hx hb dX12_after_173 hl (by decide) rfl (fun ls hl => ?_)
                            refine lv_iload hx hb dX12_after_175 (lv_at hl 0 rfl) ?_
                            refine g_ir (g_runS (wc := []) (rest := []) cx hP hD hS [] rfl (by decide) [.int v181] (c_X12_all l D k b H.size v181) gX12_after_X12_all rfl rfl rfl nd_X12_all ⟨Nat.le_of_ble_eq_true rfl, Nat.le_of_ble_eq_true rfl⟩ rfl hl.1 rfl (Nat.le_of_ble_eq_true rfl) ⟨Nat.zero_le _, Nat.zero_le _⟩ dX12_after_177) cx.2.2.1 hP hD hS [] rfl rfl (fun r183 H locs hw182 hP hS => ?_)
                            have w184 : r183 = J_X12_all v181 := hw182
                            clear hw182
                            refine lv_aload_n hx hb dX12_after_180 rfl (lv_at hl 6 rfl) ?_
                            refine g_get cx hP iw_X12_after_X12 0 rfl rfl 1 (by decide) rfl fw_X12_after_13 rfl dX12_after_181 ?_
                            refine lv_iconst (v := 1) hx hb dX12_after_184 (by decide) ?_
                            have hn185 : vp_in 1 26 := f_in (a := 1) (by decide) (by omega) (by omega)
                            refine va_iald hx hb cx.2.1 hP 2 0 rfl rfl hn185 dX12_after_185 (lv_topi (fun v186 e186 => ?_))
                            have uv186 : v186.toInt = ((sm 2) 1).toInt := congrArg Int32.toInt e186
                            refine lv_icmp_gt (tgt := 211) hx hb dX12_after_186 (by decide) (fun c187 => ?_) (fun c187 => ?_)
                            · have f187 : v186.toInt < r183.toInt := f_lt rfl rfl c187
                              refine lv_bipush (v := (-9)) hx hb dX12_after_211 (by decide) ?_
                              have hlit188 : ((-9) : Int32).toInt = -9 := by decide
                              rw [hQ]
                              exact x_i cx hr () hP hD hS (show ((-9) : Int32) = J_X12_after sm tm p0 p1 p2 from by subst e1 e2 e3 e4 e5 e6 w13 e18 e20 e144 e166 e171 e172 w179 e180 e181 w184 e186; first | (refine Eq.symm ?_; refine Eq.trans (if_neg c7) ?_; refine Eq.trans (if_neg c14) ?_; refine Eq.trans (if_neg c21) ?_; refine Eq.trans (if_neg c25) ?_; refine Eq.trans (if_neg c29) ?_; refine Eq.trans (if_neg c34) ?_; refine Eq.trans (if_neg c145) ?_; refine Eq.trans (if_pos c148) ?_; refine Eq.trans (if_neg c149) ?_; refine Eq.trans (if_neg c167) ?_; refine Eq.trans (if_neg c173) ?_; refine Eq.trans (if_pos c187) ?_; rfl) | (unfold J_X12_after; try dsimp only; rw [if_neg c7, if_neg c14, if_neg c21, if_neg c25, if_neg c29, if_neg c34, if_neg c145, if_pos c148, if_neg c149, if_neg c167, if_neg c173, if_pos c187])) dX12_after_213
                            · have f187 : r183.toInt ≤ v186.toInt := f_nlt rfl rfl c187
                              refine lv_iload hx hb dX12_after_189 (lv_at hl 3 rfl) ?_
                              refine lv_iconst (v := 1) hx hb dX12_after_191 (by decide) ?_
                              refine lv_icmp_ne (tgt := 214) hx hb dX12_after_192 (by decide) (fun c189 => ?_) (fun c189 => ?_)
                              · have f189 : ¬ v5.toInt = 1 := f_ne rfl (by decide) c189
                                refine lv_iload hx hb dX12_after_214 (lv_at hl 3 rfl) ?_
                                refine lv_iconst (v := 1) hx hb dX12_after_216 (by decide) ?_
                                refine lv_icmp_ne (tgt := 228) hx hb dX12_after_217 (by decide) (fun c190 => ?_) (fun c190 => ?_)
                                · have f190 : ¬ v5.toInt = 1 := f_ne rfl (by decide) c190
                                  refine lv_iload hx hb dX12_after_228 (lv_at hl 0 rfl) ?_
                                  rw [hQ]
                                  exact x_i cx hr () hP hD hS (show v181 = J_X12_after sm tm p0 p1 p2 from by subst e1 e2 e3 e4 e5 e6 w13 e18 e20 e144 e166 e171 e172 w179 e180 e181 w184 e186; first | (refine Eq.symm ?_; refine Eq.trans (if_neg c7) ?_; refine Eq.trans (if_neg c14) ?_; refine Eq.trans (if_neg c21) ?_; refine Eq.trans (if_neg c25) ?_; refine Eq.trans (if_neg c29) ?_; refine Eq.trans (if_neg c34) ?_; refine Eq.trans (if_neg c145) ?_; refine Eq.trans (if_pos c148) ?_; refine Eq.trans (if_neg c149) ?_; refine Eq.trans (if_neg c167) ?_; refine Eq.trans (if_neg c173) ?_; refine Eq.trans (if_neg c187) ?_; rfl) | (unfold J_X12_after; try dsimp only; rw [if_neg c7, if_neg c14, if_neg c21, if_neg c25, if_neg c29, if_neg c34, if_neg c145, if_pos c148, if_neg c149, if_neg c167, if_neg c173, if_neg c187])) dX12_after_230
                                · have f190 : v5.toInt = 1 := f_eq rfl (by decide) c190
                                  exact absurd f190 (by omega)
                              · have f189 : v5.toInt = 1 := f_eq rfl (by decide) c189
                                exact absurd f189 (by omega)
                          · exact absurd c176 (by decide)
                  · have f148 : ¬ v5.toInt = 0 := f_ne rfl (by decide) c148
                    refine lv_aload_n hx hb dX12_after_106 rfl (lv_at hl 5 rfl) ?_
                    refine g_get cx hP iw_X12_after_X12 0 rfl rfl 1 (by decide) rfl fw_X12_after_13 rfl dX12_after_107 ?_
                    refine lv_iconst (v := 5) hx hb dX12_after_110 (by decide) ?_
                    have hn191 : vp_in 5 26 := f_in (a := 5) (by decide) (by omega) (by omega)
                    refine va_iald hx hb cx.2.1 hP 2 0 rfl rfl hn191 dX12_after_111 (lv_topi (fun v192 e192 => ?_))
                    have uv192 : v192.toInt = ((sm 2) 5).toInt := congrArg Int32.toInt e192
                    refine lv_bipush (v := (-9)) hx hb dX12_after_112 (by decide) ?_
                    refine lv_icmp_eq (tgt := 150) hx hb dX12_after_114 (by decide) (fun c193 => ?_) (fun c193 => ?_)
                    · have f193 : v192.toInt = (-9) := f_eq rfl (by decide) c193
                      refine lv_iconst (v := 0) hx hb dX12_after_150 (by decide) ?_
                      refine lv_istore (lv' := [(8, .int 0), (7, .int v6), (6, .int v5), (5, .int v3), (4, .int v1), (0, .ref (qm 0)), (1, .int p0), (2, .int p1), (3, .int p2)]) hx hb dX12_after_151 hl (by decide) rfl (fun ls hl => ?_)
                      refine lv_iload hx hb dX12_after_153 (lv_at hl 0 rfl) ?_
                      refine lv_if_ne (tgt := 161) hx hb dX12_after_155 (by decide) (fun c194 => ?_) (fun c194 => ?_)
                      · exact absurd c194 (by decide)
                      · refine lv_bipush (v := (-9)) hx hb dX12_after_158 (by decide) ?_
                        have hlit195 : ((-9) : Int32).toInt = -9 := by decide
                        rw [hQ]
                        exact x_i cx hr () hP hD hS (show ((-9) : Int32) = J_X12_after sm tm p0 p1 p2 from by subst e1 e2 e3 e4 e5 e6 w13 e18 e20 e144 e192; first | (refine Eq.symm ?_; refine Eq.trans (if_neg c7) ?_; refine Eq.trans (if_neg c14) ?_; refine Eq.trans (if_neg c21) ?_; refine Eq.trans (if_neg c25) ?_; refine Eq.trans (if_neg c29) ?_; refine Eq.trans (if_neg c34) ?_; refine Eq.trans (if_neg c145) ?_; refine Eq.trans (if_neg c148) ?_; refine Eq.trans (if_pos c193) ?_; rfl) | (unfold J_X12_after; try dsimp only; rw [if_neg c7, if_neg c14, if_neg c21, if_neg c25, if_neg c29, if_neg c34, if_neg c145, if_neg c148, if_pos c193])) dX12_after_160
                    · have f193 : ¬ v192.toInt = (-9) := f_ne rfl (by decide) c193
                      refine lv_iload hx hb dX12_after_117 (lv_at hl 1 rfl) ?_
                      refine lv_if_eq (tgt := 146) hx hb dX12_after_119 (by decide) (fun c196 => ?_) (fun c196 => ?_)
                      · have f196 : v6.toInt = 0 := f_eq rfl (by decide) c196
                        refine lv_iconst (v := 1) hx hb dX12_after_146 (by decide) ?_
                        refine lv_goto (tgt := 151) hx hb dX12_after_147 (by decide) ?_
                        refine lv_istore (lv' := [(8, .int 1), (7, .int v6), (6, .int v5), (5, .int v3), (4, .int v1), (0, .ref (qm 0)), (1, .int p0), (2, .int p1), (3, .int p2)]) hx hb dX12_after_151 hl (by decide) rfl (fun ls hl => ?_)
                        refine lv_iload hx hb dX12_after_153 (lv_at hl 0 rfl) ?_
                        refine lv_if_ne (tgt := 161) hx hb dX12_after_155 (by decide) (fun c197 => ?_) (fun c197 => ?_)
                        · refine lv_iload_n hx hb dX12_after_161 rfl (lv_at hl 7 rfl) ?_
                          refine lv_iload hx hb dX12_after_162 (lv_at hl 4 rfl) ?_
                          refine g_ir (g_runS (wc := []) (rest := []) cx hP hD hS [] rfl (by decide) [.int p1, .int v1] (c_X12_fewer l D k b H.size p1 v1) gX12_after_X12_fewer rfl rfl rfl nd_X12_fewer ⟨Nat.le_of_ble_eq_true rfl, Nat.le_of_ble_eq_true rfl⟩ rfl hl.1 rfl (Nat.le_of_ble_eq_true rfl) ⟨Nat.zero_le _, Nat.zero_le _⟩ dX12_after_164) cx.2.2.1 hP hD hS [] rfl rfl (fun r199 H locs hw198 hP hS => ?_)
                          have w200 : r199 = J_X12_fewer p1 v1 := hw198
                          clear hw198
                          refine lv_bipush (v := 100) hx hb dX12_after_167 (by decide) ?_
                          refine lv_iload hx hb dX12_after_169 (lv_at hl 3 rfl) ?_
                          refine lv_imul hx hb dX12_after_171 (lv_topi (fun v201 e201 => ?_))
                          have t201 : v201.toInt = 100 * v3.toInt := by rw [e201]; exact i_mul (by decide) rfl (by omega) (by omega)
                          refine lv_iadd hx hb dX12_after_172 (lv_topi (fun v202 e202 => ?_))
                          refine lv_istore (lv' := [(9, .int v202), (8, .int 1), (7, .int v6), (6, .int v5), (5, .int v3), (4, .int v1), (0, .ref (qm 0)), (1, .int p0), (2, .int p1), (3, .int p2)]) hx hb dX12_after_173 hl (by decide) rfl (fun ls hl => ?_)
                          refine lv_iload hx hb dX12_after_175 (lv_at hl 0 rfl) ?_
                          refine g_ir (g_runS (wc := []) (rest := []) cx hP hD hS [] rfl (by decide) [.int v202] (c_X12_all l D k b H.size v202) gX12_after_X12_all rfl rfl rfl nd_X12_all ⟨Nat.le_of_ble_eq_true rfl, Nat.le_of_ble_eq_true rfl⟩ rfl hl.1 rfl (Nat.le_of_ble_eq_true rfl) ⟨Nat.zero_le _, Nat.zero_le _⟩ dX12_after_177) cx.2.2.1 hP hD hS [] rfl rfl (fun r204 H locs hw203 hP hS => ?_)
                          have w205 : r204 = J_X12_all v202 := hw203
                          clear hw203
                          refine lv_aload_n hx hb dX12_after_180 rfl (lv_at hl 6 rfl) ?_
                          refine g_get cx hP iw_X12_after_X12 0 rfl rfl 1 (by decide) rfl fw_X12_after_13 rfl dX12_after_181 ?_
                          refine lv_iconst (v := 1) hx hb dX12_after_184 (by decide) ?_
                          have hn206 : vp_in 1 26 := f_in (a := 1) (by decide) (by omega) (by omega)
                          refine va_iald hx hb cx.2.1 hP 2 0 rfl rfl hn206 dX12_after_185 (lv_topi (fun v207 e207 => ?_))
                          have uv207 : v207.toInt = ((sm 2) 1).toInt := congrArg Int32.toInt e207
                          refine lv_icmp_gt (tgt := 211) hx hb dX12_after_186 (by decide) (fun c208 => ?_) (fun c208 => ?_)
                          · have f208 : v207.toInt < r204.toInt := f_lt rfl rfl c208
                            refine lv_bipush (v := (-9)) hx hb dX12_after_211 (by decide) ?_
                            have hlit209 : ((-9) : Int32).toInt = -9 := by decide
                            rw [hQ]
                            exact x_i cx hr () hP hD hS (show ((-9) : Int32) = J_X12_after sm tm p0 p1 p2 from by subst e1 e2 e3 e4 e5 e6 w13 e18 e20 e144 e192 w200 e201 e202 w205 e207; first | (refine Eq.symm ?_; refine Eq.trans (if_neg c7) ?_; refine Eq.trans (if_neg c14) ?_; refine Eq.trans (if_neg c21) ?_; refine Eq.trans (if_neg c25) ?_; refine Eq.trans (if_neg c29) ?_; refine Eq.trans (if_neg c34) ?_; refine Eq.trans (if_neg c145) ?_; refine Eq.trans (if_neg c148) ?_; refine Eq.trans (if_neg c193) ?_; refine Eq.trans (if_pos c196) ?_; refine Eq.trans (if_pos c208) ?_; rfl) | (unfold J_X12_after; try dsimp only; rw [if_neg c7, if_neg c14, if_neg c21, if_neg c25, if_neg c29, if_neg c34, if_neg c145, if_neg c148, if_neg c193, if_pos c196, if_pos c208])) dX12_after_213
                          · have f208 : r204.toInt ≤ v207.toInt := f_nlt rfl rfl c208
                            refine lv_iload hx hb dX12_after_189 (lv_at hl 3 rfl) ?_
                            refine lv_iconst (v := 1) hx hb dX12_after_191 (by decide) ?_
                            refine lv_icmp_ne (tgt := 214) hx hb dX12_after_192 (by decide) (fun c210 => ?_) (fun c210 => ?_)
                            · have f210 : ¬ v5.toInt = 1 := f_ne rfl (by decide) c210
                              refine lv_iload hx hb dX12_after_214 (lv_at hl 3 rfl) ?_
                              refine lv_iconst (v := 1) hx hb dX12_after_216 (by decide) ?_
                              refine lv_icmp_ne (tgt := 228) hx hb dX12_after_217 (by decide) (fun c211 => ?_) (fun c211 => ?_)
                              · have f211 : ¬ v5.toInt = 1 := f_ne rfl (by decide) c211
                                refine lv_iload hx hb dX12_after_228 (lv_at hl 0 rfl) ?_
                                rw [hQ]
                                exact x_i cx hr () hP hD hS (show v202 = J_X12_after sm tm p0 p1 p2 from by subst e1 e2 e3 e4 e5 e6 w13 e18 e20 e144 e192 w200 e201 e202 w205 e207; first | (refine Eq.symm ?_; refine Eq.trans (if_neg c7) ?_; refine Eq.trans (if_neg c14) ?_; refine Eq.trans (if_neg c21) ?_; refine Eq.trans (if_neg c25) ?_; refine Eq.trans (if_neg c29) ?_; refine Eq.trans (if_neg c34) ?_; refine Eq.trans (if_neg c145) ?_; refine Eq.trans (if_neg c148) ?_; refine Eq.trans (if_neg c193) ?_; refine Eq.trans (if_pos c196) ?_; refine Eq.trans (if_neg c208) ?_; refine Eq.trans (if_neg c210) ?_; refine Eq.trans (if_neg c211) ?_; rfl) | (unfold J_X12_after; try dsimp only; rw [if_neg c7, if_neg c14, if_neg c21, if_neg c25, if_neg c29, if_neg c34, if_neg c145, if_neg c148, if_neg c193, if_pos c196, if_neg c208, if_neg c210, if_neg c211])) dX12_after_230
                              · have f211 : v5.toInt = 1 := f_eq rfl (by decide) c211
                                refine lv_iload hx hb dX12_after_220 (lv_at hl 0 rfl) ?_
                                refine lv_bipush (v := 90) hx hb dX12_after_222 (by decide) ?_
                                refine lv_isub hx hb dX12_after_224 (lv_topi (fun v212 e212 => ?_))
                                refine lv_goto (tgt := 230) hx hb dX12_after_225 (by decide) ?_
                                rw [hQ]
                                exact x_i cx hr () hP hD hS (show v212 = J_X12_after sm tm p0 p1 p2 from by subst e1 e2 e3 e4 e5 e6 w13 e18 e20 e144 e192 w200 e201 e202 w205 e207 e212; first | (refine Eq.symm ?_; refine Eq.trans (if_neg c7) ?_; refine Eq.trans (if_neg c14) ?_; refine Eq.trans (if_neg c21) ?_; refine Eq.trans (if_neg c25) ?_; refine Eq.trans (if_neg c29) ?_; refine Eq.trans (if_neg c34) ?_; refine Eq.trans (if_neg c145) ?_; refine Eq.trans (if_neg c148) ?_; refine Eq.trans (if_neg c193) ?_; refine Eq.trans (if_pos c196) ?_; refine Eq.trans (if_neg c208) ?_; refine Eq.trans (if_neg c210) ?_; refine Eq.trans (if_pos c211) ?_; rfl) | (unfold J_X12_after; try dsimp only; rw [if_neg c7, if_neg c14, if_neg c21, if_neg c25, if_neg c29, if_neg c34, if_neg c145, if_neg c148, if_neg c193, if_pos c196, if_neg c208, if_neg c210, if_pos c211])) dX12_after_230
                            · have f210 : v5.toInt = 1 := f_eq rfl (by decide) c210
                              refine lv_iload hx hb dX12_after_195 (lv_at hl 0 rfl) ?_
                              refine lv_bipush (v := 100) hx hb dX12_after_197 (by decide) ?_
                              refine lv_idiv hx hb dX12_after_199 (by decide) (lv_topi (fun v213 e213 => ?_))
                              refine lv_if_eq (tgt := 211) hx hb dX12_after_200 (by decide) (fun c214 => ?_) (fun c214 => ?_)
                              · have f214 : v213.toInt = 0 := f_eq rfl (by decide) c214
                                refine lv_bipush (v := (-9)) hx hb dX12_after_211 (by decide) ?_
                                have hlit215 : ((-9) : Int32).toInt = -9 := by decide
                                rw [hQ]
                                exact x_i cx hr () hP hD hS (show ((-9) : Int32) = J_X12_after sm tm p0 p1 p2 from by subst e1 e2 e3 e4 e5 e6 w13 e18 e20 e144 e192 w200 e201 e202 w205 e207 e213; first | (refine Eq.symm ?_; refine Eq.trans (if_neg c7) ?_; refine Eq.trans (if_neg c14) ?_; refine Eq.trans (if_neg c21) ?_; refine Eq.trans (if_neg c25) ?_; refine Eq.trans (if_neg c29) ?_; refine Eq.trans (if_neg c34) ?_; refine Eq.trans (if_neg c145) ?_; refine Eq.trans (if_neg c148) ?_; refine Eq.trans (if_neg c193) ?_; refine Eq.trans (if_pos c196) ?_; refine Eq.trans (if_neg c208) ?_; refine Eq.trans (if_pos c210) ?_; refine Eq.trans (if_pos c214) ?_; rfl) | (unfold J_X12_after; try dsimp only; rw [if_neg c7, if_neg c14, if_neg c21, if_neg c25, if_neg c29, if_neg c34, if_neg c145, if_neg c148, if_neg c193, if_pos c196, if_neg c208, if_pos c210, if_pos c214])) dX12_after_213
                              · have f214 : ¬ v213.toInt = 0 := f_ne rfl (by decide) c214
                                refine lv_iload hx hb dX12_after_203 (lv_at hl 0 rfl) ?_
                                refine lv_bipush (v := 10) hx hb dX12_after_205 (by decide) ?_
                                refine lv_irem hx hb dX12_after_207 (by decide) (lv_topi (fun v216 e216 => ?_))
                                have t216 : -10 < v216.toInt ∧ v216.toInt < 10 := by rw [e216]; exact i_remb (by decide) (by decide)
                                refine lv_if_ne (tgt := 214) hx hb dX12_after_208 (by decide) (fun c217 => ?_) (fun c217 => ?_)
                                · have f217 : ¬ v216.toInt = 0 := f_ne rfl (by decide) c217
                                  refine lv_iload hx hb dX12_after_214 (lv_at hl 3 rfl) ?_
                                  refine lv_iconst (v := 1) hx hb dX12_after_216 (by decide) ?_
                                  refine lv_icmp_ne (tgt := 228) hx hb dX12_after_217 (by decide) (fun c218 => ?_) (fun c218 => ?_)
                                  · have f218 : ¬ v5.toInt = 1 := f_ne rfl (by decide) c218
                                    exact absurd f218 (by omega)
                                  · have f218 : v5.toInt = 1 := f_eq rfl (by decide) c218
                                    refine lv_iload hx hb dX12_after_220 (lv_at hl 0 rfl) ?_
                                    refine lv_bipush (v := 90) hx hb dX12_after_222 (by decide) ?_
                                    refine lv_isub hx hb dX12_after_224 (lv_topi (fun v219 e219 => ?_))
                                    refine lv_goto (tgt := 230) hx hb dX12_after_225 (by decide) ?_
                                    rw [hQ]
                                    exact x_i cx hr () hP hD hS (show v219 = J_X12_after sm tm p0 p1 p2 from by subst e1 e2 e3 e4 e5 e6 w13 e18 e20 e144 e192 w200 e201 e202 w205 e207 e213 e216 e219; first | (refine Eq.symm ?_; refine Eq.trans (if_neg c7) ?_; refine Eq.trans (if_neg c14) ?_; refine Eq.trans (if_neg c21) ?_; refine Eq.trans (if_neg c25) ?_; refine Eq.trans (if_neg c29) ?_; refine Eq.trans (if_neg c34) ?_; refine Eq.trans (if_neg c145) ?_; refine Eq.trans (if_neg c148) ?_; refine Eq.trans (if_neg c193) ?_; refine Eq.trans (if_pos c196) ?_; refine Eq.trans (if_neg c208) ?_; refine Eq.trans (if_pos c210) ?_; refine Eq.trans (if_neg c214) ?_; refine Eq.trans (if_neg c217) ?_; rfl) | (unfold J_X12_after; try dsimp only; rw [if_neg c7, if_neg c14, if_neg c21, if_neg c25, if_neg c29, if_neg c34, if_neg c145, if_neg c148, if_neg c193, if_pos c196, if_neg c208, if_pos c210, if_neg c214, if_neg c217])) dX12_after_230
                                · have f217 : v216.toInt = 0 := f_eq rfl (by decide) c217
                                  refine lv_bipush (v := (-9)) hx hb dX12_after_211 (by decide) ?_
                                  have hlit220 : ((-9) : Int32).toInt = -9 := by decide
                                  rw [hQ]
                                  exact x_i cx hr () hP hD hS (show ((-9) : Int32) = J_X12_after sm tm p0 p1 p2 from by subst e1 e2 e3 e4 e5 e6 w13 e18 e20 e144 e192 w200 e201 e202 w205 e207 e213 e216; first | (refine Eq.symm ?_; refine Eq.trans (if_neg c7) ?_; refine Eq.trans (if_neg c14) ?_; refine Eq.trans (if_neg c21) ?_; refine Eq.trans (if_neg c25) ?_; refine Eq.trans (if_neg c29) ?_; refine Eq.trans (if_neg c34) ?_; refine Eq.trans (if_neg c145) ?_; refine Eq.trans (if_neg c148) ?_; refine Eq.trans (if_neg c193) ?_; refine Eq.trans (if_pos c196) ?_; refine Eq.trans (if_neg c208) ?_; refine Eq.trans (if_pos c210) ?_; refine Eq.trans (if_neg c214) ?_; refine Eq.trans (if_pos c217) ?_; rfl) | (unfold J_X12_after; try dsimp only; rw [if_neg c7, if_neg c14, if_neg c21, if_neg c25, if_neg c29, if_neg c34, if_neg c145, if_neg c148, if_neg c193, if_pos c196, if_neg c208, if_pos c210, if_neg c214, if_pos c217])) dX12_after_213
                        · exact absurd c197 (by decide)
                      · have f196 : ¬ v6.toInt = 0 := f_ne rfl (by decide) c196
                        refine lv_aload_n hx hb dX12_after_122 rfl (lv_at hl 5 rfl) ?_
                        refine g_get cx hP iw_X12_after_X12 0 rfl rfl 1 (by decide) rfl fw_X12_after_13 rfl dX12_after_123 ?_
                        refine lv_bipush (v := 6) hx hb dX12_after_126 (by decide) ?_
                        have hn221 : vp_in 6 26 := f_in (a := 6) (by decide) (by omega) (by omega)
                        refine va_iald hx hb cx.2.1 hP 2 0 rfl rfl hn221 dX12_after_128 (lv_topi (fun v222 e222 => ?_))
                        have uv222 : v222.toInt = ((sm 2) 6).toInt := congrArg Int32.toInt e222
                        refine lv_bipush (v := (-9)) hx hb dX12_after_129 (by decide) ?_
                        refine lv_icmp_eq (tgt := 150) hx hb dX12_after_131 (by decide) (fun c223 => ?_) (fun c223 => ?_)
                        · have f223 : v222.toInt = (-9) := f_eq rfl (by decide) c223
                          refine lv_iconst (v := 0) hx hb dX12_after_150 (by decide) ?_
                          refine lv_istore (lv' := [(8, .int 0), (7, .int v6), (6, .int v5), (5, .int v3), (4, .int v1), (0, .ref (qm 0)), (1, .int p0), (2, .int p1), (3, .int p2)]) hx hb dX12_after_151 hl (by decide) rfl (fun ls hl => ?_)
                          refine lv_iload hx hb dX12_after_153 (lv_at hl 0 rfl) ?_
                          refine lv_if_ne (tgt := 161) hx hb dX12_after_155 (by decide) (fun c224 => ?_) (fun c224 => ?_)
                          · exact absurd c224 (by decide)
                          · refine lv_bipush (v := (-9)) hx hb dX12_after_158 (by decide) ?_
                            have hlit225 : ((-9) : Int32).toInt = -9 := by decide
                            rw [hQ]
                            exact x_i cx hr () hP hD hS (show ((-9) : Int32) = J_X12_after sm tm p0 p1 p2 from by subst e1 e2 e3 e4 e5 e6 w13 e18 e20 e144 e192 e222; first | (refine Eq.symm ?_; refine Eq.trans (if_neg c7) ?_; refine Eq.trans (if_neg c14) ?_; refine Eq.trans (if_neg c21) ?_; refine Eq.trans (if_neg c25) ?_; refine Eq.trans (if_neg c29) ?_; refine Eq.trans (if_neg c34) ?_; refine Eq.trans (if_neg c145) ?_; refine Eq.trans (if_neg c148) ?_; refine Eq.trans (if_neg c193) ?_; refine Eq.trans (if_neg c196) ?_; refine Eq.trans (if_pos c223) ?_; rfl) | (unfold J_X12_after; try dsimp only; rw [if_neg c7, if_neg c14, if_neg c21, if_neg c25, if_neg c29, if_neg c34, if_neg c145, if_neg c148, if_neg c193, if_neg c196, if_pos c223])) dX12_after_160
                        · have f223 : ¬ v222.toInt = (-9) := f_ne rfl (by decide) c223
                          refine lv_iload_n hx hb dX12_after_134 rfl (lv_at hl 6 rfl) ?_
                          refine lv_aload_n hx hb dX12_after_135 rfl (lv_at hl 5 rfl) ?_
                          refine g_get cx hP iw_X12_after_X12 0 rfl rfl 1 (by decide) rfl fw_X12_after_13 rfl dX12_after_136 ?_
                          refine lv_iconst (v := 0) hx hb dX12_after_139 (by decide) ?_
                          have hn226 : vp_in 0 26 := f_in (a := 0) (by decide) (by omega) (by omega)
                          refine va_iald hx hb cx.2.1 hP 2 0 rfl rfl hn226 dX12_after_140 (lv_topi (fun v227 e227 => ?_))
                          have uv227 : v227.toInt = ((sm 2) 0).toInt := congrArg Int32.toInt e227
                          have t227 : 0 ≤ v227.toInt ∧ v227.toInt ≤ 5 := by rw [e227]; exact h_w0
                          refine lv_iconst (v := 1) hx hb dX12_after_141 (by decide) ?_
                          refine lv_isub hx hb dX12_after_142 (lv_topi (fun v228 e228 => ?_))
                          have t228 : v228.toInt = v227.toInt - 1 := by rw [e228]; exact i_sub rfl (by decide) (by omega) (by omega)
                          refine lv_icmp_ge (tgt := 150) hx hb dX12_after_143 (by decide) (fun c229 => ?_) (fun c229 => ?_)
                          · have f229 : v228.toInt ≤ p0.toInt := f_le rfl rfl c229
                            refine lv_iconst (v := 0) hx hb dX12_after_150 (by decide) ?_
                            refine lv_istore (lv' := [(8, .int 0), (7, .int v6), (6, .int v5), (5, .int v3), (4, .int v1), (0, .ref (qm 0)), (1, .int p0), (2, .int p1), (3, .int p2)]) hx hb dX12_after_151 hl (by decide) rfl (fun ls hl => ?_)
                            refine lv_iload hx hb dX12_after_153 (lv_at hl 0 rfl) ?_
                            refine lv_if_ne (tgt := 161) hx hb dX12_after_155 (by decide) (fun c230 => ?_) (fun c230 => ?_)
                            · exact absurd c230 (by decide)
                            · refine lv_bipush (v := (-9)) hx hb dX12_after_158 (by decide) ?_
                              have hlit231 : ((-9) : Int32).toInt = -9 := by decide
                              rw [hQ]
                              exact x_i cx hr () hP hD hS (show ((-9) : Int32) = J_X12_after sm tm p0 p1 p2 from by subst e1 e2 e3 e4 e5 e6 w13 e18 e20 e144 e192 e222 e227 e228; first | (refine Eq.symm ?_; refine Eq.trans (if_neg c7) ?_; refine Eq.trans (if_neg c14) ?_; refine Eq.trans (if_neg c21) ?_; refine Eq.trans (if_neg c25) ?_; refine Eq.trans (if_neg c29) ?_; refine Eq.trans (if_neg c34) ?_; refine Eq.trans (if_neg c145) ?_; refine Eq.trans (if_neg c148) ?_; refine Eq.trans (if_neg c193) ?_; refine Eq.trans (if_neg c196) ?_; refine Eq.trans (if_neg c223) ?_; refine Eq.trans (if_pos c229) ?_; rfl) | (unfold J_X12_after; try dsimp only; rw [if_neg c7, if_neg c14, if_neg c21, if_neg c25, if_neg c29, if_neg c34, if_neg c145, if_neg c148, if_neg c193, if_neg c196, if_neg c223, if_pos c229])) dX12_after_160
                          · have f229 : p0.toInt < v228.toInt := f_nle rfl rfl c229
                            refine lv_iconst (v := 1) hx hb dX12_after_146 (by decide) ?_
                            refine lv_goto (tgt := 151) hx hb dX12_after_147 (by decide) ?_
                            refine lv_istore (lv' := [(8, .int 1), (7, .int v6), (6, .int v5), (5, .int v3), (4, .int v1), (0, .ref (qm 0)), (1, .int p0), (2, .int p1), (3, .int p2)]) hx hb dX12_after_151 hl (by decide) rfl (fun ls hl => ?_)
                            refine lv_iload hx hb dX12_after_153 (lv_at hl 0 rfl) ?_
                            refine lv_if_ne (tgt := 161) hx hb dX12_after_155 (by decide) (fun c232 => ?_) (fun c232 => ?_)
                            · refine lv_iload_n hx hb dX12_after_161 rfl (lv_at hl 7 rfl) ?_
                              refine lv_iload hx hb dX12_after_162 (lv_at hl 4 rfl) ?_
                              refine g_ir (g_runS (wc := []) (rest := []) cx hP hD hS [] rfl (by decide) [.int p1, .int v1] (c_X12_fewer l D k b H.size p1 v1) gX12_after_X12_fewer rfl rfl rfl nd_X12_fewer ⟨Nat.le_of_ble_eq_true rfl, Nat.le_of_ble_eq_true rfl⟩ rfl hl.1 rfl (Nat.le_of_ble_eq_true rfl) ⟨Nat.zero_le _, Nat.zero_le _⟩ dX12_after_164) cx.2.2.1 hP hD hS [] rfl rfl (fun r234 H locs hw233 hP hS => ?_)
                              have w235 : r234 = J_X12_fewer p1 v1 := hw233
                              clear hw233
                              refine lv_bipush (v := 100) hx hb dX12_after_167 (by decide) ?_
                              refine lv_iload hx hb dX12_after_169 (lv_at hl 3 rfl) ?_
                              refine lv_imul hx hb dX12_after_171 (lv_topi (fun v236 e236 => ?_))
                              have t236 : v236.toInt = 100 * v3.toInt := by rw [e236]; exact i_mul (by decide) rfl (by omega) (by omega)
                              refine lv_iadd hx hb dX12_after_172 (lv_topi (fun v237 e237 => ?_))
                              refine lv_istore (lv' := [(9, .int v237), (8, .int 1), (7, .int v6), (6, .int v5), (5, .int v3), (4, .int v1), (0, .ref (qm 0)), (1, .int p0), (2, .int p1), (3, .int p2)]) hx hb dX12_after_173 hl (by decide) rfl (fun ls hl => ?_)
                              refine lv_iload hx hb dX12_after_175 (lv_at hl 0 rfl) ?_
                              refine g_ir (g_runS (wc := []) (rest := []) cx hP hD hS [] rfl (by decide) [.int v237] (c_X12_all l D k b H.size v237) gX12_after_X12_all rfl rfl rfl nd_X12_all ⟨Nat.le_of_ble_eq_true rfl, Nat.le_of_ble_eq_true rfl⟩ rfl hl.1 rfl (Nat.le_of_ble_eq_true rfl) ⟨Nat.zero_le _, Nat.zero_le _⟩ dX12_after_177) cx.2.2.1 hP hD hS [] rfl rfl (fun r239 H locs hw238 hP hS => ?_)
                              have w240 : r239 = J_X12_all v237 := hw238
                              clear hw238
                              refine lv_aload_n hx hb dX12_after_180 rfl (lv_at hl 6 rfl) ?_
                              refine g_get cx hP iw_X12_after_X12 0 rfl rfl 1 (by decide) rfl fw_X12_after_13 rfl dX12_after_181 ?_
                              refine lv_iconst (v := 1) hx hb dX12_after_184 (by decide) ?_
                              have hn241 : vp_in 1 26 := f_in (a := 1) (by decide) (by omega) (by omega)
                              refine va_iald hx hb cx.2.1 hP 2 0 rfl rfl hn241 dX12_after_185 (lv_topi (fun v242 e242 => ?_))
                              have uv242 : v242.toInt = ((sm 2) 1).toInt := congrArg Int32.toInt e242
                              refine lv_icmp_gt (tgt := 211) hx hb dX12_after_186 (by decide) (fun c243 => ?_) (fun c243 => ?_)
                              · have f243 : v242.toInt < r239.toInt := f_lt rfl rfl c243
                                refine lv_bipush (v := (-9)) hx hb dX12_after_211 (by decide) ?_
                                have hlit244 : ((-9) : Int32).toInt = -9 := by decide
                                rw [hQ]
                                exact x_i cx hr () hP hD hS (show ((-9) : Int32) = J_X12_after sm tm p0 p1 p2 from by subst e1 e2 e3 e4 e5 e6 w13 e18 e20 e144 e192 e222 e227 e228 w235 e236 e237 w240 e242; first | (refine Eq.symm ?_; refine Eq.trans (if_neg c7) ?_; refine Eq.trans (if_neg c14) ?_; refine Eq.trans (if_neg c21) ?_; refine Eq.trans (if_neg c25) ?_; refine Eq.trans (if_neg c29) ?_; refine Eq.trans (if_neg c34) ?_; refine Eq.trans (if_neg c145) ?_; refine Eq.trans (if_neg c148) ?_; refine Eq.trans (if_neg c193) ?_; refine Eq.trans (if_neg c196) ?_; refine Eq.trans (if_neg c223) ?_; refine Eq.trans (if_neg c229) ?_; refine Eq.trans (if_pos c243) ?_; rfl) | (unfold J_X12_after; try dsimp only; rw [if_neg c7, if_neg c14, if_neg c21, if_neg c25, if_neg c29, if_neg c34, if_neg c145, if_neg c148, if_neg c193, if_neg c196, if_neg c223, if_neg c229, if_pos c243])) dX12_after_213
                              · have f243 : r239.toInt ≤ v242.toInt := f_nlt rfl rfl c243
                                refine lv_iload hx hb dX12_after_189 (lv_at hl 3 rfl) ?_
                                refine lv_iconst (v := 1) hx hb dX12_after_191 (by decide) ?_
                                refine lv_icmp_ne (tgt := 214) hx hb dX12_after_192 (by decide) (fun c245 => ?_) (fun c245 => ?_)
                                · have f245 : ¬ v5.toInt = 1 := f_ne rfl (by decide) c245
                                  refine lv_iload hx hb dX12_after_214 (lv_at hl 3 rfl) ?_
                                  refine lv_iconst (v := 1) hx hb dX12_after_216 (by decide) ?_
                                  refine lv_icmp_ne (tgt := 228) hx hb dX12_after_217 (by decide) (fun c246 => ?_) (fun c246 => ?_)
                                  · have f246 : ¬ v5.toInt = 1 := f_ne rfl (by decide) c246
                                    refine lv_iload hx hb dX12_after_228 (lv_at hl 0 rfl) ?_
                                    rw [hQ]
                                    exact x_i cx hr () hP hD hS (show v237 = J_X12_after sm tm p0 p1 p2 from by subst e1 e2 e3 e4 e5 e6 w13 e18 e20 e144 e192 e222 e227 e228 w235 e236 e237 w240 e242; first | (refine Eq.symm ?_; refine Eq.trans (if_neg c7) ?_; refine Eq.trans (if_neg c14) ?_; refine Eq.trans (if_neg c21) ?_; refine Eq.trans (if_neg c25) ?_; refine Eq.trans (if_neg c29) ?_; refine Eq.trans (if_neg c34) ?_; refine Eq.trans (if_neg c145) ?_; refine Eq.trans (if_neg c148) ?_; refine Eq.trans (if_neg c193) ?_; refine Eq.trans (if_neg c196) ?_; refine Eq.trans (if_neg c223) ?_; refine Eq.trans (if_neg c229) ?_; refine Eq.trans (if_neg c243) ?_; refine Eq.trans (if_neg c245) ?_; refine Eq.trans (if_neg c246) ?_; rfl) | (unfold J_X12_after; try dsimp only; rw [if_neg c7, if_neg c14, if_neg c21, if_neg c25, if_neg c29, if_neg c34, if_neg c145, if_neg c148, if_neg c193, if_neg c196, if_neg c223, if_neg c229, if_neg c243, if_neg c245, if_neg c246])) dX12_after_230
                                  · have f246 : v5.toInt = 1 := f_eq rfl (by decide) c246
                                    refine lv_iload hx hb dX12_after_220 (lv_at hl 0 rfl) ?_
                                    refine lv_bipush (v := 90) hx hb dX12_after_222 (by decide) ?_
                                    refine lv_isub hx hb dX12_after_224 (lv_topi (fun v247 e247 => ?_))
                                    refine lv_goto (tgt := 230) hx hb dX12_after_225 (by decide) ?_
                                    rw [hQ]
                                    exact x_i cx hr () hP hD hS (show v247 = J_X12_after sm tm p0 p1 p2 from by subst e1 e2 e3 e4 e5 e6 w13 e18 e20 e144 e192 e222 e227 e228 w235 e236 e237 w240 e242 e247; first | (refine Eq.symm ?_; refine Eq.trans (if_neg c7) ?_; refine Eq.trans (if_neg c14) ?_; refine Eq.trans (if_neg c21) ?_; refine Eq.trans (if_neg c25) ?_; refine Eq.trans (if_neg c29) ?_; refine Eq.trans (if_neg c34) ?_; refine Eq.trans (if_neg c145) ?_; refine Eq.trans (if_neg c148) ?_; refine Eq.trans (if_neg c193) ?_; refine Eq.trans (if_neg c196) ?_; refine Eq.trans (if_neg c223) ?_; refine Eq.trans (if_neg c229) ?_; refine Eq.trans (if_neg c243) ?_; refine Eq.trans (if_neg c245) ?_; refine Eq.trans (if_pos c246) ?_; rfl) | (unfold J_X12_after; try dsimp only; rw [if_neg c7, if_neg c14, if_neg c21, if_neg c25, if_neg c29, if_neg c34, if_neg c145, if_neg c148, if_neg c193, if_neg c196, if_neg c223, if_neg c229, if_neg c243, if_neg c245, if_pos c246])) dX12_after_230
                                · have f245 : v5.toInt = 1 := f_eq rfl (by decide) c245
                                  refine lv_iload hx hb dX12_after_195 (lv_at hl 0 rfl) ?_
                                  refine lv_bipush (v := 100) hx hb dX12_after_197 (by decide) ?_
                                  refine lv_idiv hx hb dX12_after_199 (by decide) (lv_topi (fun v248 e248 => ?_))
                                  refine lv_if_eq (tgt := 211) hx hb dX12_after_200 (by decide) (fun c249 => ?_) (fun c249 => ?_)
                                  · have f249 : v248.toInt = 0 := f_eq rfl (by decide) c249
                                    refine lv_bipush (v := (-9)) hx hb dX12_after_211 (by decide) ?_
                                    have hlit250 : ((-9) : Int32).toInt = -9 := by decide
                                    rw [hQ]
                                    exact x_i cx hr () hP hD hS (show ((-9) : Int32) = J_X12_after sm tm p0 p1 p2 from by subst e1 e2 e3 e4 e5 e6 w13 e18 e20 e144 e192 e222 e227 e228 w235 e236 e237 w240 e242 e248; first | (refine Eq.symm ?_; refine Eq.trans (if_neg c7) ?_; refine Eq.trans (if_neg c14) ?_; refine Eq.trans (if_neg c21) ?_; refine Eq.trans (if_neg c25) ?_; refine Eq.trans (if_neg c29) ?_; refine Eq.trans (if_neg c34) ?_; refine Eq.trans (if_neg c145) ?_; refine Eq.trans (if_neg c148) ?_; refine Eq.trans (if_neg c193) ?_; refine Eq.trans (if_neg c196) ?_; refine Eq.trans (if_neg c223) ?_; refine Eq.trans (if_neg c229) ?_; refine Eq.trans (if_neg c243) ?_; refine Eq.trans (if_pos c245) ?_; refine Eq.trans (if_pos c249) ?_; rfl) | (unfold J_X12_after; try dsimp only; rw [if_neg c7, if_neg c14, if_neg c21, if_neg c25, if_neg c29, if_neg c34, if_neg c145, if_neg c148, if_neg c193, if_neg c196, if_neg c223, if_neg c229, if_neg c243, if_pos c245, if_pos c249])) dX12_after_213
                                  · have f249 : ¬ v248.toInt = 0 := f_ne rfl (by decide) c249
                                    refine lv_iload hx hb dX12_after_203 (lv_at hl 0 rfl) ?_
                                    refine lv_bipush (v := 10) hx hb dX12_after_205 (by decide) ?_
                                    refine lv_irem hx hb dX12_after_207 (by decide) (lv_topi (fun v251 e251 => ?_))
                                    have t251 : -10 < v251.toInt ∧ v251.toInt < 10 := by rw [e251]; exact i_remb (by decide) (by decide)
                                    refine lv_if_ne (tgt := 214) hx hb dX12_after_208 (by decide) (fun c252 => ?_) (fun c252 => ?_)
                                    · have f252 : ¬ v251.toInt = 0 := f_ne rfl (by decide) c252
                                      refine lv_iload hx hb dX12_after_214 (lv_at hl 3 rfl) ?_
                                      refine lv_iconst (v := 1) hx hb dX12_after_216 (by decide) ?_
                                      refine lv_icmp_ne (tgt := 228) hx hb dX12_after_217 (by decide) (fun c253 => ?_) (fun c253 => ?_)
                                      · have f253 : ¬ v5.toInt = 1 := f_ne rfl (by decide) c253
                                        exact absurd f253 (by omega)
                                      · have f253 : v5.toInt = 1 := f_eq rfl (by decide) c253
                                        refine lv_iload hx hb dX12_after_220 (lv_at hl 0 rfl) ?_
                                        refine lv_bipush (v := 90) hx hb dX12_after_222 (by decide) ?_
                                        refine lv_isub hx hb dX12_after_224 (lv_topi (fun v254 e254 => ?_))
                                        refine lv_goto (tgt := 230) hx hb dX12_after_225 (by decide) ?_
                                        rw [hQ]
                                        exact x_i cx hr () hP hD hS (show v254 = J_X12_after sm tm p0 p1 p2 from by subst e1 e2 e3 e4 e5 e6 w13 e18 e20 e144 e192 e222 e227 e228 w235 e236 e237 w240 e242 e248 e251 e254; first | (refine Eq.symm ?_; refine Eq.trans (if_neg c7) ?_; refine Eq.trans (if_neg c14) ?_; refine Eq.trans (if_neg c21) ?_; refine Eq.trans (if_neg c25) ?_; refine Eq.trans (if_neg c29) ?_; refine Eq.trans (if_neg c34) ?_; refine Eq.trans (if_neg c145) ?_; refine Eq.trans (if_neg c148) ?_; refine Eq.trans (if_neg c193) ?_; refine Eq.trans (if_neg c196) ?_; refine Eq.trans (if_neg c223) ?_; refine Eq.trans (if_neg c229) ?_; refine Eq.trans (if_neg c243) ?_; refine Eq.trans (if_pos c245) ?_; refine Eq.trans (if_neg c249) ?_; refine Eq.trans (if_neg c252) ?_; rfl) | (unfold J_X12_after; try dsimp only; rw [if_neg c7, if_neg c14, if_neg c21, if_neg c25, if_neg c29, if_neg c34, if_neg c145, if_neg c148, if_neg c193, if_neg c196, if_neg c223, if_neg c229, if_neg c243, if_pos c245, if_neg c249, if_neg c252])) dX12_after_230
                                    · have f252 : v251.toInt = 0 := f_eq rfl (by decide) c252
                                      refine lv_bipush (v := (-9)) hx hb dX12_after_211 (by decide) ?_
                                      have hlit255 : ((-9) : Int32).toInt = -9 := by decide
                                      rw [hQ]
                                      exact x_i cx hr () hP hD hS (show ((-9) : Int32) = J_X12_after sm tm p0 p1 p2 from by subst e1 e2 e3 e4 e5 e6 w13 e18 e20 e144 e192 e222 e227 e228 w235 e236 e237 w240 e242 e248 e251; first | (refine Eq.symm ?_; refine Eq.trans (if_neg c7) ?_; refine Eq.trans (if_neg c14) ?_; refine Eq.trans (if_neg c21) ?_; refine Eq.trans (if_neg c25) ?_; refine Eq.trans (if_neg c29) ?_; refine Eq.trans (if_neg c34) ?_; refine Eq.trans (if_neg c145) ?_; refine Eq.trans (if_neg c148) ?_; refine Eq.trans (if_neg c193) ?_; refine Eq.trans (if_neg c196) ?_; refine Eq.trans (if_neg c223) ?_; refine Eq.trans (if_neg c229) ?_; refine Eq.trans (if_neg c243) ?_; refine Eq.trans (if_pos c245) ?_; refine Eq.trans (if_neg c249) ?_; refine Eq.trans (if_pos c252) ?_; rfl) | (unfold J_X12_after; try dsimp only; rw [if_neg c7, if_neg c14, if_neg c21, if_neg c25, if_neg c29, if_neg c34, if_neg c145, if_neg c148, if_neg c193, if_neg c196, if_neg c223, if_neg c229, if_neg c243, if_pos c245, if_neg c249, if_pos c252])) dX12_after_213
                            · exact absurd c232 (by decide)
