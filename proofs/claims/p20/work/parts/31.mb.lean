theorem fw_X12_readPart_111 : Cond.fieldLink RX12 111 "StillInAugustModel" "at" "I" ∈ wsX12_readPart := by decide +kernel
theorem fw_X12_readPart_7 : Cond.fieldLink RX12 7 "StillInAugustModel" "read" "[I" ∈ wsX12_readPart := by decide +kernel
theorem fw_X12_readPart_85 : Cond.fieldLink RX12 85 "StillInAugustModel" "letters" "I" ∈ wsX12_readPart := by decide +kernel
theorem fw_X12_readPart_89 : Cond.fieldLink RX12 89 "StillInAugustModel" "wantsTold" "I" ∈ wsX12_readPart := by decide +kernel
theorem fw_X12_readPart_92 : Cond.fieldLink RX12 92 "StillInAugustModel" "offersTold" "I" ∈ wsX12_readPart := by decide +kernel
theorem fw_X12_readPart_95 : Cond.fieldLink RX12 95 "StillInAugustModel" "goesTold" "I" ∈ wsX12_readPart := by decide +kernel
theorem fw_X12_readPart_98 : Cond.fieldLink RX12 98 "StillInAugustModel" "doesTold" "I" ∈ wsX12_readPart := by decide +kernel
theorem nd_X12_figure : yX12_figure.cls = RX12 ∧ yX12_figure.cls ≠ "java/lang/invoke/MethodHandle" ∧ yX12_figure.cls ≠ "java/lang/invoke/VarHandle" ∧ (parseMethodDescriptor yX12_figure.desc).map (fun d => d.parameters.length) = some 1 := by decide +kernel
theorem nd_X12_once : yX12_once.cls ≠ "java/lang/invoke/MethodHandle" ∧ yX12_once.cls ≠ "java/lang/invoke/VarHandle" ∧ (parseMethodDescriptor yX12_once.desc).map (fun d => d.parameters.length) = some 1 := by decide +kernel
theorem iw_X12_readPart_X12 : ∀ w ∈ u_ws RX12 TX12 33, w ∈ wsX12_readPart := fun _ h => List.mem_cons_of_mem _ (List.mem_append_right _ h)
def J_X12_readPart (sm : Nat → Nat → Int32) (tm : Nat → Nat → Int64) (p0 : Int32) : (Nat → Int32) × Int32 × Int32 × Int32 × Int32 × Int32 × Int32 × Int32 := if (J_X12_once p0) = (-9) then if p0 = 87 then if (sm 0 7) = (((1 : Int32) <<< (((sm 1) (0 : Int32).toNatClampNeg) &&& 31)) - (1 : Int32)) then let y188 := J_X12_fail sm tm; ((sm 1), (sm 0 4), y188, (sm 0 6), (sm 0 7), (sm 0 8), (sm 0 9), (sm 0 10)) else let y205 := J_X12_figure (up2 sm 0 (upd (sm 0) 4 (((sm 0 4) + (1 : Int32))))) tm (((((1 : Int32) <<< (((sm 1) (0 : Int32).toNatClampNeg) &&& 31)) - (1 : Int32)) &&& ((sm 0 7) ^^^ ((-1) : Int32)))); let y223 := J_X12_figure (up2 sm 0 (upd (upd (upd (sm 0) 4 (y205.2.1)) 5 (y205.2.2)) 7 (((sm 0 7) ||| ((1 : Int32) <<< ((y205.1) &&& 31)))))) tm 1023; let y241 := J_X12_figure (up2 sm 0 (upd (upd (upd (sm 0) 4 (y223.2.1)) 5 (y223.2.2)) 7 (((sm 0 7) ||| ((1 : Int32) <<< ((y205.1) &&& 31)))))) tm 1023; ((upd (sm 1) (((10 : Int32) + (y205.1))).toNatClampNeg ((((10 : Int32) * (y223.1)) + (y241.1)))), (y241.2.1), (y241.2.2), (sm 0 6), ((sm 0 7) ||| ((1 : Int32) <<< ((y205.1) &&& 31))), (sm 0 8), (sm 0 9), (sm 0 10)) else if p0 = 79 then if (sm 0 8) = (((1 : Int32) <<< (((sm 1) (0 : Int32).toNatClampNeg) &&& 31)) - (1 : Int32)) then let y133 := J_X12_fail sm tm; ((sm 1), (sm 0 4), y133, (sm 0 6), (sm 0 7), (sm 0 8), (sm 0 9), (sm 0 10)) else let y150 := J_X12_figure (up2 sm 0 (upd (sm 0) 4 (((sm 0 4) + (1 : Int32))))) tm (((((1 : Int32) <<< (((sm 1) (0 : Int32).toNatClampNeg) &&& 31)) - (1 : Int32)) &&& ((sm 0 8) ^^^ ((-1) : Int32)))); let y169 := J_X12_figure (up2 sm 0 (upd (upd (upd (sm 0) 4 (y150.2.1)) 5 (y150.2.2)) 8 (((sm 0 8) ||| ((1 : Int32) <<< ((y150.1) &&& 31)))))) tm 31; ((upd (sm 1) (((15 : Int32) + (y150.1))).toNatClampNeg (y169.1)), (y169.2.1), (y169.2.2), (sm 0 6), (sm 0 7), ((sm 0 8) ||| ((1 : Int32) <<< ((y150.1) &&& 31))), (sm 0 9), (sm 0 10)) else if p0 = 81 then if (sm 0 9) = 7 then let y79 := J_X12_fail sm tm; ((sm 1), (sm 0 4), y79, (sm 0 6), (sm 0 7), (sm 0 8), (sm 0 9), (sm 0 10)) else let y96 := J_X12_figure (up2 sm 0 (upd (sm 0) 4 (((sm 0 4) + (1 : Int32))))) tm (((7 : Int32) &&& ((sm 0 9) ^^^ ((-1) : Int32)))); let y115 := J_X12_figure (up2 sm 0 (upd (upd (upd (sm 0) 4 (y96.2.1)) 5 (y96.2.2)) 9 (((sm 0 9) ||| ((1 : Int32) <<< ((y96.1) &&& 31)))))) tm 63; ((upd (sm 1) (((20 : Int32) + (y96.1))).toNatClampNeg (y115.1)), (y115.2.1), (y115.2.2), (sm 0 6), (sm 0 7), (sm 0 8), ((sm 0 9) ||| ((1 : Int32) <<< ((y96.1) &&& 31))), (sm 0 10)) else if p0 = 68 then if (sm 0 10) = 7 then let y26 := J_X12_fail sm tm; ((sm 1), (sm 0 4), y26, (sm 0 6), (sm 0 7), (sm 0 8), (sm 0 9), (sm 0 10)) else let y43 := J_X12_figure (up2 sm 0 (upd (sm 0) 4 (((sm 0 4) + (1 : Int32))))) tm (((7 : Int32) &&& ((sm 0 10) ^^^ ((-1) : Int32)))); let y62 := J_X12_figure (up2 sm 0 (upd (upd (upd (sm 0) 4 (y43.2.1)) 5 (y43.2.2)) 10 (((sm 0 10) ||| ((1 : Int32) <<< ((y43.1) &&& 31)))))) tm 1023; ((upd (sm 1) (((23 : Int32) + (y43.1))).toNatClampNeg (y62.1)), (y62.2.1), (y62.2.2), (sm 0 6), (sm 0 7), (sm 0 8), (sm 0 9), ((sm 0 10) ||| ((1 : Int32) <<< ((y43.1) &&& 31)))) else let y18 := J_X12_fail sm tm; ((sm 1), (sm 0 4), y18, (sm 0 6), (sm 0 7), (sm 0 8), (sm 0 9), (sm 0 10)) else if (((sm 0 6) >>> ((J_X12_once p0) &&& 31)) &&& (1 : Int32)) = 0 then if (J_X12_once p0) = 0 then let y560 := J_X12_figure (up2 sm 0 (upd (upd (sm 0) 4 (((sm 0 4) + (1 : Int32)))) 6 (((sm 0 6) ||| ((1 : Int32) <<< ((J_X12_once p0) &&& 31)))))) tm 30; ((upd (sm 1) (((J_X12_once p0) + (1 : Int32))).toNatClampNeg (y560.1)), (y560.2.1), (y560.2.2), ((sm 0 6) ||| ((1 : Int32) <<< ((J_X12_once p0) &&& 31))), (sm 0 7), (sm 0 8), (sm 0 9), (sm 0 10)) else let y514 := J_X12_figure (up2 sm 0 (upd (upd (sm 0) 4 (((sm 0 4) + (1 : Int32)))) 6 (((sm 0 6) ||| ((1 : Int32) <<< ((J_X12_once p0) &&& 31)))))) tm 1023; if (J_X12_once p0) = 6 then let y538 := J_X12_figure (up2 (up2 sm 0 (upd (upd (upd (sm 0) 4 (y514.2.1)) 5 (y514.2.2)) 6 (((sm 0 6) ||| ((1 : Int32) <<< ((J_X12_once p0) &&& 31)))))) 1 (upd (sm 1) (((J_X12_once p0) + (1 : Int32))).toNatClampNeg (y514.1))) tm 63; ((upd (upd (sm 1) (((J_X12_once p0) + (1 : Int32))).toNatClampNeg (y514.1)) (8 : Int32).toNatClampNeg (y538.1)), (y538.2.1), (y538.2.2), ((sm 0 6) ||| ((1 : Int32) <<< ((J_X12_once p0) &&& 31))), (sm 0 7), (sm 0 8), (sm 0 9), (sm 0 10)) else ((upd (sm 1) (((J_X12_once p0) + (1 : Int32))).toNatClampNeg (y514.1)), (y514.2.1), (y514.2.2), ((sm 0 6) ||| ((1 : Int32) <<< ((J_X12_once p0) &&& 31))), (sm 0 7), (sm 0 8), (sm 0 9), (sm 0 10)) else if p0 = 87 then if (sm 0 7) = (((1 : Int32) <<< (((sm 1) (0 : Int32).toNatClampNeg) &&& 31)) - (1 : Int32)) then let y434 := J_X12_fail sm tm; ((sm 1), (sm 0 4), y434, (sm 0 6), (sm 0 7), (sm 0 8), (sm 0 9), (sm 0 10)) else let y451 := J_X12_figure (up2 sm 0 (upd (sm 0) 4 (((sm 0 4) + (1 : Int32))))) tm (((((1 : Int32) <<< (((sm 1) (0 : Int32).toNatClampNeg) &&& 31)) - (1 : Int32)) &&& ((sm 0 7) ^^^ ((-1) : Int32)))); let y469 := J_X12_figure (up2 sm 0 (upd (upd (upd (sm 0) 4 (y451.2.1)) 5 (y451.2.2)) 7 (((sm 0 7) ||| ((1 : Int32) <<< ((y451.1) &&& 31)))))) tm 1023; let y487 := J_X12_figure (up2 sm 0 (upd (upd (upd (sm 0) 4 (y469.2.1)) 5 (y469.2.2)) 7 (((sm 0 7) ||| ((1 : Int32) <<< ((y451.1) &&& 31)))))) tm 1023; ((upd (sm 1) (((10 : Int32) + (y451.1))).toNatClampNeg ((((10 : Int32) * (y469.1)) + (y487.1)))), (y487.2.1), (y487.2.2), (sm 0 6), ((sm 0 7) ||| ((1 : Int32) <<< ((y451.1) &&& 31))), (sm 0 8), (sm 0 9), (sm 0 10)) else if p0 = 79 then if (sm 0 8) = (((1 : Int32) <<< (((sm 1) (0 : Int32).toNatClampNeg) &&& 31)) - (1 : Int32)) then let y379 := J_X12_fail sm tm; ((sm 1), (sm 0 4), y379, (sm 0 6), (sm 0 7), (sm 0 8), (sm 0 9), (sm 0 10)) else let y396 := J_X12_figure (up2 sm 0 (upd (sm 0) 4 (((sm 0 4) + (1 : Int32))))) tm (((((1 : Int32) <<< (((sm 1) (0 : Int32).toNatClampNeg) &&& 31)) - (1 : Int32)) &&& ((sm 0 8) ^^^ ((-1) : Int32)))); let y415 := J_X12_figure (up2 sm 0 (upd (upd (upd (sm 0) 4 (y396.2.1)) 5 (y396.2.2)) 8 (((sm 0 8) ||| ((1 : Int32) <<< ((y396.1) &&& 31)))))) tm 31; ((upd (sm 1) (((15 : Int32) + (y396.1))).toNatClampNeg (y415.1)), (y415.2.1), (y415.2.2), (sm 0 6), (sm 0 7), ((sm 0 8) ||| ((1 : Int32) <<< ((y396.1) &&& 31))), (sm 0 9), (sm 0 10)) else if p0 = 81 then if (sm 0 9) = 7 then let y325 := J_X12_fail sm tm; ((sm 1), (sm 0 4), y325, (sm 0 6), (sm 0 7), (sm 0 8), (sm 0 9), (sm 0 10)) else let y342 := J_X12_figure (up2 sm 0 (upd (sm 0) 4 (((sm 0 4) + (1 : Int32))))) tm (((7 : Int32) &&& ((sm 0 9) ^^^ ((-1) : Int32)))); let y361 := J_X12_figure (up2 sm 0 (upd (upd (upd (sm 0) 4 (y342.2.1)) 5 (y342.2.2)) 9 (((sm 0 9) ||| ((1 : Int32) <<< ((y342.1) &&& 31)))))) tm 63; ((upd (sm 1) (((20 : Int32) + (y342.1))).toNatClampNeg (y361.1)), (y361.2.1), (y361.2.2), (sm 0 6), (sm 0 7), (sm 0 8), ((sm 0 9) ||| ((1 : Int32) <<< ((y342.1) &&& 31))), (sm 0 10)) else if p0 = 68 then if (sm 0 10) = 7 then let y272 := J_X12_fail sm tm; ((sm 1), (sm 0 4), y272, (sm 0 6), (sm 0 7), (sm 0 8), (sm 0 9), (sm 0 10)) else let y289 := J_X12_figure (up2 sm 0 (upd (sm 0) 4 (((sm 0 4) + (1 : Int32))))) tm (((7 : Int32) &&& ((sm 0 10) ^^^ ((-1) : Int32)))); let y308 := J_X12_figure (up2 sm 0 (upd (upd (upd (sm 0) 4 (y289.2.1)) 5 (y289.2.2)) 10 (((sm 0 10) ||| ((1 : Int32) <<< ((y289.1) &&& 31)))))) tm 1023; ((upd (sm 1) (((23 : Int32) + (y289.1))).toNatClampNeg (y308.1)), (y308.2.1), (y308.2.2), (sm 0 6), (sm 0 7), (sm 0 8), (sm 0 9), ((sm 0 10) ||| ((1 : Int32) <<< ((y289.1) &&& 31)))) else let y264 := J_X12_fail sm tm; ((sm 1), (sm 0 4), y264, (sm 0 6), (sm 0 7), (sm 0 8), (sm 0 9), (sm 0 10))
set_option maxHeartbeats 4000000 in
set_option maxRecDepth 100000 in
theorem c_X12_readPart (l : Launch) (D : va_G) (k : Nat → ClassId) (b : Nat → Nat) (qm : Nat → Nat) (sm : Nat → Nat → Int32) (tm : Nat → Nat → Int64) (sz : Nat) (p0 : Int32) (h_len : 0 ≤ (sm 0 3).toInt ∧ (sm 0 3).toInt ≤ 64) (h_at : 0 ≤ (sm 0 4).toInt ∧ (sm 0 4).toInt ≤ 64) (h_lt : (sm 0 4).toInt < (sm 0 3).toInt) (h_r0 : 0 ≤ (sm 1 0).toInt ∧ (sm 1 0).toInt ≤ 5) (h_r1 : 0 ≤ (sm 1 1).toInt ∧ (sm 1 1).toInt ≤ 4) : MetV l D k b yX12_readPart wsX12_readPart ({ frames := 2, cells := 0, slots := 0, locals := 47 } : Room) [cell22_ qm sm tm, cell5_ k qm sm, cell13_ k qm sm, cell8_ k qm sm, cell6_ k qm sm, cell15_ k qm sm, cell14_ k qm tm, cell12_ k qm tm, cell18_ k qm tm, cell17_ k qm tm, cell19_ k qm tm, cell21_ k qm tm, cell20_ k qm sm, cell16_ k qm sm, cell11_ k qm sm, cell10_ k qm sm, cell9_ k qm sm, cell7_ k qm sm] sz [.ref (qm 0), .int p0] (fun (u : (Nat → Int32) × Int32 × Int32 × Int32 × Int32 × Int32 × Int32 × Int32) => (0 ≤ ((u.1) 0).toInt ∧ ((u.1) 0).toInt ≤ 5) ∧ (0 ≤ ((u.1) 1).toInt ∧ ((u.1) 1).toInt ≤ 4) ∧ (0 ≤ (u.2.1).toInt ∧ (u.2.1).toInt ≤ 64) ∧ ((sm 0 4).toInt + 1 ≤ (u.2.1).toInt ∨ ¬ (u.2.2.1).toInt = -9) ∧ (((u.1), (u.2.1), (u.2.2.1), (u.2.2.2.1), (u.2.2.2.2.1), (u.2.2.2.2.2.1), (u.2.2.2.2.2.2.1), (u.2.2.2.2.2.2.2)) = J_X12_readPart sm tm p0)) (fun u => [cell84_ qm sm tm (u.2.1) (u.2.2.1) (u.2.2.2.1) (u.2.2.2.2.1) (u.2.2.2.2.2.1) (u.2.2.2.2.2.2.1) (u.2.2.2.2.2.2.2), cell107_ k qm (u.1), cell13_ k qm sm, cell8_ k qm sm, cell6_ k qm sm, cell15_ k qm sm, cell14_ k qm tm, cell12_ k qm tm, cell18_ k qm tm, cell17_ k qm tm, cell19_ k qm tm, cell21_ k qm tm, cell20_ k qm sm, cell16_ k qm sm, cell11_ k qm sm, cell10_ k qm sm, cell9_ k qm sm, cell7_ k qm sm]) := by
  refine g_enter (cc := cX12_readPart) (maxL := 6) (ret := none) (by decide) rfl (Nat.le_of_ble_eq_true rfl) ?_
  intro p e s m below meth c A hsz hAe cx hr hP hD hS ls hl
  rw [hAe]
  refine g_q (fun Q hQ => ?_)
  have hx := cx.1.1
  have hb := cx.1.2.1
  have bp0 := i_rng p0
  have hl : lv_has ls 6 [(0, .ref (qm 0)), (1, .int p0)] := hl
  obtain ⟨H, eH⟩ : ∃ H : Heap, H = s.heap := ⟨_, rfl⟩
  obtain ⟨locs, el⟩ : ∃ L : List Loc, L = [] := ⟨_, rfl⟩
  have hP : va_P D vwCl [cell22_ qm sm tm, cell5_ k qm sm, cell13_ k qm sm, cell8_ k qm sm, cell6_ k qm sm, cell15_ k qm sm, cell14_ k qm tm, cell12_ k qm tm, cell18_ k qm tm, cell17_ k qm tm, cell19_ k qm tm, cell21_ k qm tm, cell20_ k qm sm, cell16_ k qm sm, cell11_ k qm sm, cell10_ k qm sm, cell9_ k qm sm, cell7_ k qm sm] H := by rw [eH]; exact hP
  have hD : va_D A [cell22_ qm sm tm, cell5_ k qm sm, cell13_ k qm sm, cell8_ k qm sm, cell6_ k qm sm, cell15_ k qm sm, cell14_ k qm tm, cell12_ k qm tm, cell18_ k qm tm, cell17_ k qm tm, cell19_ k qm tm, cell21_ k qm tm, cell20_ k qm sm, cell16_ k qm sm, cell11_ k qm sm, cell10_ k qm sm, cell9_ k qm sm, cell7_ k qm sm] := hD
  have hS : va_S A s.heap H locs := by rw [eH, el]; exact hS
  suffices goal : W p l e ({ frames := 2, cells := 0, slots := 0, locals := 47 } : Room) s m ([.ref (qm 0), .int p0] : List Value).toArray below meth c H locs 0 0 Q (F0 m 0 ls []) by rw [eH, el] at goal; exact goal
  refine lv_iconst (v := 1) hx hb dX12_readPart_0 (by decide) ?_
  refine lv_aload_n hx hb dX12_readPart_1 rfl (lv_at hl 0 rfl) ?_
  refine g_get cx hP iw_X12_readPart_X12 0 rfl rfl 0 (by decide) rfl fw_X12_readPart_7 rfl dX12_readPart_2 ?_
  refine lv_iconst (v := 0) hx hb dX12_readPart_5 (by decide) ?_
  have hn1 : vp_in 0 26 := f_in (a := 0) (by decide) (by omega) (by omega)
  refine va_iald hx hb cx.2.1 hP 1 0 rfl rfl hn1 dX12_readPart_6 (lv_topi (fun v2 e2 => ?_))
  have uv2 : v2.toInt = ((sm 1) 0).toInt := congrArg Int32.toInt e2
  have t2 : 0 ≤ v2.toInt ∧ v2.toInt ≤ 5 := by rw [e2]; exact h_r0
  refine lv_ishl hx hb dX12_readPart_7 (lv_topi (fun v3 e3 => ?_))
  refine lv_iconst (v := 1) hx hb dX12_readPart_8 (by decide) ?_
  refine lv_isub hx hb dX12_readPart_9 (lv_topi (fun v4 e4 => ?_))
  refine lv_istore_n (lv' := [(2, .int v4), (0, .ref (qm 0)), (1, .int p0)]) hx hb dX12_readPart_10 rfl hl (by decide) rfl (fun ls hl => ?_)
  refine lv_iload_n hx hb dX12_readPart_11 rfl (lv_at hl 2 rfl) ?_
  refine g_ir (g_runS (wc := []) (rest := []) cx hP hD hS [] rfl (by decide) [.int p0] (c_X12_once l D k b H.size p0) gX12_readPart_X12_once rfl rfl rfl nd_X12_once ⟨Nat.le_of_ble_eq_true rfl, Nat.le_of_ble_eq_true rfl⟩ rfl hl.1 rfl (Nat.le_of_ble_eq_true rfl) ⟨Nat.zero_le _, Nat.zero_le _⟩ dX12_readPart_12) cx.2.2.1 hP hD hS [] rfl rfl (fun r6 H locs hw5 hP hS => ?_)
  have w7 : r6 = J_X12_once p0 := hw5
  clear hw5
  have zr6 := once_t w7
  refine lv_istore_n (lv' := [(3, .int r6), (2, .int v4), (0, .ref (qm 0)), (1, .int p0)]) hx hb dX12_readPart_15 rfl hl (by decide) rfl (fun ls hl => ?_)
  refine lv_iload_n hx hb dX12_readPart_16 rfl (lv_at hl 0 rfl) ?_
  refine lv_bipush (v := (-9)) hx hb dX12_readPart_17 (by decide) ?_
  refine lv_icmp_eq (tgt := 105) hx hb dX12_readPart_19 (by decide) (fun c8 => ?_) (fun c8 => ?_)
  · have f8 : r6.toInt = (-9) := f_eq rfl (by decide) c8
    refine lv_iload_n hx hb dX12_readPart_105 rfl (lv_at hl 3 rfl) ?_
    refine lv_bipush (v := 87) hx hb dX12_readPart_106 (by decide) ?_
    refine lv_icmp_ne (tgt := 191) hx hb dX12_readPart_108 (by decide) (fun c9 => ?_) (fun c9 => ?_)
    · have f9 : ¬ p0.toInt = 87 := f_ne rfl (by decide) c9
      refine lv_iload_n hx hb dX12_readPart_191 rfl (lv_at hl 3 rfl) ?_
      refine lv_bipush (v := 79) hx hb dX12_readPart_192 (by decide) ?_
      refine lv_icmp_ne (tgt := 261) hx hb dX12_readPart_194 (by decide) (fun c10 => ?_) (fun c10 => ?_)
      · have f10 : ¬ p0.toInt = 79 := f_ne rfl (by decide) c10
        refine lv_iload_n hx hb dX12_readPart_261 rfl (lv_at hl 3 rfl) ?_
        refine lv_bipush (v := 81) hx hb dX12_readPart_262 (by decide) ?_
        refine lv_icmp_ne (tgt := 333) hx hb dX12_readPart_264 (by decide) (fun c11 => ?_) (fun c11 => ?_)
        · have f11 : ¬ p0.toInt = 81 := f_ne rfl (by decide) c11
          refine lv_iload_n hx hb dX12_readPart_333 rfl (lv_at hl 3 rfl) ?_
          refine lv_bipush (v := 68) hx hb dX12_readPart_334 (by decide) ?_
          refine lv_icmp_ne (tgt := 406) hx hb dX12_readPart_336 (by decide) (fun c12 => ?_) (fun c12 => ?_)
          · have f12 : ¬ p0.toInt = 68 := f_ne rfl (by decide) c12
            refine lv_aload_n hx hb dX12_readPart_406 rfl (lv_at hl 2 rfl) ?_
            refine g_vF (w1 := fun (u : Int32) => [cell81_ qm sm tm u, cell5_ k qm sm, cell13_ k qm sm, cell8_ k qm sm, cell6_ k qm sm, cell15_ k qm sm, cell14_ k qm tm, cell12_ k qm tm, cell18_ k qm tm, cell17_ k qm tm, cell19_ k qm tm, cell21_ k qm tm, cell20_ k qm sm, cell16_ k qm sm, cell11_ k qm sm, cell10_ k qm sm, cell9_ k qm sm, cell7_ k qm sm]) (g_runVF (ws := [cell22_ qm sm tm, cell5_ k qm sm, cell13_ k qm sm, cell8_ k qm sm, cell6_ k qm sm, cell15_ k qm sm, cell14_ k qm tm, cell12_ k qm tm, cell18_ k qm tm, cell17_ k qm tm, cell19_ k qm tm, cell21_ k qm tm, cell20_ k qm sm, cell16_ k qm sm, cell11_ k qm sm, cell10_ k qm sm, cell9_ k qm sm, cell7_ k qm sm]) (rest := []) cx hP hD hS [] (c_X12_fail l D k b qm sm tm H.size (show 0 ≤ (sm 0 4).toInt ∧ (sm 0 4).toInt ≤ 64 from by first | decide | omega)) gX12_readPart_X12_fail rfl rfl rfl nd_X12_fail ⟨Nat.le_of_ble_eq_true rfl, Nat.le_of_ble_eq_true rfl⟩ (ci := 10) (q0 := 0) rfl rfl rfl hl.1 rfl (Nat.le_of_ble_eq_true rfl) ⟨Nat.zero_le _, Nat.zero_le _⟩ dX12_readPart_407) cx.2.2.1 hD hS (fun u14 H locs hw13 hP hD hS => ?_)
            obtain ⟨m15, rfl⟩ : ∃ z, z = u14 := ⟨_, rfl⟩
            have hP : va_P D vwCl [cell81_ qm sm tm m15, cell5_ k qm sm, cell13_ k qm sm, cell8_ k qm sm, cell6_ k qm sm, cell15_ k qm sm, cell14_ k qm tm, cell12_ k qm tm, cell18_ k qm tm, cell17_ k qm tm, cell19_ k qm tm, cell21_ k qm tm, cell20_ k qm sm, cell16_ k qm sm, cell11_ k qm sm, cell10_ k qm sm, cell9_ k qm sm, cell7_ k qm sm] H := hP
            have hD : va_D A [cell81_ qm sm tm m15, cell5_ k qm sm, cell13_ k qm sm, cell8_ k qm sm, cell6_ k qm sm, cell15_ k qm sm, cell14_ k qm tm, cell12_ k qm tm, cell18_ k qm tm, cell17_ k qm tm, cell19_ k qm tm, cell21_ k qm tm, cell20_ k qm sm, cell16_ k qm sm, cell11_ k qm sm, cell10_ k qm sm, cell9_ k qm sm, cell7_ k qm sm] := hD
            replace hw13 : (¬ m15.toInt = -9) ∧ (m15 = J_X12_fail sm tm) := hw13
            obtain ⟨w16, w17⟩ := hw13
            have k19 : m15 = (J_X12_fail sm tm) := congrArg (fun z => z) w17
            rw [hQ]
            exact x_v cx hr ((sm 1), (sm 0 4), m15, (sm 0 6), (sm 0 7), (sm 0 8), (sm 0 9), (sm 0 10)) hP hD hS ⟨(show 0 ≤ ((sm 1) 0).toInt ∧ ((sm 1) 0).toInt ≤ 5 from by omega), (show 0 ≤ ((sm 1) 1).toInt ∧ ((sm 1) 1).toInt ≤ 4 from by omega), (show 0 ≤ (sm 0 4).toInt ∧ (sm 0 4).toInt ≤ 64 from by omega), (show (sm 0 4).toInt + 1 ≤ (sm 0 4).toInt ∨ ¬ m15.toInt = -9 from by omega), (show ((sm 1), (sm 0 4), m15, (sm 0 6), (sm 0 7), (sm 0 8), (sm 0 9), (sm 0 10)) = J_X12_readPart sm tm p0 from by subst e2 e3 e4 w7 k19; first | (refine Eq.symm ?_; refine Eq.trans (if_pos c8) ?_; refine Eq.trans (if_neg c9) ?_; refine Eq.trans (if_neg c10) ?_; refine Eq.trans (if_neg c11) ?_; refine Eq.trans (if_neg c12) ?_; rfl) | (unfold J_X12_readPart; try dsimp only; rw [if_pos c8, if_neg c9, if_neg c10, if_neg c11, if_neg c12]))⟩ dX12_readPart_410
          · have f12 : p0.toInt = 68 := f_eq rfl (by decide) c12
            refine lv_aload_n hx hb dX12_readPart_339 rfl (lv_at hl 2 rfl) ?_
            refine g_get cx hP iw_X12_readPart_X12 0 rfl rfl 10 (by decide) rfl fw_X12_readPart_98 rfl dX12_readPart_340 ?_
            refine lv_bipush (v := 7) hx hb dX12_readPart_343 (by decide) ?_
            refine lv_icmp_eq (tgt := 406) hx hb dX12_readPart_345 (by decide) (fun c20 => ?_) (fun c20 => ?_)
            · have f20 : (sm 0 10).toInt = 7 := f_eq rfl (by decide) c20
              refine lv_aload_n hx hb dX12_readPart_406 rfl (lv_at hl 2 rfl) ?_
              refine g_vF (w1 := fun (u : Int32) => [cell81_ qm sm tm u, cell5_ k qm sm, cell13_ k qm sm, cell8_ k qm sm, cell6_ k qm sm, cell15_ k qm sm, cell14_ k qm tm, cell12_ k qm tm, cell18_ k qm tm, cell17_ k qm tm, cell19_ k qm tm, cell21_ k qm tm, cell20_ k qm sm, cell16_ k qm sm, cell11_ k qm sm, cell10_ k qm sm, cell9_ k qm sm, cell7_ k qm sm]) (g_runVF (ws := [cell22_ qm sm tm, cell5_ k qm sm, cell13_ k qm sm, cell8_ k qm sm, cell6_ k qm sm, cell15_ k qm sm, cell14_ k qm tm, cell12_ k qm tm, cell18_ k qm tm, cell17_ k qm tm, cell19_ k qm tm, cell21_ k qm tm, cell20_ k qm sm, cell16_ k qm sm, cell11_ k qm sm, cell10_ k qm sm, cell9_ k qm sm, cell7_ k qm sm]) (rest := []) cx hP hD hS [] (c_X12_fail l D k b qm sm tm H.size (show 0 ≤ (sm 0 4).toInt ∧ (sm 0 4).toInt ≤ 64 from by first | decide | omega)) gX12_readPart_X12_fail rfl rfl rfl nd_X12_fail ⟨Nat.le_of_ble_eq_true rfl, Nat.le_of_ble_eq_true rfl⟩ (ci := 10) (q0 := 0) rfl rfl rfl hl.1 rfl (Nat.le_of_ble_eq_true rfl) ⟨Nat.zero_le _, Nat.zero_le _⟩ dX12_readPart_407) cx.2.2.1 hD hS (fun u22 H locs hw21 hP hD hS => ?_)
              obtain ⟨m23, rfl⟩ : ∃ z, z = u22 := ⟨_, rfl⟩
              have hP : va_P D vwCl [cell81_ qm sm tm m23, cell5_ k qm sm, cell13_ k qm sm, cell8_ k qm sm, cell6_ k qm sm, cell15_ k qm sm, cell14_ k qm tm, cell12_ k qm tm, cell18_ k qm tm, cell17_ k qm tm, cell19_ k qm tm, cell21_ k qm tm, cell20_ k qm sm, cell16_ k qm sm, cell11_ k qm sm, cell10_ k qm sm, cell9_ k qm sm, cell7_ k qm sm] H := hP
              have hD : va_D A [cell81_ qm sm tm m23, cell5_ k qm sm, cell13_ k qm sm, cell8_ k qm sm, cell6_ k qm sm, cell15_ k qm sm, cell14_ k qm tm, cell12_ k qm tm, cell18_ k qm tm, cell17_ k qm tm, cell19_ k qm tm, cell21_ k qm tm, cell20_ k qm sm, cell16_ k qm sm, cell11_ k qm sm, cell10_ k qm sm, cell9_ k qm sm, cell7_ k qm sm] := hD
              replace hw21 : (¬ m23.toInt = -9) ∧ (m23 = J_X12_fail sm tm) := hw21
              obtain ⟨w24, w25⟩ := hw21
              have k27 : m23 = (J_X12_fail sm tm) := congrArg (fun z => z) w25
              rw [hQ]
              exact x_v cx hr ((sm 1), (sm 0 4), m23, (sm 0 6), (sm 0 7), (sm 0 8), (sm 0 9), (sm 0 10)) hP hD hS ⟨(show 0 ≤ ((sm 1) 0).toInt ∧ ((sm 1) 0).toInt ≤ 5 from by omega), (show 0 ≤ ((sm 1) 1).toInt ∧ ((sm 1) 1).toInt ≤ 4 from by omega), (show 0 ≤ (sm 0 4).toInt ∧ (sm 0 4).toInt ≤ 64 from by omega), (show (sm 0 4).toInt + 1 ≤ (sm 0 4).toInt ∨ ¬ m23.toInt = -9 from by omega), (show ((sm 1), (sm 0 4), m23, (sm 0 6), (sm 0 7), (sm 0 8), (sm 0 9), (sm 0 10)) = J_X12_readPart sm tm p0 from by subst e2 e3 e4 w7 k27; first | (refine Eq.symm ?_; refine Eq.trans (if_pos c8) ?_; refine Eq.trans (if_neg c9) ?_; refine Eq.trans (if_neg c10) ?_; refine Eq.trans (if_neg c11) ?_; refine Eq.trans (if_pos c12) ?_; refine Eq.trans (if_pos c20) ?_; rfl) | (unfold J_X12_readPart; try dsimp only; rw [if_pos c8, if_neg c9, if_neg c10, if_neg c11, if_pos c12, if_pos c20]))⟩ dX12_readPart_410
            · have f20 : ¬ (sm 0 10).toInt = 7 := f_ne rfl (by decide) c20
              refine lv_aload_n hx hb dX12_readPart_348 rfl (lv_at hl 2 rfl) ?_
              refine lv_dup hx hb dX12_readPart_349 rfl ?_
              refine g_get cx hP iw_X12_readPart_X12 0 rfl rfl 4 (by decide) rfl fw_X12_readPart_111 rfl dX12_readPart_350 ?_
              refine lv_iconst (v := 1) hx hb dX12_readPart_353 (by decide) ?_
              refine lv_iadd hx hb dX12_readPart_354 (lv_topi (fun v28 e28 => ?_))
              have t28 : v28.toInt = (sm 0 4).toInt + 1 := by rw [e28]; exact i_add rfl (by decide) (by omega) (by omega)
              refine g_pt cx hP hD hS iw_X12_readPart_X12 tyX12 tyX12_ok nmX12 0 rfl rfl 4 (by decide) rfl fw_X12_readPart_111 (ty := .int) rfl rfl rfl (Nat.le_of_ble_eq_true rfl) dX12_readPart_355 (fun H locs hP hD hS => ?_)
              have hP : va_P D vwCl [cell88_ qm sm tm v28, cell5_ k qm sm, cell13_ k qm sm, cell8_ k qm sm, cell6_ k qm sm, cell15_ k qm sm, cell14_ k qm tm, cell12_ k qm tm, cell18_ k qm tm, cell17_ k qm tm, cell19_ k qm tm, cell21_ k qm tm, cell20_ k qm sm, cell16_ k qm sm, cell11_ k qm sm, cell10_ k qm sm, cell9_ k qm sm, cell7_ k qm sm] H := hP
              have hD : va_D A [cell88_ qm sm tm v28, cell5_ k qm sm, cell13_ k qm sm, cell8_ k qm sm, cell6_ k qm sm, cell15_ k qm sm, cell14_ k qm tm, cell12_ k qm tm, cell18_ k qm tm, cell17_ k qm tm, cell19_ k qm tm, cell21_ k qm tm, cell20_ k qm sm, cell16_ k qm sm, cell11_ k qm sm, cell10_ k qm sm, cell9_ k qm sm, cell7_ k qm sm] := hD
              refine lv_aload_n hx hb dX12_readPart_358 rfl (lv_at hl 2 rfl) ?_
              refine lv_bipush (v := 7) hx hb dX12_readPart_359 (by decide) ?_
              refine lv_aload_n hx hb dX12_readPart_361 rfl (lv_at hl 2 rfl) ?_
              refine g_get cx hP iw_X12_readPart_X12 0 rfl rfl 10 (by decide) rfl fw_X12_readPart_98 rfl dX12_readPart_362 ?_
              refine lv_iconst (v := (-1)) hx hb dX12_readPart_365 (by decide) ?_
              refine lv_ixor hx hb dX12_readPart_366 (lv_topi (fun v29 e29 => ?_))
              refine lv_iand hx hb dX12_readPart_367 (lv_topi (fun v30 e30 => ?_))
              have t30 : 0 ≤ v30.toInt ∧ v30.toInt ≤ 7 := by rw [e30]; exact and_l (by decide) (by omega)
              refine g_iF (w1 := fun (u : Int32 × Int32) => [cell95_ qm sm tm (u.1) (u.2), cell5_ k qm sm, cell13_ k qm sm, cell8_ k qm sm, cell6_ k qm sm, cell15_ k qm sm, cell14_ k qm tm, cell12_ k qm tm, cell18_ k qm tm, cell17_ k qm tm, cell19_ k qm tm, cell21_ k qm tm, cell20_ k qm sm, cell16_ k qm sm, cell11_ k qm sm, cell10_ k qm sm, cell9_ k qm sm, cell7_ k qm sm]) (g_runVF (ws := [cell88_ qm sm tm v28, cell5_ k qm sm, cell13_ k qm sm, cell8_ k qm sm, cell6_ k qm sm, cell15_ k qm sm, cell14_ k qm tm, cell12_ k qm tm, cell18_ k qm tm, cell17_ k qm tm, cell19_ k qm tm, cell21_ k qm tm, cell20_ k qm sm, cell16_ k qm sm, cell11_ k qm sm, cell10_ k qm sm, cell9_ k qm sm, cell7_ k qm sm]) (rest := []) cx hP hD hS [.int v30] (c_X12_figure l D k b qm (up2 sm 0 (upd (sm 0) 4 v28)) tm H.size v30 (show 0 ≤ (sm 0 3).toInt ∧ (sm 0 3).toInt ≤ 64 from by first | decide | omega) (show 0 ≤ v28.toInt ∧ v28.toInt ≤ 64 from by first | decide | omega)) gX12_readPart_X12_figure rfl rfl rfl nd_X12_figure ⟨Nat.le_of_ble_eq_true rfl, Nat.le_of_ble_eq_true rfl⟩ (ci := 10) (q0 := 0) rfl rfl rfl hl.1 rfl (Nat.le_of_ble_eq_true rfl) ⟨Nat.zero_le _, Nat.zero_le _⟩ dX12_readPart_368) cx.2.2.1 hD hS (fun r33 u32 H locs hw31 hP hD hS => ?_)
              obtain ⟨m34, m35⟩ := u32
              have hP : va_P D vwCl [cell95_ qm sm tm m34 m35, cell5_ k qm sm, cell13_ k qm sm, cell8_ k qm sm, cell6_ k qm sm, cell15_ k qm sm, cell14_ k qm tm, cell12_ k qm tm, cell18_ k qm tm, cell17_ k qm tm, cell19_ k qm tm, cell21_ k qm tm, cell20_ k qm sm, cell16_ k qm sm, cell11_ k qm sm, cell10_ k qm sm, cell9_ k qm sm, cell7_ k qm sm] H := hP
              have hD : va_D A [cell95_ qm sm tm m34 m35, cell5_ k qm sm, cell13_ k qm sm, cell8_ k qm sm, cell6_ k qm sm, cell15_ k qm sm, cell14_ k qm tm, cell12_ k qm tm, cell18_ k qm tm, cell17_ k qm tm, cell19_ k qm tm, cell21_ k qm tm, cell20_ k qm sm, cell16_ k qm sm, cell11_ k qm sm, cell10_ k qm sm, cell9_ k qm sm, cell7_ k qm sm] := hD
              replace hw31 : (0 ≤ r33.toInt ∧ r33.toInt ≤ 9) ∧ (v28.toInt ≤ m34.toInt ∧ m34.toInt ≤ 64) ∧ (v28.toInt + 1 ≤ m34.toInt ∨ ¬ m35.toInt = -9) ∧ (Imp (0 ≤ v30.toInt ∧ v30.toInt ≤ 63) (r33.toInt ≤ 5)) ∧ (Imp (0 ≤ v30.toInt ∧ v30.toInt ≤ 31) (r33.toInt ≤ 4)) ∧ (Imp (0 ≤ v30.toInt ∧ v30.toInt ≤ 7) (r33.toInt ≤ 2)) ∧ ((r33, m34, m35) = J_X12_figure (up2 sm 0 (upd (sm 0) 4 v28)) tm v30) := hw31
              obtain ⟨w36, w37, w38, w39, w40, w41, w42⟩ := hw31
              have k44 : r33 = ((J_X12_figure (up2 sm 0 (upd (sm 0) 4 v28)) tm v30).1) := congrArg (fun z => (z.1)) w42
              have k45 : m34 = ((J_X12_figure (up2 sm 0 (upd (sm 0) 4 v28)) tm v30).2.1) := congrArg (fun z => (z.2.1)) w42
              have k46 : m35 = ((J_X12_figure (up2 sm 0 (upd (sm 0) 4 v28)) tm v30).2.2) := congrArg (fun z => (z.2.2)) w42
              have xr33 : r33.toInt ≤ 2 := w41 ⟨by omega, by omega⟩
              refine lv_istore (lv' := [(4, .int r33), (3, .int r6), (2, .int v4), (0, .ref (qm 0)), (1, .int p0)]) hx hb dX12_readPart_371 hl (by decide) rfl (fun ls hl => ?_)
              refine lv_aload_n hx hb dX12_readPart_373 rfl (lv_at hl 3 rfl) ?_
              refine lv_dup hx hb dX12_readPart_374 rfl ?_
              refine g_get cx hP iw_X12_readPart_X12 0 rfl rfl 10 (by decide) rfl fw_X12_readPart_98 rfl dX12_readPart_375 ?_
              refine lv_iconst (v := 1) hx hb dX12_readPart_378 (by decide) ?_
              refine lv_iload hx hb dX12_readPart_379 (lv_at hl 0 rfl) ?_
              refine lv_ishl hx hb dX12_readPart_381 (lv_topi (fun v47 e47 => ?_))
              refine lv_ior hx hb dX12_readPart_382 (lv_topi (fun v48 e48 => ?_))
              refine g_pt cx hP hD hS iw_X12_readPart_X12 tyX12 tyX12_ok nmX12 0 rfl rfl 10 (by decide) rfl fw_X12_readPart_98 (ty := .int) rfl rfl rfl (Nat.le_of_ble_eq_true rfl) dX12_readPart_383 (fun H locs hP hD hS => ?_)
              have hP : va_P D vwCl [cell126_ qm sm tm m34 m35 v48, cell5_ k qm sm, cell13_ k qm sm, cell8_ k qm sm, cell6_ k qm sm, cell15_ k qm sm, cell14_ k qm tm, cell12_ k qm tm, cell18_ k qm tm, cell17_ k qm tm, cell19_ k qm tm, cell21_ k qm tm, cell20_ k qm sm, cell16_ k qm sm, cell11_ k qm sm, cell10_ k qm sm, cell9_ k qm sm, cell7_ k qm sm] H := hP
              have hD : va_D A [cell126_ qm sm tm m34 m35 v48, cell5_ k qm sm, cell13_ k qm sm, cell8_ k qm sm, cell6_ k qm sm, cell15_ k qm sm, cell14_ k qm tm, cell12_ k qm tm, cell18_ k qm tm, cell17_ k qm tm, cell19_ k qm tm, cell21_ k qm tm, cell20_ k qm sm, cell16_ k qm sm, cell11_ k qm sm, cell10_ k qm sm, cell9_ k qm sm, cell7_ k qm sm] := hD
              refine lv_aload_n hx hb dX12_readPart_386 rfl (lv_at hl 3 rfl) ?_
              refine g_get cx hP iw_X12_readPart_X12 0 rfl rfl 0 (by decide) rfl fw_X12_readPart_7 rfl dX12_readPart_387 ?_
              refine lv_bipush (v := 23) hx hb dX12_readPart_390 (by decide) ?_
              refine lv_iload hx hb dX12_readPart_392 (lv_at hl 0 rfl) ?_
              refine lv_iadd hx hb dX12_readPart_394 (lv_topi (fun v49 e49 => ?_))
              have t49 : v49.toInt = 23 + r33.toInt := by rw [e49]; exact i_add (by decide) rfl (by omega) (by omega)
              refine lv_aload_n hx hb dX12_readPart_395 rfl (lv_at hl 3 rfl) ?_
              refine lv_sipush (v := 1023) hx hb dX12_readPart_396 (by decide) ?_
              refine g_iF (w1 := fun (u : Int32 × Int32) => [cell126_ qm sm tm (u.1) (u.2) v48, cell5_ k qm sm, cell13_ k qm sm, cell8_ k qm sm, cell6_ k qm sm, cell15_ k qm sm, cell14_ k qm tm, cell12_ k qm tm, cell18_ k qm tm, cell17_ k qm tm, cell19_ k qm tm, cell21_ k qm tm, cell20_ k qm sm, cell16_ k qm sm, cell11_ k qm sm, cell10_ k qm sm, cell9_ k qm sm, cell7_ k qm sm]) (g_runVF (ws := [cell126_ qm sm tm m34 m35 v48, cell5_ k qm sm, cell13_ k qm sm, cell8_ k qm sm, cell6_ k qm sm, cell15_ k qm sm, cell14_ k qm tm, cell12_ k qm tm, cell18_ k qm tm, cell17_ k qm tm, cell19_ k qm tm, cell21_ k qm tm, cell20_ k qm sm, cell16_ k qm sm, cell11_ k qm sm, cell10_ k qm sm, cell9_ k qm sm, cell7_ k qm sm]) (rest := [.int v49, .ref (qm 1)]) cx hP hD hS [.int 1023] (c_X12_figure l D k b qm (up2 sm 0 (upd (upd (upd (sm 0) 4 m34) 5 m35) 10 v48)) tm H.size 1023 (show 0 ≤ (sm 0 3).toInt ∧ (sm 0 3).toInt ≤ 64 from by first | decide | omega) (show 0 ≤ m34.toInt ∧ m34.toInt ≤ 64 from by first | decide | omega)) gX12_readPart_X12_figure rfl rfl rfl nd_X12_figure ⟨Nat.le_of_ble_eq_true rfl, Nat.le_of_ble_eq_true rfl⟩ (ci := 10) (q0 := 0) rfl rfl rfl hl.1 rfl (Nat.le_of_ble_eq_true rfl) ⟨Nat.zero_le _, Nat.zero_le _⟩ dX12_readPart_399) cx.2.2.1 hD hS (fun r52 u51 H locs hw50 hP hD hS => ?_)
              obtain ⟨m53, m54⟩ := u51
              have hP : va_P D vwCl [cell126_ qm sm tm m53 m54 v48, cell5_ k qm sm, cell13_ k qm sm, cell8_ k qm sm, cell6_ k qm sm, cell15_ k qm sm, cell14_ k qm tm, cell12_ k qm tm, cell18_ k qm tm, cell17_ k qm tm, cell19_ k qm tm, cell21_ k qm tm, cell20_ k qm sm, cell16_ k qm sm, cell11_ k qm sm, cell10_ k qm sm, cell9_ k qm sm, cell7_ k qm sm] H := hP
              have hD : va_D A [cell126_ qm sm tm m53 m54 v48, cell5_ k qm sm, cell13_ k qm sm, cell8_ k qm sm, cell6_ k qm sm, cell15_ k qm sm, cell14_ k qm tm, cell12_ k qm tm, cell18_ k qm tm, cell17_ k qm tm, cell19_ k qm tm, cell21_ k qm tm, cell20_ k qm sm, cell16_ k qm sm, cell11_ k qm sm, cell10_ k qm sm, cell9_ k qm sm, cell7_ k qm sm] := hD
              replace hw50 : (0 ≤ r52.toInt ∧ r52.toInt ≤ 9) ∧ (m34.toInt ≤ m53.toInt ∧ m53.toInt ≤ 64) ∧ (m34.toInt + 1 ≤ m53.toInt ∨ ¬ m54.toInt = -9) ∧ (Imp (0 ≤ (1023 : Int32).toInt ∧ (1023 : Int32).toInt ≤ 63) (r52.toInt ≤ 5)) ∧ (Imp (0 ≤ (1023 : Int32).toInt ∧ (1023 : Int32).toInt ≤ 31) (r52.toInt ≤ 4)) ∧ (Imp (0 ≤ (1023 : Int32).toInt ∧ (1023 : Int32).toInt ≤ 7) (r52.toInt ≤ 2)) ∧ ((r52, m53, m54) = J_X12_figure (up2 sm 0 (upd (upd (upd (sm 0) 4 m34) 5 m35) 10 v48)) tm (1023 : Int32)) := hw50
              obtain ⟨w55, w56, w57, w58, w59, w60, w61⟩ := hw50
              have k63 : r52 = ((J_X12_figure (up2 sm 0 (upd (upd (upd (sm 0) 4 m34) 5 m35) 10 v48)) tm (1023 : Int32)).1) := congrArg (fun z => (z.1)) w61
              have k64 : m53 = ((J_X12_figure (up2 sm 0 (upd (upd (upd (sm 0) 4 m34) 5 m35) 10 v48)) tm (1023 : Int32)).2.1) := congrArg (fun z => (z.2.1)) w61
              have k65 : m54 = ((J_X12_figure (up2 sm 0 (upd (upd (upd (sm 0) 4 m34) 5 m35) 10 v48)) tm (1023 : Int32)).2.2) := congrArg (fun z => (z.2.2)) w61
              have hn66 : vp_in v49 26 := f_in (a := v49.toInt) rfl (by omega) (by omega)
              refine va_iast hx hb cx.2.1 hP hD hS 1 0 rfl rfl hn66 dX12_readPart_402 (fun H locs hP hD hS => ?_)
              obtain ⟨g67, eg67⟩ : ∃ g : Nat → Int32, g = upd (sm 1) (v49).toNatClampNeg r52 := ⟨_, rfl⟩
              rw [← eg67] at hP hD
              have hP : va_P D vwCl [cell126_ qm sm tm m53 m54 v48, (qm 1, .inl (k 0, 26, .inl g67)), cell13_ k qm sm, cell8_ k qm sm, cell6_ k qm sm, cell15_ k qm sm, cell14_ k qm tm, cell12_ k qm tm, cell18_ k qm tm, cell17_ k qm tm, cell19_ k qm tm, cell21_ k qm tm, cell20_ k qm sm, cell16_ k qm sm, cell11_ k qm sm, cell10_ k qm sm, cell9_ k qm sm, cell7_ k qm sm] H := hP
              have hD : va_D A [cell126_ qm sm tm m53 m54 v48, (qm 1, .inl (k 0, 26, .inl g67)), cell13_ k qm sm, cell8_ k qm sm, cell6_ k qm sm, cell15_ k qm sm, cell14_ k qm tm, cell12_ k qm tm, cell18_ k qm tm, cell17_ k qm tm, cell19_ k qm tm, cell21_ k qm tm, cell20_ k qm sm, cell16_ k qm sm, cell11_ k qm sm, cell10_ k qm sm, cell9_ k qm sm, cell7_ k qm sm] := hD
              have s68 := updI eg67 rfl (show 0 ≤ v49.toInt from by omega) 0
              have s69 := updI eg67 rfl (show 0 ≤ v49.toInt from by omega) 1
              have el70 : 0 ≤ (g67 0).toInt ∧ (g67 0).toInt ≤ 5 := by omega
              have el71 : 0 ≤ (g67 1).toInt ∧ (g67 1).toInt ≤ 4 := by omega
              refine lv_goto (tgt := 410) hx hb dX12_readPart_403 (by decide) ?_
              rw [hQ]
              exact x_v cx hr (g67, m53, m54, (sm 0 6), (sm 0 7), (sm 0 8), (sm 0 9), v48) hP hD hS ⟨(show 0 ≤ (g67 0).toInt ∧ (g67 0).toInt ≤ 5 from by omega), (show 0 ≤ (g67 1).toInt ∧ (g67 1).toInt ≤ 4 from by omega), (show 0 ≤ m53.toInt ∧ m53.toInt ≤ 64 from by omega), (show (sm 0 4).toInt + 1 ≤ m53.toInt ∨ ¬ m54.toInt = -9 from by omega), (show (g67, m53, m54, (sm 0 6), (sm 0 7), (sm 0 8), (sm 0 9), v48) = J_X12_readPart sm tm p0 from by subst e2 e3 e4 w7 e28 e29 e30 k44 k45 k46 e47 e48 e49 k63 k64 k65 eg67; first | (refine Eq.symm ?_; refine Eq.trans (if_pos c8) ?_; refine Eq.trans (if_neg c9) ?_; refine Eq.trans (if_neg c10) ?_; refine Eq.trans (if_neg c11) ?_; refine Eq.trans (if_pos c12) ?_; refine Eq.trans (if_neg c20) ?_; rfl) | (unfold J_X12_readPart; try dsimp only; rw [if_pos c8, if_neg c9, if_neg c10, if_neg c11, if_pos c12, if_neg c20]))⟩ dX12_readPart_410
        · have f11 : p0.toInt = 81 := f_eq rfl (by decide) c11
          refine lv_aload_n hx hb dX12_readPart_267 rfl (lv_at hl 2 rfl) ?_
          refine g_get cx hP iw_X12_readPart_X12 0 rfl rfl 9 (by decide) rfl fw_X12_readPart_95 rfl dX12_readPart_268 ?_
          refine lv_bipush (v := 7) hx hb dX12_readPart_271 (by decide) ?_
          refine lv_icmp_eq (tgt := 333) hx hb dX12_readPart_273 (by decide) (fun c72 => ?_) (fun c72 => ?_)
          · have f72 : (sm 0 9).toInt = 7 := f_eq rfl (by decide) c72
            refine lv_iload_n hx hb dX12_readPart_333 rfl (lv_at hl 3 rfl) ?_
            refine lv_bipush (v := 68) hx hb dX12_readPart_334 (by decide) ?_
            refine lv_icmp_ne (tgt := 406) hx hb dX12_readPart_336 (by decide) (fun c73 => ?_) (fun c73 => ?_)
            · have f73 : ¬ p0.toInt = 68 := f_ne rfl (by decide) c73
              refine lv_aload_n hx hb dX12_readPart_406 rfl (lv_at hl 2 rfl) ?_
              refine g_vF (w1 := fun (u : Int32) => [cell81_ qm sm tm u, cell5_ k qm sm, cell13_ k qm sm, cell8_ k qm sm, cell6_ k qm sm, cell15_ k qm sm, cell14_ k qm tm, cell12_ k qm tm, cell18_ k qm tm, cell17_ k qm tm, cell19_ k qm tm, cell21_ k qm tm, cell20_ k qm sm, cell16_ k qm sm, cell11_ k qm sm, cell10_ k qm sm, cell9_ k qm sm, cell7_ k qm sm]) (g_runVF (ws := [cell22_ qm sm tm, cell5_ k qm sm, cell13_ k qm sm, cell8_ k qm sm, cell6_ k qm sm, cell15_ k qm sm, cell14_ k qm tm, cell12_ k qm tm, cell18_ k qm tm, cell17_ k qm tm, cell19_ k qm tm, cell21_ k qm tm, cell20_ k qm sm, cell16_ k qm sm, cell11_ k qm sm, cell10_ k qm sm, cell9_ k qm sm, cell7_ k qm sm]) (rest := []) cx hP hD hS [] (c_X12_fail l D k b qm sm tm H.size (show 0 ≤ (sm 0 4).toInt ∧ (sm 0 4).toInt ≤ 64 from by first | decide | omega)) gX12_readPart_X12_fail rfl rfl rfl nd_X12_fail ⟨Nat.le_of_ble_eq_true rfl, Nat.le_of_ble_eq_true rfl⟩ (ci := 10) (q0 := 0) rfl rfl rfl hl.1 rfl (Nat.le_of_ble_eq_true rfl) ⟨Nat.zero_le _, Nat.zero_le _⟩ dX12_readPart_407) cx.2.2.1 hD hS (fun u75 H locs hw74 hP hD hS => ?_)
              obtain ⟨m76, rfl⟩ : ∃ z, z = u75 := ⟨_, rfl⟩
              have hP : va_P D vwCl [cell81_ qm sm tm m76, cell5_ k qm sm, cell13_ k qm sm, cell8_ k qm sm, cell6_ k qm sm, cell15_ k qm sm, cell14_ k qm tm, cell12_ k qm tm, cell18_ k qm tm, cell17_ k qm tm, cell19_ k qm tm, cell21_ k qm tm, cell20_ k qm sm, cell16_ k qm sm, cell11_ k qm sm, cell10_ k qm sm, cell9_ k qm sm, cell7_ k qm sm] H := hP
              have hD : va_D A [cell81_ qm sm tm m76, cell5_ k qm sm, cell13_ k qm sm, cell8_ k qm sm, cell6_ k qm sm, cell15_ k qm sm, cell14_ k qm tm, cell12_ k qm tm, cell18_ k qm tm, cell17_ k qm tm, cell19_ k qm tm, cell21_ k qm tm, cell20_ k qm sm, cell16_ k qm sm, cell11_ k qm sm, cell10_ k qm sm, cell9_ k qm sm, cell7_ k qm sm] := hD
              replace hw74 : (¬ m76.toInt = -9) ∧ (m76 = J_X12_fail sm tm) := hw74
              obtain ⟨w77, w78⟩ := hw74
              have k80 : m76 = (J_X12_fail sm tm) := congrArg (fun z => z) w78
              rw [hQ]
              exact x_v cx hr ((sm 1), (sm 0 4), m76, (sm 0 6), (sm 0 7), (sm 0 8), (sm 0 9), (sm 0 10)) hP hD hS ⟨(show 0 ≤ ((sm 1) 0).toInt ∧ ((sm 1) 0).toInt ≤ 5 from by omega), (show 0 ≤ ((sm 1) 1).toInt ∧ ((sm 1) 1).toInt ≤ 4 from by omega), (show 0 ≤ (sm 0 4).toInt ∧ (sm 0 4).toInt ≤ 64 from by omega), (show (sm 0 4).toInt + 1 ≤ (sm 0 4).toInt ∨ ¬ m76.toInt = -9 from by omega), (show ((sm 1), (sm 0 4), m76, (sm 0 6), (sm 0 7), (sm 0 8), (sm 0 9), (sm 0 10)) = J_X12_readPart sm tm p0 from by subst e2 e3 e4 w7 k80; first | (refine Eq.symm ?_; refine Eq.trans (if_pos c8) ?_; refine Eq.trans (if_neg c9) ?_; refine Eq.trans (if_neg c10) ?_; refine Eq.trans (if_pos c11) ?_; refine Eq.trans (if_pos c72) ?_; rfl) | (unfold J_X12_readPart; try dsimp only; rw [if_pos c8, if_neg c9, if_neg c10, if_pos c11, if_pos c72]))⟩ dX12_readPart_410
            · have f73 : p0.toInt = 68 := f_eq rfl (by decide) c73
              exact absurd f73 (by omega)
          · have f72 : ¬ (sm 0 9).toInt = 7 := f_ne rfl (by decide) c72
            refine lv_aload_n hx hb dX12_readPart_276 rfl (lv_at hl 2 rfl) ?_
            refine lv_dup hx hb dX12_readPart_277 rfl ?_
            refine g_get cx hP iw_X12_readPart_X12 0 rfl rfl 4 (by decide) rfl fw_X12_readPart_111 rfl dX12_readPart_278 ?_
            refine lv_iconst (v := 1) hx hb dX12_readPart_281 (by decide) ?_
            refine lv_iadd hx hb dX12_readPart_282 (lv_topi (fun v81 e81 => ?_))
            have t81 : v81.toInt = (sm 0 4).toInt + 1 := by rw [e81]; exact i_add rfl (by decide) (by omega) (by omega)
            refine g_pt cx hP hD hS iw_X12_readPart_X12 tyX12 tyX12_ok nmX12 0 rfl rfl 4 (by decide) rfl fw_X12_readPart_111 (ty := .int) rfl rfl rfl (Nat.le_of_ble_eq_true rfl) dX12_readPart_283 (fun H locs hP hD hS => ?_)
            have hP : va_P D vwCl [cell88_ qm sm tm v81, cell5_ k qm sm, cell13_ k qm sm, cell8_ k qm sm, cell6_ k qm sm, cell15_ k qm sm, cell14_ k qm tm, cell12_ k qm tm, cell18_ k qm tm, cell17_ k qm tm, cell19_ k qm tm, cell21_ k qm tm, cell20_ k qm sm, cell16_ k qm sm, cell11_ k qm sm, cell10_ k qm sm, cell9_ k qm sm, cell7_ k qm sm] H := hP
            have hD : va_D A [cell88_ qm sm tm v81, cell5_ k qm sm, cell13_ k qm sm, cell8_ k qm sm, cell6_ k qm sm, cell15_ k qm sm, cell14_ k qm tm, cell12_ k qm tm, cell18_ k qm tm, cell17_ k qm tm, cell19_ k qm tm, cell21_ k qm tm, cell20_ k qm sm, cell16_ k qm sm, cell11_ k qm sm, cell10_ k qm sm, cell9_ k qm sm, cell7_ k qm sm] := hD
            refine lv_aload_n hx hb dX12_readPart_286 rfl (lv_at hl 2 rfl) ?_
            refine lv_bipush (v := 7) hx hb dX12_readPart_287 (by decide) ?_
            refine lv_aload_n hx hb dX12_readPart_289 rfl (lv_at hl 2 rfl) ?_
            refine g_get cx hP iw_X12_readPart_X12 0 rfl rfl 9 (by decide) rfl fw_X12_readPart_95 rfl dX12_readPart_290 ?_
            refine lv_iconst (v := (-1)) hx hb dX12_readPart_293 (by decide) ?_
            refine lv_ixor hx hb dX12_readPart_294 (lv_topi (fun v82 e82 => ?_))
            refine lv_iand hx hb dX12_readPart_295 (lv_topi (fun v83 e83 => ?_))
            have t83 : 0 ≤ v83.toInt ∧ v83.toInt ≤ 7 := by rw [e83]; exact and_l (by decide) (by omega)
            refine g_iF (w1 := fun (u : Int32 × Int32) => [cell95_ qm sm tm (u.1) (u.2), cell5_ k qm sm, cell13_ k qm sm, cell8_ k qm sm, cell6_ k qm sm, cell15_ k qm sm, cell14_ k qm tm, cell12_ k qm tm, cell18_ k qm tm, cell17_ k qm tm, cell19_ k qm tm, cell21_ k qm tm, cell20_ k qm sm, cell16_ k qm sm, cell11_ k qm sm, cell10_ k qm sm, cell9_ k qm sm, cell7_ k qm sm]) (g_runVF (ws := [cell88_ qm sm tm v81, cell5_ k qm sm, cell13_ k qm sm, cell8_ k qm sm, cell6_ k qm sm, cell15_ k qm sm, cell14_ k qm tm, cell12_ k qm tm, cell18_ k qm tm, cell17_ k qm tm, cell19_ k qm tm, cell21_ k qm tm, cell20_ k qm sm, cell16_ k qm sm, cell11_ k qm sm, cell10_ k qm sm, cell9_ k qm sm, cell7_ k qm sm]) (rest := []) cx hP hD hS [.int v83] (c_X12_figure l D k b qm (up2 sm 0 (upd (sm 0) 4 v81)) tm H.size v83 (show 0 ≤ (sm 0 3).toInt ∧ (sm 0 3).toInt ≤ 64 from by first | decide | omega) (show 0 ≤ v81.toInt ∧ v81.toInt ≤ 64 from by first | decide | omega)) gX12_readPart_X12_figure rfl rfl rfl nd_X12_figure ⟨Nat.le_of_ble_eq_true rfl, Nat.le_of_ble_eq_true rfl⟩ (ci := 10) (q0 := 0) rfl rfl rfl hl.1 rfl (Nat.le_of_ble_eq_true rfl) ⟨Nat.zero_le _, Nat.zero_le _⟩ dX12_readPart_296) cx.2.2.1 hD hS (fun r86 u85 H locs hw84 hP hD hS => ?_)
            obtain ⟨m87, m88⟩ := u85
            have hP : va_P D vwCl [cell95_ qm sm tm m87 m88, cell5_ k qm sm, cell13_ k qm sm, cell8_ k qm sm, cell6_ k qm sm, cell15_ k qm sm, cell14_ k qm tm, cell12_ k qm tm, cell18_ k qm tm, cell17_ k qm tm, cell19_ k qm tm, cell21_ k qm tm, cell20_ k qm sm, cell16_ k qm sm, cell11_ k qm sm, cell10_ k qm sm, cell9_ k qm sm, cell7_ k qm sm] H := hP
            have hD : va_D A [cell95_ qm sm tm m87 m88, cell5_ k qm sm, cell13_ k qm sm, cell8_ k qm sm, cell6_ k qm sm, cell15_ k qm sm, cell14_ k qm tm, cell12_ k qm tm, cell18_ k qm tm, cell17_ k qm tm, cell19_ k qm tm, cell21_ k qm tm, cell20_ k qm sm, cell16_ k qm sm, cell11_ k qm sm, cell10_ k qm sm, cell9_ k qm sm, cell7_ k qm sm] := hD
            replace hw84 : (0 ≤ r86.toInt ∧ r86.toInt ≤ 9) ∧ (v81.toInt ≤ m87.toInt ∧ m87.toInt ≤ 64) ∧ (v81.toInt + 1 ≤ m87.toInt ∨ ¬ m88.toInt = -9) ∧ (Imp (0 ≤ v83.toInt ∧ v83.toInt ≤ 63) (r86.toInt ≤ 5)) ∧ (Imp (0 ≤ v83.toInt ∧ v83.toInt ≤ 31) (r86.toInt ≤ 4)) ∧ (Imp (0 ≤ v83.toInt ∧ v83.toInt ≤ 7) (r86.toInt ≤ 2)) ∧ ((r86, m87, m88) = J_X12_figure (up2 sm 0 (upd (sm 0) 4 v81)) tm v83) := hw84
            obtain ⟨w89, w90, w91, w92, w93, w94, w95⟩ := hw84
            have k97 : r86 = ((J_X12_figure (up2 sm 0 (upd (sm 0) 4 v81)) tm v83).1) := congrArg (fun z => (z.1)) w95
            have k98 : m87 = ((J_X12_figure (up2 sm 0 (upd (sm 0) 4 v81)) tm v83).2.1) := congrArg (fun z => (z.2.1)) w95
            have k99 : m88 = ((J_X12_figure (up2 sm 0 (upd (sm 0) 4 v81)) tm v83).2.2) := congrArg (fun z => (z.2.2)) w95
            have xr86 : r86.toInt ≤ 2 := w94 ⟨by omega, by omega⟩
            refine lv_istore (lv' := [(4, .int r86), (3, .int r6), (2, .int v4), (0, .ref (qm 0)), (1, .int p0)]) hx hb dX12_readPart_299 hl (by decide) rfl (fun ls hl => ?_)
            refine lv_aload_n hx hb dX12_readPart_301 rfl (lv_at hl 3 rfl) ?_
            refine lv_dup hx hb dX12_readPart_302 rfl ?_
            refine g_get cx hP iw_X12_readPart_X12 0 rfl rfl 9 (by decide) rfl fw_X12_readPart_95 rfl dX12_readPart_303 ?_
            refine lv_iconst (v := 1) hx hb dX12_readPart_306 (by decide) ?_
            refine lv_iload hx hb dX12_readPart_307 (lv_at hl 0 rfl) ?_
            refine lv_ishl hx hb dX12_readPart_309 (lv_topi (fun v100 e100 => ?_))
            refine lv_ior hx hb dX12_readPart_310 (lv_topi (fun v101 e101 => ?_))
            refine g_pt cx hP hD hS iw_X12_readPart_X12 tyX12 tyX12_ok nmX12 0 rfl rfl 9 (by decide) rfl fw_X12_readPart_95 (ty := .int) rfl rfl rfl (Nat.le_of_ble_eq_true rfl) dX12_readPart_311 (fun H locs hP hD hS => ?_)
            have hP : va_P D vwCl [cell127_ qm sm tm m87 m88 v101, cell5_ k qm sm, cell13_ k qm sm, cell8_ k qm sm, cell6_ k qm sm, cell15_ k qm sm, cell14_ k qm tm, cell12_ k qm tm, cell18_ k qm tm, cell17_ k qm tm, cell19_ k qm tm, cell21_ k qm tm, cell20_ k qm sm, cell16_ k qm sm, cell11_ k qm sm, cell10_ k qm sm, cell9_ k qm sm, cell7_ k qm sm] H := hP
            have hD : va_D A [cell127_ qm sm tm m87 m88 v101, cell5_ k qm sm, cell13_ k qm sm, cell8_ k qm sm, cell6_ k qm sm, cell15_ k qm sm, cell14_ k qm tm, cell12_ k qm tm, cell18_ k qm tm, cell17_ k qm tm, cell19_ k qm tm, cell21_ k qm tm, cell20_ k qm sm, cell16_ k qm sm, cell11_ k qm sm, cell10_ k qm sm, cell9_ k qm sm, cell7_ k qm sm] := hD
            refine lv_aload_n hx hb dX12_readPart_314 rfl (lv_at hl 3 rfl) ?_
            refine g_get cx hP iw_X12_readPart_X12 0 rfl rfl 0 (by decide) rfl fw_X12_readPart_7 rfl dX12_readPart_315 ?_
            refine lv_bipush (v := 20) hx hb dX12_readPart_318 (by decide) ?_
            refine lv_iload hx hb dX12_readPart_320 (lv_at hl 0 rfl) ?_
            refine lv_iadd hx hb dX12_readPart_322 (lv_topi (fun v102 e102 => ?_))
            have t102 : v102.toInt = 20 + r86.toInt := by rw [e102]; exact i_add (by decide) rfl (by omega) (by omega)
            refine lv_aload_n hx hb dX12_readPart_323 rfl (lv_at hl 3 rfl) ?_
            refine lv_bipush (v := 63) hx hb dX12_readPart_324 (by decide) ?_
            refine g_iF (w1 := fun (u : Int32 × Int32) => [cell127_ qm sm tm (u.1) (u.2) v101, cell5_ k qm sm, cell13_ k qm sm, cell8_ k qm sm, cell6_ k qm sm, cell15_ k qm sm, cell14_ k qm tm, cell12_ k qm tm, cell18_ k qm tm, cell17_ k qm tm, cell19_ k qm tm, cell21_ k qm tm, cell20_ k qm sm, cell16_ k qm sm, cell11_ k qm sm, cell10_ k qm sm, cell9_ k qm sm, cell7_ k qm sm]) (g_runVF (ws := [cell127_ qm sm tm m87 m88 v101, cell5_ k qm sm, cell13_ k qm sm, cell8_ k qm sm, cell6_ k qm sm, cell15_ k qm sm, cell14_ k qm tm, cell12_ k qm tm, cell18_ k qm tm, cell17_ k qm tm, cell19_ k qm tm, cell21_ k qm tm, cell20_ k qm sm, cell16_ k qm sm, cell11_ k qm sm, cell10_ k qm sm, cell9_ k qm sm, cell7_ k qm sm]) (rest := [.int v102, .ref (qm 1)]) cx hP hD hS [.int 63] (c_X12_figure l D k b qm (up2 sm 0 (upd (upd (upd (sm 0) 4 m87) 5 m88) 9 v101)) tm H.size 63 (show 0 ≤ (sm 0 3).toInt ∧ (sm 0 3).toInt ≤ 64 from by first | decide | omega) (show 0 ≤ m87.toInt ∧ m87.toInt ≤ 64 from by first | decide | omega)) gX12_readPart_X12_figure rfl rfl rfl nd_X12_figure ⟨Nat.le_of_ble_eq_true rfl, Nat.le_of_ble_eq_true rfl⟩ (ci := 10) (q0 := 0) rfl rfl rfl hl.1 rfl (Nat.le_of_ble_eq_true rfl) ⟨Nat.zero_le _, Nat.zero_le _⟩ dX12_readPart_326) cx.2.2.1 hD hS (fun r105 u104 H locs hw103 hP hD hS => ?_)
            obtain ⟨m106, m107⟩ := u104
            have hP : va_P D vwCl [cell127_ qm sm tm m106 m107 v101, cell5_ k qm sm, cell13_ k qm sm, cell8_ k qm sm, cell6_ k qm sm, cell15_ k qm sm, cell14_ k qm tm, cell12_ k qm tm, cell18_ k qm tm, cell17_ k qm tm, cell19_ k qm tm, cell21_ k qm tm, cell20_ k qm sm, cell16_ k qm sm, cell11_ k qm sm, cell10_ k qm sm, cell9_ k qm sm, cell7_ k qm sm] H := hP
            have hD : va_D A [cell127_ qm sm tm m106 m107 v101, cell5_ k qm sm, cell13_ k qm sm, cell8_ k qm sm, cell6_ k qm sm, cell15_ k qm sm, cell14_ k qm tm, cell12_ k qm tm, cell18_ k qm tm, cell17_ k qm tm, cell19_ k qm tm, cell21_ k qm tm, cell20_ k qm sm, cell16_ k qm sm, cell11_ k qm sm, cell10_ k qm sm, cell9_ k qm sm, cell7_ k qm sm] := hD
            replace hw103 : (0 ≤ r105.toInt ∧ r105.toInt ≤ 9) ∧ (m87.toInt ≤ m106.toInt ∧ m106.toInt ≤ 64) ∧ (m87.toInt + 1 ≤ m106.toInt ∨ ¬ m107.toInt = -9) ∧ (Imp (0 ≤ (63 : Int32).toInt ∧ (63 : Int32).toInt ≤ 63) (r105.toInt ≤ 5)) ∧ (Imp (0 ≤ (63 : Int32).toInt ∧ (63 : Int32).toInt ≤ 31) (r105.toInt ≤ 4)) ∧ (Imp (0 ≤ (63 : Int32).toInt ∧ (63 : Int32).toInt ≤ 7) (r105.toInt ≤ 2)) ∧ ((r105, m106, m107) = J_X12_figure (up2 sm 0 (upd (upd (upd (sm 0) 4 m87) 5 m88) 9 v101)) tm (63 : Int32)) := hw103
            obtain ⟨w108, w109, w110, w111, w112, w113, w114⟩ := hw103
            have k116 : r105 = ((J_X12_figure (up2 sm 0 (upd (upd (upd (sm 0) 4 m87) 5 m88) 9 v101)) tm (63 : Int32)).1) := congrArg (fun z => (z.1)) w114
            have k117 : m106 = ((J_X12_figure (up2 sm 0 (upd (upd (upd (sm 0) 4 m87) 5 m88) 9 v101)) tm (63 : Int32)).2.1) := congrArg (fun z => (z.2.1)) w114
            have k118 : m107 = ((J_X12_figure (up2 sm 0 (upd (upd (upd (sm 0) 4 m87) 5 m88) 9 v101)) tm (63 : Int32)).2.2) := congrArg (fun z => (z.2.2)) w114
            have xr105 : r105.toInt ≤ 5 := w111 ⟨by decide, by decide⟩
            have hn119 : vp_in v102 26 := f_in (a := v102.toInt) rfl (by omega) (by omega)
            refine va_iast hx hb cx.2.1 hP hD hS 1 0 rfl rfl hn119 dX12_readPart_329 (fun H locs hP hD hS => ?_)
            obtain ⟨g120, eg120⟩ : ∃ g : Nat → Int32, g = upd (sm 1) (v102).toNatClampNeg r105 := ⟨_, rfl⟩
            rw [← eg120] at hP hD
            have hP : va_P D vwCl [cell127_ qm sm tm m106 m107 v101, (qm 1, .inl (k 0, 26, .inl g120)), cell13_ k qm sm, cell8_ k qm sm, cell6_ k qm sm, cell15_ k qm sm, cell14_ k qm tm, cell12_ k qm tm, cell18_ k qm tm, cell17_ k qm tm, cell19_ k qm tm, cell21_ k qm tm, cell20_ k qm sm, cell16_ k qm sm, cell11_ k qm sm, cell10_ k qm sm, cell9_ k qm sm, cell7_ k qm sm] H := hP
            have hD : va_D A [cell127_ qm sm tm m106 m107 v101, (qm 1, .inl (k 0, 26, .inl g120)), cell13_ k qm sm, cell8_ k qm sm, cell6_ k qm sm, cell15_ k qm sm, cell14_ k qm tm, cell12_ k qm tm, cell18_ k qm tm, cell17_ k qm tm, cell19_ k qm tm, cell21_ k qm tm, cell20_ k qm sm, cell16_ k qm sm, cell11_ k qm sm, cell10_ k qm sm, cell9_ k qm sm, cell7_ k qm sm] := hD
            have s121 := updI eg120 rfl (show 0 ≤ v102.toInt from by omega) 0
            have s122 := updI eg120 rfl (show 0 ≤ v102.toInt from by omega) 1
            have el123 : 0 ≤ (g120 0).toInt ∧ (g120 0).toInt ≤ 5 := by omega
            have el124 : 0 ≤ (g120 1).toInt ∧ (g120 1).toInt ≤ 4 := by omega
            refine lv_goto (tgt := 410) hx hb dX12_readPart_330 (by decide) ?_
            rw [hQ]
            exact x_v cx hr (g120, m106, m107, (sm 0 6), (sm 0 7), (sm 0 8), v101, (sm 0 10)) hP hD hS ⟨(show 0 ≤ (g120 0).toInt ∧ (g120 0).toInt ≤ 5 from by omega), (show 0 ≤ (g120 1).toInt ∧ (g120 1).toInt ≤ 4 from by omega), (show 0 ≤ m106.toInt ∧ m106.toInt ≤ 64 from by omega), (show (sm 0 4).toInt + 1 ≤ m106.toInt ∨ ¬ m107.toInt = -9 from by omega), (show (g120, m106, m107, (sm 0 6), (sm 0 7), (sm 0 8), v101, (sm 0 10)) = J_X12_readPart sm tm p0 from by subst e2 e3 e4 w7 e81 e82 e83 k97 k98 k99 e100 e101 e102 k116 k117 k118 eg120; first | (refine Eq.symm ?_; refine Eq.trans (if_pos c8) ?_; refine Eq.trans (if_neg c9) ?_; refine Eq.trans (if_neg c10) ?_; refine Eq.trans (if_pos c11) ?_; refine Eq.trans (if_neg c72) ?_; rfl) | (unfold J_X12_readPart; try dsimp only; rw [if_pos c8, if_neg c9, if_neg c10, if_pos c11, if_neg c72]))⟩ dX12_readPart_410
      · have f10 : p0.toInt = 79 := f_eq rfl (by decide) c10
        refine lv_aload_n hx hb dX12_readPart_197 rfl (lv_at hl 2 rfl) ?_
        refine g_get cx hP iw_X12_readPart_X12 0 rfl rfl 8 (by decide) rfl fw_X12_readPart_92 rfl dX12_readPart_198 ?_
        refine lv_iload_n hx hb dX12_readPart_201 rfl (lv_at hl 1 rfl) ?_
        refine lv_icmp_eq (tgt := 261) hx hb dX12_readPart_202 (by decide) (fun c125 => ?_) (fun c125 => ?_)
        · have f125 : (sm 0 8).toInt = v4.toInt := f_eq rfl rfl c125
          refine lv_iload_n hx hb dX12_readPart_261 rfl (lv_at hl 3 rfl) ?_
          refine lv_bipush (v := 81) hx hb dX12_readPart_262 (by decide) ?_
          refine lv_icmp_ne (tgt := 333) hx hb dX12_readPart_264 (by decide) (fun c126 => ?_) (fun c126 => ?_)
          · have f126 : ¬ p0.toInt = 81 := f_ne rfl (by decide) c126
            refine lv_iload_n hx hb dX12_readPart_333 rfl (lv_at hl 3 rfl) ?_
            refine lv_bipush (v := 68) hx hb dX12_readPart_334 (by decide) ?_
            refine lv_icmp_ne (tgt := 406) hx hb dX12_readPart_336 (by decide) (fun c127 => ?_) (fun c127 => ?_)
            · have f127 : ¬ p0.toInt = 68 := f_ne rfl (by decide) c127
              refine lv_aload_n hx hb dX12_readPart_406 rfl (lv_at hl 2 rfl) ?_
              refine g_vF (w1 := fun (u : Int32) => [cell81_ qm sm tm u, cell5_ k qm sm, cell13_ k qm sm, cell8_ k qm sm, cell6_ k qm sm, cell15_ k qm sm, cell14_ k qm tm, cell12_ k qm tm, cell18_ k qm tm, cell17_ k qm tm, cell19_ k qm tm, cell21_ k qm tm, cell20_ k qm sm, cell16_ k qm sm, cell11_ k qm sm, cell10_ k qm sm, cell9_ k qm sm, cell7_ k qm sm]) (g_runVF (ws := [cell22_ qm sm tm, cell5_ k qm sm, cell13_ k qm sm, cell8_ k qm sm, cell6_ k qm sm, cell15_ k qm sm, cell14_ k qm tm, cell12_ k qm tm, cell18_ k qm tm, cell17_ k qm tm, cell19_ k qm tm, cell21_ k qm tm, cell20_ k qm sm, cell16_ k qm sm, cell11_ k qm sm, cell10_ k qm sm, cell9_ k qm sm, cell7_ k qm sm]) (rest := []) cx hP hD hS [] (c_X12_fail l D k b qm sm tm H.size (show 0 ≤ (sm 0 4).toInt ∧ (sm 0 4).toInt ≤ 64 from by first | decide | omega)) gX12_readPart_X12_fail rfl rfl rfl nd_X12_fail ⟨Nat.le_of_ble_eq_true rfl, Nat.le_of_ble_eq_true rfl⟩ (ci := 10) (q0 := 0) rfl rfl rfl hl.1 rfl (Nat.le_of_ble_eq_true rfl) ⟨Nat.zero_le _, Nat.zero_le _⟩ dX12_readPart_407) cx.2.2.1 hD hS (fun u129 H locs hw128 hP hD hS => ?_)
              obtain ⟨m130, rfl⟩ : ∃ z, z = u129 := ⟨_, rfl⟩
              have hP : va_P D vwCl [cell81_ qm sm tm m130, cell5_ k qm sm, cell13_ k qm sm, cell8_ k qm sm, cell6_ k qm sm, cell15_ k qm sm, cell14_ k qm tm, cell12_ k qm tm, cell18_ k qm tm, cell17_ k qm tm, cell19_ k qm tm, cell21_ k qm tm, cell20_ k qm sm, cell16_ k qm sm, cell11_ k qm sm, cell10_ k qm sm, cell9_ k qm sm, cell7_ k qm sm] H := hP
              have hD : va_D A [cell81_ qm sm tm m130, cell5_ k qm sm, cell13_ k qm sm, cell8_ k qm sm, cell6_ k qm sm, cell15_ k qm sm, cell14_ k qm tm, cell12_ k qm tm, cell18_ k qm tm, cell17_ k qm tm, cell19_ k qm tm, cell21_ k qm tm, cell20_ k qm sm, cell16_ k qm sm, cell11_ k qm sm, cell10_ k qm sm, cell9_ k qm sm, cell7_ k qm sm] := hD
              replace hw128 : (¬ m130.toInt = -9) ∧ (m130 = J_X12_fail sm tm) := hw128
              obtain ⟨w131, w132⟩ := hw128
              have k134 : m130 = (J_X12_fail sm tm) := congrArg (fun z => z) w132
              rw [hQ]
              exact x_v cx hr ((sm 1), (sm 0 4), m130, (sm 0 6), (sm 0 7), (sm 0 8), (sm 0 9), (sm 0 10)) hP hD hS ⟨(show 0 ≤ ((sm 1) 0).toInt ∧ ((sm 1) 0).toInt ≤ 5 from by omega), (show 0 ≤ ((sm 1) 1).toInt ∧ ((sm 1) 1).toInt ≤ 4 from by omega), (show 0 ≤ (sm 0 4).toInt ∧ (sm 0 4).toInt ≤ 64 from by omega), (show (sm 0 4).toInt + 1 ≤ (sm 0 4).toInt ∨ ¬ m130.toInt = -9 from by omega), (show ((sm 1), (sm 0 4), m130, (sm 0 6), (sm 0 7), (sm 0 8), (sm 0 9), (sm 0 10)) = J_X12_readPart sm tm p0 from by subst e2 e3 e4 w7 k134; first | (refine Eq.symm ?_; refine Eq.trans (if_pos c8) ?_; refine Eq.trans (if_neg c9) ?_; refine Eq.trans (if_pos c10) ?_; refine Eq.trans (if_pos c125) ?_; rfl) | (unfold J_X12_readPart; try dsimp only; rw [if_pos c8, if_neg c9, if_pos c10, if_pos c125]))⟩ dX12_readPart_410
            · have f127 : p0.toInt = 68 := f_eq rfl (by decide) c127
              exact absurd f127 (by omega)
          · have f126 : p0.toInt = 81 := f_eq rfl (by decide) c126
            exact absurd f126 (by omega)
        · have f125 : ¬ (sm 0 8).toInt = v4.toInt := f_ne rfl rfl c125
          refine lv_aload_n hx hb dX12_readPart_205 rfl (lv_at hl 2 rfl) ?_
          refine lv_dup hx hb dX12_readPart_206 rfl ?_
          refine g_get cx hP iw_X12_readPart_X12 0 rfl rfl 4 (by decide) rfl fw_X12_readPart_111 rfl dX12_readPart_207 ?_
          refine lv_iconst (v := 1) hx hb dX12_readPart_210 (by decide) ?_
          refine lv_iadd hx hb dX12_readPart_211 (lv_topi (fun v135 e135 => ?_))
          have t135 : v135.toInt = (sm 0 4).toInt + 1 := by rw [e135]; exact i_add rfl (by decide) (by omega) (by omega)
          refine g_pt cx hP hD hS iw_X12_readPart_X12 tyX12 tyX12_ok nmX12 0 rfl rfl 4 (by decide) rfl fw_X12_readPart_111 (ty := .int) rfl rfl rfl (Nat.le_of_ble_eq_true rfl) dX12_readPart_212 (fun H locs hP hD hS => ?_)
          have hP : va_P D vwCl [cell88_ qm sm tm v135, cell5_ k qm sm, cell13_ k qm sm, cell8_ k qm sm, cell6_ k qm sm, cell15_ k qm sm, cell14_ k qm tm, cell12_ k qm tm, cell18_ k qm tm, cell17_ k qm tm, cell19_ k qm tm, cell21_ k qm tm, cell20_ k qm sm, cell16_ k qm sm, cell11_ k qm sm, cell10_ k qm sm, cell9_ k qm sm, cell7_ k qm sm] H := hP
          have hD : va_D A [cell88_ qm sm tm v135, cell5_ k qm sm, cell13_ k qm sm, cell8_ k qm sm, cell6_ k qm sm, cell15_ k qm sm, cell14_ k qm tm, cell12_ k qm tm, cell18_ k qm tm, cell17_ k qm tm, cell19_ k qm tm, cell21_ k qm tm, cell20_ k qm sm, cell16_ k qm sm, cell11_ k qm sm, cell10_ k qm sm, cell9_ k qm sm, cell7_ k qm sm] := hD
          refine lv_aload_n hx hb dX12_readPart_215 rfl (lv_at hl 2 rfl) ?_
          refine lv_iload_n hx hb dX12_readPart_216 rfl (lv_at hl 1 rfl) ?_
          refine lv_aload_n hx hb dX12_readPart_217 rfl (lv_at hl 2 rfl) ?_
          refine g_get cx hP iw_X12_readPart_X12 0 rfl rfl 8 (by decide) rfl fw_X12_readPart_92 rfl dX12_readPart_218 ?_
          refine lv_iconst (v := (-1)) hx hb dX12_readPart_221 (by decide) ?_
          refine lv_ixor hx hb dX12_readPart_222 (lv_topi (fun v136 e136 => ?_))
          refine lv_iand hx hb dX12_readPart_223 (lv_topi (fun v137 e137 => ?_))
          refine g_iF (w1 := fun (u : Int32 × Int32) => [cell95_ qm sm tm (u.1) (u.2), cell5_ k qm sm, cell13_ k qm sm, cell8_ k qm sm, cell6_ k qm sm, cell15_ k qm sm, cell14_ k qm tm, cell12_ k qm tm, cell18_ k qm tm, cell17_ k qm tm, cell19_ k qm tm, cell21_ k qm tm, cell20_ k qm sm, cell16_ k qm sm, cell11_ k qm sm, cell10_ k qm sm, cell9_ k qm sm, cell7_ k qm sm]) (g_runVF (ws := [cell88_ qm sm tm v135, cell5_ k qm sm, cell13_ k qm sm, cell8_ k qm sm, cell6_ k qm sm, cell15_ k qm sm, cell14_ k qm tm, cell12_ k qm tm, cell18_ k qm tm, cell17_ k qm tm, cell19_ k qm tm, cell21_ k qm tm, cell20_ k qm sm, cell16_ k qm sm, cell11_ k qm sm, cell10_ k qm sm, cell9_ k qm sm, cell7_ k qm sm]) (rest := []) cx hP hD hS [.int v137] (c_X12_figure l D k b qm (up2 sm 0 (upd (sm 0) 4 v135)) tm H.size v137 (show 0 ≤ (sm 0 3).toInt ∧ (sm 0 3).toInt ≤ 64 from by first | decide | omega) (show 0 ≤ v135.toInt ∧ v135.toInt ≤ 64 from by first | decide | omega)) gX12_readPart_X12_figure rfl rfl rfl nd_X12_figure ⟨Nat.le_of_ble_eq_true rfl, Nat.le_of_ble_eq_true rfl⟩ (ci := 10) (q0 := 0) rfl rfl rfl hl.1 rfl (Nat.le_of_ble_eq_true rfl) ⟨Nat.zero_le _, Nat.zero_le _⟩ dX12_readPart_224) cx.2.2.1 hD hS (fun r140 u139 H locs hw138 hP hD hS => ?_)
          obtain ⟨m141, m142⟩ := u139
          have hP : va_P D vwCl [cell95_ qm sm tm m141 m142, cell5_ k qm sm, cell13_ k qm sm, cell8_ k qm sm, cell6_ k qm sm, cell15_ k qm sm, cell14_ k qm tm, cell12_ k qm tm, cell18_ k qm tm, cell17_ k qm tm, cell19_ k qm tm, cell21_ k qm tm, cell20_ k qm sm, cell16_ k qm sm, cell11_ k qm sm, cell10_ k qm sm, cell9_ k qm sm, cell7_ k qm sm] H := hP
          have hD : va_D A [cell95_ qm sm tm m141 m142, cell5_ k qm sm, cell13_ k qm sm, cell8_ k qm sm, cell6_ k qm sm, cell15_ k qm sm, cell14_ k qm tm, cell12_ k qm tm, cell18_ k qm tm, cell17_ k qm tm, cell19_ k qm tm, cell21_ k qm tm, cell20_ k qm sm, cell16_ k qm sm, cell11_ k qm sm, cell10_ k qm sm, cell9_ k qm sm, cell7_ k qm sm] := hD
          replace hw138 : (0 ≤ r140.toInt ∧ r140.toInt ≤ 9) ∧ (v135.toInt ≤ m141.toInt ∧ m141.toInt ≤ 64) ∧ (v135.toInt + 1 ≤ m141.toInt ∨ ¬ m142.toInt = -9) ∧ (Imp (0 ≤ v137.toInt ∧ v137.toInt ≤ 63) (r140.toInt ≤ 5)) ∧ (Imp (0 ≤ v137.toInt ∧ v137.toInt ≤ 31) (r140.toInt ≤ 4)) ∧ (Imp (0 ≤ v137.toInt ∧ v137.toInt ≤ 7) (r140.toInt ≤ 2)) ∧ ((r140, m141, m142) = J_X12_figure (up2 sm 0 (upd (sm 0) 4 v135)) tm v137) := hw138
          obtain ⟨w143, w144, w145, w146, w147, w148, w149⟩ := hw138
          have k151 : r140 = ((J_X12_figure (up2 sm 0 (upd (sm 0) 4 v135)) tm v137).1) := congrArg (fun z => (z.1)) w149
          have k152 : m141 = ((J_X12_figure (up2 sm 0 (upd (sm 0) 4 v135)) tm v137).2.1) := congrArg (fun z => (z.2.1)) w149
          have k153 : m142 = ((J_X12_figure (up2 sm 0 (upd (sm 0) 4 v135)) tm v137).2.2) := congrArg (fun z => (z.2.2)) w149
          refine lv_istore (lv' := [(4, .int r140), (3, .int r6), (2, .int v4), (0, .ref (qm 0)), (1, .int p0)]) hx hb dX12_readPart_227 hl (by decide) rfl (fun ls hl => ?_)
          refine lv_aload_n hx hb dX12_readPart_229 rfl (lv_at hl 3 rfl) ?_
          refine lv_dup hx hb dX12_readPart_230 rfl ?_
          refine g_get cx hP iw_X12_readPart_X12 0 rfl rfl 8 (by decide) rfl fw_X12_readPart_92 rfl dX12_readPart_231 ?_
          refine lv_iconst (v := 1) hx hb dX12_readPart_234 (by decide) ?_
          refine lv_iload hx hb dX12_readPart_235 (lv_at hl 0 rfl) ?_
          refine lv_ishl hx hb dX12_readPart_237 (lv_topi (fun v154 e154 => ?_))
          refine lv_ior hx hb dX12_readPart_238 (lv_topi (fun v155 e155 => ?_))
          refine g_pt cx hP hD hS iw_X12_readPart_X12 tyX12 tyX12_ok nmX12 0 rfl rfl 8 (by decide) rfl fw_X12_readPart_92 (ty := .int) rfl rfl rfl (Nat.le_of_ble_eq_true rfl) dX12_readPart_239 (fun H locs hP hD hS => ?_)
          have hP : va_P D vwCl [cell128_ qm sm tm m141 m142 v155, cell5_ k qm sm, cell13_ k qm sm, cell8_ k qm sm, cell6_ k qm sm, cell15_ k qm sm, cell14_ k qm tm, cell12_ k qm tm, cell18_ k qm tm, cell17_ k qm tm, cell19_ k qm tm, cell21_ k qm tm, cell20_ k qm sm, cell16_ k qm sm, cell11_ k qm sm, cell10_ k qm sm, cell9_ k qm sm, cell7_ k qm sm] H := hP
          have hD : va_D A [cell128_ qm sm tm m141 m142 v155, cell5_ k qm sm, cell13_ k qm sm, cell8_ k qm sm, cell6_ k qm sm, cell15_ k qm sm, cell14_ k qm tm, cell12_ k qm tm, cell18_ k qm tm, cell17_ k qm tm, cell19_ k qm tm, cell21_ k qm tm, cell20_ k qm sm, cell16_ k qm sm, cell11_ k qm sm, cell10_ k qm sm, cell9_ k qm sm, cell7_ k qm sm] := hD
          refine lv_aload_n hx hb dX12_readPart_242 rfl (lv_at hl 3 rfl) ?_
          refine g_get cx hP iw_X12_readPart_X12 0 rfl rfl 0 (by decide) rfl fw_X12_readPart_7 rfl dX12_readPart_243 ?_
          refine lv_bipush (v := 15) hx hb dX12_readPart_246 (by decide) ?_
          refine lv_iload hx hb dX12_readPart_248 (lv_at hl 0 rfl) ?_
          refine lv_iadd hx hb dX12_readPart_250 (lv_topi (fun v156 e156 => ?_))
          have t156 : v156.toInt = 15 + r140.toInt := by rw [e156]; exact i_add (by decide) rfl (by omega) (by omega)
          refine lv_aload_n hx hb dX12_readPart_251 rfl (lv_at hl 3 rfl) ?_
          refine lv_bipush (v := 31) hx hb dX12_readPart_252 (by decide) ?_
          refine g_iF (w1 := fun (u : Int32 × Int32) => [cell128_ qm sm tm (u.1) (u.2) v155, cell5_ k qm sm, cell13_ k qm sm, cell8_ k qm sm, cell6_ k qm sm, cell15_ k qm sm, cell14_ k qm tm, cell12_ k qm tm, cell18_ k qm tm, cell17_ k qm tm, cell19_ k qm tm, cell21_ k qm tm, cell20_ k qm sm, cell16_ k qm sm, cell11_ k qm sm, cell10_ k qm sm, cell9_ k qm sm, cell7_ k qm sm]) (g_runVF (ws := [cell128_ qm sm tm m141 m142 v155, cell5_ k qm sm, cell13_ k qm sm, cell8_ k qm sm, cell6_ k qm sm, cell15_ k qm sm, cell14_ k qm tm, cell12_ k qm tm, cell18_ k qm tm, cell17_ k qm tm, cell19_ k qm tm, cell21_ k qm tm, cell20_ k qm sm, cell16_ k qm sm, cell11_ k qm sm, cell10_ k qm sm, cell9_ k qm sm, cell7_ k qm sm]) (rest := [.int v156, .ref (qm 1)]) cx hP hD hS [.int 31] (c_X12_figure l D k b qm (up2 sm 0 (upd (upd (upd (sm 0) 4 m141) 5 m142) 8 v155)) tm H.size 31 (show 0 ≤ (sm 0 3).toInt ∧ (sm 0 3).toInt ≤ 64 from by first | decide | omega) (show 0 ≤ m141.toInt ∧ m141.toInt ≤ 64 from by first | decide | omega)) gX12_readPart_X12_figure rfl rfl rfl nd_X12_figure ⟨Nat.le_of_ble_eq_true rfl, Nat.le_of_ble_eq_true rfl⟩ (ci := 10) (q0 := 0) rfl rfl rfl hl.1 rfl (Nat.le_of_ble_eq_true rfl) ⟨Nat.zero_le _, Nat.zero_le _⟩ dX12_readPart_254) cx.2.2.1 hD hS (fun r159 u158 H locs hw157 hP hD hS => ?_)
          obtain ⟨m160, m161⟩ := u158
          have hP : va_P D vwCl [cell128_ qm sm tm m160 m161 v155, cell5_ k qm sm, cell13_ k qm sm, cell8_ k qm sm, cell6_ k qm sm, cell15_ k qm sm, cell14_ k qm tm, cell12_ k qm tm, cell18_ k qm tm, cell17_ k qm tm, cell19_ k qm tm, cell21_ k qm tm, cell20_ k qm sm, cell16_ k qm sm, cell11_ k qm sm, cell10_ k qm sm, cell9_ k qm sm, cell7_ k qm sm] H := hP
          have hD : va_D A [cell128_ qm sm tm m160 m161 v155, cell5_ k qm sm, cell13_ k qm sm, cell8_ k qm sm, cell6_ k qm sm, cell15_ k qm sm, cell14_ k qm tm, cell12_ k qm tm, cell18_ k qm tm, cell17_ k qm tm, cell19_ k qm tm, cell21_ k qm tm, cell20_ k qm sm, cell16_ k qm sm, cell11_ k qm sm, cell10_ k qm sm, cell9_ k qm sm, cell7_ k qm sm] := hD
          replace hw157 : (0 ≤ r159.toInt ∧ r159.toInt ≤ 9) ∧ (m141.toInt ≤ m160.toInt ∧ m160.toInt ≤ 64) ∧ (m141.toInt + 1 ≤ m160.toInt ∨ ¬ m161.toInt = -9) ∧ (Imp (0 ≤ (31 : Int32).toInt ∧ (31 : Int32).toInt ≤ 63) (r159.toInt ≤ 5)) ∧ (Imp (0 ≤ (31 : Int32).toInt ∧ (31 : Int32).toInt ≤ 31) (r159.toInt ≤ 4)) ∧ (Imp (0 ≤ (31 : Int32).toInt ∧ (31 : Int32).toInt ≤ 7) (r159.toInt ≤ 2)) ∧ ((r159, m160, m161) = J_X12_figure (up2 sm 0 (upd (upd (upd (sm 0) 4 m141) 5 m142) 8 v155)) tm (31 : Int32)) := hw157
          obtain ⟨w162, w163, w164, w165, w166, w167, w168⟩ := hw157
          have k170 : r159 = ((J_X12_figure (up2 sm 0 (upd (upd (upd (sm 0) 4 m141) 5 m142) 8 v155)) tm (31 : Int32)).1) := congrArg (fun z => (z.1)) w168
          have k171 : m160 = ((J_X12_figure (up2 sm 0 (upd (upd (upd (sm 0) 4 m141) 5 m142) 8 v155)) tm (31 : Int32)).2.1) := congrArg (fun z => (z.2.1)) w168
          have k172 : m161 = ((J_X12_figure (up2 sm 0 (upd (upd (upd (sm 0) 4 m141) 5 m142) 8 v155)) tm (31 : Int32)).2.2) := congrArg (fun z => (z.2.2)) w168
          have xr159 : r159.toInt ≤ 4 := w166 ⟨by decide, by decide⟩
          have hn173 : vp_in v156 26 := f_in (a := v156.toInt) rfl (by omega) (by omega)
          refine va_iast hx hb cx.2.1 hP hD hS 1 0 rfl rfl hn173 dX12_readPart_257 (fun H locs hP hD hS => ?_)
          obtain ⟨g174, eg174⟩ : ∃ g : Nat → Int32, g = upd (sm 1) (v156).toNatClampNeg r159 := ⟨_, rfl⟩
          rw [← eg174] at hP hD
          have hP : va_P D vwCl [cell128_ qm sm tm m160 m161 v155, (qm 1, .inl (k 0, 26, .inl g174)), cell13_ k qm sm, cell8_ k qm sm, cell6_ k qm sm, cell15_ k qm sm, cell14_ k qm tm, cell12_ k qm tm, cell18_ k qm tm, cell17_ k qm tm, cell19_ k qm tm, cell21_ k qm tm, cell20_ k qm sm, cell16_ k qm sm, cell11_ k qm sm, cell10_ k qm sm, cell9_ k qm sm, cell7_ k qm sm] H := hP
          have hD : va_D A [cell128_ qm sm tm m160 m161 v155, (qm 1, .inl (k 0, 26, .inl g174)), cell13_ k qm sm, cell8_ k qm sm, cell6_ k qm sm, cell15_ k qm sm, cell14_ k qm tm, cell12_ k qm tm, cell18_ k qm tm, cell17_ k qm tm, cell19_ k qm tm, cell21_ k qm tm, cell20_ k qm sm, cell16_ k qm sm, cell11_ k qm sm, cell10_ k qm sm, cell9_ k qm sm, cell7_ k qm sm] := hD
          have s175 := updI eg174 rfl (show 0 ≤ v156.toInt from by omega) 0
          have s176 := updI eg174 rfl (show 0 ≤ v156.toInt from by omega) 1
          have el177 : 0 ≤ (g174 0).toInt ∧ (g174 0).toInt ≤ 5 := by omega
          have el178 : 0 ≤ (g174 1).toInt ∧ (g174 1).toInt ≤ 4 := by omega
          refine lv_goto (tgt := 410) hx hb dX12_readPart_258 (by decide) ?_
          rw [hQ]
          exact x_v cx hr (g174, m160, m161, (sm 0 6), (sm 0 7), v155, (sm 0 9), (sm 0 10)) hP hD hS ⟨(show 0 ≤ (g174 0).toInt ∧ (g174 0).toInt ≤ 5 from by omega), (show 0 ≤ (g174 1).toInt ∧ (g174 1).toInt ≤ 4 from by omega), (show 0 ≤ m160.toInt ∧ m160.toInt ≤ 64 from by omega), (show (sm 0 4).toInt + 1 ≤ m160.toInt ∨ ¬ m161.toInt = -9 from by omega), (show (g174, m160, m161, (sm 0 6), (sm 0 7), v155, (sm 0 9), (sm 0 10)) = J_X12_readPart sm tm p0 from by subst e2 e3 e4 w7 e135 e136 e137 k151 k152 k153 e154 e155 e156 k170 k171 k172 eg174; first | (refine Eq.symm ?_; refine Eq.trans (if_pos c8) ?_; refine Eq.trans (if_neg c9) ?_; refine Eq.trans (if_pos c10) ?_; refine Eq.trans (if_neg c125) ?_; rfl) | (unfold J_X12_readPart; try dsimp only; rw [if_pos c8, if_neg c9, if_pos c10, if_neg c125]))⟩ dX12_readPart_410
    · have f9 : p0.toInt = 87 := f_eq rfl (by decide) c9
      refine lv_aload_n hx hb dX12_readPart_111 rfl (lv_at hl 2 rfl) ?_
      refine g_get cx hP iw_X12_readPart_X12 0 rfl rfl 7 (by decide) rfl fw_X12_readPart_89 rfl dX12_readPart_112 ?_
      refine lv_iload_n hx hb dX12_readPart_115 rfl (lv_at hl 1 rfl) ?_
      refine lv_icmp_eq (tgt := 191) hx hb dX12_readPart_116 (by decide) (fun c179 => ?_) (fun c179 => ?_)
      · have f179 : (sm 0 7).toInt = v4.toInt := f_eq rfl rfl c179
        refine lv_iload_n hx hb dX12_readPart_191 rfl (lv_at hl 3 rfl) ?_
        refine lv_bipush (v := 79) hx hb dX12_readPart_192 (by decide) ?_
        refine lv_icmp_ne (tgt := 261) hx hb dX12_readPart_194 (by decide) (fun c180 => ?_) (fun c180 => ?_)
        · have f180 : ¬ p0.toInt = 79 := f_ne rfl (by decide) c180
          refine lv_iload_n hx hb dX12_readPart_261 rfl (lv_at hl 3 rfl) ?_
          refine lv_bipush (v := 81) hx hb dX12_readPart_262 (by decide) ?_
          refine lv_icmp_ne (tgt := 333) hx hb dX12_readPart_264 (by decide) (fun c181 => ?_) (fun c181 => ?_)
          · have f181 : ¬ p0.toInt = 81 := f_ne rfl (by decide) c181
            refine lv_iload_n hx hb dX12_readPart_333 rfl (lv_at hl 3 rfl) ?_
            refine lv_bipush (v := 68) hx hb dX12_readPart_334 (by decide) ?_
            refine lv_icmp_ne (tgt := 406) hx hb dX12_readPart_336 (by decide) (fun c182 => ?_) (fun c182 => ?_)
            · have f182 : ¬ p0.toInt = 68 := f_ne rfl (by decide) c182
              refine lv_aload_n hx hb dX12_readPart_406 rfl (lv_at hl 2 rfl) ?_
              refine g_vF (w1 := fun (u : Int32) => [cell81_ qm sm tm u, cell5_ k qm sm, cell13_ k qm sm, cell8_ k qm sm, cell6_ k qm sm, cell15_ k qm sm, cell14_ k qm tm, cell12_ k qm tm, cell18_ k qm tm, cell17_ k qm tm, cell19_ k qm tm, cell21_ k qm tm, cell20_ k qm sm, cell16_ k qm sm, cell11_ k qm sm, cell10_ k qm sm, cell9_ k qm sm, cell7_ k qm sm]) (g_runVF (ws := [cell22_ qm sm tm, cell5_ k qm sm, cell13_ k qm sm, cell8_ k qm sm, cell6_ k qm sm, cell15_ k qm sm, cell14_ k qm tm, cell12_ k qm tm, cell18_ k qm tm, cell17_ k qm tm, cell19_ k qm tm, cell21_ k qm tm, cell20_ k qm sm, cell16_ k qm sm, cell11_ k qm sm, cell10_ k qm sm, cell9_ k qm sm, cell7_ k qm sm]) (rest := []) cx hP hD hS [] (c_X12_fail l D k b qm sm tm H.size (show 0 ≤ (sm 0 4).toInt ∧ (sm 0 4).toInt ≤ 64 from by first | decide | omega)) gX12_readPart_X12_fail rfl rfl rfl nd_X12_fail ⟨Nat.le_of_ble_eq_true rfl, Nat.le_of_ble_eq_true rfl⟩ (ci := 10) (q0 := 0) rfl rfl rfl hl.1 rfl (Nat.le_of_ble_eq_true rfl) ⟨Nat.zero_le _, Nat.zero_le _⟩ dX12_readPart_407) cx.2.2.1 hD hS (fun u184 H locs hw183 hP hD hS => ?_)
              obtain ⟨m185, rfl⟩ : ∃ z, z = u184 := ⟨_, rfl⟩
              have hP : va_P D vwCl [cell81_ qm sm tm m185, cell5_ k qm sm, cell13_ k qm sm, cell8_ k qm sm, cell6_ k qm sm, cell15_ k qm sm, cell14_ k qm tm, cell12_ k qm tm, cell18_ k qm tm, cell17_ k qm tm, cell19_ k qm tm, cell21_ k qm tm, cell20_ k qm sm, cell16_ k qm sm, cell11_ k qm sm, cell10_ k qm sm, cell9_ k qm sm, cell7_ k qm sm] H := hP
              have hD : va_D A [cell81_ qm sm tm m185, cell5_ k qm sm, cell13_ k qm sm, cell8_ k qm sm, cell6_ k qm sm, cell15_ k qm sm, cell14_ k qm tm, cell12_ k qm tm, cell18_ k qm tm, cell17_ k qm tm, cell19_ k qm tm, cell21_ k qm tm, cell20_ k qm sm, cell16_ k qm sm, cell11_ k qm sm, cell10_ k qm sm, cell9_ k qm sm, cell7_ k qm sm] := hD
              replace hw183 : (¬ m185.toInt = -9) ∧ (m185 = J_X12_fail sm tm) := hw183
              obtain ⟨w186, w187⟩ := hw183
              have k189 : m185 = (J_X12_fail sm tm) := congrArg (fun z => z) w187
              rw [hQ]
              exact x_v cx hr ((sm 1), (sm 0 4), m185, (sm 0 6), (sm 0 7), (sm 0 8), (sm 0 9), (sm 0 10)) hP hD hS ⟨(show 0 ≤ ((sm 1) 0).toInt ∧ ((sm 1) 0).toInt ≤ 5 from by omega), (show 0 ≤ ((sm 1) 1).toInt ∧ ((sm 1) 1).toInt ≤ 4 from by omega), (show 0 ≤ (sm 0 4).toInt ∧ (sm 0 4).toInt ≤ 64 from by omega), (show (sm 0 4).toInt + 1 ≤ (sm 0 4).toInt ∨ ¬ m185.toInt = -9 from by omega), (show ((sm 1), (sm 0 4), m185, (sm 0 6), (sm 0 7), (sm 0 8), (sm 0 9), (sm 0 10)) = J_X12_readPart sm tm p0 from by subst e2 e3 e4 w7 k189; first | (refine Eq.symm ?_; refine Eq.trans (if_pos c8) ?_; refine Eq.trans (if_pos c9) ?_; refine Eq.trans (if_pos c179) ?_; rfl) | (unfold J_X12_readPart; try dsimp only; rw [if_pos c8, if_pos c9, if_pos c179]))⟩ dX12_readPart_410
            · have f182 : p0.toInt = 68 := f_eq rfl (by decide) c182
              exact absurd f182 (by omega)
          · have f181 : p0.toInt = 81 := f_eq rfl (by decide) c181
            exact absurd f181 (by omega)
        · have f180 : p0.toInt = 79 := f_eq rfl (by decide) c180
          exact absurd f180 (by omega)
      · have f179 : ¬ (sm 0 7).toInt = v4.toInt := f_ne rfl rfl c179
        refine lv_aload_n hx hb dX12_readPart_119 rfl (lv_at hl 2 rfl) ?_
        refine lv_dup hx hb dX12_readPart_120 rfl ?_
        refine g_get cx hP iw_X12_readPart_X12 0 rfl rfl 4 (by decide) rfl fw_X12_readPart_111 rfl dX12_readPart_121 ?_
        refine lv_iconst (v := 1) hx hb dX12_readPart_124 (by decide) ?_
        refine lv_iadd hx hb dX12_readPart_125 (lv_topi (fun v190 e190 => ?_))
        have t190 : v190.toInt = (sm 0 4).toInt + 1 := by rw [e190]; exact i_add rfl (by decide) (by omega) (by omega)
        refine g_pt cx hP hD hS iw_X12_readPart_X12 tyX12 tyX12_ok nmX12 0 rfl rfl 4 (by decide) rfl fw_X12_readPart_111 (ty := .int) rfl rfl rfl (Nat.le_of_ble_eq_true rfl) dX12_readPart_126 (fun H locs hP hD hS => ?_)
        have hP : va_P D vwCl [cell88_ qm sm tm v190, cell5_ k qm sm, cell13_ k qm sm, cell8_ k qm sm, cell6_ k qm sm, cell15_ k qm sm, cell14_ k qm tm, cell12_ k qm tm, cell18_ k qm tm, cell17_ k qm tm, cell19_ k qm tm, cell21_ k qm tm, cell20_ k qm sm, cell16_ k qm sm, cell11_ k qm sm, cell10_ k qm sm, cell9_ k qm sm, cell7_ k qm sm] H := hP
        have hD : va_D A [cell88_ qm sm tm v190, cell5_ k qm sm, cell13_ k qm sm, cell8_ k qm sm, cell6_ k qm sm, cell15_ k qm sm, cell14_ k qm tm, cell12_ k qm tm, cell18_ k qm tm, cell17_ k qm tm, cell19_ k qm tm, cell21_ k qm tm, cell20_ k qm sm, cell16_ k qm sm, cell11_ k qm sm, cell10_ k qm sm, cell9_ k qm sm, cell7_ k qm sm] := hD
        refine lv_aload_n hx hb dX12_readPart_129 rfl (lv_at hl 2 rfl) ?_
        refine lv_iload_n hx hb dX12_readPart_130 rfl (lv_at hl 1 rfl) ?_
        refine lv_aload_n hx hb dX12_readPart_131 rfl (lv_at hl 2 rfl) ?_
        refine g_get cx hP iw_X12_readPart_X12 0 rfl rfl 7 (by decide) rfl fw_X12_readPart_89 rfl dX12_readPart_132 ?_
        refine lv_iconst (v := (-1)) hx hb dX12_readPart_135 (by decide) ?_
        refine lv_ixor hx hb dX12_readPart_136 (lv_topi (fun v191 e191 => ?_))
        refine lv_iand hx hb dX12_readPart_137 (lv_topi (fun v192 e192 => ?_))
        refine g_iF (w1 := fun (u : Int32 × Int32) => [cell95_ qm sm tm (u.1) (u.2), cell5_ k qm sm, cell13_ k qm sm, cell8_ k qm sm, cell6_ k qm sm, cell15_ k qm sm, cell14_ k qm tm, cell12_ k qm tm, cell18_ k qm tm, cell17_ k qm tm, cell19_ k qm tm, cell21_ k qm tm, cell20_ k qm sm, cell16_ k qm sm, cell11_ k qm sm, cell10_ k qm sm, cell9_ k qm sm, cell7_ k qm sm]) (g_runVF (ws := [cell88_ qm sm tm v190, cell5_ k qm sm, cell13_ k qm sm, cell8_ k qm sm, cell6_ k qm sm, cell15_ k qm sm, cell14_ k qm tm, cell12_ k qm tm, cell18_ k qm tm, cell17_ k qm tm, cell19_ k qm tm, cell21_ k qm tm, cell20_ k qm sm, cell16_ k qm sm, cell11_ k qm sm, cell10_ k qm sm, cell9_ k qm sm, cell7_ k qm sm]) (rest := []) cx hP hD hS [.int v192] (c_X12_figure l D k b qm (up2 sm 0 (upd (sm 0) 4 v190)) tm H.size v192 (show 0 ≤ (sm 0 3).toInt ∧ (sm 0 3).toInt ≤ 64 from by first | decide | omega) (show 0 ≤ v190.toInt ∧ v190.toInt ≤ 64 from by first | decide | omega)) gX12_readPart_X12_figure rfl rfl rfl nd_X12_figure ⟨Nat.le_of_ble_eq_true rfl, Nat.le_of_ble_eq_true rfl⟩ (ci := 10) (q0 := 0) rfl rfl rfl hl.1 rfl (Nat.le_of_ble_eq_true rfl) ⟨Nat.zero_le _, Nat.zero_le _⟩ dX12_readPart_138) cx.2.2.1 hD hS (fun r195 u194 H locs hw193 hP hD hS => ?_)
        obtain ⟨m196, m197⟩ := u194
        have hP : va_P D vwCl [cell95_ qm sm tm m196 m197, cell5_ k qm sm, cell13_ k qm sm, cell8_ k qm sm, cell6_ k qm sm, cell15_ k qm sm, cell14_ k qm tm, cell12_ k qm tm, cell18_ k qm tm, cell17_ k qm tm, cell19_ k qm tm, cell21_ k qm tm, cell20_ k qm sm, cell16_ k qm sm, cell11_ k qm sm, cell10_ k qm sm, cell9_ k qm sm, cell7_ k qm sm] H := hP
        have hD : va_D A [cell95_ qm sm tm m196 m197, cell5_ k qm sm, cell13_ k qm sm, cell8_ k qm sm, cell6_ k qm sm, cell15_ k qm sm, cell14_ k qm tm, cell12_ k qm tm, cell18_ k qm tm, cell17_ k qm tm, cell19_ k qm tm, cell21_ k qm tm, cell20_ k qm sm, cell16_ k qm sm, cell11_ k qm sm, cell10_ k qm sm, cell9_ k qm sm, cell7_ k qm sm] := hD
        replace hw193 : (0 ≤ r195.toInt ∧ r195.toInt ≤ 9) ∧ (v190.toInt ≤ m196.toInt ∧ m196.toInt ≤ 64) ∧ (v190.toInt + 1 ≤ m196.toInt ∨ ¬ m197.toInt = -9) ∧ (Imp (0 ≤ v192.toInt ∧ v192.toInt ≤ 63) (r195.toInt ≤ 5)) ∧ (Imp (0 ≤ v192.toInt ∧ v192.toInt ≤ 31) (r195.toInt ≤ 4)) ∧ (Imp (0 ≤ v192.toInt ∧ v192.toInt ≤ 7) (r195.toInt ≤ 2)) ∧ ((r195, m196, m197) = J_X12_figure (up2 sm 0 (upd (sm 0) 4 v190)) tm v192) := hw193
        obtain ⟨w198, w199, w200, w201, w202, w203, w204⟩ := hw193
        have k206 : r195 = ((J_X12_figure (up2 sm 0 (upd (sm 0) 4 v190)) tm v192).1) := congrArg (fun z => (z.1)) w204
        have k207 : m196 = ((J_X12_figure (up2 sm 0 (upd (sm 0) 4 v190)) tm v192).2.1) := congrArg (fun z => (z.2.1)) w204
        have k208 : m197 = ((J_X12_figure (up2 sm 0 (upd (sm 0) 4 v190)) tm v192).2.2) := congrArg (fun z => (z.2.2)) w204
        refine lv_istore (lv' := [(4, .int r195), (3, .int r6), (2, .int v4), (0, .ref (qm 0)), (1, .int p0)]) hx hb dX12_readPart_141 hl (by decide) rfl (fun ls hl => ?_)
        refine lv_aload_n hx hb dX12_readPart_143 rfl (lv_at hl 3 rfl) ?_
        refine lv_dup hx hb dX12_readPart_144 rfl ?_
        refine g_get cx hP iw_X12_readPart_X12 0 rfl rfl 7 (by decide) rfl fw_X12_readPart_89 rfl dX12_readPart_145 ?_
        refine lv_iconst (v := 1) hx hb dX12_readPart_148 (by decide) ?_
        refine lv_iload hx hb dX12_readPart_149 (lv_at hl 0 rfl) ?_
        refine lv_ishl hx hb dX12_readPart_151 (lv_topi (fun v209 e209 => ?_))
        refine lv_ior hx hb dX12_readPart_152 (lv_topi (fun v210 e210 => ?_))
        refine g_pt cx hP hD hS iw_X12_readPart_X12 tyX12 tyX12_ok nmX12 0 rfl rfl 7 (by decide) rfl fw_X12_readPart_89 (ty := .int) rfl rfl rfl (Nat.le_of_ble_eq_true rfl) dX12_readPart_153 (fun H locs hP hD hS => ?_)
        have hP : va_P D vwCl [cell100_ qm sm tm m196 m197 v210, cell5_ k qm sm, cell13_ k qm sm, cell8_ k qm sm, cell6_ k qm sm, cell15_ k qm sm, cell14_ k qm tm, cell12_ k qm tm, cell18_ k qm tm, cell17_ k qm tm, cell19_ k qm tm, cell21_ k qm tm, cell20_ k qm sm, cell16_ k qm sm, cell11_ k qm sm, cell10_ k qm sm, cell9_ k qm sm, cell7_ k qm sm] H := hP
        have hD : va_D A [cell100_ qm sm tm m196 m197 v210, cell5_ k qm sm, cell13_ k qm sm, cell8_ k qm sm, cell6_ k qm sm, cell15_ k qm sm, cell14_ k qm tm, cell12_ k qm tm, cell18_ k qm tm, cell17_ k qm tm, cell19_ k qm tm, cell21_ k qm tm, cell20_ k qm sm, cell16_ k qm sm, cell11_ k qm sm, cell10_ k qm sm, cell9_ k qm sm, cell7_ k qm sm] := hD
        refine lv_aload_n hx hb dX12_readPart_156 rfl (lv_at hl 3 rfl) ?_
        refine lv_sipush (v := 1023) hx hb dX12_readPart_157 (by decide) ?_
        refine g_iF (w1 := fun (u : Int32 × Int32) => [cell100_ qm sm tm (u.1) (u.2) v210, cell5_ k qm sm, cell13_ k qm sm, cell8_ k qm sm, cell6_ k qm sm, cell15_ k qm sm, cell14_ k qm tm, cell12_ k qm tm, cell18_ k qm tm, cell17_ k qm tm, cell19_ k qm tm, cell21_ k qm tm, cell20_ k qm sm, cell16_ k qm sm, cell11_ k qm sm, cell10_ k qm sm, cell9_ k qm sm, cell7_ k qm sm]) (g_runVF (ws := [cell100_ qm sm tm m196 m197 v210, cell5_ k qm sm, cell13_ k qm sm, cell8_ k qm sm, cell6_ k qm sm, cell15_ k qm sm, cell14_ k qm tm, cell12_ k qm tm, cell18_ k qm tm, cell17_ k qm tm, cell19_ k qm tm, cell21_ k qm tm, cell20_ k qm sm, cell16_ k qm sm, cell11_ k qm sm, cell10_ k qm sm, cell9_ k qm sm, cell7_ k qm sm]) (rest := []) cx hP hD hS [.int 1023] (c_X12_figure l D k b qm (up2 sm 0 (upd (upd (upd (sm 0) 4 m196) 5 m197) 7 v210)) tm H.size 1023 (show 0 ≤ (sm 0 3).toInt ∧ (sm 0 3).toInt ≤ 64 from by first | decide | omega) (show 0 ≤ m196.toInt ∧ m196.toInt ≤ 64 from by first | decide | omega)) gX12_readPart_X12_figure rfl rfl rfl nd_X12_figure ⟨Nat.le_of_ble_eq_true rfl, Nat.le_of_ble_eq_true rfl⟩ (ci := 10) (q0 := 0) rfl rfl rfl hl.1 rfl (Nat.le_of_ble_eq_true rfl) ⟨Nat.zero_le _, Nat.zero_le _⟩ dX12_readPart_160) cx.2.2.1 hD hS (fun r213 u212 H locs hw211 hP hD hS => ?_)
        obtain ⟨m214, m215⟩ := u212
        have hP : va_P D vwCl [cell100_ qm sm tm m214 m215 v210, cell5_ k qm sm, cell13_ k qm sm, cell8_ k qm sm, cell6_ k qm sm, cell15_ k qm sm, cell14_ k qm tm, cell12_ k qm tm, cell18_ k qm tm, cell17_ k qm tm, cell19_ k qm tm, cell21_ k qm tm, cell20_ k qm sm, cell16_ k qm sm, cell11_ k qm sm, cell10_ k qm sm, cell9_ k qm sm, cell7_ k qm sm] H := hP
        have hD : va_D A [cell100_ qm sm tm m214 m215 v210, cell5_ k qm sm, cell13_ k qm sm, cell8_ k qm sm, cell6_ k qm sm, cell15_ k qm sm, cell14_ k qm tm, cell12_ k qm tm, cell18_ k qm tm, cell17_ k qm tm, cell19_ k qm tm, cell21_ k qm tm, cell20_ k qm sm, cell16_ k qm sm, cell11_ k qm sm, cell10_ k qm sm, cell9_ k qm sm, cell7_ k qm sm] := hD
        replace hw211 : (0 ≤ r213.toInt ∧ r213.toInt ≤ 9) ∧ (m196.toInt ≤ m214.toInt ∧ m214.toInt ≤ 64) ∧ (m196.toInt + 1 ≤ m214.toInt ∨ ¬ m215.toInt = -9) ∧ (Imp (0 ≤ (1023 : Int32).toInt ∧ (1023 : Int32).toInt ≤ 63) (r213.toInt ≤ 5)) ∧ (Imp (0 ≤ (1023 : Int32).toInt ∧ (1023 : Int32).toInt ≤ 31) (r213.toInt ≤ 4)) ∧ (Imp (0 ≤ (1023 : Int32).toInt ∧ (1023 : Int32).toInt ≤ 7) (r213.toInt ≤ 2)) ∧ ((r213, m214, m215) = J_X12_figure (up2 sm 0 (upd (upd (upd (sm 0) 4 m196) 5 m197) 7 v210)) tm (1023 : Int32)) := hw211
        obtain ⟨w216, w217, w218, w219, w220, w221, w222⟩ := hw211
        have k224 : r213 = ((J_X12_figure (up2 sm 0 (upd (upd (upd (sm 0) 4 m196) 5 m197) 7 v210)) tm (1023 : Int32)).1) := congrArg (fun z => (z.1)) w222
        have k225 : m214 = ((J_X12_figure (up2 sm 0 (upd (upd (upd (sm 0) 4 m196) 5 m197) 7 v210)) tm (1023 : Int32)).2.1) := congrArg (fun z => (z.2.1)) w222
        have k226 : m215 = ((J_X12_figure (up2 sm 0 (upd (upd (upd (sm 0) 4 m196) 5 m197) 7 v210)) tm (1023 : Int32)).2.2) := congrArg (fun z => (z.2.2)) w222
        refine lv_istore (lv' := [(5, .int r213), (4, .int r195), (3, .int r6), (2, .int v4), (0, .ref (qm 0)), (1, .int p0)]) hx hb dX12_readPart_163 hl (by decide) rfl (fun ls hl => ?_)
        refine lv_aload_n hx hb dX12_readPart_165 rfl (lv_at hl 4 rfl) ?_
        refine g_get cx hP iw_X12_readPart_X12 0 rfl rfl 0 (by decide) rfl fw_X12_readPart_7 rfl dX12_readPart_166 ?_
        refine lv_bipush (v := 10) hx hb dX12_readPart_169 (by decide) ?_
        refine lv_iload hx hb dX12_readPart_171 (lv_at hl 1 rfl) ?_
        refine lv_iadd hx hb dX12_readPart_173 (lv_topi (fun v227 e227 => ?_))
        have t227 : v227.toInt = 10 + r195.toInt := by rw [e227]; exact i_add (by decide) rfl (by omega) (by omega)
        refine lv_bipush (v := 10) hx hb dX12_readPart_174 (by decide) ?_
        refine lv_iload hx hb dX12_readPart_176 (lv_at hl 0 rfl) ?_
        refine lv_imul hx hb dX12_readPart_178 (lv_topi (fun v228 e228 => ?_))
        have t228 : v228.toInt = 10 * r213.toInt := by rw [e228]; exact i_mul (by decide) rfl (by omega) (by omega)
        refine lv_aload_n hx hb dX12_readPart_179 rfl (lv_at hl 4 rfl) ?_
        refine lv_sipush (v := 1023) hx hb dX12_readPart_180 (by decide) ?_
        refine g_iF (w1 := fun (u : Int32 × Int32) => [cell100_ qm sm tm (u.1) (u.2) v210, cell5_ k qm sm, cell13_ k qm sm, cell8_ k qm sm, cell6_ k qm sm, cell15_ k qm sm, cell14_ k qm tm, cell12_ k qm tm, cell18_ k qm tm, cell17_ k qm tm, cell19_ k qm tm, cell21_ k qm tm, cell20_ k qm sm, cell16_ k qm sm, cell11_ k qm sm, cell10_ k qm sm, cell9_ k qm sm, cell7_ k qm sm]) (g_runVF (ws := [cell100_ qm sm tm m214 m215 v210, cell5_ k qm sm, cell13_ k qm sm, cell8_ k qm sm, cell6_ k qm sm, cell15_ k qm sm, cell14_ k qm tm, cell12_ k qm tm, cell18_ k qm tm, cell17_ k qm tm, cell19_ k qm tm, cell21_ k qm tm, cell20_ k qm sm, cell16_ k qm sm, cell11_ k qm sm, cell10_ k qm sm, cell9_ k qm sm, cell7_ k qm sm]) (rest := [.int v228, .int v227, .ref (qm 1)]) cx hP hD hS [.int 1023] (c_X12_figure l D k b qm (up2 sm 0 (upd (upd (upd (sm 0) 4 m214) 5 m215) 7 v210)) tm H.size 1023 (show 0 ≤ (sm 0 3).toInt ∧ (sm 0 3).toInt ≤ 64 from by first | decide | omega) (show 0 ≤ m214.toInt ∧ m214.toInt ≤ 64 from by first | decide | omega)) gX12_readPart_X12_figure rfl rfl rfl nd_X12_figure ⟨Nat.le_of_ble_eq_true rfl, Nat.le_of_ble_eq_true rfl⟩ (ci := 10) (q0 := 0) rfl rfl rfl hl.1 rfl (Nat.le_of_ble_eq_true rfl) ⟨Nat.zero_le _, Nat.zero_le _⟩ dX12_readPart_183) cx.2.2.1 hD hS (fun r231 u230 H locs hw229 hP hD hS => ?_)
        obtain ⟨m232, m233⟩ := u230
        have hP : va_P D vwCl [cell100_ qm sm tm m232 m233 v210, cell5_ k qm sm, cell13_ k qm sm, cell8_ k qm sm, cell6_ k qm sm, cell15_ k qm sm, cell14_ k qm tm, cell12_ k qm tm, cell18_ k qm tm, cell17_ k qm tm, cell19_ k qm tm, cell21_ k qm tm, cell20_ k qm sm, cell16_ k qm sm, cell11_ k qm sm, cell10_ k qm sm, cell9_ k qm sm, cell7_ k qm sm] H := hP
        have hD : va_D A [cell100_ qm sm tm m232 m233 v210, cell5_ k qm sm, cell13_ k qm sm, cell8_ k qm sm, cell6_ k qm sm, cell15_ k qm sm, cell14_ k qm tm, cell12_ k qm tm, cell18_ k qm tm, cell17_ k qm tm, cell19_ k qm tm, cell21_ k qm tm, cell20_ k qm sm, cell16_ k qm sm, cell11_ k qm sm, cell10_ k qm sm, cell9_ k qm sm, cell7_ k qm sm] := hD
        replace hw229 : (0 ≤ r231.toInt ∧ r231.toInt ≤ 9) ∧ (m214.toInt ≤ m232.toInt ∧ m232.toInt ≤ 64) ∧ (m214.toInt + 1 ≤ m232.toInt ∨ ¬ m233.toInt = -9) ∧ (Imp (0 ≤ (1023 : Int32).toInt ∧ (1023 : Int32).toInt ≤ 63) (r231.toInt ≤ 5)) ∧ (Imp (0 ≤ (1023 : Int32).toInt ∧ (1023 : Int32).toInt ≤ 31) (r231.toInt ≤ 4)) ∧ (Imp (0 ≤ (1023 : Int32).toInt ∧ (1023 : Int32).toInt ≤ 7) (r231.toInt ≤ 2)) ∧ ((r231, m232, m233) = J_X12_figure (up2 sm 0 (upd (upd (upd (sm 0) 4 m214) 5 m215) 7 v210)) tm (1023 : Int32)) := hw229
        obtain ⟨w234, w235, w236, w237, w238, w239, w240⟩ := hw229
        have k242 : r231 = ((J_X12_figure (up2 sm 0 (upd (upd (upd (sm 0) 4 m214) 5 m215) 7 v210)) tm (1023 : Int32)).1) := congrArg (fun z => (z.1)) w240
        have k243 : m232 = ((J_X12_figure (up2 sm 0 (upd (upd (upd (sm 0) 4 m214) 5 m215) 7 v210)) tm (1023 : Int32)).2.1) := congrArg (fun z => (z.2.1)) w240
        have k244 : m233 = ((J_X12_figure (up2 sm 0 (upd (upd (upd (sm 0) 4 m214) 5 m215) 7 v210)) tm (1023 : Int32)).2.2) := congrArg (fun z => (z.2.2)) w240
        refine lv_iadd hx hb dX12_readPart_186 (lv_topi (fun v245 e245 => ?_))
        have t245 : v245.toInt = v228.toInt + r231.toInt := by rw [e245]; exact i_add rfl rfl (by omega) (by omega)
        have hn246 : vp_in v227 26 := f_in (a := v227.toInt) rfl (by omega) (by omega)
        refine va_iast hx hb cx.2.1 hP hD hS 1 0 rfl rfl hn246 dX12_readPart_187 (fun H locs hP hD hS => ?_)
        obtain ⟨g247, eg247⟩ : ∃ g : Nat → Int32, g = upd (sm 1) (v227).toNatClampNeg v245 := ⟨_, rfl⟩
        rw [← eg247] at hP hD
        have hP : va_P D vwCl [cell100_ qm sm tm m232 m233 v210, (qm 1, .inl (k 0, 26, .inl g247)), cell13_ k qm sm, cell8_ k qm sm, cell6_ k qm sm, cell15_ k qm sm, cell14_ k qm tm, cell12_ k qm tm, cell18_ k qm tm, cell17_ k qm tm, cell19_ k qm tm, cell21_ k qm tm, cell20_ k qm sm, cell16_ k qm sm, cell11_ k qm sm, cell10_ k qm sm, cell9_ k qm sm, cell7_ k qm sm] H := hP
        have hD : va_D A [cell100_ qm sm tm m232 m233 v210, (qm 1, .inl (k 0, 26, .inl g247)), cell13_ k qm sm, cell8_ k qm sm, cell6_ k qm sm, cell15_ k qm sm, cell14_ k qm tm, cell12_ k qm tm, cell18_ k qm tm, cell17_ k qm tm, cell19_ k qm tm, cell21_ k qm tm, cell20_ k qm sm, cell16_ k qm sm, cell11_ k qm sm, cell10_ k qm sm, cell9_ k qm sm, cell7_ k qm sm] := hD
        have s248 := updI eg247 rfl (show 0 ≤ v227.toInt from by omega) 0
        have s249 := updI eg247 rfl (show 0 ≤ v227.toInt from by omega) 1
        have el250 : 0 ≤ (g247 0).toInt ∧ (g247 0).toInt ≤ 5 := by omega
        have el251 : 0 ≤ (g247 1).toInt ∧ (g247 1).toInt ≤ 4 := by omega
        refine lv_goto (tgt := 410) hx hb dX12_readPart_188 (by decide) ?_
        rw [hQ]
        exact x_v cx hr (g247, m232, m233, (sm 0 6), v210, (sm 0 8), (sm 0 9), (sm 0 10)) hP hD hS ⟨(show 0 ≤ (g247 0).toInt ∧ (g247 0).toInt ≤ 5 from by omega), (show 0 ≤ (g247 1).toInt ∧ (g247 1).toInt ≤ 4 from by omega), (show 0 ≤ m232.toInt ∧ m232.toInt ≤ 64 from by omega), (show (sm 0 4).toInt + 1 ≤ m232.toInt ∨ ¬ m233.toInt = -9 from by omega), (show (g247, m232, m233, (sm 0 6), v210, (sm 0 8), (sm 0 9), (sm 0 10)) = J_X12_readPart sm tm p0 from by subst e2 e3 e4 w7 e190 e191 e192 k206 k207 k208 e209 e210 k224 k225 k226 e227 e228 k242 k243 k244 e245 eg247; first | (refine Eq.symm ?_; refine Eq.trans (if_pos c8) ?_; refine Eq.trans (if_pos c9) ?_; refine Eq.trans (if_neg c179) ?_; rfl) | (unfold J_X12_readPart; try dsimp only; rw [if_pos c8, if_pos c9, if_neg c179]))⟩ dX12_readPart_410
  · have f8 : ¬ r6.toInt = (-9) := f_ne rfl (by decide) c8
    refine lv_aload_n hx hb dX12_readPart_22 rfl (lv_at hl 2 rfl) ?_
    refine g_get cx hP iw_X12_readPart_X12 0 rfl rfl 6 (by decide) rfl fw_X12_readPart_85 rfl dX12_readPart_23 ?_
    refine lv_iload_n hx hb dX12_readPart_26 rfl (lv_at hl 0 rfl) ?_
    refine lv_ishr hx hb dX12_readPart_27 (lv_topi (fun v252 e252 => ?_))
    refine lv_iconst (v := 1) hx hb dX12_readPart_28 (by decide) ?_
    refine lv_iand hx hb dX12_readPart_29 (lv_topi (fun v253 e253 => ?_))
    have t253 : 0 ≤ v253.toInt ∧ v253.toInt ≤ 1 := by rw [e253]; exact and_r (by decide) (by omega)
    refine lv_if_ne (tgt := 105) hx hb dX12_readPart_30 (by decide) (fun c254 => ?_) (fun c254 => ?_)
    · have f254 : ¬ v253.toInt = 0 := f_ne rfl (by decide) c254
      refine lv_iload_n hx hb dX12_readPart_105 rfl (lv_at hl 3 rfl) ?_
      refine lv_bipush (v := 87) hx hb dX12_readPart_106 (by decide) ?_
      refine lv_icmp_ne (tgt := 191) hx hb dX12_readPart_108 (by decide) (fun c255 => ?_) (fun c255 => ?_)
      · have f255 : ¬ p0.toInt = 87 := f_ne rfl (by decide) c255
        refine lv_iload_n hx hb dX12_readPart_191 rfl (lv_at hl 3 rfl) ?_
        refine lv_bipush (v := 79) hx hb dX12_readPart_192 (by decide) ?_
        refine lv_icmp_ne (tgt := 261) hx hb dX12_readPart_194 (by decide) (fun c256 => ?_) (fun c256 => ?_)
        · have f256 : ¬ p0.toInt = 79 := f_ne rfl (by decide) c256
          refine lv_iload_n hx hb dX12_readPart_261 rfl (lv_at hl 3 rfl) ?_
          refine lv_bipush (v := 81) hx hb dX12_readPart_262 (by decide) ?_
          refine lv_icmp_ne (tgt := 333) hx hb dX12_readPart_264 (by decide) (fun c257 => ?_) (fun c257 => ?_)
          · have f257 : ¬ p0.toInt = 81 := f_ne rfl (by decide) c257
            refine lv_iload_n hx hb dX12_readPart_333 rfl (lv_at hl 3 rfl) ?_
            refine lv_bipush (v := 68) hx hb dX12_readPart_334 (by decide) ?_
            refine lv_icmp_ne (tgt := 406) hx hb dX12_readPart_336 (by decide) (fun c258 => ?_) (fun c258 => ?_)
            · have f258 : ¬ p0.toInt = 68 := f_ne rfl (by decide) c258
              refine lv_aload_n hx hb dX12_readPart_406 rfl (lv_at hl 2 rfl) ?_
              refine g_vF (w1 := fun (u : Int32) => [cell81_ qm sm tm u, cell5_ k qm sm, cell13_ k qm sm, cell8_ k qm sm, cell6_ k qm sm, cell15_ k qm sm, cell14_ k qm tm, cell12_ k qm tm, cell18_ k qm tm, cell17_ k qm tm, cell19_ k qm tm, cell21_ k qm tm, cell20_ k qm sm, cell16_ k qm sm, cell11_ k qm sm, cell10_ k qm sm, cell9_ k qm sm, cell7_ k qm sm]) (g_runVF (ws := [cell22_ qm sm tm, cell5_ k qm sm, cell13_ k qm sm, cell8_ k qm sm, cell6_ k qm sm, cell15_ k qm sm, cell14_ k qm tm, cell12_ k qm tm, cell18_ k qm tm, cell17_ k qm tm, cell19_ k qm tm, cell21_ k qm tm, cell20_ k qm sm, cell16_ k qm sm, cell11_ k qm sm, cell10_ k qm sm, cell9_ k qm sm, cell7_ k qm sm]) (rest := []) cx hP hD hS [] (c_X12_fail l D k b qm sm tm H.size (show 0 ≤ (sm 0 4).toInt ∧ (sm 0 4).toInt ≤ 64 from by first | decide | omega)) gX12_readPart_X12_fail rfl rfl rfl nd_X12_fail ⟨Nat.le_of_ble_eq_true rfl, Nat.le_of_ble_eq_true rfl⟩ (ci := 10) (q0 := 0) rfl rfl rfl hl.1 rfl (Nat.le_of_ble_eq_true rfl) ⟨Nat.zero_le _, Nat.zero_le _⟩ dX12_readPart_407) cx.2.2.1 hD hS (fun u260 H locs hw259 hP hD hS => ?_)
              obtain ⟨m261, rfl⟩ : ∃ z, z = u260 := ⟨_, rfl⟩
              have hP : va_P D vwCl [cell81_ qm sm tm m261, cell5_ k qm sm, cell13_ k qm sm, cell8_ k qm sm, cell6_ k qm sm, cell15_ k qm sm, cell14_ k qm tm, cell12_ k qm tm, cell18_ k qm tm, cell17_ k qm tm, cell19_ k qm tm, cell21_ k qm tm, cell20_ k qm sm, cell16_ k qm sm, cell11_ k qm sm, cell10_ k qm sm, cell9_ k qm sm, cell7_ k qm sm] H := hP
              have hD : va_D A [cell81_ qm sm tm m261, cell5_ k qm sm, cell13_ k qm sm, cell8_ k qm sm, cell6_ k qm sm, cell15_ k qm sm, cell14_ k qm tm, cell12_ k qm tm, cell18_ k qm tm, cell17_ k qm tm, cell19_ k qm tm, cell21_ k qm tm, cell20_ k qm sm, cell16_ k qm sm, cell11_ k qm sm, cell10_ k qm sm, cell9_ k qm sm, cell7_ k qm sm] := hD
              replace hw259 : (¬ m261.toInt = -9) ∧ (m261 = J_X12_fail sm tm) := hw259
              obtain ⟨w262, w263⟩ := hw259
              have k265 : m261 = (J_X12_fail sm tm) := congrArg (fun z => z) w263
              rw [hQ]
              exact x_v cx hr ((sm 1), (sm 0 4), m261, (sm 0 6), (sm 0 7), (sm 0 8), (sm 0 9), (sm 0 10)) hP hD hS ⟨(show 0 ≤ ((sm 1) 0).toInt ∧ ((sm 1) 0).toInt ≤ 5 from by omega), (show 0 ≤ ((sm 1) 1).toInt ∧ ((sm 1) 1).toInt ≤ 4 from by omega), (show 0 ≤ (sm 0 4).toInt ∧ (sm 0 4).toInt ≤ 64 from by omega), (show (sm 0 4).toInt + 1 ≤ (sm 0 4).toInt ∨ ¬ m261.toInt = -9 from by omega), (show ((sm 1), (sm 0 4), m261, (sm 0 6), (sm 0 7), (sm 0 8), (sm 0 9), (sm 0 10)) = J_X12_readPart sm tm p0 from by subst e2 e3 e4 w7 e252 e253 k265; first | (refine Eq.symm ?_; refine Eq.trans (if_neg c8) ?_; refine Eq.trans (if_neg c254) ?_; refine Eq.trans (if_neg c255) ?_; refine Eq.trans (if_neg c256) ?_; refine Eq.trans (if_neg c257) ?_; refine Eq.trans (if_neg c258) ?_; rfl) | (unfold J_X12_readPart; try dsimp only; rw [if_neg c8, if_neg c254, if_neg c255, if_neg c256, if_neg c257, if_neg c258]))⟩ dX12_readPart_410
            · have f258 : p0.toInt = 68 := f_eq rfl (by decide) c258
              refine lv_aload_n hx hb dX12_readPart_339 rfl (lv_at hl 2 rfl) ?_
              refine g_get cx hP iw_X12_readPart_X12 0 rfl rfl 10 (by decide) rfl fw_X12_readPart_98 rfl dX12_readPart_340 ?_
              refine lv_bipush (v := 7) hx hb dX12_readPart_343 (by decide) ?_
              refine lv_icmp_eq (tgt := 406) hx hb dX12_readPart_345 (by decide) (fun c266 => ?_) (fun c266 => ?_)
              · have f266 : (sm 0 10).toInt = 7 := f_eq rfl (by decide) c266
                refine lv_aload_n hx hb dX12_readPart_406 rfl (lv_at hl 2 rfl) ?_
                refine g_vF (w1 := fun (u : Int32) => [cell81_ qm sm tm u, cell5_ k qm sm, cell13_ k qm sm, cell8_ k qm sm, cell6_ k qm sm, cell15_ k qm sm, cell14_ k qm tm, cell12_ k qm tm, cell18_ k qm tm, cell17_ k qm tm, cell19_ k qm tm, cell21_ k qm tm, cell20_ k qm sm, cell16_ k qm sm, cell11_ k qm sm, cell10_ k qm sm, cell9_ k qm sm, cell7_ k qm sm]) (g_runVF (ws := [cell22_ qm sm tm, cell5_ k qm sm, cell13_ k qm sm, cell8_ k qm sm, cell6_ k qm sm, cell15_ k qm sm, cell14_ k qm tm, cell12_ k qm tm, cell18_ k qm tm, cell17_ k qm tm, cell19_ k qm tm, cell21_ k qm tm, cell20_ k qm sm, cell16_ k qm sm, cell11_ k qm sm, cell10_ k qm sm, cell9_ k qm sm, cell7_ k qm sm]) (rest := []) cx hP hD hS [] (c_X12_fail l D k b qm sm tm H.size (show 0 ≤ (sm 0 4).toInt ∧ (sm 0 4).toInt ≤ 64 from by first | decide | omega)) gX12_readPart_X12_fail rfl rfl rfl nd_X12_fail ⟨Nat.le_of_ble_eq_true rfl, Nat.le_of_ble_eq_true rfl⟩ (ci := 10) (q0 := 0) rfl rfl rfl hl.1 rfl (Nat.le_of_ble_eq_true rfl) ⟨Nat.zero_le _, Nat.zero_le _⟩ dX12_readPart_407) cx.2.2.1 hD hS (fun u268 H locs hw267 hP hD hS => ?_)
                obtain ⟨m269, rfl⟩ : ∃ z, z = u268 := ⟨_, rfl⟩
                have hP : va_P D vwCl [cell81_ qm sm tm m269, cell5_ k qm sm, cell13_ k qm sm, cell8_ k qm sm, cell6_ k qm sm, cell15_ k qm sm, cell14_ k qm tm, cell12_ k qm tm, cell18_ k qm tm, cell17_ k qm tm, cell19_ k qm tm, cell21_ k qm tm, cell20_ k qm sm, cell16_ k qm sm, cell11_ k qm sm, cell10_ k qm sm, cell9_ k qm sm, cell7_ k qm sm] H := hP
                have hD : va_D A [cell81_ qm sm tm m269, cell5_ k qm sm, cell13_ k qm sm, cell8_ k qm sm, cell6_ k qm sm, cell15_ k qm sm, cell14_ k qm tm, cell12_ k qm tm, cell18_ k qm tm, cell17_ k qm tm, cell19_ k qm tm, cell21_ k qm tm, cell20_ k qm sm, cell16_ k qm sm, cell11_ k qm sm, cell10_ k qm sm, cell9_ k qm sm, cell7_ k qm sm] := hD
                replace hw267 : (¬ m269.toInt = -9) ∧ (m269 = J_X12_fail sm tm) := hw267
                obtain ⟨w270, w271⟩ := hw267
                have k273 : m269 = (J_X12_fail sm tm) := congrArg (fun z => z) w271
                rw [hQ]
                exact x_v cx hr ((sm 1), (sm 0 4), m269, (sm 0 6), (sm 0 7), (sm 0 8), (sm 0 9), (sm 0 10)) hP hD hS ⟨(show 0 ≤ ((sm 1) 0).toInt ∧ ((sm 1) 0).toInt ≤ 5 from by omega), (show 0 ≤ ((sm 1) 1).toInt ∧ ((sm 1) 1).toInt ≤ 4 from by omega), (show 0 ≤ (sm 0 4).toInt ∧ (sm 0 4).toInt ≤ 64 from by omega), (show (sm 0 4).toInt + 1 ≤ (sm 0 4).toInt ∨ ¬ m269.toInt = -9 from by omega), (show ((sm 1), (sm 0 4), m269, (sm 0 6), (sm 0 7), (sm 0 8), (sm 0 9), (sm 0 10)) = J_X12_readPart sm tm p0 from by subst e2 e3 e4 w7 e252 e253 k273; first | (refine Eq.symm ?_; refine Eq.trans (if_neg c8) ?_; refine Eq.trans (if_neg c254) ?_; refine Eq.trans (if_neg c255) ?_; refine Eq.trans (if_neg c256) ?_; refine Eq.trans (if_neg c257) ?_; refine Eq.trans (if_pos c258) ?_; refine Eq.trans (if_pos c266) ?_; rfl) | (unfold J_X12_readPart; try dsimp only; rw [if_neg c8, if_neg c254, if_neg c255, if_neg c256, if_neg c257, if_pos c258, if_pos c266]))⟩ dX12_readPart_410
              · have f266 : ¬ (sm 0 10).toInt = 7 := f_ne rfl (by decide) c266
                refine lv_aload_n hx hb dX12_readPart_348 rfl (lv_at hl 2 rfl) ?_
                refine lv_dup hx hb dX12_readPart_349 rfl ?_
                refine g_get cx hP iw_X12_readPart_X12 0 rfl rfl 4 (by decide) rfl fw_X12_readPart_111 rfl dX12_readPart_350 ?_
                refine lv_iconst (v := 1) hx hb dX12_readPart_353 (by decide) ?_
                refine lv_iadd hx hb dX12_readPart_354 (lv_topi (fun v274 e274 => ?_))
                have t274 : v274.toInt = (sm 0 4).toInt + 1 := by rw [e274]; exact i_add rfl (by decide) (by omega) (by omega)
                refine g_pt cx hP hD hS iw_X12_readPart_X12 tyX12 tyX12_ok nmX12 0 rfl rfl 4 (by decide) rfl fw_X12_readPart_111 (ty := .int) rfl rfl rfl (Nat.le_of_ble_eq_true rfl) dX12_readPart_355 (fun H locs hP hD hS => ?_)
                have hP : va_P D vwCl [cell88_ qm sm tm v274, cell5_ k qm sm, cell13_ k qm sm, cell8_ k qm sm, cell6_ k qm sm, cell15_ k qm sm, cell14_ k qm tm, cell12_ k qm tm, cell18_ k qm tm, cell17_ k qm tm, cell19_ k qm tm, cell21_ k qm tm, cell20_ k qm sm, cell16_ k qm sm, cell11_ k qm sm, cell10_ k qm sm, cell9_ k qm sm, cell7_ k qm sm] H := hP
                have hD : va_D A [cell88_ qm sm tm v274, cell5_ k qm sm, cell13_ k qm sm, cell8_ k qm sm, cell6_ k qm sm, cell15_ k qm sm, cell14_ k qm tm, cell12_ k qm tm, cell18_ k qm tm, cell17_ k qm tm, cell19_ k qm tm, cell21_ k qm tm, cell20_ k qm sm, cell16_ k qm sm, cell11_ k qm sm, cell10_ k qm sm, cell9_ k qm sm, cell7_ k qm sm] := hD
                refine lv_aload_n hx hb dX12_readPart_358 rfl (lv_at hl 2 rfl) ?_
                refine lv_bipush (v := 7) hx hb dX12_readPart_359 (by decide) ?_
                refine lv_aload_n hx hb dX12_readPart_361 rfl (lv_at hl 2 rfl) ?_
                refine g_get cx hP iw_X12_readPart_X12 0 rfl rfl 10 (by decide) rfl fw_X12_readPart_98 rfl dX12_readPart_362 ?_
                refine lv_iconst (v := (-1)) hx hb dX12_readPart_365 (by decide) ?_
                refine lv_ixor hx hb dX12_readPart_366 (lv_topi (fun v275 e275 => ?_))
                refine lv_iand hx hb dX12_readPart_367 (lv_topi (fun v276 e276 => ?_))
                have t276 : 0 ≤ v276.toInt ∧ v276.toInt ≤ 7 := by rw [e276]; exact and_l (by decide) (by omega)
                refine g_iF (w1 := fun (u : Int32 × Int32) => [cell95_ qm sm tm (u.1) (u.2), cell5_ k qm sm, cell13_ k qm sm, cell8_ k qm sm, cell6_ k qm sm, cell15_ k qm sm, cell14_ k qm tm, cell12_ k qm tm, cell18_ k qm tm, cell17_ k qm tm, cell19_ k qm tm, cell21_ k qm tm, cell20_ k qm sm, cell16_ k qm sm, cell11_ k qm sm, cell10_ k qm sm, cell9_ k qm sm, cell7_ k qm sm]) (g_runVF (ws := [cell88_ qm sm tm v274, cell5_ k qm sm, cell13_ k qm sm, cell8_ k qm sm, cell6_ k qm sm, cell15_ k qm sm, cell14_ k qm tm, cell12_ k qm tm, cell18_ k qm tm, cell17_ k qm tm, cell19_ k qm tm, cell21_ k qm tm, cell20_ k qm sm, cell16_ k qm sm, cell11_ k qm sm, cell10_ k qm sm, cell9_ k qm sm, cell7_ k qm sm]) (rest := []) cx hP hD hS [.int v276] (c_X12_figure l D k b qm (up2 sm 0 (upd (sm 0) 4 v274)) tm H.size v276 (show 0 ≤ (sm 0 3).toInt ∧ (sm 0 3).toInt ≤ 64 from by first | decide | omega) (show 0 ≤ v274.toInt ∧ v274.toInt ≤ 64 from by first | decide | omega)) gX12_readPart_X12_figure rfl rfl rfl nd_X12_figure ⟨Nat.le_of_ble_eq_true rfl, Nat.le_of_ble_eq_true rfl⟩ (ci := 10) (q0 := 0) rfl rfl rfl hl.1 rfl (Nat.le_of_ble_eq_true rfl) ⟨Nat.zero_le _, Nat.zero_le _⟩ dX12_readPart_368) cx.2.2.1 hD hS (fun r279 u278 H locs hw277 hP hD hS => ?_)
                obtain ⟨m280, m281⟩ := u278
                have hP : va_P D vwCl [cell95_ qm sm tm m280 m281, cell5_ k qm sm, cell13_ k qm sm, cell8_ k qm sm, cell6_ k qm sm, cell15_ k qm sm, cell14_ k qm tm, cell12_ k qm tm, cell18_ k qm tm, cell17_ k qm tm, cell19_ k qm tm, cell21_ k qm tm, cell20_ k qm sm, cell16_ k qm sm, cell11_ k qm sm, cell10_ k qm sm, cell9_ k qm sm, cell7_ k qm sm] H := hP
                have hD : va_D A [cell95_ qm sm tm m280 m281, cell5_ k qm sm, cell13_ k qm sm, cell8_ k qm sm, cell6_ k qm sm, cell15_ k qm sm, cell14_ k qm tm, cell12_ k qm tm, cell18_ k qm tm, cell17_ k qm tm, cell19_ k qm tm, cell21_ k qm tm, cell20_ k qm sm, cell16_ k qm sm, cell11_ k qm sm, cell10_ k qm sm, cell9_ k qm sm, cell7_ k qm sm] := hD
                replace hw277 : (0 ≤ r279.toInt ∧ r279.toInt ≤ 9) ∧ (v274.toInt ≤ m280.toInt ∧ m280.toInt ≤ 64) ∧ (v274.toInt + 1 ≤ m280.toInt ∨ ¬ m281.toInt = -9) ∧ (Imp (0 ≤ v276.toInt ∧ v276.toInt ≤ 63) (r279.toInt ≤ 5)) ∧ (Imp (0 ≤ v276.toInt ∧ v276.toInt ≤ 31) (r279.toInt ≤ 4)) ∧ (Imp (0 ≤ v276.toInt ∧ v276.toInt ≤ 7) (r279.toInt ≤ 2)) ∧ ((r279, m280, m281) = J_X12_figure (up2 sm 0 (upd (sm 0) 4 v274)) tm v276) := hw277
                obtain ⟨w282, w283, w284, w285, w286, w287, w288⟩ := hw277
                have k290 : r279 = ((J_X12_figure (up2 sm 0 (upd (sm 0) 4 v274)) tm v276).1) := congrArg (fun z => (z.1)) w288
                have k291 : m280 = ((J_X12_figure (up2 sm 0 (upd (sm 0) 4 v274)) tm v276).2.1) := congrArg (fun z => (z.2.1)) w288
                have k292 : m281 = ((J_X12_figure (up2 sm 0 (upd (sm 0) 4 v274)) tm v276).2.2) := congrArg (fun z => (z.2.2)) w288
                have xr279 : r279.toInt ≤ 2 := w287 ⟨by omega, by omega⟩
                refine lv_istore (lv' := [(4, .int r279), (3, .int r6), (2, .int v4), (0, .ref (qm 0)), (1, .int p0)]) hx hb dX12_readPart_371 hl (by decide) rfl (fun ls hl => ?_)
                refine lv_aload_n hx hb dX12_readPart_373 rfl (lv_at hl 3 rfl) ?_
                refine lv_dup hx hb dX12_readPart_374 rfl ?_
                refine g_get cx hP iw_X12_readPart_X12 0 rfl rfl 10 (by decide) rfl fw_X12_readPart_98 rfl dX12_readPart_375 ?_
                refine lv_iconst (v := 1) hx hb dX12_readPart_378 (by decide) ?_
                refine lv_iload hx hb dX12_readPart_379 (lv_at hl 0 rfl) ?_
                refine lv_ishl hx hb dX12_readPart_381 (lv_topi (fun v293 e293 => ?_))
                refine lv_ior hx hb dX12_readPart_382 (lv_topi (fun v294 e294 => ?_))
                refine g_pt cx hP hD hS iw_X12_readPart_X12 tyX12 tyX12_ok nmX12 0 rfl rfl 10 (by decide) rfl fw_X12_readPart_98 (ty := .int) rfl rfl rfl (Nat.le_of_ble_eq_true rfl) dX12_readPart_383 (fun H locs hP hD hS => ?_)
                have hP : va_P D vwCl [cell126_ qm sm tm m280 m281 v294, cell5_ k qm sm, cell13_ k qm sm, cell8_ k qm sm, cell6_ k qm sm, cell15_ k qm sm, cell14_ k qm tm, cell12_ k qm tm, cell18_ k qm tm, cell17_ k qm tm, cell19_ k qm tm, cell21_ k qm tm, cell20_ k qm sm, cell16_ k qm sm, cell11_ k qm sm, cell10_ k qm sm, cell9_ k qm sm, cell7_ k qm sm] H := hP
                have hD : va_D A [cell126_ qm sm tm m280 m281 v294, cell5_ k qm sm, cell13_ k qm sm, cell8_ k qm sm, cell6_ k qm sm, cell15_ k qm sm, cell14_ k qm tm, cell12_ k qm tm, cell18_ k qm tm, cell17_ k qm tm, cell19_ k qm tm, cell21_ k qm tm, cell20_ k qm sm, cell16_ k qm sm, cell11_ k qm sm, cell10_ k qm sm, cell9_ k qm sm, cell7_ k qm sm] := hD
                refine lv_aload_n hx hb dX12_readPart_386 rfl (lv_at hl 3 rfl) ?_
                refine g_get cx hP iw_X12_readPart_X12 0 rfl rfl 0 (by decide) rfl fw_X12_readPart_7 rfl dX12_readPart_387 ?_
                refine lv_bipush (v := 23) hx hb dX12_readPart_390 (by decide) ?_
                refine lv_iload hx hb dX12_readPart_392 (lv_at hl 0 rfl) ?_
                refine lv_iadd hx hb dX12_readPart_394 (lv_topi (fun v295 e295 => ?_))
                have t295 : v295.toInt = 23 + r279.toInt := by rw [e295]; exact i_add (by decide) rfl (by omega) (by omega)
                refine lv_aload_n hx hb dX12_readPart_395 rfl (lv_at hl 3 rfl) ?_
                refine lv_sipush (v := 1023) hx hb dX12_readPart_396 (by decide) ?_
                refine g_iF (w1 := fun (u : Int32 × Int32) => [cell126_ qm sm tm (u.1) (u.2) v294, cell5_ k qm sm, cell13_ k qm sm, cell8_ k qm sm, cell6_ k qm sm, cell15_ k qm sm, cell14_ k qm tm, cell12_ k qm tm, cell18_ k qm tm, cell17_ k qm tm, cell19_ k qm tm, cell21_ k qm tm, cell20_ k qm sm, cell16_ k qm sm, cell11_ k qm sm, cell10_ k qm sm, cell9_ k qm sm, cell7_ k qm sm]) (g_runVF (ws := [cell126_ qm sm tm m280 m281 v294, cell5_ k qm sm, cell13_ k qm sm, cell8_ k qm sm, cell6_ k qm sm, cell15_ k qm sm, cell14_ k qm tm, cell12_ k qm tm, cell18_ k qm tm, cell17_ k qm tm, cell19_ k qm tm, cell21_ k qm tm, cell20_ k qm sm, cell16_ k qm sm, cell11_ k qm sm, cell10_ k qm sm, cell9_ k qm sm, cell7_ k qm sm]) (rest := [.int v295, .ref (qm 1)]) cx hP hD hS [.int 1023] (c_X12_figure l D k b qm (up2 sm 0 (upd (upd (upd (sm 0) 4 m280) 5 m281) 10 v294)) tm H.size 1023 (show 0 ≤ (sm 0 3).toInt ∧ (sm 0 3).toInt ≤ 64 from by first | decide | omega) (show 0 ≤ m280.toInt ∧ m280.toInt ≤ 64 from by first | decide | omega)) gX12_readPart_X12_figure rfl rfl rfl nd_X12_figure ⟨Nat.le_of_ble_eq_true rfl, Nat.le_of_ble_eq_true rfl⟩ (ci := 10) (q0 := 0) rfl rfl rfl hl.1 rfl (Nat.le_of_ble_eq_true rfl) ⟨Nat.zero_le _, Nat.zero_le _⟩ dX12_readPart_399) cx.2.2.1 hD hS (fun r298 u297 H locs hw296 hP hD hS => ?_)
                obtain ⟨m299, m300⟩ := u297
                have hP : va_P D vwCl [cell126_ qm sm tm m299 m300 v294, cell5_ k qm sm, cell13_ k qm sm, cell8_ k qm sm, cell6_ k qm sm, cell15_ k qm sm, cell14_ k qm tm, cell12_ k qm tm, cell18_ k qm tm, cell17_ k qm tm, cell19_ k qm tm, cell21_ k qm tm, cell20_ k qm sm, cell16_ k qm sm, cell11_ k qm sm, cell10_ k qm sm, cell9_ k qm sm, cell7_ k qm sm] H := hP
                have hD : va_D A [cell126_ qm sm tm m299 m300 v294, cell5_ k qm sm, cell13_ k qm sm, cell8_ k qm sm, cell6_ k qm sm, cell15_ k qm sm, cell14_ k qm tm, cell12_ k qm tm, cell18_ k qm tm, cell17_ k qm tm, cell19_ k qm tm, cell21_ k qm tm, cell20_ k qm sm, cell16_ k qm sm, cell11_ k qm sm, cell10_ k qm sm, cell9_ k qm sm, cell7_ k qm sm] := hD
                replace hw296 : (0 ≤ r298.toInt ∧ r298.toInt ≤ 9) ∧ (m280.toInt ≤ m299.toInt ∧ m299.toInt ≤ 64) ∧ (m280.toInt + 1 ≤ m299.toInt ∨ ¬ m300.toInt = -9) ∧ (Imp (0 ≤ (1023 : Int32).toInt ∧ (1023 : Int32).toInt ≤ 63) (r298.toInt ≤ 5)) ∧ (Imp (0 ≤ (1023 : Int32).toInt ∧ (1023 : Int32).toInt ≤ 31) (r298.toInt ≤ 4)) ∧ (Imp (0 ≤ (1023 : Int32).toInt ∧ (1023 : Int32).toInt ≤ 7) (r298.toInt ≤ 2)) ∧ ((r298, m299, m300) = J_X12_figure (up2 sm 0 (upd (upd (upd (sm 0) 4 m280) 5 m281) 10 v294)) tm (1023 : Int32)) := hw296
                obtain ⟨w301, w302, w303, w304, w305, w306, w307⟩ := hw296
                have k309 : r298 = ((J_X12_figure (up2 sm 0 (upd (upd (upd (sm 0) 4 m280) 5 m281) 10 v294)) tm (1023 : Int32)).1) := congrArg (fun z => (z.1)) w307
                have k310 : m299 = ((J_X12_figure (up2 sm 0 (upd (upd (upd (sm 0) 4 m280) 5 m281) 10 v294)) tm (1023 : Int32)).2.1) := congrArg (fun z => (z.2.1)) w307
                have k311 : m300 = ((J_X12_figure (up2 sm 0 (upd (upd (upd (sm 0) 4 m280) 5 m281) 10 v294)) tm (1023 : Int32)).2.2) := congrArg (fun z => (z.2.2)) w307
                have hn312 : vp_in v295 26 := f_in (a := v295.toInt) rfl (by omega) (by omega)
                refine va_iast hx hb cx.2.1 hP hD hS 1 0 rfl rfl hn312 dX12_readPart_402 (fun H locs hP hD hS => ?_)
                obtain ⟨g313, eg313⟩ : ∃ g : Nat → Int32, g = upd (sm 1) (v295).toNatClampNeg r298 := ⟨_, rfl⟩
                rw [← eg313] at hP hD
                have hP : va_P D vwCl [cell126_ qm sm tm m299 m300 v294, (qm 1, .inl (k 0, 26, .inl g313)), cell13_ k qm sm, cell8_ k qm sm, cell6_ k qm sm, cell15_ k qm sm, cell14_ k qm tm, cell12_ k qm tm, cell18_ k qm tm, cell17_ k qm tm, cell19_ k qm tm, cell21_ k qm tm, cell20_ k qm sm, cell16_ k qm sm, cell11_ k qm sm, cell10_ k qm sm, cell9_ k qm sm, cell7_ k qm sm] H := hP
                have hD : va_D A [cell126_ qm sm tm m299 m300 v294, (qm 1, .inl (k 0, 26, .inl g313)), cell13_ k qm sm, cell8_ k qm sm, cell6_ k qm sm, cell15_ k qm sm, cell14_ k qm tm, cell12_ k qm tm, cell18_ k qm tm, cell17_ k qm tm, cell19_ k qm tm, cell21_ k qm tm, cell20_ k qm sm, cell16_ k qm sm, cell11_ k qm sm, cell10_ k qm sm, cell9_ k qm sm, cell7_ k qm sm] := hD
                have s314 := updI eg313 rfl (show 0 ≤ v295.toInt from by omega) 0
                have s315 := updI eg313 rfl (show 0 ≤ v295.toInt from by omega) 1
                have el316 : 0 ≤ (g313 0).toInt ∧ (g313 0).toInt ≤ 5 := by omega
                have el317 : 0 ≤ (g313 1).toInt ∧ (g313 1).toInt ≤ 4 := by omega
                refine lv_goto (tgt := 410) hx hb dX12_readPart_403 (by decide) ?_
                rw [hQ]
                exact x_v cx hr (g313, m299, m300, (sm 0 6), (sm 0 7), (sm 0 8), (sm 0 9), v294) hP hD hS ⟨(show 0 ≤ (g313 0).toInt ∧ (g313 0).toInt ≤ 5 from by omega), (show 0 ≤ (g313 1).toInt ∧ (g313 1).toInt ≤ 4 from by omega), (show 0 ≤ m299.toInt ∧ m299.toInt ≤ 64 from by omega), (show (sm 0 4).toInt + 1 ≤ m299.toInt ∨ ¬ m300.toInt = -9 from by omega), (show (g313, m299, m300, (sm 0 6), (sm 0 7), (sm 0 8), (sm 0 9), v294) = J_X12_readPart sm tm p0 from by subst e2 e3 e4 w7 e252 e253 e274 e275 e276 k290 k291 k292 e293 e294 e295 k309 k310 k311 eg313; first | (refine Eq.symm ?_; refine Eq.trans (if_neg c8) ?_; refine Eq.trans (if_neg c254) ?_; refine Eq.trans (if_neg c255) ?_; refine Eq.trans (if_neg c256) ?_; refine Eq.trans (if_neg c257) ?_; refine Eq.trans (if_pos c258) ?_; refine Eq.trans (if_neg c266) ?_; rfl) | (unfold J_X12_readPart; try dsimp only; rw [if_neg c8, if_neg c254, if_neg c255, if_neg c256, if_neg c257, if_pos c258, if_neg c266]))⟩ dX12_readPart_410
          · have f257 : p0.toInt = 81 := f_eq rfl (by decide) c257
            refine lv_aload_n hx hb dX12_readPart_267 rfl (lv_at hl 2 rfl) ?_
            refine g_get cx hP iw_X12_readPart_X12 0 rfl rfl 9 (by decide) rfl fw_X12_readPart_95 rfl dX12_readPart_268 ?_
            refine lv_bipush (v := 7) hx hb dX12_readPart_271 (by decide) ?_
            refine lv_icmp_eq (tgt := 333) hx hb dX12_readPart_273 (by decide) (fun c318 => ?_) (fun c318 => ?_)
            · have f318 : (sm 0 9).toInt = 7 := f_eq rfl (by decide) c318
              refine lv_iload_n hx hb dX12_readPart_333 rfl (lv_at hl 3 rfl) ?_
              refine lv_bipush (v := 68) hx hb dX12_readPart_334 (by decide) ?_
              refine lv_icmp_ne (tgt := 406) hx hb dX12_readPart_336 (by decide) (fun c319 => ?_) (fun c319 => ?_)
              · have f319 : ¬ p0.toInt = 68 := f_ne rfl (by decide) c319
                refine lv_aload_n hx hb dX12_readPart_406 rfl (lv_at hl 2 rfl) ?_
                refine g_vF (w1 := fun (u : Int32) => [cell81_ qm sm tm u, cell5_ k qm sm, cell13_ k qm sm, cell8_ k qm sm, cell6_ k qm sm, cell15_ k qm sm, cell14_ k qm tm, cell12_ k qm tm, cell18_ k qm tm, cell17_ k qm tm, cell19_ k qm tm, cell21_ k qm tm, cell20_ k qm sm, cell16_ k qm sm, cell11_ k qm sm, cell10_ k qm sm, cell9_ k qm sm, cell7_ k qm sm]) (g_runVF (ws := [cell22_ qm sm tm, cell5_ k qm sm, cell13_ k qm sm, cell8_ k qm sm, cell6_ k qm sm, cell15_ k qm sm, cell14_ k qm tm, cell12_ k qm tm, cell18_ k qm tm, cell17_ k qm tm, cell19_ k qm tm, cell21_ k qm tm, cell20_ k qm sm, cell16_ k qm sm, cell11_ k qm sm, cell10_ k qm sm, cell9_ k qm sm, cell7_ k qm sm]) (rest := []) cx hP hD hS [] (c_X12_fail l D k b qm sm tm H.size (show 0 ≤ (sm 0 4).toInt ∧ (sm 0 4).toInt ≤ 64 from by first | decide | omega)) gX12_readPart_X12_fail rfl rfl rfl nd_X12_fail ⟨Nat.le_of_ble_eq_true rfl, Nat.le_of_ble_eq_true rfl⟩ (ci := 10) (q0 := 0) rfl rfl rfl hl.1 rfl (Nat.le_of_ble_eq_true rfl) ⟨Nat.zero_le _, Nat.zero_le _⟩ dX12_readPart_407) cx.2.2.1 hD hS (fun u321 H locs hw320 hP hD hS => ?_)
                obtain ⟨m322, rfl⟩ : ∃ z, z = u321 := ⟨_, rfl⟩
                have hP : va_P D vwCl [cell81_ qm sm tm m322, cell5_ k qm sm, cell13_ k qm sm, cell8_ k qm sm, cell6_ k qm sm, cell15_ k qm sm, cell14_ k qm tm, cell12_ k qm tm, cell18_ k qm tm, cell17_ k qm tm, cell19_ k qm tm, cell21_ k qm tm, cell20_ k qm sm, cell16_ k qm sm, cell11_ k qm sm, cell10_ k qm sm, cell9_ k qm sm, cell7_ k qm sm] H := hP
                have hD : va_D A [cell81_ qm sm tm m322, cell5_ k qm sm, cell13_ k qm sm, cell8_ k qm sm, cell6_ k qm sm, cell15_ k qm sm, cell14_ k qm tm, cell12_ k qm tm, cell18_ k qm tm, cell17_ k qm tm, cell19_ k qm tm, cell21_ k qm tm, cell20_ k qm sm, cell16_ k qm sm, cell11_ k qm sm, cell10_ k qm sm, cell9_ k qm sm, cell7_ k qm sm] := hD
                replace hw320 : (¬ m322.toInt = -9) ∧ (m322 = J_X12_fail sm tm) := hw320
                obtain ⟨w323, w324⟩ := hw320
                have k326 : m322 = (J_X12_fail sm tm) := congrArg (fun z => z) w324
                rw [hQ]
                exact x_v cx hr ((sm 1), (sm 0 4), m322, (sm 0 6), (sm 0 7), (sm 0 8), (sm 0 9), (sm 0 10)) hP hD hS ⟨(show 0 ≤ ((sm 1) 0).toInt ∧ ((sm 1) 0).toInt ≤ 5 from by omega), (show 0 ≤ ((sm 1) 1).toInt ∧ ((sm 1) 1).toInt ≤ 4 from by omega), (show 0 ≤ (sm 0 4).toInt ∧ (sm 0 4).toInt ≤ 64 from by omega), (show (sm 0 4).toInt + 1 ≤ (sm 0 4).toInt ∨ ¬ m322.toInt = -9 from by omega), (show ((sm 1), (sm 0 4), m322, (sm 0 6), (sm 0 7), (sm 0 8), (sm 0 9), (sm 0 10)) = J_X12_readPart sm tm p0 from by subst e2 e3 e4 w7 e252 e253 k326; first | (refine Eq.symm ?_; refine Eq.trans (if_neg c8) ?_; refine Eq.trans (if_neg c254) ?_; refine Eq.trans (if_neg c255) ?_; refine Eq.trans (if_neg c256) ?_; refine Eq.trans (if_pos c257) ?_; refine Eq.trans (if_pos c318) ?_; rfl) | (unfold J_X12_readPart; try dsimp only; rw [if_neg c8, if_neg c254, if_neg c255, if_neg c256, if_pos c257, if_pos c318]))⟩ dX12_readPart_410
              · have f319 : p0.toInt = 68 := f_eq rfl (by decide) c319
                exact absurd f319 (by omega)
            · have f318 : ¬ (sm 0 9).toInt = 7 := f_ne rfl (by decide) c318
              refine lv_aload_n hx hb dX12_readPart_276 rfl (lv_at hl 2 rfl) ?_
              refine lv_dup hx hb dX12_readPart_277 rfl ?_
              refine g_get cx hP iw_X12_readPart_X12 0 rfl rfl 4 (by decide) rfl fw_X12_readPart_111 rfl dX12_readPart_278 ?_
              refine lv_iconst (v := 1) hx hb dX12_readPart_281 (by decide) ?_
              refine lv_iadd hx hb dX12_readPart_282 (lv_topi (fun v327 e327 => ?_))
              have t327 : v327.toInt = (sm 0 4).toInt + 1 := by rw [e327]; exact i_add rfl (by decide) (by omega) (by omega)
              refine g_pt cx hP hD hS iw_X12_readPart_X12 tyX12 tyX12_ok nmX12 0 rfl rfl 4 (by decide) rfl fw_X12_readPart_111 (ty := .int) rfl rfl rfl (Nat.le_of_ble_eq_true rfl) dX12_readPart_283 (fun H locs hP hD hS => ?_)
              have hP : va_P D vwCl [cell88_ qm sm tm v327, cell5_ k qm sm, cell13_ k qm sm, cell8_ k qm sm, cell6_ k qm sm, cell15_ k qm sm, cell14_ k qm tm, cell12_ k qm tm, cell18_ k qm tm, cell17_ k qm tm, cell19_ k qm tm, cell21_ k qm tm, cell20_ k qm sm, cell16_ k qm sm, cell11_ k qm sm, cell10_ k qm sm, cell9_ k qm sm, cell7_ k qm sm] H := hP
              have hD : va_D A [cell88_ qm sm tm v327, cell5_ k qm sm, cell13_ k qm sm, cell8_ k qm sm, cell6_ k qm sm, cell15_ k qm sm, cell14_ k qm tm, cell12_ k qm tm, cell18_ k qm tm, cell17_ k qm tm, cell19_ k qm tm, cell21_ k qm tm, cell20_ k qm sm, cell16_ k qm sm, cell11_ k qm sm, cell10_ k qm sm, cell9_ k qm sm, cell7_ k qm sm] := hD
              refine lv_aload_n hx hb dX12_readPart_286 rfl (lv_at hl 2 rfl) ?_
              refine lv_bipush (v := 7) hx hb dX12_readPart_287 (by decide) ?_
              refine lv_aload_n hx hb dX12_readPart_289 rfl (lv_at hl 2 rfl) ?_
              refine g_get cx hP iw_X12_readPart_X12 0 rfl rfl 9 (by decide) rfl fw_X12_readPart_95 rfl dX12_readPart_290 ?_
              refine lv_iconst (v := (-1)) hx hb dX12_readPart_293 (by decide) ?_
              refine lv_ixor hx hb dX12_readPart_294 (lv_topi (fun v328 e328 => ?_))
              refine lv_iand hx hb dX12_readPart_295 (lv_topi (fun v329 e329 => ?_))
              have t329 : 0 ≤ v329.toInt ∧ v329.toInt ≤ 7 := by rw [e329]; exact and_l (by decide) (by omega)
              refine g_iF (w1 := fun (u : Int32 × Int32) => [cell95_ qm sm tm (u.1) (u.2), cell5_ k qm sm, cell13_ k qm sm, cell8_ k qm sm, cell6_ k qm sm, cell15_ k qm sm, cell14_ k qm tm, cell12_ k qm tm, cell18_ k qm tm, cell17_ k qm tm, cell19_ k qm tm, cell21_ k qm tm, cell20_ k qm sm, cell16_ k qm sm, cell11_ k qm sm, cell10_ k qm sm, cell9_ k qm sm, cell7_ k qm sm]) (g_runVF (ws := [cell88_ qm sm tm v327, cell5_ k qm sm, cell13_ k qm sm, cell8_ k qm sm, cell6_ k qm sm, cell15_ k qm sm, cell14_ k qm tm, cell12_ k qm tm, cell18_ k qm tm, cell17_ k qm tm, cell19_ k qm tm, cell21_ k qm tm, cell20_ k qm sm, cell16_ k qm sm, cell11_ k qm sm, cell10_ k qm sm, cell9_ k qm sm, cell7_ k qm sm]) (rest := []) cx hP hD hS [.int v329] (c_X12_figure l D k b qm (up2 sm 0 (upd (sm 0) 4 v327)) tm H.size v329 (show 0 ≤ (sm 0 3).toInt ∧ (sm 0 3).toInt ≤ 64 from by first | decide | omega) (show 0 ≤ v327.toInt ∧ v327.toInt ≤ 64 from by first | decide | omega)) gX12_readPart_X12_figure rfl rfl rfl nd_X12_figure ⟨Nat.le_of_ble_eq_true rfl, Nat.le_of_ble_eq_true rfl⟩ (ci := 10) (q0 := 0) rfl rfl rfl hl.1 rfl (Nat.le_of_ble_eq_true rfl) ⟨Nat.zero_le _, Nat.zero_le _⟩ dX12_readPart_296) cx.2.2.1 hD hS (fun r332 u331 H locs hw330 hP hD hS => ?_)
              obtain ⟨m333, m334⟩ := u331
              have hP : va_P D vwCl [cell95_ qm sm tm m333 m334, cell5_ k qm sm, cell13_ k qm sm, cell8_ k qm sm, cell6_ k qm sm, cell15_ k qm sm, cell14_ k qm tm, cell12_ k qm tm, cell18_ k qm tm, cell17_ k qm tm, cell19_ k qm tm, cell21_ k qm tm, cell20_ k qm sm, cell16_ k qm sm, cell11_ k qm sm, cell10_ k qm sm, cell9_ k qm sm, cell7_ k qm sm] H := hP
              have hD : va_D A [cell95_ qm sm tm m333 m334, cell5_ k qm sm, cell13_ k qm sm, cell8_ k qm sm, cell6_ k qm sm, cell15_ k qm sm, cell14_ k qm tm, cell12_ k qm tm, cell18_ k qm tm, cell17_ k qm tm, cell19_ k qm tm, cell21_ k qm tm, cell20_ k qm sm, cell16_ k qm sm, cell11_ k qm sm, cell10_ k qm sm, cell9_ k qm sm, cell7_ k qm sm] := hD
              replace hw330 : (0 ≤ r332.toInt ∧ r332.toInt ≤ 9) ∧ (v327.toInt ≤ m333.toInt ∧ m333.toInt ≤ 64) ∧ (v327.toInt + 1 ≤ m333.toInt ∨ ¬ m334.toInt = -9) ∧ (Imp (0 ≤ v329.toInt ∧ v329.toInt ≤ 63) (r332.toInt ≤ 5)) ∧ (Imp (0 ≤ v329.toInt ∧ v329.toInt ≤ 31) (r332.toInt ≤ 4)) ∧ (Imp (0 ≤ v329.toInt ∧ v329.toInt ≤ 7) (r332.toInt ≤ 2)) ∧ ((r332, m333, m334) = J_X12_figure (up2 sm 0 (upd (sm 0) 4 v327)) tm v329) := hw330
              obtain ⟨w335, w336, w337, w338, w339, w340, w341⟩ := hw330
              have k343 : r332 = ((J_X12_figure (up2 sm 0 (upd (sm 0) 4 v327)) tm v329).1) := congrArg (fun z => (z.1)) w341
              have k344 : m333 = ((J_X12_figure (up2 sm 0 (upd (sm 0) 4 v327)) tm v329).2.1) := congrArg (fun z => (z.2.1)) w341
              have k345 : m334 = ((J_X12_figure (up2 sm 0 (upd (sm 0) 4 v327)) tm v329).2.2) := congrArg (fun z => (z.2.2)) w341
              have xr332 : r332.toInt ≤ 2 := w340 ⟨by omega, by omega⟩
              refine lv_istore (lv' := [(4, .int r332), (3, .int r6), (2, .int v4), (0, .ref (qm 0)), (1, .int p0)]) hx hb dX12_readPart_299 hl (by decide) rfl (fun ls hl => ?_)
              refine lv_aload_n hx hb dX12_readPart_301 rfl (lv_at hl 3 rfl) ?_
              refine lv_dup hx hb dX12_readPart_302 rfl ?_
              refine g_get cx hP iw_X12_readPart_X12 0 rfl rfl 9 (by decide) rfl fw_X12_readPart_95 rfl dX12_readPart_303 ?_
              refine lv_iconst (v := 1) hx hb dX12_readPart_306 (by decide) ?_
              refine lv_iload hx hb dX12_readPart_307 (lv_at hl 0 rfl) ?_
              refine lv_ishl hx hb dX12_readPart_309 (lv_topi (fun v346 e346 => ?_))
              refine lv_ior hx hb dX12_readPart_310 (lv_topi (fun v347 e347 => ?_))
              refine g_pt cx hP hD hS iw_X12_readPart_X12 tyX12 tyX12_ok nmX12 0 rfl rfl 9 (by decide) rfl fw_X12_readPart_95 (ty := .int) rfl rfl rfl (Nat.le_of_ble_eq_true rfl) dX12_readPart_311 (fun H locs hP hD hS => ?_)
              have hP : va_P D vwCl [cell127_ qm sm tm m333 m334 v347, cell5_ k qm sm, cell13_ k qm sm, cell8_ k qm sm, cell6_ k qm sm, cell15_ k qm sm, cell14_ k qm tm, cell12_ k qm tm, cell18_ k qm tm, cell17_ k qm tm, cell19_ k qm tm, cell21_ k qm tm, cell20_ k qm sm, cell16_ k qm sm, cell11_ k qm sm, cell10_ k qm sm, cell9_ k qm sm, cell7_ k qm sm] H := hP
              have hD : va_D A [cell127_ qm sm tm m333 m334 v347, cell5_ k qm sm, cell13_ k qm sm, cell8_ k qm sm, cell6_ k qm sm, cell15_ k qm sm, cell14_ k qm tm, cell12_ k qm tm, cell18_ k qm tm, cell17_ k qm tm, cell19_ k qm tm, cell21_ k qm tm, cell20_ k qm sm, cell16_ k qm sm, cell11_ k qm sm, cell10_ k qm sm, cell9_ k qm sm, cell7_ k qm sm] := hD
              refine lv_aload_n hx hb dX12_readPart_314 rfl (lv_at hl 3 rfl) ?_
              refine g_get cx hP iw_X12_readPart_X12 0 rfl rfl 0 (by decide) rfl fw_X12_readPart_7 rfl dX12_readPart_315 ?_
              refine lv_bipush (v := 20) hx hb dX12_readPart_318 (by decide) ?_
              refine lv_iload hx hb dX12_readPart_320 (lv_at hl 0 rfl) ?_
              refine lv_iadd hx hb dX12_readPart_322 (lv_topi (fun v348 e348 => ?_))
              have t348 : v348.toInt = 20 + r332.toInt := by rw [e348]; exact i_add (by decide) rfl (by omega) (by omega)
              refine lv_aload_n hx hb dX12_readPart_323 rfl (lv_at hl 3 rfl) ?_
              refine lv_bipush (v := 63) hx hb dX12_readPart_324 (by decide) ?_
              refine g_iF (w1 := fun (u : Int32 × Int32) => [cell127_ qm sm tm (u.1) (u.2) v347, cell5_ k qm sm, cell13_ k qm sm, cell8_ k qm sm, cell6_ k qm sm, cell15_ k qm sm, cell14_ k qm tm, cell12_ k qm tm, cell18_ k qm tm, cell17_ k qm tm, cell19_ k qm tm, cell21_ k qm tm, cell20_ k qm sm, cell16_ k qm sm, cell11_ k qm sm, cell10_ k qm sm, cell9_ k qm sm, cell7_ k qm sm]) (g_runVF (ws := [cell127_ qm sm tm m333 m334 v347, cell5_ k qm sm, cell13_ k qm sm, cell8_ k qm sm, cell6_ k qm sm, cell15_ k qm sm, cell14_ k qm tm, cell12_ k qm tm, cell18_ k qm tm, cell17_ k qm tm, cell19_ k qm tm, cell21_ k qm tm, cell20_ k qm sm, cell16_ k qm sm, cell11_ k qm sm, cell10_ k qm sm, cell9_ k qm sm, cell7_ k qm sm]) (rest := [.int v348, .ref (qm 1)]) cx hP hD hS [.int 63] (c_X12_figure l D k b qm (up2 sm 0 (upd (upd (upd (sm 0) 4 m333) 5 m334) 9 v347)) tm H.size 63 (show 0 ≤ (sm 0 3).toInt ∧ (sm 0 3).toInt ≤ 64 from by first | decide | omega) (show 0 ≤ m333.toInt ∧ m333.toInt ≤ 64 from by first | decide | omega)) gX12_readPart_X12_figure rfl rfl rfl nd_X12_figure ⟨Nat.le_of_ble_eq_true rfl, Nat.le_of_ble_eq_true rfl⟩ (ci := 10) (q0 := 0) rfl rfl rfl hl.1 rfl (Nat.le_of_ble_eq_true rfl) ⟨Nat.zero_le _, Nat.zero_le _⟩ dX12_readPart_326) cx.2.2.1 hD hS (fun r351 u350 H locs hw349 hP hD hS => ?_)
              obtain ⟨m352, m353⟩ := u350
              have hP : va_P D vwCl [cell127_ qm sm tm m352 m353 v347, cell5_ k qm sm, cell13_ k qm sm, cell8_ k qm sm, cell6_ k qm sm, cell15_ k qm sm, cell14_ k qm tm, cell12_ k qm tm, cell18_ k qm tm, cell17_ k qm tm, cell19_ k qm tm, cell21_ k qm tm, cell20_ k qm sm, cell16_ k qm sm, cell11_ k qm sm, cell10_ k qm sm, cell9_ k qm sm, cell7_ k qm sm] H := hP
              have hD : va_D A [cell127_ qm sm tm m352 m353 v347, cell5_ k qm sm, cell13_ k qm sm, cell8_ k qm sm, cell6_ k qm sm, cell15_ k qm sm, cell14_ k qm tm, cell12_ k qm tm, cell18_ k qm tm, cell17_ k qm tm, cell19_ k qm tm, cell21_ k qm tm, cell20_ k qm sm, cell16_ k qm sm, cell11_ k qm sm, cell10_ k qm sm, cell9_ k qm sm, cell7_ k qm sm] := hD
              replace hw349 : (0 ≤ r351.toInt ∧ r351.toInt ≤ 9) ∧ (m333.toInt ≤ m352.toInt ∧ m352.toInt ≤ 64) ∧ (m333.toInt + 1 ≤ m352.toInt ∨ ¬ m353.toInt = -9) ∧ (Imp (0 ≤ (63 : Int32).toInt ∧ (63 : Int32).toInt ≤ 63) (r351.toInt ≤ 5)) ∧ (Imp (0 ≤ (63 : Int32).toInt ∧ (63 : Int32).toInt ≤ 31) (r351.toInt ≤ 4)) ∧ (Imp (0 ≤ (63 : Int32).toInt ∧ (63 : Int32).toInt ≤ 7) (r351.toInt ≤ 2)) ∧ ((r351, m352, m353) = J_X12_figure (up2 sm 0 (upd (upd (upd (sm 0) 4 m333) 5 m334) 9 v347)) tm (63 : Int32)) := hw349
              obtain ⟨w354, w355, w356, w357, w358, w359, w360⟩ := hw349
              have k362 : r351 = ((J_X12_figure (up2 sm 0 (upd (upd (upd (sm 0) 4 m333) 5 m334) 9 v347)) tm (63 : Int32)).1) := congrArg (fun z => (z.1)) w360
              have k363 : m352 = ((J_X12_figure (up2 sm 0 (upd (upd (upd (sm 0) 4 m333) 5 m334) 9 v347)) tm (63 : Int32)).2.1) := congrArg (fun z => (z.2.1)) w360
              have k364 : m353 = ((J_X12_figure (up2 sm 0 (upd (upd (upd (sm 0) 4 m333) 5 m334) 9 v347)) tm (63 : Int32)).2.2) := congrArg (fun z => (z.2.2)) w360
              have xr351 : r351.toInt ≤ 5 := w357 ⟨by decide, by decide⟩
              have hn365 : vp_in v348 26 := f_in (a := v348.toInt) rfl (by omega) (by omega)
              refine va_iast hx hb cx.2.1 hP hD hS 1 0 rfl rfl hn365 dX12_readPart_329 (fun H locs hP hD hS => ?_)
              obtain ⟨g366, eg366⟩ : ∃ g : Nat → Int32, g = upd (sm 1) (v348).toNatClampNeg r351 := ⟨_, rfl⟩
              rw [← eg366] at hP hD
              have hP : va_P D vwCl [cell127_ qm sm tm m352 m353 v347, (qm 1, .inl (k 0, 26, .inl g366)), cell13_ k qm sm, cell8_ k qm sm, cell6_ k qm sm, cell15_ k qm sm, cell14_ k qm tm, cell12_ k qm tm, cell18_ k qm tm, cell17_ k qm tm, cell19_ k qm tm, cell21_ k qm tm, cell20_ k qm sm, cell16_ k qm sm, cell11_ k qm sm, cell10_ k qm sm, cell9_ k qm sm, cell7_ k qm sm] H := hP
              have hD : va_D A [cell127_ qm sm tm m352 m353 v347, (qm 1, .inl (k 0, 26, .inl g366)), cell13_ k qm sm, cell8_ k qm sm, cell6_ k qm sm, cell15_ k qm sm, cell14_ k qm tm, cell12_ k qm tm, cell18_ k qm tm, cell17_ k qm tm, cell19_ k qm tm, cell21_ k qm tm, cell20_ k qm sm, cell16_ k qm sm, cell11_ k qm sm, cell10_ k qm sm, cell9_ k qm sm, cell7_ k qm sm] := hD
              have s367 := updI eg366 rfl (show 0 ≤ v348.toInt from by omega) 0
              have s368 := updI eg366 rfl (show 0 ≤ v348.toInt from by omega) 1
              have el369 : 0 ≤ (g366 0).toInt ∧ (g366 0).toInt ≤ 5 := by omega
              have el370 : 0 ≤ (g366 1).toInt ∧ (g366 1).toInt ≤ 4 := by omega
              refine lv_goto (tgt := 410) hx hb dX12_readPart_330 (by decide) ?_
              rw [hQ]
              exact x_v cx hr (g366, m352, m353, (sm 0 6), (sm 0 7), (sm 0 8), v347, (sm 0 10)) hP hD hS ⟨(show 0 ≤ (g366 0).toInt ∧ (g366 0).toInt ≤ 5 from by omega), (show 0 ≤ (g366 1).toInt ∧ (g366 1).toInt ≤ 4 from by omega), (show 0 ≤ m352.toInt ∧ m352.toInt ≤ 64 from by omega), (show (sm 0 4).toInt + 1 ≤ m352.toInt ∨ ¬ m353.toInt = -9 from by omega), (show (g366, m352, m353, (sm 0 6), (sm 0 7), (sm 0 8), v347, (sm 0 10)) = J_X12_readPart sm tm p0 from by subst e2 e3 e4 w7 e252 e253 e327 e328 e329 k343 k344 k345 e346 e347 e348 k362 k363 k364 eg366; first | (refine Eq.symm ?_; refine Eq.trans (if_neg c8) ?_; refine Eq.trans (if_neg c254) ?_; refine Eq.trans (if_neg c255) ?_; refine Eq.trans (if_neg c256) ?_; refine Eq.trans (if_pos c257) ?_; refine Eq.trans (if_neg c318) ?_; rfl) | (unfold J_X12_readPart; try dsimp only; rw [if_neg c8, if_neg c254, if_neg c255, if_neg c256, if_pos c257, if_neg c318]))⟩ dX12_readPart_410
        · have f256 : p0.toInt = 79 := f_eq rfl (by decide) c256
          refine lv_aload_n hx hb dX12_readPart_197 rfl (lv_at hl 2 rfl) ?_
          refine g_get cx hP iw_X12_readPart_X12 0 rfl rfl 8 (by decide) rfl fw_X12_readPart_92 rfl dX12_readPart_198 ?_
          refine lv_iload_n hx hb dX12_readPart_201 rfl (lv_at hl 1 rfl) ?_
          refine lv_icmp_eq (tgt := 261) hx hb dX12_readPart_202 (by decide) (fun c371 => ?_) (fun c371 => ?_)
          · have f371 : (sm 0 8).toInt = v4.toInt := f_eq rfl rfl c371
            refine lv_iload_n hx hb dX12_readPart_261 rfl (lv_at hl 3 rfl) ?_
            refine lv_bipush (v := 81) hx hb dX12_readPart_262 (by decide) ?_
            refine lv_icmp_ne (tgt := 333) hx hb dX12_readPart_264 (by decide) (fun c372 => ?_) (fun c372 => ?_)
            · have f372 : ¬ p0.toInt = 81 := f_ne rfl (by decide) c372
              refine lv_iload_n hx hb dX12_readPart_333 rfl (lv_at hl 3 rfl) ?_
              refine lv_bipush (v := 68) hx hb dX12_readPart_334 (by decide) ?_
              refine lv_icmp_ne (tgt := 406) hx hb dX12_readPart_336 (by decide) (fun c373 => ?_) (fun c373 => ?_)
              · have f373 : ¬ p0.toInt = 68 := f_ne rfl (by decide) c373
                refine lv_aload_n hx hb dX12_readPart_406 rfl (lv_at hl 2 rfl) ?_
                refine g_vF (w1 := fun (u : Int32) => [cell81_ qm sm tm u, cell5_ k qm sm, cell13_ k qm sm, cell8_ k qm sm, cell6_ k qm sm, cell15_ k qm sm, cell14_ k qm tm, cell12_ k qm tm, cell18_ k qm tm, cell17_ k qm tm, cell19_ k qm tm, cell21_ k qm tm, cell20_ k qm sm, cell16_ k qm sm, cell11_ k qm sm, cell10_ k qm sm, cell9_ k qm sm, cell7_ k qm sm]) (g_runVF (ws := [cell22_ qm sm tm, cell5_ k qm sm, cell13_ k qm sm, cell8_ k qm sm, cell6_ k qm sm, cell15_ k qm sm, cell14_ k qm tm, cell12_ k qm tm, cell18_ k qm tm, cell17_ k qm tm, cell19_ k qm tm, cell21_ k qm tm, cell20_ k qm sm, cell16_ k qm sm, cell11_ k qm sm, cell10_ k qm sm, cell9_ k qm sm, cell7_ k qm sm]) (rest := []) cx hP hD hS [] (c_X12_fail l D k b qm sm tm H.size (show 0 ≤ (sm 0 4).toInt ∧ (sm 0 4).toInt ≤ 64 from by first | decide | omega)) gX12_readPart_X12_fail rfl rfl rfl nd_X12_fail ⟨Nat.le_of_ble_eq_true rfl, Nat.le_of_ble_eq_true rfl⟩ (ci := 10) (q0 := 0) rfl rfl rfl hl.1 rfl (Nat.le_of_ble_eq_true rfl) ⟨Nat.zero_le _, Nat.zero_le _⟩ dX12_readPart_407) cx.2.2.1 hD hS (fun u375 H locs hw374 hP hD hS => ?_)
                obtain ⟨m376, rfl⟩ : ∃ z, z = u375 := ⟨_, rfl⟩
                have hP : va_P D vwCl [cell81_ qm sm tm m376, cell5_ k qm sm, cell13_ k qm sm, cell8_ k qm sm, cell6_ k qm sm, cell15_ k qm sm, cell14_ k qm tm, cell12_ k qm tm, cell18_ k qm tm, cell17_ k qm tm, cell19_ k qm tm, cell21_ k qm tm, cell20_ k qm sm, cell16_ k qm sm, cell11_ k qm sm, cell10_ k qm sm, cell9_ k qm sm, cell7_ k qm sm] H := hP
                have hD : va_D A [cell81_ qm sm tm m376, cell5_ k qm sm, cell13_ k qm sm, cell8_ k qm sm, cell6_ k qm sm, cell15_ k qm sm, cell14_ k qm tm, cell12_ k qm tm, cell18_ k qm tm, cell17_ k qm tm, cell19_ k qm tm, cell21_ k qm tm, cell20_ k qm sm, cell16_ k qm sm, cell11_ k qm sm, cell10_ k qm sm, cell9_ k qm sm, cell7_ k qm sm] := hD
                replace hw374 : (¬ m376.toInt = -9) ∧ (m376 = J_X12_fail sm tm) := hw374
                obtain ⟨w377, w378⟩ := hw374
                have k380 : m376 = (J_X12_fail sm tm) := congrArg (fun z => z) w378
                rw [hQ]
                exact x_v cx hr ((sm 1), (sm 0 4), m376, (sm 0 6), (sm 0 7), (sm 0 8), (sm 0 9), (sm 0 10)) hP hD hS ⟨(show 0 ≤ ((sm 1) 0).toInt ∧ ((sm 1) 0).toInt ≤ 5 from by omega), (show 0 ≤ ((sm 1) 1).toInt ∧ ((sm 1) 1).toInt ≤ 4 from by omega), (show 0 ≤ (sm 0 4).toInt ∧ (sm 0 4).toInt ≤ 64 from by omega), (show (sm 0 4).toInt + 1 ≤ (sm 0 4).toInt ∨ ¬ m376.toInt = -9 from by omega), (show ((sm 1), (sm 0 4), m376, (sm 0 6), (sm 0 7), (sm 0 8), (sm 0 9), (sm 0 10)) = J_X12_readPart sm tm p0 from by subst e2 e3 e4 w7 e252 e253 k380; first | (refine Eq.symm ?_; refine Eq.trans (if_neg c8) ?_; refine Eq.trans (if_neg c254) ?_; refine Eq.trans (if_neg c255) ?_; refine Eq.trans (if_pos c256) ?_; refine Eq.trans (if_pos c371) ?_; rfl) | (unfold J_X12_readPart; try dsimp only; rw [if_neg c8, if_neg c254, if_neg c255, if_pos c256, if_pos c371]))⟩ dX12_readPart_410
              · have f373 : p0.toInt = 68 := f_eq rfl (by decide) c373
                exact absurd f373 (by omega)
            · have f372 : p0.toInt = 81 := f_eq rfl (by decide) c372
              exact absurd f372 (by omega)
          · have f371 : ¬ (sm 0 8).toInt = v4.toInt := f_ne rfl rfl c371
            refine lv_aload_n hx hb dX12_readPart_205 rfl (lv_at hl 2 rfl) ?_
            refine lv_dup hx hb dX12_readPart_206 rfl ?_
            refine g_get cx hP iw_X12_readPart_X12 0 rfl rfl 4 (by decide) rfl fw_X12_readPart_111 rfl dX12_readPart_207 ?_
            refine lv_iconst (v := 1) hx hb dX12_readPart_210 (by decide) ?_
            refine lv_iadd hx hb dX12_readPart_211 (lv_topi (fun v381 e381 => ?_))
            have t381 : v381.toInt = (sm 0 4).toInt + 1 := by rw [e381]; exact i_add rfl (by decide) (by omega) (by omega)
            refine g_pt cx hP hD hS iw_X12_readPart_X12 tyX12 tyX12_ok nmX12 0 rfl rfl 4 (by decide) rfl fw_X12_readPart_111 (ty := .int) rfl rfl rfl (Nat.le_of_ble_eq_true rfl) dX12_readPart_212 (fun H locs hP hD hS => ?_)
            have hP : va_P D vwCl [cell88_ qm sm tm v381, cell5_ k qm sm, cell13_ k qm sm, cell8_ k qm sm, cell6_ k qm sm, cell15_ k qm sm, cell14_ k qm tm, cell12_ k qm tm, cell18_ k qm tm, cell17_ k qm tm, cell19_ k qm tm, cell21_ k qm tm, cell20_ k qm sm, cell16_ k qm sm, cell11_ k qm sm, cell10_ k qm sm, cell9_ k qm sm, cell7_ k qm sm] H := hP
            have hD : va_D A [cell88_ qm sm tm v381, cell5_ k qm sm, cell13_ k qm sm, cell8_ k qm sm, cell6_ k qm sm, cell15_ k qm sm, cell14_ k qm tm, cell12_ k qm tm, cell18_ k qm tm, cell17_ k qm tm, cell19_ k qm tm, cell21_ k qm tm, cell20_ k qm sm, cell16_ k qm sm, cell11_ k qm sm, cell10_ k qm sm, cell9_ k qm sm, cell7_ k qm sm] := hD
            refine lv_aload_n hx hb dX12_readPart_215 rfl (lv_at hl 2 rfl) ?_
            refine lv_iload_n hx hb dX12_readPart_216 rfl (lv_at hl 1 rfl) ?_
            refine lv_aload_n hx hb dX12_readPart_217 rfl (lv_at hl 2 rfl) ?_
            refine g_get cx hP iw_X12_readPart_X12 0 rfl rfl 8 (by decide) rfl fw_X12_readPart_92 rfl dX12_readPart_218 ?_
            refine lv_iconst (v := (-1)) hx hb dX12_readPart_221 (by decide) ?_
            refine lv_ixor hx hb dX12_readPart_222 (lv_topi (fun v382 e382 => ?_))
            refine lv_iand hx hb dX12_readPart_223 (lv_topi (fun v383 e383 => ?_))
            refine g_iF (w1 := fun (u : Int32 × Int32) => [cell95_ qm sm tm (u.1) (u.2), cell5_ k qm sm, cell13_ k qm sm, cell8_ k qm sm, cell6_ k qm sm, cell15_ k qm sm, cell14_ k qm tm, cell12_ k qm tm, cell18_ k qm tm, cell17_ k qm tm, cell19_ k qm tm, cell21_ k qm tm, cell20_ k qm sm, cell16_ k qm sm, cell11_ k qm sm, cell10_ k qm sm, cell9_ k qm sm, cell7_ k qm sm]) (g_runVF (ws := [cell88_ qm sm tm v381, cell5_ k qm sm, cell13_ k qm sm, cell8_ k qm sm, cell6_ k qm sm, cell15_ k qm sm, cell14_ k qm tm, cell12_ k qm tm, cell18_ k qm tm, cell17_ k qm tm, cell19_ k qm tm, cell21_ k qm tm, cell20_ k qm sm, cell16_ k qm sm, cell11_ k qm sm, cell10_ k qm sm, cell9_ k qm sm, cell7_ k qm sm]) (rest := []) cx hP hD hS [.int v383] (c_X12_figure l D k b qm (up2 sm 0 (upd (sm 0) 4 v381)) tm H.size v383 (show 0 ≤ (sm 0 3).toInt ∧ (sm 0 3).toInt ≤ 64 from by first | decide | omega) (show 0 ≤ v381.toInt ∧ v381.toInt ≤ 64 from by first | decide | omega)) gX12_readPart_X12_figure rfl rfl rfl nd_X12_figure ⟨Nat.le_of_ble_eq_true rfl, Nat.le_of_ble_eq_true rfl⟩ (ci := 10) (q0 := 0) rfl rfl rfl hl.1 rfl (Nat.le_of_ble_eq_true rfl) ⟨Nat.zero_le _, Nat.zero_le _⟩ dX12_readPart_224) cx.2.2.1 hD hS (fun r386 u385 H locs hw384 hP hD hS => ?_)
            obtain ⟨m387, m388⟩ := u385
            have hP : va_P D vwCl [cell95_ qm sm tm m387 m388, cell5_ k qm sm, cell13_ k qm sm, cell8_ k qm sm, cell6_ k qm sm, cell15_ k qm sm, cell14_ k qm tm, cell12_ k qm tm, cell18_ k qm tm, cell17_ k qm tm, cell19_ k qm tm, cell21_ k qm tm, cell20_ k qm sm, cell16_ k qm sm, cell11_ k qm sm, cell10_ k qm sm, cell9_ k qm sm, cell7_ k qm sm] H := hP
            have hD : va_D A [cell95_ qm sm tm m387 m388, cell5_ k qm sm, cell13_ k qm sm, cell8_ k qm sm, cell6_ k qm sm, cell15_ k qm sm, cell14_ k qm tm, cell12_ k qm tm, cell18_ k qm tm, cell17_ k qm tm, cell19_ k qm tm, cell21_ k qm tm, cell20_ k qm sm, cell16_ k qm sm, cell11_ k qm sm, cell10_ k qm sm, cell9_ k qm sm, cell7_ k qm sm] := hD
            replace hw384 : (0 ≤ r386.toInt ∧ r386.toInt ≤ 9) ∧ (v381.toInt ≤ m387.toInt ∧ m387.toInt ≤ 64) ∧ (v381.toInt + 1 ≤ m387.toInt ∨ ¬ m388.toInt = -9) ∧ (Imp (0 ≤ v383.toInt ∧ v383.toInt ≤ 63) (r386.toInt ≤ 5)) ∧ (Imp (0 ≤ v383.toInt ∧ v383.toInt ≤ 31) (r386.toInt ≤ 4)) ∧ (Imp (0 ≤ v383.toInt ∧ v383.toInt ≤ 7) (r386.toInt ≤ 2)) ∧ ((r386, m387, m388) = J_X12_figure (up2 sm 0 (upd (sm 0) 4 v381)) tm v383) := hw384
            obtain ⟨w389, w390, w391, w392, w393, w394, w395⟩ := hw384
            have k397 : r386 = ((J_X12_figure (up2 sm 0 (upd (sm 0) 4 v381)) tm v383).1) := congrArg (fun z => (z.1)) w395
            have k398 : m387 = ((J_X12_figure (up2 sm 0 (upd (sm 0) 4 v381)) tm v383).2.1) := congrArg (fun z => (z.2.1)) w395
            have k399 : m388 = ((J_X12_figure (up2 sm 0 (upd (sm 0) 4 v381)) tm v383).2.2) := congrArg (fun z => (z.2.2)) w395
            refine lv_istore (lv' := [(4, .int r386), (3, .int r6), (2, .int v4), (0, .ref (qm 0)), (1, .int p0)]) hx hb dX12_readPart_227 hl (by decide) rfl (fun ls hl => ?_)
            refine lv_aload_n hx hb dX12_readPart_229 rfl (lv_at hl 3 rfl) ?_
            refine lv_dup hx hb dX12_readPart_230 rfl ?_
            refine g_get cx hP iw_X12_readPart_X12 0 rfl rfl 8 (by decide) rfl fw_X12_readPart_92 rfl dX12_readPart_231 ?_
            refine lv_iconst (v := 1) hx hb dX12_readPart_234 (by decide) ?_
            refine lv_iload hx hb dX12_readPart_235 (lv_at hl 0 rfl) ?_
            refine lv_ishl hx hb dX12_readPart_237 (lv_topi (fun v400 e400 => ?_))
            refine lv_ior hx hb dX12_readPart_238 (lv_topi (fun v401 e401 => ?_))
            refine g_pt cx hP hD hS iw_X12_readPart_X12 tyX12 tyX12_ok nmX12 0 rfl rfl 8 (by decide) rfl fw_X12_readPart_92 (ty := .int) rfl rfl rfl (Nat.le_of_ble_eq_true rfl) dX12_readPart_239 (fun H locs hP hD hS => ?_)
            have hP : va_P D vwCl [cell128_ qm sm tm m387 m388 v401, cell5_ k qm sm, cell13_ k qm sm, cell8_ k qm sm, cell6_ k qm sm, cell15_ k qm sm, cell14_ k qm tm, cell12_ k qm tm, cell18_ k qm tm, cell17_ k qm tm, cell19_ k qm tm, cell21_ k qm tm, cell20_ k qm sm, cell16_ k qm sm, cell11_ k qm sm, cell10_ k qm sm, cell9_ k qm sm, cell7_ k qm sm] H := hP
            have hD : va_D A [cell128_ qm sm tm m387 m388 v401, cell5_ k qm sm, cell13_ k qm sm, cell8_ k qm sm, cell6_ k qm sm, cell15_ k qm sm, cell14_ k qm tm, cell12_ k qm tm, cell18_ k qm tm, cell17_ k qm tm, cell19_ k qm tm, cell21_ k qm tm, cell20_ k qm sm, cell16_ k qm sm, cell11_ k qm sm, cell10_ k qm sm, cell9_ k qm sm, cell7_ k qm sm] := hD
            refine lv_aload_n hx hb dX12_readPart_242 rfl (lv_at hl 3 rfl) ?_
            refine g_get cx hP iw_X12_readPart_X12 0 rfl rfl 0 (by decide) rfl fw_X12_readPart_7 rfl dX12_readPart_243 ?_
            refine lv_bipush (v := 15) hx hb dX12_readPart_246 (by decide) ?_
            refine lv_iload hx hb dX12_readPart_248 (lv_at hl 0 rfl) ?_
            refine lv_iadd hx hb dX12_readPart_250 (lv_topi (fun v402 e402 => ?_))
            have t402 : v402.toInt = 15 + r386.toInt := by rw [e402]; exact i_add (by decide) rfl (by omega) (by omega)
            refine lv_aload_n hx hb dX12_readPart_251 rfl (lv_at hl 3 rfl) ?_
            refine lv_bipush (v := 31) hx hb dX12_readPart_252 (by decide) ?_
            refine g_iF (w1 := fun (u : Int32 × Int32) => [cell128_ qm sm tm (u.1) (u.2) v401, cell5_ k qm sm, cell13_ k qm sm, cell8_ k qm sm, cell6_ k qm sm, cell15_ k qm sm, cell14_ k qm tm, cell12_ k qm tm, cell18_ k qm tm, cell17_ k qm tm, cell19_ k qm tm, cell21_ k qm tm, cell20_ k qm sm, cell16_ k qm sm, cell11_ k qm sm, cell10_ k qm sm, cell9_ k qm sm, cell7_ k qm sm]) (g_runVF (ws := [cell128_ qm sm tm m387 m388 v401, cell5_ k qm sm, cell13_ k qm sm, cell8_ k qm sm, cell6_ k qm sm, cell15_ k qm sm, cell14_ k qm tm, cell12_ k qm tm, cell18_ k qm tm, cell17_ k qm tm, cell19_ k qm tm, cell21_ k qm tm, cell20_ k qm sm, cell16_ k qm sm, cell11_ k qm sm, cell10_ k qm sm, cell9_ k qm sm, cell7_ k qm sm]) (rest := [.int v402, .ref (qm 1)]) cx hP hD hS [.int 31] (c_X12_figure l D k b qm (up2 sm 0 (upd (upd (upd (sm 0) 4 m387) 5 m388) 8 v401)) tm H.size 31 (show 0 ≤ (sm 0 3).toInt ∧ (sm 0 3).toInt ≤ 64 from by first | decide | omega) (show 0 ≤ m387.toInt ∧ m387.toInt ≤ 64 from by first | decide | omega)) gX12_readPart_X12_figure rfl rfl rfl nd_X12_figure ⟨Nat.le_of_ble_eq_true rfl, Nat.le_of_ble_eq_true rfl⟩ (ci := 10) (q0 := 0) rfl rfl rfl hl.1 rfl (Nat.le_of_ble_eq_true rfl) ⟨Nat.zero_le _, Nat.zero_le _⟩ dX12_readPart_254) cx.2.2.1 hD hS (fun r405 u404 H locs hw403 hP hD hS => ?_)
            obtain ⟨m406, m407⟩ := u404
            have hP : va_P D vwCl [cell128_ qm sm tm m406 m407 v401, cell5_ k qm sm, cell13_ k qm sm, cell8_ k qm sm, cell6_ k qm sm, cell15_ k qm sm, cell14_ k qm tm, cell12_ k qm tm, cell18_ k qm tm, cell17_ k qm tm, cell19_ k qm tm, cell21_ k qm tm, cell20_ k qm sm, cell16_ k qm sm, cell11_ k qm sm, cell10_ k qm sm, cell9_ k qm sm, cell7_ k qm sm] H := hP
            have hD : va_D A [cell128_ qm sm tm m406 m407 v401, cell5_ k qm sm, cell13_ k qm sm, cell8_ k qm sm, cell6_ k qm sm, cell15_ k qm sm, cell14_ k qm tm, cell12_ k qm tm, cell18_ k qm tm, cell17_ k qm tm, cell19_ k qm tm, cell21_ k qm tm, cell20_ k qm sm, cell16_ k qm sm, cell11_ k qm sm, cell10_ k qm sm, cell9_ k qm sm, cell7_ k qm sm] := hD
            replace hw403 : (0 ≤ r405.toInt ∧ r405.toInt ≤ 9) ∧ (m387.toInt ≤ m406.toInt ∧ m406.toInt ≤ 64) ∧ (m387.toInt + 1 ≤ m406.toInt ∨ ¬ m407.toInt = -9) ∧ (Imp (0 ≤ (31 : Int32).toInt ∧ (31 : Int32).toInt ≤ 63) (r405.toInt ≤ 5)) ∧ (Imp (0 ≤ (31 : Int32).toInt ∧ (31 : Int32).toInt ≤ 31) (r405.toInt ≤ 4)) ∧ (Imp (0 ≤ (31 : Int32).toInt ∧ (31 : Int32).toInt ≤ 7) (r405.toInt ≤ 2)) ∧ ((r405, m406, m407) = J_X12_figure (up2 sm 0 (upd (upd (upd (sm 0) 4 m387) 5 m388) 8 v401)) tm (31 : Int32)) := hw403
            obtain ⟨w408, w409, w410, w411, w412, w413, w414⟩ := hw403
            have k416 : r405 = ((J_X12_figure (up2 sm 0 (upd (upd (upd (sm 0) 4 m387) 5 m388) 8 v401)) tm (31 : Int32)).1) := congrArg (fun z => (z.1)) w414
            have k417 : m406 = ((J_X12_figure (up2 sm 0 (upd (upd (upd (sm 0) 4 m387) 5 m388) 8 v401)) tm (31 : Int32)).2.1) := congrArg (fun z => (z.2.1)) w414
            have k418 : m407 = ((J_X12_figure (up2 sm 0 (upd (upd (upd (sm 0) 4 m387) 5 m388) 8 v401)) tm (31 : Int32)).2.2) := congrArg (fun z => (z.2.2)) w414
            have xr405 : r405.toInt ≤ 4 := w412 ⟨by decide, by decide⟩
            have hn419 : vp_in v402 26 := f_in (a := v402.toInt) rfl (by omega) (by omega)
            refine va_iast hx hb cx.2.1 hP hD hS 1 0 rfl rfl hn419 dX12_readPart_257 (fun H locs hP hD hS => ?_)
            obtain ⟨g420, eg420⟩ : ∃ g : Nat → Int32, g = upd (sm 1) (v402).toNatClampNeg r405 := ⟨_, rfl⟩
            rw [← eg420] at hP hD
            have hP : va_P D vwCl [cell128_ qm sm tm m406 m407 v401, (qm 1, .inl (k 0, 26, .inl g420)), cell13_ k qm sm, cell8_ k qm sm, cell6_ k qm sm, cell15_ k qm sm, cell14_ k qm tm, cell12_ k qm tm, cell18_ k qm tm, cell17_ k qm tm, cell19_ k qm tm, cell21_ k qm tm, cell20_ k qm sm, cell16_ k qm sm, cell11_ k qm sm, cell10_ k qm sm, cell9_ k qm sm, cell7_ k qm sm] H := hP
            have hD : va_D A [cell128_ qm sm tm m406 m407 v401, (qm 1, .inl (k 0, 26, .inl g420)), cell13_ k qm sm, cell8_ k qm sm, cell6_ k qm sm, cell15_ k qm sm, cell14_ k qm tm, cell12_ k qm tm, cell18_ k qm tm, cell17_ k qm tm, cell19_ k qm tm, cell21_ k qm tm, cell20_ k qm sm, cell16_ k qm sm, cell11_ k qm sm, cell10_ k qm sm, cell9_ k qm sm, cell7_ k qm sm] := hD
            have s421 := updI eg420 rfl (show 0 ≤ v402.toInt from by omega) 0
            have s422 := updI eg420 rfl (show 0 ≤ v402.toInt from by omega) 1
            have el423 : 0 ≤ (g420 0).toInt ∧ (g420 0).toInt ≤ 5 := by omega
            have el424 : 0 ≤ (g420 1).toInt ∧ (g420 1).toInt ≤ 4 := by omega
            refine lv_goto (tgt := 410) hx hb dX12_readPart_258 (by decide) ?_
            rw [hQ]
            exact x_v cx hr (g420, m406, m407, (sm 0 6), (sm 0 7), v401, (sm 0 9), (sm 0 10)) hP hD hS ⟨(show 0 ≤ (g420 0).toInt ∧ (g420 0).toInt ≤ 5 from by omega), (show 0 ≤ (g420 1).toInt ∧ (g420 1).toInt ≤ 4 from by omega), (show 0 ≤ m406.toInt ∧ m406.toInt ≤ 64 from by omega), (show (sm 0 4).toInt + 1 ≤ m406.toInt ∨ ¬ m407.toInt = -9 from by omega), (show (g420, m406, m407, (sm 0 6), (sm 0 7), v401, (sm 0 9), (sm 0 10)) = J_X12_readPart sm tm p0 from by subst e2 e3 e4 w7 e252 e253 e381 e382 e383 k397 k398 k399 e400 e401 e402 k416 k417 k418 eg420; first | (refine Eq.symm ?_; refine Eq.trans (if_neg c8) ?_; refine Eq.trans (if_neg c254) ?_; refine Eq.trans (if_neg c255) ?_; refine Eq.trans (if_pos c256) ?_; refine Eq.trans (if_neg c371) ?_; rfl) | (unfold J_X12_readPart; try dsimp only; rw [if_neg c8, if_neg c254, if_neg c255, if_pos c256, if_neg c371]))⟩ dX12_readPart_410
      · have f255 : p0.toInt = 87 := f_eq rfl (by decide) c255
        refine lv_aload_n hx hb dX12_readPart_111 rfl (lv_at hl 2 rfl) ?_
        refine g_get cx hP iw_X12_readPart_X12 0 rfl rfl 7 (by decide) rfl fw_X12_readPart_89 rfl dX12_readPart_112 ?_
        refine lv_iload_n hx hb dX12_readPart_115 rfl (lv_at hl 1 rfl) ?_
        refine lv_icmp_eq (tgt := 191) hx hb dX12_readPart_116 (by decide) (fun c425 => ?_) (fun c425 => ?_)
        · have f425 : (sm 0 7).toInt = v4.toInt := f_eq rfl rfl c425
          refine lv_iload_n hx hb dX12_readPart_191 rfl (lv_at hl 3 rfl) ?_
          refine lv_bipush (v := 79) hx hb dX12_readPart_192 (by decide) ?_
          refine lv_icmp_ne (tgt := 261) hx hb dX12_readPart_194 (by decide) (fun c426 => ?_) (fun c426 => ?_)
          · have f426 : ¬ p0.toInt = 79 := f_ne rfl (by decide) c426
            refine lv_iload_n hx hb dX12_readPart_261 rfl (lv_at hl 3 rfl) ?_
            refine lv_bipush (v := 81) hx hb dX12_readPart_262 (by decide) ?_
            refine lv_icmp_ne (tgt := 333) hx hb dX12_readPart_264 (by decide) (fun c427 => ?_) (fun c427 => ?_)
            · have f427 : ¬ p0.toInt = 81 := f_ne rfl (by decide) c427
              refine lv_iload_n hx hb dX12_readPart_333 rfl (lv_at hl 3 rfl) ?_
              refine lv_bipush (v := 68) hx hb dX12_readPart_334 (by decide) ?_
              refine lv_icmp_ne (tgt := 406) hx hb dX12_readPart_336 (by decide) (fun c428 => ?_) (fun c428 => ?_)
              · have f428 : ¬ p0.toInt = 68 := f_ne rfl (by decide) c428
                refine lv_aload_n hx hb dX12_readPart_406 rfl (lv_at hl 2 rfl) ?_
                refine g_vF (w1 := fun (u : Int32) => [cell81_ qm sm tm u, cell5_ k qm sm, cell13_ k qm sm, cell8_ k qm sm, cell6_ k qm sm, cell15_ k qm sm, cell14_ k qm tm, cell12_ k qm tm, cell18_ k qm tm, cell17_ k qm tm, cell19_ k qm tm, cell21_ k qm tm, cell20_ k qm sm, cell16_ k qm sm, cell11_ k qm sm, cell10_ k qm sm, cell9_ k qm sm, cell7_ k qm sm]) (g_runVF (ws := [cell22_ qm sm tm, cell5_ k qm sm, cell13_ k qm sm, cell8_ k qm sm, cell6_ k qm sm, cell15_ k qm sm, cell14_ k qm tm, cell12_ k qm tm, cell18_ k qm tm, cell17_ k qm tm, cell19_ k qm tm, cell21_ k qm tm, cell20_ k qm sm, cell16_ k qm sm, cell11_ k qm sm, cell10_ k qm sm, cell9_ k qm sm, cell7_ k qm sm]) (rest := []) cx hP hD hS [] (c_X12_fail l D k b qm sm tm H.size (show 0 ≤ (sm 0 4).toInt ∧ (sm 0 4).toInt ≤ 64 from by first | decide | omega)) gX12_readPart_X12_fail rfl rfl rfl nd_X12_fail ⟨Nat.le_of_ble_eq_true rfl, Nat.le_of_ble_eq_true rfl⟩ (ci := 10) (q0 := 0) rfl rfl rfl hl.1 rfl (Nat.le_of_ble_eq_true rfl) ⟨Nat.zero_le _, Nat.zero_le _⟩ dX12_readPart_407) cx.2.2.1 hD hS (fun u430 H locs hw429 hP hD hS => ?_)
                obtain ⟨m431, rfl⟩ : ∃ z, z = u430 := ⟨_, rfl⟩
                have hP : va_P D vwCl [cell81_ qm sm tm m431, cell5_ k qm sm, cell13_ k qm sm, cell8_ k qm sm, cell6_ k qm sm, cell15_ k qm sm, cell14_ k qm tm, cell12_ k qm tm, cell18_ k qm tm, cell17_ k qm tm, cell19_ k qm tm, cell21_ k qm tm, cell20_ k qm sm, cell16_ k qm sm, cell11_ k qm sm, cell10_ k qm sm, cell9_ k qm sm, cell7_ k qm sm] H := hP
                have hD : va_D A [cell81_ qm sm tm m431, cell5_ k qm sm, cell13_ k qm sm, cell8_ k qm sm, cell6_ k qm sm, cell15_ k qm sm, cell14_ k qm tm, cell12_ k qm tm, cell18_ k qm tm, cell17_ k qm tm, cell19_ k qm tm, cell21_ k qm tm, cell20_ k qm sm, cell16_ k qm sm, cell11_ k qm sm, cell10_ k qm sm, cell9_ k qm sm, cell7_ k qm sm] := hD
                replace hw429 : (¬ m431.toInt = -9) ∧ (m431 = J_X12_fail sm tm) := hw429
                obtain ⟨w432, w433⟩ := hw429
                have k435 : m431 = (J_X12_fail sm tm) := congrArg (fun z => z) w433
                rw [hQ]
                exact x_v cx hr ((sm 1), (sm 0 4), m431, (sm 0 6), (sm 0 7), (sm 0 8), (sm 0 9), (sm 0 10)) hP hD hS ⟨(show 0 ≤ ((sm 1) 0).toInt ∧ ((sm 1) 0).toInt ≤ 5 from by omega), (show 0 ≤ ((sm 1) 1).toInt ∧ ((sm 1) 1).toInt ≤ 4 from by omega), (show 0 ≤ (sm 0 4).toInt ∧ (sm 0 4).toInt ≤ 64 from by omega), (show (sm 0 4).toInt + 1 ≤ (sm 0 4).toInt ∨ ¬ m431.toInt = -9 from by omega), (show ((sm 1), (sm 0 4), m431, (sm 0 6), (sm 0 7), (sm 0 8), (sm 0 9), (sm 0 10)) = J_X12_readPart sm tm p0 from by subst e2 e3 e4 w7 e252 e253 k435; first | (refine Eq.symm ?_; refine Eq.trans (if_neg c8) ?_; refine Eq.trans (if_neg c254) ?_; refine Eq.trans (if_pos c255) ?_; refine Eq.trans (if_pos c425) ?_; rfl) | (unfold J_X12_readPart; try dsimp only; rw [if_neg c8, if_neg c254, if_pos c255, if_pos c425]))⟩ dX12_readPart_410
              · have f428 : p0.toInt = 68 := f_eq rfl (by decide) c428
                exact absurd f428 (by omega)
            · have f427 : p0.toInt = 81 := f_eq rfl (by decide) c427
              exact absurd f427 (by omega)
          · have f426 : p0.toInt = 79 := f_eq rfl (by decide) c426
            exact absurd f426 (by omega)
        · have f425 : ¬ (sm 0 7).toInt = v4.toInt := f_ne rfl rfl c425
          refine lv_aload_n hx hb dX12_readPart_119 rfl (lv_at hl 2 rfl) ?_
          refine lv_dup hx hb dX12_readPart_120 rfl ?_
          refine g_get cx hP iw_X12_readPart_X12 0 rfl rfl 4 (by decide) rfl fw_X12_readPart_111 rfl dX12_readPart_121 ?_
          refine lv_iconst (v := 1) hx hb dX12_readPart_124 (by decide) ?_
          refine lv_iadd hx hb dX12_readPart_125 (lv_topi (fun v436 e436 => ?_))
          have t436 : v436.toInt = (sm 0 4).toInt + 1 := by rw [e436]; exact i_add rfl (by decide) (by omega) (by omega)
          refine g_pt cx hP hD hS iw_X12_readPart_X12 tyX12 tyX12_ok nmX12 0 rfl rfl 4 (by decide) rfl fw_X12_readPart_111 (ty := .int) rfl rfl rfl (Nat.le_of_ble_eq_true rfl) dX12_readPart_126 (fun H locs hP hD hS => ?_)
          have hP : va_P D vwCl [cell88_ qm sm tm v436, cell5_ k qm sm, cell13_ k qm sm, cell8_ k qm sm, cell6_ k qm sm, cell15_ k qm sm, cell14_ k qm tm, cell12_ k qm tm, cell18_ k qm tm, cell17_ k qm tm, cell19_ k qm tm, cell21_ k qm tm, cell20_ k qm sm, cell16_ k qm sm, cell11_ k qm sm, cell10_ k qm sm, cell9_ k qm sm, cell7_ k qm sm] H := hP
          have hD : va_D A [cell88_ qm sm tm v436, cell5_ k qm sm, cell13_ k qm sm, cell8_ k qm sm, cell6_ k qm sm, cell15_ k qm sm, cell14_ k qm tm, cell12_ k qm tm, cell18_ k qm tm, cell17_ k qm tm, cell19_ k qm tm, cell21_ k qm tm, cell20_ k qm sm, cell16_ k qm sm, cell11_ k qm sm, cell10_ k qm sm, cell9_ k qm sm, cell7_ k qm sm] := hD
          refine lv_aload_n hx hb dX12_readPart_129 rfl (lv_at hl 2 rfl) ?_
          refine lv_iload_n hx hb dX12_readPart_130 rfl (lv_at hl 1 rfl) ?_
          refine lv_aload_n hx hb dX12_readPart_131 rfl (lv_at hl 2 rfl) ?_
          refine g_get cx hP iw_X12_readPart_X12 0 rfl rfl 7 (by decide) rfl fw_X12_readPart_89 rfl dX12_readPart_132 ?_
          refine lv_iconst (v := (-1)) hx hb dX12_readPart_135 (by decide) ?_
          refine lv_ixor hx hb dX12_readPart_136 (lv_topi (fun v437 e437 => ?_))
          refine lv_iand hx hb dX12_readPart_137 (lv_topi (fun v438 e438 => ?_))
          refine g_iF (w1 := fun (u : Int32 × Int32) => [cell95_ qm sm tm (u.1) (u.2), cell5_ k qm sm, cell13_ k qm sm, cell8_ k qm sm, cell6_ k qm sm, cell15_ k qm sm, cell14_ k qm tm, cell12_ k qm tm, cell18_ k qm tm, cell17_ k qm tm, cell19_ k qm tm, cell21_ k qm tm, cell20_ k qm sm, cell16_ k qm sm, cell11_ k qm sm, cell10_ k qm sm, cell9_ k qm sm, cell7_ k qm sm]) (g_runVF (ws := [cell88_ qm sm tm v436, cell5_ k qm sm, cell13_ k qm sm, cell8_ k qm sm, cell6_ k qm sm, cell15_ k qm sm, cell14_ k qm tm, cell12_ k qm tm, cell18_ k qm tm, cell17_ k qm tm, cell19_ k qm tm, cell21_ k qm tm, cell20_ k qm sm, cell16_ k qm sm, cell11_ k qm sm, cell10_ k qm sm, cell9_ k qm sm, cell7_ k qm sm]) (rest := []) cx hP hD hS [.int v438] (c_X12_figure l D k b qm (up2 sm 0 (upd (sm 0) 4 v436)) tm H.size v438 (show 0 ≤ (sm 0 3).toInt ∧ (sm 0 3).toInt ≤ 64 from by first | decide | omega) (show 0 ≤ v436.toInt ∧ v436.toInt ≤ 64 from by first | decide | omega)) gX12_readPart_X12_figure rfl rfl rfl nd_X12_figure ⟨Nat.le_of_ble_eq_true rfl, Nat.le_of_ble_eq_true rfl⟩ (ci := 10) (q0 := 0) rfl rfl rfl hl.1 rfl (Nat.le_of_ble_eq_true rfl) ⟨Nat.zero_le _, Nat.zero_le _⟩ dX12_readPart_138) cx.2.2.1 hD hS (fun r441 u440 H locs hw439 hP hD hS => ?_)
          obtain ⟨m442, m443⟩ := u440
          have hP : va_P D vwCl [cell95_ qm sm tm m442 m443, cell5_ k qm sm, cell13_ k qm sm, cell8_ k qm sm, cell6_ k qm sm, cell15_ k qm sm, cell14_ k qm tm, cell12_ k qm tm, cell18_ k qm tm, cell17_ k qm tm, cell19_ k qm tm, cell21_ k qm tm, cell20_ k qm sm, cell16_ k qm sm, cell11_ k qm sm, cell10_ k qm sm, cell9_ k qm sm, cell7_ k qm sm] H := hP
          have hD : va_D A [cell95_ qm sm tm m442 m443, cell5_ k qm sm, cell13_ k qm sm, cell8_ k qm sm, cell6_ k qm sm, cell15_ k qm sm, cell14_ k qm tm, cell12_ k qm tm, cell18_ k qm tm, cell17_ k qm tm, cell19_ k qm tm, cell21_ k qm tm, cell20_ k qm sm, cell16_ k qm sm, cell11_ k qm sm, cell10_ k qm sm, cell9_ k qm sm, cell7_ k qm sm] := hD
          replace hw439 : (0 ≤ r441.toInt ∧ r441.toInt ≤ 9) ∧ (v436.toInt ≤ m442.toInt ∧ m442.toInt ≤ 64) ∧ (v436.toInt + 1 ≤ m442.toInt ∨ ¬ m443.toInt = -9) ∧ (Imp (0 ≤ v438.toInt ∧ v438.toInt ≤ 63) (r441.toInt ≤ 5)) ∧ (Imp (0 ≤ v438.toInt ∧ v438.toInt ≤ 31) (r441.toInt ≤ 4)) ∧ (Imp (0 ≤ v438.toInt ∧ v438.toInt ≤ 7) (r441.toInt ≤ 2)) ∧ ((r441, m442, m443) = J_X12_figure (up2 sm 0 (upd (sm 0) 4 v436)) tm v438) := hw439
          obtain ⟨w444, w445, w446, w447, w448, w449, w450⟩ := hw439
          have k452 : r441 = ((J_X12_figure (up2 sm 0 (upd (sm 0) 4 v436)) tm v438).1) := congrArg (fun z => (z.1)) w450
          have k453 : m442 = ((J_X12_figure (up2 sm 0 (upd (sm 0) 4 v436)) tm v438).2.1) := congrArg (fun z => (z.2.1)) w450
          have k454 : m443 = ((J_X12_figure (up2 sm 0 (upd (sm 0) 4 v436)) tm v438).2.2) := congrArg (fun z => (z.2.2)) w450
          refine lv_istore (lv' := [(4, .int r441), (3, .int r6), (2, .int v4), (0, .ref (qm 0)), (1, .int p0)]) hx hb dX12_readPart_141 hl (by decide) rfl (fun ls hl => ?_)
          refine lv_aload_n hx hb dX12_readPart_143 rfl (lv_at hl 3 rfl) ?_
          refine lv_dup hx hb dX12_readPart_144 rfl ?_
          refine g_get cx hP iw_X12_readPart_X12 0 rfl rfl 7 (by decide) rfl fw_X12_readPart_89 rfl dX12_readPart_145 ?_
          refine lv_iconst (v := 1) hx hb dX12_readPart_148 (by decide) ?_
          refine lv_iload hx hb dX12_readPart_149 (lv_at hl 0 rfl) ?_
          refine lv_ishl hx hb dX12_readPart_151 (lv_topi (fun v455 e455 => ?_))
          refine lv_ior hx hb dX12_readPart_152 (lv_topi (fun v456 e456 => ?_))
          refine g_pt cx hP hD hS iw_X12_readPart_X12 tyX12 tyX12_ok nmX12 0 rfl rfl 7 (by decide) rfl fw_X12_readPart_89 (ty := .int) rfl rfl rfl (Nat.le_of_ble_eq_true rfl) dX12_readPart_153 (fun H locs hP hD hS => ?_)
          have hP : va_P D vwCl [cell100_ qm sm tm m442 m443 v456, cell5_ k qm sm, cell13_ k qm sm, cell8_ k qm sm, cell6_ k qm sm, cell15_ k qm sm, cell14_ k qm tm, cell12_ k qm tm, cell18_ k qm tm, cell17_ k qm tm, cell19_ k qm tm, cell21_ k qm tm, cell20_ k qm sm, cell16_ k qm sm, cell11_ k qm sm, cell10_ k qm sm, cell9_ k qm sm, cell7_ k qm sm] H := hP
          have hD : va_D A [cell100_ qm sm tm m442 m443 v456, cell5_ k qm sm, cell13_ k qm sm, cell8_ k qm sm, cell6_ k qm sm, cell15_ k qm sm, cell14_ k qm tm, cell12_ k qm tm, cell18_ k qm tm, cell17_ k qm tm, cell19_ k qm tm, cell21_ k qm tm, cell20_ k qm sm, cell16_ k qm sm, cell11_ k qm sm, cell10_ k qm sm, cell9_ k qm sm, cell7_ k qm sm] := hD
          refine lv_aload_n hx hb dX12_readPart_156 rfl (lv_at hl 3 rfl) ?_
          refine lv_sipush (v := 1023) hx hb dX12_readPart_157 (by decide) ?_
          refine g_iF (w1 := fun (u : Int32 × Int32) => [cell100_ qm sm tm (u.1) (u.2) v456, cell5_ k qm sm, cell13_ k qm sm, cell8_ k qm sm, cell6_ k qm sm, cell15_ k qm sm, cell14_ k qm tm, cell12_ k qm tm, cell18_ k qm tm, cell17_ k qm tm, cell19_ k qm tm, cell21_ k qm tm, cell20_ k qm sm, cell16_ k qm sm, cell11_ k qm sm, cell10_ k qm sm, cell9_ k qm sm, cell7_ k qm sm]) (g_runVF (ws := [cell100_ qm sm tm m442 m443 v456, cell5_ k qm sm, cell13_ k qm sm, cell8_ k qm sm, cell6_ k qm sm, cell15_ k qm sm, cell14_ k qm tm, cell12_ k qm tm, cell18_ k qm tm, cell17_ k qm tm, cell19_ k qm tm, cell21_ k qm tm, cell20_ k qm sm, cell16_ k qm sm, cell11_ k qm sm, cell10_ k qm sm, cell9_ k qm sm, cell7_ k qm sm]) (rest := []) cx hP hD hS [.int 1023] (c_X12_figure l D k b qm (up2 sm 0 (upd (upd (upd (sm 0) 4 m442) 5 m443) 7 v456)) tm H.size 1023 (show 0 ≤ (sm 0 3).toInt ∧ (sm 0 3).toInt ≤ 64 from by first | decide | omega) (show 0 ≤ m442.toInt ∧ m442.toInt ≤ 64 from by first | decide | omega)) gX12_readPart_X12_figure rfl rfl rfl nd_X12_figure ⟨Nat.le_of_ble_eq_true rfl, Nat.le_of_ble_eq_true rfl⟩ (ci := 10) (q0 := 0) rfl rfl rfl hl.1 rfl (Nat.le_of_ble_eq_true rfl) ⟨Nat.zero_le _, Nat.zero_le _⟩ dX12_readPart_160) cx.2.2.1 hD hS (fun r459 u458 H locs hw457 hP hD hS => ?_)
          obtain ⟨m460, m461⟩ := u458
          have hP : va_P D vwCl [cell100_ qm sm tm m460 m461 v456, cell5_ k qm sm, cell13_ k qm sm, cell8_ k qm sm, cell6_ k qm sm, cell15_ k qm sm, cell14_ k qm tm, cell12_ k qm tm, cell18_ k qm tm, cell17_ k qm tm, cell19_ k qm tm, cell21_ k qm tm, cell20_ k qm sm, cell16_ k qm sm, cell11_ k qm sm, cell10_ k qm sm, cell9_ k qm sm, cell7_ k qm sm] H := hP
          have hD : va_D A [cell100_ qm sm tm m460 m461 v456, cell5_ k qm sm, cell13_ k qm sm, cell8_ k qm sm, cell6_ k qm sm, cell15_ k qm sm, cell14_ k qm tm, cell12_ k qm tm, cell18_ k qm tm, cell17_ k qm tm, cell19_ k qm tm, cell21_ k qm tm, cell20_ k qm sm, cell16_ k qm sm, cell11_ k qm sm, cell10_ k qm sm, cell9_ k qm sm, cell7_ k qm sm] := hD
          replace hw457 : (0 ≤ r459.toInt ∧ r459.toInt ≤ 9) ∧ (m442.toInt ≤ m460.toInt ∧ m460.toInt ≤ 64) ∧ (m442.toInt + 1 ≤ m460.toInt ∨ ¬ m461.toInt = -9) ∧ (Imp (0 ≤ (1023 : Int32).toInt ∧ (1023 : Int32).toInt ≤ 63) (r459.toInt ≤ 5)) ∧ (Imp (0 ≤ (1023 : Int32).toInt ∧ (1023 : Int32).toInt ≤ 31) (r459.toInt ≤ 4)) ∧ (Imp (0 ≤ (1023 : Int32).toInt ∧ (1023 : Int32).toInt ≤ 7) (r459.toInt ≤ 2)) ∧ ((r459, m460, m461) = J_X12_figure (up2 sm 0 (upd (upd (upd (sm 0) 4 m442) 5 m443) 7 v456)) tm (1023 : Int32)) := hw457
          obtain ⟨w462, w463, w464, w465, w466, w467, w468⟩ := hw457
          have k470 : r459 = ((J_X12_figure (up2 sm 0 (upd (upd (upd (sm 0) 4 m442) 5 m443) 7 v456)) tm (1023 : Int32)).1) := congrArg (fun z => (z.1)) w468
          have k471 : m460 = ((J_X12_figure (up2 sm 0 (upd (upd (upd (sm 0) 4 m442) 5 m443) 7 v456)) tm (1023 : Int32)).2.1) := congrArg (fun z => (z.2.1)) w468
          have k472 : m461 = ((J_X12_figure (up2 sm 0 (upd (upd (upd (sm 0) 4 m442) 5 m443) 7 v456)) tm (1023 : Int32)).2.2) := congrArg (fun z => (z.2.2)) w468
          refine lv_istore (lv' := [(5, .int r459), (4, .int r441), (3, .int r6), (2, .int v4), (0, .ref (qm 0)), (1, .int p0)]) hx hb dX12_readPart_163 hl (by decide) rfl (fun ls hl => ?_)
          refine lv_aload_n hx hb dX12_readPart_165 rfl (lv_at hl 4 rfl) ?_
          refine g_get cx hP iw_X12_readPart_X12 0 rfl rfl 0 (by decide) rfl fw_X12_readPart_7 rfl dX12_readPart_166 ?_
          refine lv_bipush (v := 10) hx hb dX12_readPart_169 (by decide) ?_
          refine lv_iload hx hb dX12_readPart_171 (lv_at hl 1 rfl) ?_
          refine lv_iadd hx hb dX12_readPart_173 (lv_topi (fun v473 e473 => ?_))
          have t473 : v473.toInt = 10 + r441.toInt := by rw [e473]; exact i_add (by decide) rfl (by omega) (by omega)
          refine lv_bipush (v := 10) hx hb dX12_readPart_174 (by decide) ?_
          refine lv_iload hx hb dX12_readPart_176 (lv_at hl 0 rfl) ?_
          refine lv_imul hx hb dX12_readPart_178 (lv_topi (fun v474 e474 => ?_))
          have t474 : v474.toInt = 10 * r459.toInt := by rw [e474]; exact i_mul (by decide) rfl (by omega) (by omega)
          refine lv_aload_n hx hb dX12_readPart_179 rfl (lv_at hl 4 rfl) ?_
          refine lv_sipush (v := 1023) hx hb dX12_readPart_180 (by decide) ?_
          refine g_iF (w1 := fun (u : Int32 × Int32) => [cell100_ qm sm tm (u.1) (u.2) v456, cell5_ k qm sm, cell13_ k qm sm, cell8_ k qm sm, cell6_ k qm sm, cell15_ k qm sm, cell14_ k qm tm, cell12_ k qm tm, cell18_ k qm tm, cell17_ k qm tm, cell19_ k qm tm, cell21_ k qm tm, cell20_ k qm sm, cell16_ k qm sm, cell11_ k qm sm, cell10_ k qm sm, cell9_ k qm sm, cell7_ k qm sm]) (g_runVF (ws := [cell100_ qm sm tm m460 m461 v456, cell5_ k qm sm, cell13_ k qm sm, cell8_ k qm sm, cell6_ k qm sm, cell15_ k qm sm, cell14_ k qm tm, cell12_ k qm tm, cell18_ k qm tm, cell17_ k qm tm, cell19_ k qm tm, cell21_ k qm tm, cell20_ k qm sm, cell16_ k qm sm, cell11_ k qm sm, cell10_ k qm sm, cell9_ k qm sm, cell7_ k qm sm]) (rest := [.int v474, .int v473, .ref (qm 1)]) cx hP hD hS [.int 1023] (c_X12_figure l D k b qm (up2 sm 0 (upd (upd (upd (sm 0) 4 m460) 5 m461) 7 v456)) tm H.size 1023 (show 0 ≤ (sm 0 3).toInt ∧ (sm 0 3).toInt ≤ 64 from by first | decide | omega) (show 0 ≤ m460.toInt ∧ m460.toInt ≤ 64 from by first | decide | omega)) gX12_readPart_X12_figure rfl rfl rfl nd_X12_figure ⟨Nat.le_of_ble_eq_true rfl, Nat.le_of_ble_eq_true rfl⟩ (ci := 10) (q0 := 0) rfl rfl rfl hl.1 rfl (Nat.le_of_ble_eq_true rfl) ⟨Nat.zero_le _, Nat.zero_le _⟩ dX12_readPart_183) cx.2.2.1 hD hS (fun r477 u476 H locs hw475 hP hD hS => ?_)
          obtain ⟨m478, m479⟩ := u476
          have hP : va_P D vwCl [cell100_ qm sm tm m478 m479 v456, cell5_ k qm sm, cell13_ k qm sm, cell8_ k qm sm, cell6_ k qm sm, cell15_ k qm sm, cell14_ k qm tm, cell12_ k qm tm, cell18_ k qm tm, cell17_ k qm tm, cell19_ k qm tm, cell21_ k qm tm, cell20_ k qm sm, cell16_ k qm sm, cell11_ k qm sm, cell10_ k qm sm, cell9_ k qm sm, cell7_ k qm sm] H := hP
          have hD : va_D A [cell100_ qm sm tm m478 m479 v456, cell5_ k qm sm, cell13_ k qm sm, cell8_ k qm sm, cell6_ k qm sm, cell15_ k qm sm, cell14_ k qm tm, cell12_ k qm tm, cell18_ k qm tm, cell17_ k qm tm, cell19_ k qm tm, cell21_ k qm tm, cell20_ k qm sm, cell16_ k qm sm, cell11_ k qm sm, cell10_ k qm sm, cell9_ k qm sm, cell7_ k qm sm] := hD
          replace hw475 : (0 ≤ r477.toInt ∧ r477.toInt ≤ 9) ∧ (m460.toInt ≤ m478.toInt ∧ m478.toInt ≤ 64) ∧ (m460.toInt + 1 ≤ m478.toInt ∨ ¬ m479.toInt = -9) ∧ (Imp (0 ≤ (1023 : Int32).toInt ∧ (1023 : Int32).toInt ≤ 63) (r477.toInt ≤ 5)) ∧ (Imp (0 ≤ (1023 : Int32).toInt ∧ (1023 : Int32).toInt ≤ 31) (r477.toInt ≤ 4)) ∧ (Imp (0 ≤ (1023 : Int32).toInt ∧ (1023 : Int32).toInt ≤ 7) (r477.toInt ≤ 2)) ∧ ((r477, m478, m479) = J_X12_figure (up2 sm 0 (upd (upd (upd (sm 0) 4 m460) 5 m461) 7 v456)) tm (1023 : Int32)) := hw475
          obtain ⟨w480, w481, w482, w483, w484, w485, w486⟩ := hw475
          have k488 : r477 = ((J_X12_figure (up2 sm 0 (upd (upd (upd (sm 0) 4 m460) 5 m461) 7 v456)) tm (1023 : Int32)).1) := congrArg (fun z => (z.1)) w486
          have k489 : m478 = ((J_X12_figure (up2 sm 0 (upd (upd (upd (sm 0) 4 m460) 5 m461) 7 v456)) tm (1023 : Int32)).2.1) := congrArg (fun z => (z.2.1)) w486
          have k490 : m479 = ((J_X12_figure (up2 sm 0 (upd (upd (upd (sm 0) 4 m460) 5 m461) 7 v456)) tm (1023 : Int32)).2.2) := congrArg (fun z => (z.2.2)) w486
          refine lv_iadd hx hb dX12_readPart_186 (lv_topi (fun v491 e491 => ?_))
          have t491 : v491.toInt = v474.toInt + r477.toInt := by rw [e491]; exact i_add rfl rfl (by omega) (by omega)
          have hn492 : vp_in v473 26 := f_in (a := v473.toInt) rfl (by omega) (by omega)
          refine va_iast hx hb cx.2.1 hP hD hS 1 0 rfl rfl hn492 dX12_readPart_187 (fun H locs hP hD hS => ?_)
          obtain ⟨g493, eg493⟩ : ∃ g : Nat → Int32, g = upd (sm 1) (v473).toNatClampNeg v491 := ⟨_, rfl⟩
          rw [← eg493] at hP hD
          have hP : va_P D vwCl [cell100_ qm sm tm m478 m479 v456, (qm 1, .inl (k 0, 26, .inl g493)), cell13_ k qm sm, cell8_ k qm sm, cell6_ k qm sm, cell15_ k qm sm, cell14_ k qm tm, cell12_ k qm tm, cell18_ k qm tm, cell17_ k qm tm, cell19_ k qm tm, cell21_ k qm tm, cell20_ k qm sm, cell16_ k qm sm, cell11_ k qm sm, cell10_ k qm sm, cell9_ k qm sm, cell7_ k qm sm] H := hP
          have hD : va_D A [cell100_ qm sm tm m478 m479 v456, (qm 1, .inl (k 0, 26, .inl g493)), cell13_ k qm sm, cell8_ k qm sm, cell6_ k qm sm, cell15_ k qm sm, cell14_ k qm tm, cell12_ k qm tm, cell18_ k qm tm, cell17_ k qm tm, cell19_ k qm tm, cell21_ k qm tm, cell20_ k qm sm, cell16_ k qm sm, cell11_ k qm sm, cell10_ k qm sm, cell9_ k qm sm, cell7_ k qm sm] := hD
          have s494 := updI eg493 rfl (show 0 ≤ v473.toInt from by omega) 0
          have s495 := updI eg493 rfl (show 0 ≤ v473.toInt from by omega) 1
          have el496 : 0 ≤ (g493 0).toInt ∧ (g493 0).toInt ≤ 5 := by omega
          have el497 : 0 ≤ (g493 1).toInt ∧ (g493 1).toInt ≤ 4 := by omega
          refine lv_goto (tgt := 410) hx hb dX12_readPart_188 (by decide) ?_
          rw [hQ]
          exact x_v cx hr (g493, m478, m479, (sm 0 6), v456, (sm 0 8), (sm 0 9), (sm 0 10)) hP hD hS ⟨(show 0 ≤ (g493 0).toInt ∧ (g493 0).toInt ≤ 5 from by omega), (show 0 ≤ (g493 1).toInt ∧ (g493 1).toInt ≤ 4 from by omega), (show 0 ≤ m478.toInt ∧ m478.toInt ≤ 64 from by omega), (show (sm 0 4).toInt + 1 ≤ m478.toInt ∨ ¬ m479.toInt = -9 from by omega), (show (g493, m478, m479, (sm 0 6), v456, (sm 0 8), (sm 0 9), (sm 0 10)) = J_X12_readPart sm tm p0 from by subst e2 e3 e4 w7 e252 e253 e436 e437 e438 k452 k453 k454 e455 e456 k470 k471 k472 e473 e474 k488 k489 k490 e491 eg493; first | (refine Eq.symm ?_; refine Eq.trans (if_neg c8) ?_; refine Eq.trans (if_neg c254) ?_; refine Eq.trans (if_pos c255) ?_; refine Eq.trans (if_neg c425) ?_; rfl) | (unfold J_X12_readPart; try dsimp only; rw [if_neg c8, if_neg c254, if_pos c255, if_neg c425]))⟩ dX12_readPart_410
    · have f254 : v253.toInt = 0 := f_eq rfl (by decide) c254
      refine lv_aload_n hx hb dX12_readPart_33 rfl (lv_at hl 2 rfl) ?_
      refine lv_dup hx hb dX12_readPart_34 rfl ?_
      refine g_get cx hP iw_X12_readPart_X12 0 rfl rfl 4 (by decide) rfl fw_X12_readPart_111 rfl dX12_readPart_35 ?_
      refine lv_iconst (v := 1) hx hb dX12_readPart_38 (by decide) ?_
      refine lv_iadd hx hb dX12_readPart_39 (lv_topi (fun v498 e498 => ?_))
      have t498 : v498.toInt = (sm 0 4).toInt + 1 := by rw [e498]; exact i_add rfl (by decide) (by omega) (by omega)
      refine g_pt cx hP hD hS iw_X12_readPart_X12 tyX12 tyX12_ok nmX12 0 rfl rfl 4 (by decide) rfl fw_X12_readPart_111 (ty := .int) rfl rfl rfl (Nat.le_of_ble_eq_true rfl) dX12_readPart_40 (fun H locs hP hD hS => ?_)
      have hP : va_P D vwCl [cell88_ qm sm tm v498, cell5_ k qm sm, cell13_ k qm sm, cell8_ k qm sm, cell6_ k qm sm, cell15_ k qm sm, cell14_ k qm tm, cell12_ k qm tm, cell18_ k qm tm, cell17_ k qm tm, cell19_ k qm tm, cell21_ k qm tm, cell20_ k qm sm, cell16_ k qm sm, cell11_ k qm sm, cell10_ k qm sm, cell9_ k qm sm, cell7_ k qm sm] H := hP
      have hD : va_D A [cell88_ qm sm tm v498, cell5_ k qm sm, cell13_ k qm sm, cell8_ k qm sm, cell6_ k qm sm, cell15_ k qm sm, cell14_ k qm tm, cell12_ k qm tm, cell18_ k qm tm, cell17_ k qm tm, cell19_ k qm tm, cell21_ k qm tm, cell20_ k qm sm, cell16_ k qm sm, cell11_ k qm sm, cell10_ k qm sm, cell9_ k qm sm, cell7_ k qm sm] := hD
      refine lv_aload_n hx hb dX12_readPart_43 rfl (lv_at hl 2 rfl) ?_
      refine lv_dup hx hb dX12_readPart_44 rfl ?_
      refine g_get cx hP iw_X12_readPart_X12 0 rfl rfl 6 (by decide) rfl fw_X12_readPart_85 rfl dX12_readPart_45 ?_
      refine lv_iconst (v := 1) hx hb dX12_readPart_48 (by decide) ?_
      refine lv_iload_n hx hb dX12_readPart_49 rfl (lv_at hl 0 rfl) ?_
      refine lv_ishl hx hb dX12_readPart_50 (lv_topi (fun v499 e499 => ?_))
      refine lv_ior hx hb dX12_readPart_51 (lv_topi (fun v500 e500 => ?_))
      refine g_pt cx hP hD hS iw_X12_readPart_X12 tyX12 tyX12_ok nmX12 0 rfl rfl 6 (by decide) rfl fw_X12_readPart_85 (ty := .int) rfl rfl rfl (Nat.le_of_ble_eq_true rfl) dX12_readPart_52 (fun H locs hP hD hS => ?_)
      have hP : va_P D vwCl [cell198_ qm sm tm v498 v500, cell5_ k qm sm, cell13_ k qm sm, cell8_ k qm sm, cell6_ k qm sm, cell15_ k qm sm, cell14_ k qm tm, cell12_ k qm tm, cell18_ k qm tm, cell17_ k qm tm, cell19_ k qm tm, cell21_ k qm tm, cell20_ k qm sm, cell16_ k qm sm, cell11_ k qm sm, cell10_ k qm sm, cell9_ k qm sm, cell7_ k qm sm] H := hP
      have hD : va_D A [cell198_ qm sm tm v498 v500, cell5_ k qm sm, cell13_ k qm sm, cell8_ k qm sm, cell6_ k qm sm, cell15_ k qm sm, cell14_ k qm tm, cell12_ k qm tm, cell18_ k qm tm, cell17_ k qm tm, cell19_ k qm tm, cell21_ k qm tm, cell20_ k qm sm, cell16_ k qm sm, cell11_ k qm sm, cell10_ k qm sm, cell9_ k qm sm, cell7_ k qm sm] := hD
      refine lv_aload_n hx hb dX12_readPart_55 rfl (lv_at hl 2 rfl) ?_
      refine lv_iload_n hx hb dX12_readPart_56 rfl (lv_at hl 0 rfl) ?_
      refine lv_if_ne (tgt := 65) hx hb dX12_readPart_57 (by decide) (fun c501 => ?_) (fun c501 => ?_)
      · have f501 : ¬ r6.toInt = 0 := f_ne rfl (by decide) c501
        refine lv_sipush (v := 1023) hx hb dX12_readPart_65 (by decide) ?_
        refine g_iF (w1 := fun (u : Int32 × Int32) => [cell129_ qm sm tm (u.1) (u.2) v500, cell5_ k qm sm, cell13_ k qm sm, cell8_ k qm sm, cell6_ k qm sm, cell15_ k qm sm, cell14_ k qm tm, cell12_ k qm tm, cell18_ k qm tm, cell17_ k qm tm, cell19_ k qm tm, cell21_ k qm tm, cell20_ k qm sm, cell16_ k qm sm, cell11_ k qm sm, cell10_ k qm sm, cell9_ k qm sm, cell7_ k qm sm]) (g_runVF (ws := [cell198_ qm sm tm v498 v500, cell5_ k qm sm, cell13_ k qm sm, cell8_ k qm sm, cell6_ k qm sm, cell15_ k qm sm, cell14_ k qm tm, cell12_ k qm tm, cell18_ k qm tm, cell17_ k qm tm, cell19_ k qm tm, cell21_ k qm tm, cell20_ k qm sm, cell16_ k qm sm, cell11_ k qm sm, cell10_ k qm sm, cell9_ k qm sm, cell7_ k qm sm]) (rest := []) cx hP hD hS [.int 1023] (c_X12_figure l D k b qm (up2 sm 0 (upd (upd (sm 0) 4 v498) 6 v500)) tm H.size 1023 (show 0 ≤ (sm 0 3).toInt ∧ (sm 0 3).toInt ≤ 64 from by first | decide | omega) (show 0 ≤ v498.toInt ∧ v498.toInt ≤ 64 from by first | decide | omega)) gX12_readPart_X12_figure rfl rfl rfl nd_X12_figure ⟨Nat.le_of_ble_eq_true rfl, Nat.le_of_ble_eq_true rfl⟩ (ci := 10) (q0 := 0) rfl rfl rfl hl.1 rfl (Nat.le_of_ble_eq_true rfl) ⟨Nat.zero_le _, Nat.zero_le _⟩ dX12_readPart_68) cx.2.2.1 hD hS (fun r504 u503 H locs hw502 hP hD hS => ?_)
        obtain ⟨m505, m506⟩ := u503
        have hP : va_P D vwCl [cell129_ qm sm tm m505 m506 v500, cell5_ k qm sm, cell13_ k qm sm, cell8_ k qm sm, cell6_ k qm sm, cell15_ k qm sm, cell14_ k qm tm, cell12_ k qm tm, cell18_ k qm tm, cell17_ k qm tm, cell19_ k qm tm, cell21_ k qm tm, cell20_ k qm sm, cell16_ k qm sm, cell11_ k qm sm, cell10_ k qm sm, cell9_ k qm sm, cell7_ k qm sm] H := hP
        have hD : va_D A [cell129_ qm sm tm m505 m506 v500, cell5_ k qm sm, cell13_ k qm sm, cell8_ k qm sm, cell6_ k qm sm, cell15_ k qm sm, cell14_ k qm tm, cell12_ k qm tm, cell18_ k qm tm, cell17_ k qm tm, cell19_ k qm tm, cell21_ k qm tm, cell20_ k qm sm, cell16_ k qm sm, cell11_ k qm sm, cell10_ k qm sm, cell9_ k qm sm, cell7_ k qm sm] := hD
        replace hw502 : (0 ≤ r504.toInt ∧ r504.toInt ≤ 9) ∧ (v498.toInt ≤ m505.toInt ∧ m505.toInt ≤ 64) ∧ (v498.toInt + 1 ≤ m505.toInt ∨ ¬ m506.toInt = -9) ∧ (Imp (0 ≤ (1023 : Int32).toInt ∧ (1023 : Int32).toInt ≤ 63) (r504.toInt ≤ 5)) ∧ (Imp (0 ≤ (1023 : Int32).toInt ∧ (1023 : Int32).toInt ≤ 31) (r504.toInt ≤ 4)) ∧ (Imp (0 ≤ (1023 : Int32).toInt ∧ (1023 : Int32).toInt ≤ 7) (r504.toInt ≤ 2)) ∧ ((r504, m505, m506) = J_X12_figure (up2 sm 0 (upd (upd (sm 0) 4 v498) 6 v500)) tm (1023 : Int32)) := hw502
        obtain ⟨w507, w508, w509, w510, w511, w512, w513⟩ := hw502
        have k515 : r504 = ((J_X12_figure (up2 sm 0 (upd (upd (sm 0) 4 v498) 6 v500)) tm (1023 : Int32)).1) := congrArg (fun z => (z.1)) w513
        have k516 : m505 = ((J_X12_figure (up2 sm 0 (upd (upd (sm 0) 4 v498) 6 v500)) tm (1023 : Int32)).2.1) := congrArg (fun z => (z.2.1)) w513
        have k517 : m506 = ((J_X12_figure (up2 sm 0 (upd (upd (sm 0) 4 v498) 6 v500)) tm (1023 : Int32)).2.2) := congrArg (fun z => (z.2.2)) w513
        refine lv_istore (lv' := [(4, .int r504), (3, .int r6), (2, .int v4), (0, .ref (qm 0)), (1, .int p0)]) hx hb dX12_readPart_71 hl (by decide) rfl (fun ls hl => ?_)
        refine lv_aload_n hx hb dX12_readPart_73 rfl (lv_at hl 3 rfl) ?_
        refine g_get cx hP iw_X12_readPart_X12 0 rfl rfl 0 (by decide) rfl fw_X12_readPart_7 rfl dX12_readPart_74 ?_
        refine lv_iload_n hx hb dX12_readPart_77 rfl (lv_at hl 1 rfl) ?_
        refine lv_iconst (v := 1) hx hb dX12_readPart_78 (by decide) ?_
        refine lv_iadd hx hb dX12_readPart_79 (lv_topi (fun v518 e518 => ?_))
        have t518 : v518.toInt = r6.toInt + 1 := by rw [e518]; exact i_add rfl (by decide) (by omega) (by omega)
        refine lv_iload hx hb dX12_readPart_80 (lv_at hl 0 rfl) ?_
        have hn519 : vp_in v518 26 := f_in (a := v518.toInt) rfl (by omega) (by omega)
        refine va_iast hx hb cx.2.1 hP hD hS 1 0 rfl rfl hn519 dX12_readPart_82 (fun H locs hP hD hS => ?_)
        obtain ⟨g520, eg520⟩ : ∃ g : Nat → Int32, g = upd (sm 1) (v518).toNatClampNeg r504 := ⟨_, rfl⟩
        rw [← eg520] at hP hD
        have hP : va_P D vwCl [cell129_ qm sm tm m505 m506 v500, (qm 1, .inl (k 0, 26, .inl g520)), cell13_ k qm sm, cell8_ k qm sm, cell6_ k qm sm, cell15_ k qm sm, cell14_ k qm tm, cell12_ k qm tm, cell18_ k qm tm, cell17_ k qm tm, cell19_ k qm tm, cell21_ k qm tm, cell20_ k qm sm, cell16_ k qm sm, cell11_ k qm sm, cell10_ k qm sm, cell9_ k qm sm, cell7_ k qm sm] H := hP
        have hD : va_D A [cell129_ qm sm tm m505 m506 v500, (qm 1, .inl (k 0, 26, .inl g520)), cell13_ k qm sm, cell8_ k qm sm, cell6_ k qm sm, cell15_ k qm sm, cell14_ k qm tm, cell12_ k qm tm, cell18_ k qm tm, cell17_ k qm tm, cell19_ k qm tm, cell21_ k qm tm, cell20_ k qm sm, cell16_ k qm sm, cell11_ k qm sm, cell10_ k qm sm, cell9_ k qm sm, cell7_ k qm sm] := hD
        have s521 := updI eg520 rfl (show 0 ≤ v518.toInt from by omega) 0
        have s522 := updI eg520 rfl (show 0 ≤ v518.toInt from by omega) 1
        have el523 : 0 ≤ (g520 0).toInt ∧ (g520 0).toInt ≤ 5 := by omega
        have el524 : 0 ≤ (g520 1).toInt ∧ (g520 1).toInt ≤ 4 := by omega
        refine lv_iload_n hx hb dX12_readPart_83 rfl (lv_at hl 1 rfl) ?_
        refine lv_bipush (v := 6) hx hb dX12_readPart_84 (by decide) ?_
        refine lv_icmp_ne (tgt := 102) hx hb dX12_readPart_86 (by decide) (fun c525 => ?_) (fun c525 => ?_)
        · have f525 : ¬ r6.toInt = 6 := f_ne rfl (by decide) c525
          refine lv_goto (tgt := 410) hx hb dX12_readPart_102 (by decide) ?_
          rw [hQ]
          exact x_v cx hr (g520, m505, m506, v500, (sm 0 7), (sm 0 8), (sm 0 9), (sm 0 10)) hP hD hS ⟨(show 0 ≤ (g520 0).toInt ∧ (g520 0).toInt ≤ 5 from by omega), (show 0 ≤ (g520 1).toInt ∧ (g520 1).toInt ≤ 4 from by omega), (show 0 ≤ m505.toInt ∧ m505.toInt ≤ 64 from by omega), (show (sm 0 4).toInt + 1 ≤ m505.toInt ∨ ¬ m506.toInt = -9 from by omega), (show (g520, m505, m506, v500, (sm 0 7), (sm 0 8), (sm 0 9), (sm 0 10)) = J_X12_readPart sm tm p0 from by subst e2 e3 e4 w7 e252 e253 e498 e499 e500 k515 k516 k517 e518 eg520; first | (refine Eq.symm ?_; refine Eq.trans (if_neg c8) ?_; refine Eq.trans (if_pos c254) ?_; refine Eq.trans (if_neg c501) ?_; refine Eq.trans (if_neg c525) ?_; rfl) | (unfold J_X12_readPart; try dsimp only; rw [if_neg c8, if_pos c254, if_neg c501, if_neg c525]))⟩ dX12_readPart_410
        · have f525 : r6.toInt = 6 := f_eq rfl (by decide) c525
          refine lv_aload_n hx hb dX12_readPart_89 rfl (lv_at hl 3 rfl) ?_
          refine g_get cx hP iw_X12_readPart_X12 0 rfl rfl 0 (by decide) rfl fw_X12_readPart_7 rfl dX12_readPart_90 ?_
          refine lv_bipush (v := 8) hx hb dX12_readPart_93 (by decide) ?_
          refine lv_aload_n hx hb dX12_readPart_95 rfl (lv_at hl 3 rfl) ?_
          refine lv_bipush (v := 63) hx hb dX12_readPart_96 (by decide) ?_
          refine g_iF (w1 := fun (u : Int32 × Int32) => [cell129_ qm sm tm (u.1) (u.2) v500, (qm 1, .inl (k 0, 26, .inl g520)), cell13_ k qm sm, cell8_ k qm sm, cell6_ k qm sm, cell15_ k qm sm, cell14_ k qm tm, cell12_ k qm tm, cell18_ k qm tm, cell17_ k qm tm, cell19_ k qm tm, cell21_ k qm tm, cell20_ k qm sm, cell16_ k qm sm, cell11_ k qm sm, cell10_ k qm sm, cell9_ k qm sm, cell7_ k qm sm]) (g_runVF (ws := [cell129_ qm sm tm m505 m506 v500, (qm 1, .inl (k 0, 26, .inl g520)), cell13_ k qm sm, cell8_ k qm sm, cell6_ k qm sm, cell15_ k qm sm, cell14_ k qm tm, cell12_ k qm tm, cell18_ k qm tm, cell17_ k qm tm, cell19_ k qm tm, cell21_ k qm tm, cell20_ k qm sm, cell16_ k qm sm, cell11_ k qm sm, cell10_ k qm sm, cell9_ k qm sm, cell7_ k qm sm]) (rest := [.int 8, .ref (qm 1)]) cx hP hD hS [.int 63] (c_X12_figure l D k b qm (up2 (up2 sm 0 (upd (upd (upd (sm 0) 4 m505) 5 m506) 6 v500)) 1 g520) tm H.size 63 (show 0 ≤ (sm 0 3).toInt ∧ (sm 0 3).toInt ≤ 64 from by first | decide | omega) (show 0 ≤ m505.toInt ∧ m505.toInt ≤ 64 from by first | decide | omega)) gX12_readPart_X12_figure rfl rfl rfl nd_X12_figure ⟨Nat.le_of_ble_eq_true rfl, Nat.le_of_ble_eq_true rfl⟩ (ci := 10) (q0 := 0) rfl rfl rfl hl.1 rfl (Nat.le_of_ble_eq_true rfl) ⟨Nat.zero_le _, Nat.zero_le _⟩ dX12_readPart_98) cx.2.2.1 hD hS (fun r528 u527 H locs hw526 hP hD hS => ?_)
          obtain ⟨m529, m530⟩ := u527
          have hP : va_P D vwCl [cell129_ qm sm tm m529 m530 v500, (qm 1, .inl (k 0, 26, .inl g520)), cell13_ k qm sm, cell8_ k qm sm, cell6_ k qm sm, cell15_ k qm sm, cell14_ k qm tm, cell12_ k qm tm, cell18_ k qm tm, cell17_ k qm tm, cell19_ k qm tm, cell21_ k qm tm, cell20_ k qm sm, cell16_ k qm sm, cell11_ k qm sm, cell10_ k qm sm, cell9_ k qm sm, cell7_ k qm sm] H := hP
          have hD : va_D A [cell129_ qm sm tm m529 m530 v500, (qm 1, .inl (k 0, 26, .inl g520)), cell13_ k qm sm, cell8_ k qm sm, cell6_ k qm sm, cell15_ k qm sm, cell14_ k qm tm, cell12_ k qm tm, cell18_ k qm tm, cell17_ k qm tm, cell19_ k qm tm, cell21_ k qm tm, cell20_ k qm sm, cell16_ k qm sm, cell11_ k qm sm, cell10_ k qm sm, cell9_ k qm sm, cell7_ k qm sm] := hD
          replace hw526 : (0 ≤ r528.toInt ∧ r528.toInt ≤ 9) ∧ (m505.toInt ≤ m529.toInt ∧ m529.toInt ≤ 64) ∧ (m505.toInt + 1 ≤ m529.toInt ∨ ¬ m530.toInt = -9) ∧ (Imp (0 ≤ (63 : Int32).toInt ∧ (63 : Int32).toInt ≤ 63) (r528.toInt ≤ 5)) ∧ (Imp (0 ≤ (63 : Int32).toInt ∧ (63 : Int32).toInt ≤ 31) (r528.toInt ≤ 4)) ∧ (Imp (0 ≤ (63 : Int32).toInt ∧ (63 : Int32).toInt ≤ 7) (r528.toInt ≤ 2)) ∧ ((r528, m529, m530) = J_X12_figure (up2 (up2 sm 0 (upd (upd (upd (sm 0) 4 m505) 5 m506) 6 v500)) 1 g520) tm (63 : Int32)) := hw526
          obtain ⟨w531, w532, w533, w534, w535, w536, w537⟩ := hw526
          have k539 : r528 = ((J_X12_figure (up2 (up2 sm 0 (upd (upd (upd (sm 0) 4 m505) 5 m506) 6 v500)) 1 g520) tm (63 : Int32)).1) := congrArg (fun z => (z.1)) w537
          have k540 : m529 = ((J_X12_figure (up2 (up2 sm 0 (upd (upd (upd (sm 0) 4 m505) 5 m506) 6 v500)) 1 g520) tm (63 : Int32)).2.1) := congrArg (fun z => (z.2.1)) w537
          have k541 : m530 = ((J_X12_figure (up2 (up2 sm 0 (upd (upd (upd (sm 0) 4 m505) 5 m506) 6 v500)) 1 g520) tm (63 : Int32)).2.2) := congrArg (fun z => (z.2.2)) w537
          have xr528 : r528.toInt ≤ 5 := w534 ⟨by decide, by decide⟩
          have hn542 : vp_in 8 26 := f_in (a := 8) (by decide) (by omega) (by omega)
          refine va_iast hx hb cx.2.1 hP hD hS 1 0 rfl rfl hn542 dX12_readPart_101 (fun H locs hP hD hS => ?_)
          obtain ⟨g543, eg543⟩ : ∃ g : Nat → Int32, g = upd g520 ((8 : Int32).toNatClampNeg) r528 := ⟨_, rfl⟩
          rw [← eg543] at hP hD
          have hP : va_P D vwCl [cell129_ qm sm tm m529 m530 v500, (qm 1, .inl (k 0, 26, .inl g543)), cell13_ k qm sm, cell8_ k qm sm, cell6_ k qm sm, cell15_ k qm sm, cell14_ k qm tm, cell12_ k qm tm, cell18_ k qm tm, cell17_ k qm tm, cell19_ k qm tm, cell21_ k qm tm, cell20_ k qm sm, cell16_ k qm sm, cell11_ k qm sm, cell10_ k qm sm, cell9_ k qm sm, cell7_ k qm sm] H := hP
          have hD : va_D A [cell129_ qm sm tm m529 m530 v500, (qm 1, .inl (k 0, 26, .inl g543)), cell13_ k qm sm, cell8_ k qm sm, cell6_ k qm sm, cell15_ k qm sm, cell14_ k qm tm, cell12_ k qm tm, cell18_ k qm tm, cell17_ k qm tm, cell19_ k qm tm, cell21_ k qm tm, cell20_ k qm sm, cell16_ k qm sm, cell11_ k qm sm, cell10_ k qm sm, cell9_ k qm sm, cell7_ k qm sm] := hD
          have s544 := updI eg543 (by decide) (show 0 ≤ 8 from by omega) 0
          have s545 := updI eg543 (by decide) (show 0 ≤ 8 from by omega) 1
          have el546 : 0 ≤ (g543 0).toInt ∧ (g543 0).toInt ≤ 5 := by omega
          have el547 : 0 ≤ (g543 1).toInt ∧ (g543 1).toInt ≤ 4 := by omega
          refine lv_goto (tgt := 410) hx hb dX12_readPart_102 (by decide) ?_
          rw [hQ]
          exact x_v cx hr (g543, m529, m530, v500, (sm 0 7), (sm 0 8), (sm 0 9), (sm 0 10)) hP hD hS ⟨(show 0 ≤ (g543 0).toInt ∧ (g543 0).toInt ≤ 5 from by omega), (show 0 ≤ (g543 1).toInt ∧ (g543 1).toInt ≤ 4 from by omega), (show 0 ≤ m529.toInt ∧ m529.toInt ≤ 64 from by omega), (show (sm 0 4).toInt + 1 ≤ m529.toInt ∨ ¬ m530.toInt = -9 from by omega), (show (g543, m529, m530, v500, (sm 0 7), (sm 0 8), (sm 0 9), (sm 0 10)) = J_X12_readPart sm tm p0 from by subst e2 e3 e4 w7 e252 e253 e498 e499 e500 k515 k516 k517 e518 eg520 k539 k540 k541 eg543; first | (refine Eq.symm ?_; refine Eq.trans (if_neg c8) ?_; refine Eq.trans (if_pos c254) ?_; refine Eq.trans (if_neg c501) ?_; refine Eq.trans (if_pos c525) ?_; rfl) | (unfold J_X12_readPart; try dsimp only; rw [if_neg c8, if_pos c254, if_neg c501, if_pos c525]))⟩ dX12_readPart_410
      · have f501 : r6.toInt = 0 := f_eq rfl (by decide) c501
        refine lv_bipush (v := 30) hx hb dX12_readPart_60 (by decide) ?_
        refine lv_goto (tgt := 68) hx hb dX12_readPart_62 (by decide) ?_
        refine g_iF (w1 := fun (u : Int32 × Int32) => [cell129_ qm sm tm (u.1) (u.2) v500, cell5_ k qm sm, cell13_ k qm sm, cell8_ k qm sm, cell6_ k qm sm, cell15_ k qm sm, cell14_ k qm tm, cell12_ k qm tm, cell18_ k qm tm, cell17_ k qm tm, cell19_ k qm tm, cell21_ k qm tm, cell20_ k qm sm, cell16_ k qm sm, cell11_ k qm sm, cell10_ k qm sm, cell9_ k qm sm, cell7_ k qm sm]) (g_runVF (ws := [cell198_ qm sm tm v498 v500, cell5_ k qm sm, cell13_ k qm sm, cell8_ k qm sm, cell6_ k qm sm, cell15_ k qm sm, cell14_ k qm tm, cell12_ k qm tm, cell18_ k qm tm, cell17_ k qm tm, cell19_ k qm tm, cell21_ k qm tm, cell20_ k qm sm, cell16_ k qm sm, cell11_ k qm sm, cell10_ k qm sm, cell9_ k qm sm, cell7_ k qm sm]) (rest := []) cx hP hD hS [.int 30] (c_X12_figure l D k b qm (up2 sm 0 (upd (upd (sm 0) 4 v498) 6 v500)) tm H.size 30 (show 0 ≤ (sm 0 3).toInt ∧ (sm 0 3).toInt ≤ 64 from by first | decide | omega) (show 0 ≤ v498.toInt ∧ v498.toInt ≤ 64 from by first | decide | omega)) gX12_readPart_X12_figure rfl rfl rfl nd_X12_figure ⟨Nat.le_of_ble_eq_true rfl, Nat.le_of_ble_eq_true rfl⟩ (ci := 10) (q0 := 0) rfl rfl rfl hl.1 rfl (Nat.le_of_ble_eq_true rfl) ⟨Nat.zero_le _, Nat.zero_le _⟩ dX12_readPart_68) cx.2.2.1 hD hS (fun r550 u549 H locs hw548 hP hD hS => ?_)
        obtain ⟨m551, m552⟩ := u549
        have hP : va_P D vwCl [cell129_ qm sm tm m551 m552 v500, cell5_ k qm sm, cell13_ k qm sm, cell8_ k qm sm, cell6_ k qm sm, cell15_ k qm sm, cell14_ k qm tm, cell12_ k qm tm, cell18_ k qm tm, cell17_ k qm tm, cell19_ k qm tm, cell21_ k qm tm, cell20_ k qm sm, cell16_ k qm sm, cell11_ k qm sm, cell10_ k qm sm, cell9_ k qm sm, cell7_ k qm sm] H := hP
        have hD : va_D A [cell129_ qm sm tm m551 m552 v500, cell5_ k qm sm, cell13_ k qm sm, cell8_ k qm sm, cell6_ k qm sm, cell15_ k qm sm, cell14_ k qm tm, cell12_ k qm tm, cell18_ k qm tm, cell17_ k qm tm, cell19_ k qm tm, cell21_ k qm tm, cell20_ k qm sm, cell16_ k qm sm, cell11_ k qm sm, cell10_ k qm sm, cell9_ k qm sm, cell7_ k qm sm] := hD
        replace hw548 : (0 ≤ r550.toInt ∧ r550.toInt ≤ 9) ∧ (v498.toInt ≤ m551.toInt ∧ m551.toInt ≤ 64) ∧ (v498.toInt + 1 ≤ m551.toInt ∨ ¬ m552.toInt = -9) ∧ (Imp (0 ≤ (30 : Int32).toInt ∧ (30 : Int32).toInt ≤ 63) (r550.toInt ≤ 5)) ∧ (Imp (0 ≤ (30 : Int32).toInt ∧ (30 : Int32).toInt ≤ 31) (r550.toInt ≤ 4)) ∧ (Imp (0 ≤ (30 : Int32).toInt ∧ (30 : Int32).toInt ≤ 7) (r550.toInt ≤ 2)) ∧ ((r550, m551, m552) = J_X12_figure (up2 sm 0 (upd (upd (sm 0) 4 v498) 6 v500)) tm (30 : Int32)) := hw548
        obtain ⟨w553, w554, w555, w556, w557, w558, w559⟩ := hw548
        have k561 : r550 = ((J_X12_figure (up2 sm 0 (upd (upd (sm 0) 4 v498) 6 v500)) tm (30 : Int32)).1) := congrArg (fun z => (z.1)) w559
        have k562 : m551 = ((J_X12_figure (up2 sm 0 (upd (upd (sm 0) 4 v498) 6 v500)) tm (30 : Int32)).2.1) := congrArg (fun z => (z.2.1)) w559
        have k563 : m552 = ((J_X12_figure (up2 sm 0 (upd (upd (sm 0) 4 v498) 6 v500)) tm (30 : Int32)).2.2) := congrArg (fun z => (z.2.2)) w559
        have xr550 : r550.toInt ≤ 4 := w557 ⟨by decide, by decide⟩
        refine lv_istore (lv' := [(4, .int r550), (3, .int r6), (2, .int v4), (0, .ref (qm 0)), (1, .int p0)]) hx hb dX12_readPart_71 hl (by decide) rfl (fun ls hl => ?_)
        refine lv_aload_n hx hb dX12_readPart_73 rfl (lv_at hl 3 rfl) ?_
        refine g_get cx hP iw_X12_readPart_X12 0 rfl rfl 0 (by decide) rfl fw_X12_readPart_7 rfl dX12_readPart_74 ?_
        refine lv_iload_n hx hb dX12_readPart_77 rfl (lv_at hl 1 rfl) ?_
        refine lv_iconst (v := 1) hx hb dX12_readPart_78 (by decide) ?_
        refine lv_iadd hx hb dX12_readPart_79 (lv_topi (fun v564 e564 => ?_))
        have t564 : v564.toInt = r6.toInt + 1 := by rw [e564]; exact i_add rfl (by decide) (by omega) (by omega)
        refine lv_iload hx hb dX12_readPart_80 (lv_at hl 0 rfl) ?_
        have hn565 : vp_in v564 26 := f_in (a := v564.toInt) rfl (by omega) (by omega)
        refine va_iast hx hb cx.2.1 hP hD hS 1 0 rfl rfl hn565 dX12_readPart_82 (fun H locs hP hD hS => ?_)
        obtain ⟨g566, eg566⟩ : ∃ g : Nat → Int32, g = upd (sm 1) (v564).toNatClampNeg r550 := ⟨_, rfl⟩
        rw [← eg566] at hP hD
        have hP : va_P D vwCl [cell129_ qm sm tm m551 m552 v500, (qm 1, .inl (k 0, 26, .inl g566)), cell13_ k qm sm, cell8_ k qm sm, cell6_ k qm sm, cell15_ k qm sm, cell14_ k qm tm, cell12_ k qm tm, cell18_ k qm tm, cell17_ k qm tm, cell19_ k qm tm, cell21_ k qm tm, cell20_ k qm sm, cell16_ k qm sm, cell11_ k qm sm, cell10_ k qm sm, cell9_ k qm sm, cell7_ k qm sm] H := hP
        have hD : va_D A [cell129_ qm sm tm m551 m552 v500, (qm 1, .inl (k 0, 26, .inl g566)), cell13_ k qm sm, cell8_ k qm sm, cell6_ k qm sm, cell15_ k qm sm, cell14_ k qm tm, cell12_ k qm tm, cell18_ k qm tm, cell17_ k qm tm, cell19_ k qm tm, cell21_ k qm tm, cell20_ k qm sm, cell16_ k qm sm, cell11_ k qm sm, cell10_ k qm sm, cell9_ k qm sm, cell7_ k qm sm] := hD
        have s567 := updI eg566 rfl (show 0 ≤ v564.toInt from by omega) 0
        have s568 := updI eg566 rfl (show 0 ≤ v564.toInt from by omega) 1
        have el569 : 0 ≤ (g566 0).toInt ∧ (g566 0).toInt ≤ 5 := by omega
        have el570 : 0 ≤ (g566 1).toInt ∧ (g566 1).toInt ≤ 4 := by omega
        refine lv_iload_n hx hb dX12_readPart_83 rfl (lv_at hl 1 rfl) ?_
        refine lv_bipush (v := 6) hx hb dX12_readPart_84 (by decide) ?_
        refine lv_icmp_ne (tgt := 102) hx hb dX12_readPart_86 (by decide) (fun c571 => ?_) (fun c571 => ?_)
        · have f571 : ¬ r6.toInt = 6 := f_ne rfl (by decide) c571
          refine lv_goto (tgt := 410) hx hb dX12_readPart_102 (by decide) ?_
          rw [hQ]
          exact x_v cx hr (g566, m551, m552, v500, (sm 0 7), (sm 0 8), (sm 0 9), (sm 0 10)) hP hD hS ⟨(show 0 ≤ (g566 0).toInt ∧ (g566 0).toInt ≤ 5 from by omega), (show 0 ≤ (g566 1).toInt ∧ (g566 1).toInt ≤ 4 from by omega), (show 0 ≤ m551.toInt ∧ m551.toInt ≤ 64 from by omega), (show (sm 0 4).toInt + 1 ≤ m551.toInt ∨ ¬ m552.toInt = -9 from by omega), (show (g566, m551, m552, v500, (sm 0 7), (sm 0 8), (sm 0 9), (sm 0 10)) = J_X12_readPart sm tm p0 from by subst e2 e3 e4 w7 e252 e253 e498 e499 e500 k561 k562 k563 e564 eg566; first | (refine Eq.symm ?_; refine Eq.trans (if_neg c8) ?_; refine Eq.trans (if_pos c254) ?_; refine Eq.trans (if_pos c501) ?_; rfl) | (unfold J_X12_readPart; try dsimp only; rw [if_neg c8, if_pos c254, if_pos c501]))⟩ dX12_readPart_410
        · have f571 : r6.toInt = 6 := f_eq rfl (by decide) c571
          exact absurd f571 (by omega)
