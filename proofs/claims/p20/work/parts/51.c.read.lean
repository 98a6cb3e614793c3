theorem fw_X8_readException_20 : Cond.fieldLink RX8 20 "StillInAugust$RuleReader" "cursor" "LStillInAugust$Cursor;" ∈ wsX8_readException := by decide +kernel
theorem fw_X8_readException_31 : Cond.fieldLink RX8 31 "StillInAugust$RuleReader" "untoldWeeks" "I" ∈ wsX8_readException := by decide +kernel
theorem fw_X8_readException_9 : Cond.fieldLink RX8 9 "StillInAugust$RuleReader" "exceptLevel" "[I" ∈ wsX8_readException := by decide +kernel
theorem iw_X8_readException_X8 : ∀ w ∈ u_ws RX8 TX8 4, w ∈ wsX8_readException := fun _ h => List.mem_cons_of_mem _ (List.mem_append_left _ (List.mem_append_left _ (List.mem_append_right _ h)))
def J_X8_readException (sr : Nat → Nat → Int32) (sc : Nat → Nat → Int32) (st : Nat → Nat → Int32) : Int32 × Int32 × Int32 × (Nat → Int32) := LetF (J_X2_figure sc st (sr 0 3)) (fun y11 => if (y11.1) = (-9) then ((y11.2.1), (y11.2.2), (sr 0 3), (sr 1)) else LetF (J_X2_figure (up2 sc 0 (upd (upd (sc 0) 1 (y11.2.1)) 2 (y11.2.2))) st (J_X2_figures 0 4)) (fun y28 => if (y28.1) = (-9) then ((y28.2.1), (y28.2.2), (sr 0 3), (sr 1)) else ((y28.2.1), (y28.2.2), ((sr 0 3) &&& (((1 : Int32) <<< ((y11.1) &&& 31)) ^^^ ((-1) : Int32))), (upd (sr 1) ((y11.1)).toNatClampNeg (y28.1)))))
theorem exl_X8_readException_0 {sr : Nat → Nat → Int32} {sc : Nat → Nat → Int32} {st : Nat → Nat → Int32} {m21 : Int32} {m22 : Int32} {v32 : Int32} {g34 : Nat → Int32} {r16 : Int32} {v30 : Int32} {r3 : Int32} {v31 : Int32} {r20 : Int32} {m4 : Int32} {m5 : Int32} (w17 : r16 = J_X2_figures (0 : Int32) (4 : Int32)) (e30 : v30 = ((1 : Int32) <<< (r3 &&& 31))) (e31 : v31 = (v30 ^^^ ((-1) : Int32))) (e32 : v32 = ((sr 0 3) &&& v31)) (eg34 : g34 = upd (sr 1) (r3).toNatClampNeg r20) (w10 : (r3, m4, m5) = J_X2_figure sc st (sr 0 3)) (c12 : ¬ (r3 = ((-9) : Int32))) (w27 : (r20, m21, m22) = J_X2_figure (up2 sc 0 (upd (upd (sc 0) 1 m4) 2 m5)) st r16) (c29 : ¬ (r20 = ((-9) : Int32))) : (m21, m22, v32, g34) = J_X8_readException sr sc st := by subst w17 e30 e31 e32 eg34; refine Eq.symm ?_; unfold J_X8_readException; refine lt_e w10 ?_; refine Eq.trans (if_neg c12) ?_; refine lt_e w27 ?_; refine Eq.trans (if_neg c29) ?_; rfl
theorem exl_X8_readException_1 {sr : Nat → Nat → Int32} {sc : Nat → Nat → Int32} {st : Nat → Nat → Int32} {m21 : Int32} {m22 : Int32} {r16 : Int32} {r3 : Int32} {m4 : Int32} {m5 : Int32} {r20 : Int32} (w17 : r16 = J_X2_figures (0 : Int32) (4 : Int32)) (w10 : (r3, m4, m5) = J_X2_figure sc st (sr 0 3)) (c12 : ¬ (r3 = ((-9) : Int32))) (w27 : (r20, m21, m22) = J_X2_figure (up2 sc 0 (upd (upd (sc 0) 1 m4) 2 m5)) st r16) (c29 : r20 = ((-9) : Int32)) : (m21, m22, (sr 0 3), (sr 1)) = J_X8_readException sr sc st := by subst w17; refine Eq.symm ?_; unfold J_X8_readException; refine lt_e w10 ?_; refine Eq.trans (if_neg c12) ?_; refine lt_e w27 ?_; refine Eq.trans (if_pos c29) ?_; rfl
theorem exl_X8_readException_2 {sr : Nat → Nat → Int32} {sc : Nat → Nat → Int32} {st : Nat → Nat → Int32} {m4 : Int32} {m5 : Int32} {r3 : Int32} (w10 : (r3, m4, m5) = J_X2_figure sc st (sr 0 3)) (c12 : r3 = ((-9) : Int32)) : (m4, m5, (sr 0 3), (sr 1)) = J_X8_readException sr sc st := by refine Eq.symm ?_; unfold J_X8_readException; refine lt_e w10 ?_; refine Eq.trans (if_pos c12) ?_; rfl
set_option maxHeartbeats 4000000 in
set_option maxRecDepth 100000 in
theorem c_X8_readException (l : Launch) (D : va_G) (k : Nat → ClassId) (b : Nat → Nat) (qr : Nat → Nat) (sr : Nat → Nat → Int32) (qc : Nat → Nat) (sc : Nat → Nat → Int32) (qt : Nat → Nat) (st : Nat → Nat → Int32) (sz : Nat) (h_len : 0 ≤ (st 0 1).toInt ∧ (st 0 1).toInt ≤ 64) (u_w : 0 ≤ (sr 0 3).toInt ∧ (sr 0 3).toInt ≤ 31) : MetV l D k b yX8_readException wsX8_readException ({ frames := 3, cells := 0, slots := 0, locals := 63 } : Room) [cell93_ qr qc sr, cell0_ k qr sr, cell58_ qc qt sc, cell49_ qt st, cell27_ k qt st] sz [.ref (qr 0)] (fun (u : Int32 × Int32 × Int32 × (Nat → Int32)) => (0 ≤ (u.2.2.1).toInt ∧ (u.2.2.1).toInt ≤ 31) ∧ (((u.1), (u.2.1), (u.2.2.1), (u.2.2.2)) = J_X8_readException sr sc st)) (fun u => [cell134_ qr qc sr (u.2.2.1), cell85_ k qr (u.2.2.2), cell60_ qc qt (u.1) (u.2.1), cell49_ qt st, cell27_ k qt st]) := by
  refine g_enter (cc := cX8_readException) (maxL := 3) (ret := none) (by decide) rfl (Nat.le_of_ble_eq_true rfl) ?_
  intro p e s m below meth c A hsz hAe cx hr hP hD hS ls hl
  rw [hAe]
  refine g_q (fun Q hQ => ?_)
  have hx := cx.1.1
  have hb := cx.1.2.1
  have hl : lv_has ls 3 [(0, .ref (qr 0))] := hl
  obtain ⟨H, eH⟩ : ∃ H : Heap, H = s.heap := ⟨_, rfl⟩
  obtain ⟨locs, el⟩ : ∃ L : List Loc, L = [] := ⟨_, rfl⟩
  have hP : va_P D vwCl [cell93_ qr qc sr, cell0_ k qr sr, cell58_ qc qt sc, cell49_ qt st, cell27_ k qt st] H := by rw [eH]; exact hP
  have hD : va_D A [cell93_ qr qc sr, cell0_ k qr sr, cell58_ qc qt sc, cell49_ qt st, cell27_ k qt st] := hD
  have hS : va_S A s.heap H locs := by rw [eH, el]; exact hS
  suffices goal : W p l e ({ frames := 3, cells := 0, slots := 0, locals := 63 } : Room) s m ([.ref (qr 0)] : List Value).toArray below meth c H locs 0 0 Q (F0 m 0 ls []) by rw [eH, el] at goal; exact goal
  refine lv_aload_n hx hb dX8_readException_0 rfl (lv_at hl 0 rfl) ?_
  refine g_get cx hP iw_X8_readException_X8 0 rfl rfl 0 (by decide) rfl fw_X8_readException_20 rfl dX8_readException_1 ?_
  refine lv_aload_n hx hb dX8_readException_4 rfl (lv_at hl 0 rfl) ?_
  refine g_get cx hP iw_X8_readException_X8 0 rfl rfl 3 (by decide) rfl fw_X8_readException_31 rfl dX8_readException_5 ?_
  refine g_i (w1 := fun (u : Int32 × Int32) => [cell60_ qc qt (u.1) (u.2), cell49_ qt st, cell27_ k qt st]) (g_runV (wc := [cell58_ qc qt sc, cell49_ qt st, cell27_ k qt st]) (rest := []) cx hP hD hS [2, 3, 4] rfl (by decide) [.int (sr 0 3)] (c_X2_figure l D k b qc sc qt st H.size (sr 0 3) (show 0 ≤ (st 0 1).toInt ∧ (st 0 1).toInt ≤ 64 from by first | decide | omega)) gX8_readException_X2_figure rfl rfl rfl nd_X2_figure ⟨Nat.le_of_ble_eq_true rfl, Nat.le_of_ble_eq_true rfl⟩ (ci := 1) (q0 := 0) rfl rfl rfl hl.1 rfl (Nat.le_of_ble_eq_true rfl) ⟨Nat.zero_le _, Nat.zero_le _⟩ dX8_readException_8) cx.2.2.1 hP hD hS [2, 3, 4] rfl (fun _ => rfl) (fun r3 u2 H locs hw1 hP hD hS => ?_)
  obtain ⟨m4, m5⟩ := u2
  have hP : va_P D vwCl [cell93_ qr qc sr, cell0_ k qr sr, cell60_ qc qt m4 m5, cell49_ qt st, cell27_ k qt st] H := hP
  have hD : va_D A [cell93_ qr qc sr, cell0_ k qr sr, cell60_ qc qt m4 m5, cell49_ qt st, cell27_ k qt st] := hD
  replace hw1 : (r3.toInt = -9 ∨ (0 ≤ r3.toInt ∧ r3.toInt ≤ 9)) ∧ (Imp (0 ≤ (sr 0 3).toInt ∧ (sr 0 3).toInt ≤ 63) (r3.toInt ≤ 5)) ∧ (Imp (0 ≤ (sr 0 3).toInt ∧ (sr 0 3).toInt ≤ 31) (r3.toInt ≤ 4)) ∧ (Imp (0 ≤ (sr 0 3).toInt ∧ (sr 0 3).toInt ≤ 7) (r3.toInt ≤ 2)) ∧ ((r3, m4, m5) = J_X2_figure sc st (sr 0 3)) := hw1
  obtain ⟨w6, w7, w8, w9, w10⟩ := hw1
  have xr3 : r3.toInt ≤ 4 := w8 ⟨by omega, by omega⟩
  refine lv_istore_n (lv' := [(1, .int r3), (0, .ref (qr 0))]) hx hb dX8_readException_11 rfl hl (by decide) rfl (fun ls hl => ?_)
  refine lv_iload_n hx hb dX8_readException_12 rfl (lv_at hl 0 rfl) ?_
  refine lv_bipush (v := (-9)) hx hb dX8_readException_13 (by decide) ?_
  refine lv_icmp_ne (tgt := 19) hx hb dX8_readException_15 (by decide) (fun c12 => ?_) (fun c12 => ?_)
  · have f12 : ¬ r3.toInt = (-9) := f_ne rfl (by decide) c12
    refine lv_aload_n hx hb dX8_readException_19 rfl (lv_at hl 1 rfl) ?_
    refine g_get cx hP iw_X8_readException_X8 0 rfl rfl 0 (by decide) rfl fw_X8_readException_20 rfl dX8_readException_20 ?_
    refine lv_iconst (v := 0) hx hb dX8_readException_23 (by decide) ?_
    refine lv_iconst (v := 4) hx hb dX8_readException_24 (by decide) ?_
    have hlit13 : (0 : Int32).toInt = 0 := by decide
    have hlit14 : (4 : Int32).toInt = 4 := by decide
    refine g_ir (g_runS (wc := []) (rest := [.ref (qc 0)]) cx hP hD hS [] rfl (by decide) [.int 0, .int 4] (c_X2_figures l D k b H.size 0 4) gX8_readException_X2_figures rfl rfl rfl nd_X2_figures ⟨Nat.le_of_ble_eq_true rfl, Nat.le_of_ble_eq_true rfl⟩ rfl hl.1 rfl (Nat.le_of_ble_eq_true rfl) ⟨Nat.zero_le _, Nat.zero_le _⟩ dX8_readException_25) cx.2.2.1 hP hD hS [] rfl rfl (fun r16 H locs hw15 hP hS => ?_)
    have w17 : r16 = J_X2_figures (0 : Int32) (4 : Int32) := hw15
    clear hw15
    have zr16 : r16.toInt = 31 := by rw [w17]; decide
    refine g_i (w1 := fun (u : Int32 × Int32) => [cell60_ qc qt (u.1) (u.2), cell49_ qt st, cell27_ k qt st]) (g_runV (wc := [cell60_ qc qt m4 m5, cell49_ qt st, cell27_ k qt st]) (rest := []) cx hP hD hS [2, 3, 4] rfl (by decide) [.int r16] (c_X2_figure l D k b qc (up2 sc 0 (upd (upd (sc 0) 1 m4) 2 m5)) qt st H.size r16 (show 0 ≤ (st 0 1).toInt ∧ (st 0 1).toInt ≤ 64 from by first | decide | omega)) gX8_readException_X2_figure rfl rfl rfl nd_X2_figure ⟨Nat.le_of_ble_eq_true rfl, Nat.le_of_ble_eq_true rfl⟩ (ci := 1) (q0 := 0) rfl rfl rfl hl.1 rfl (Nat.le_of_ble_eq_true rfl) ⟨Nat.zero_le _, Nat.zero_le _⟩ dX8_readException_28) cx.2.2.1 hP hD hS [2, 3, 4] rfl (fun _ => rfl) (fun r20 u19 H locs hw18 hP hD hS => ?_)
    obtain ⟨m21, m22⟩ := u19
    have hP : va_P D vwCl [cell93_ qr qc sr, cell0_ k qr sr, cell60_ qc qt m21 m22, cell49_ qt st, cell27_ k qt st] H := hP
    have hD : va_D A [cell93_ qr qc sr, cell0_ k qr sr, cell60_ qc qt m21 m22, cell49_ qt st, cell27_ k qt st] := hD
    replace hw18 : (r20.toInt = -9 ∨ (0 ≤ r20.toInt ∧ r20.toInt ≤ 9)) ∧ (Imp (0 ≤ r16.toInt ∧ r16.toInt ≤ 63) (r20.toInt ≤ 5)) ∧ (Imp (0 ≤ r16.toInt ∧ r16.toInt ≤ 31) (r20.toInt ≤ 4)) ∧ (Imp (0 ≤ r16.toInt ∧ r16.toInt ≤ 7) (r20.toInt ≤ 2)) ∧ ((r20, m21, m22) = J_X2_figure (up2 sc 0 (upd (upd (sc 0) 1 m4) 2 m5)) st r16) := hw18
    obtain ⟨w23, w24, w25, w26, w27⟩ := hw18
    have xr20 : r20.toInt ≤ 4 := w25 ⟨by omega, by omega⟩
    refine lv_istore_n (lv' := [(2, .int r20), (1, .int r3), (0, .ref (qr 0))]) hx hb dX8_readException_31 rfl hl (by decide) rfl (fun ls hl => ?_)
    refine lv_iload_n hx hb dX8_readException_32 rfl (lv_at hl 0 rfl) ?_
    refine lv_bipush (v := (-9)) hx hb dX8_readException_33 (by decide) ?_
    refine lv_icmp_ne (tgt := 39) hx hb dX8_readException_35 (by decide) (fun c29 => ?_) (fun c29 => ?_)
    · have f29 : ¬ r20.toInt = (-9) := f_ne rfl (by decide) c29
      refine lv_aload_n hx hb dX8_readException_39 rfl (lv_at hl 2 rfl) ?_
      refine lv_dup hx hb dX8_readException_40 rfl ?_
      refine g_get cx hP iw_X8_readException_X8 0 rfl rfl 3 (by decide) rfl fw_X8_readException_31 rfl dX8_readException_41 ?_
      refine lv_iconst (v := 1) hx hb dX8_readException_44 (by decide) ?_
      refine lv_iload_n hx hb dX8_readException_45 rfl (lv_at hl 1 rfl) ?_
      refine lv_ishl hx hb dX8_readException_46 (lv_topi (fun v30 e30 => ?_))
      refine lv_iconst (v := (-1)) hx hb dX8_readException_47 (by decide) ?_
      refine lv_ixor hx hb dX8_readException_48 (lv_topi (fun v31 e31 => ?_))
      refine lv_iand hx hb dX8_readException_49 (lv_topi (fun v32 e32 => ?_))
      have t32 : 0 ≤ v32.toInt ∧ v32.toInt ≤ (sr 0 3).toInt := by rw [e32]; exact and_l rfl (by omega)
      refine g_pt cx hP hD hS iw_X8_readException_X8 tyX8 tyX8_ok nmX8 0 rfl rfl 3 (by decide) rfl fw_X8_readException_31 (ty := .int) rfl rfl rfl (Nat.le_of_ble_eq_true rfl) dX8_readException_50 (fun H locs hP hD hS => ?_)
      have hP : va_P D vwCl [cell134_ qr qc sr v32, cell0_ k qr sr, cell60_ qc qt m21 m22, cell49_ qt st, cell27_ k qt st] H := hP
      have hD : va_D A [cell134_ qr qc sr v32, cell0_ k qr sr, cell60_ qc qt m21 m22, cell49_ qt st, cell27_ k qt st] := hD
      refine lv_aload_n hx hb dX8_readException_53 rfl (lv_at hl 2 rfl) ?_
      refine g_get cx hP iw_X8_readException_X8 0 rfl rfl 1 (by decide) rfl fw_X8_readException_9 rfl dX8_readException_54 ?_
      refine lv_iload_n hx hb dX8_readException_57 rfl (lv_at hl 1 rfl) ?_
      refine lv_iload_n hx hb dX8_readException_58 rfl (lv_at hl 0 rfl) ?_
      have hn33 : vp_in r3 5 := f_in (a := r3.toInt) rfl (by omega) (by omega)
      refine va_iast hx hb cx.2.1 hP hD hS 1 0 rfl rfl hn33 dX8_readException_59 (fun H locs hP hD hS => ?_)
      obtain ⟨g34, eg34⟩ : ∃ g : Nat → Int32, g = upd (sr 1) (r3).toNatClampNeg r20 := ⟨_, rfl⟩
      rw [← eg34] at hP hD
      have hP : va_P D vwCl [cell134_ qr qc sr v32, (qr 1, .inl (k 0, 5, .inl g34)), cell60_ qc qt m21 m22, cell49_ qt st, cell27_ k qt st] H := hP
      have hD : va_D A [cell134_ qr qc sr v32, (qr 1, .inl (k 0, 5, .inl g34)), cell60_ qc qt m21 m22, cell49_ qt st, cell27_ k qt st] := hD
      rw [hQ]
      exact x_v cx hr (m21, m22, v32, g34) hP hD hS ⟨(show 0 ≤ v32.toInt ∧ v32.toInt ≤ 31 from by omega), (show (m21, m22, v32, g34) = J_X8_readException sr sc st from (exl_X8_readException_0 w17 e30 e31 e32 eg34 w10 c12 w27 c29))⟩ dX8_readException_60
    · have f29 : r20.toInt = (-9) := f_eq rfl (by decide) c29
      rw [hQ]
      exact x_v cx hr (m21, m22, (sr 0 3), (sr 1)) hP hD hS ⟨(show 0 ≤ (sr 0 3).toInt ∧ (sr 0 3).toInt ≤ 31 from by omega), (show (m21, m22, (sr 0 3), (sr 1)) = J_X8_readException sr sc st from (exl_X8_readException_1 w17 w10 c12 w27 c29))⟩ dX8_readException_38
  · have f12 : r3.toInt = (-9) := f_eq rfl (by decide) c12
    rw [hQ]
    exact x_v cx hr (m4, m5, (sr 0 3), (sr 1)) hP hD hS ⟨(show 0 ≤ (sr 0 3).toInt ∧ (sr 0 3).toInt ≤ 31 from by omega), (show (m4, m5, (sr 0 3), (sr 1)) = J_X8_readException sr sc st from (exl_X8_readException_2 w10 c12))⟩ dX8_readException_18
theorem fw_X8_readEnd_20 : Cond.fieldLink RX8 20 "StillInAugust$RuleReader" "cursor" "LStillInAugust$Cursor;" ∈ wsX8_readEnd := by decide +kernel
theorem fw_X8_readEnd_62 : Cond.fieldLink RX8 62 "StillInAugust$RuleReader" "otherLevel" "I" ∈ wsX8_readEnd := by decide +kernel
theorem nd_X2_hasMore : yX2_hasMore.cls = RX2 ∧ yX2_hasMore.cls ≠ "java/lang/invoke/MethodHandle" ∧ yX2_hasMore.cls ≠ "java/lang/invoke/VarHandle" ∧ (parseMethodDescriptor yX2_hasMore.desc).map (fun d => d.parameters.length) = some 0 := by decide +kernel
theorem nd_X2_stoppedAt : yX2_stoppedAt.cls = RX2 ∧ yX2_stoppedAt.cls ≠ "java/lang/invoke/MethodHandle" ∧ yX2_stoppedAt.cls ≠ "java/lang/invoke/VarHandle" ∧ (parseMethodDescriptor yX2_stoppedAt.desc).map (fun d => d.parameters.length) = some 0 := by decide +kernel
theorem iw_X8_readEnd_X8 : ∀ w ∈ u_ws RX8 TX8 4, w ∈ wsX8_readEnd := fun _ h => List.mem_cons_of_mem _ (List.mem_append_left _ (List.mem_append_left _ (List.mem_append_right _ h)))
def J_X8_readEnd (sr : Nat → Nat → Int32) (sc : Nat → Nat → Int32) (st : Nat → Nat → Int32) : Int32 × Int32 × Int32 := LetF (J_X2_stoppedAt sc st) (fun y4 => if y4 = (-9) then LetF (J_X2_here sc st) (fun y10 => if y10 = 76 then LetF (J_X2_step sc st) (fun y16 => LetF (J_X2_figure (up2 sc 0 (upd (sc 0) 1 y16)) st (J_X2_figures 0 4)) (fun y32 => if (y32.1) = (-9) then ((y32.2.1), (y32.2.2), (sr 0 2)) else LetF (J_X2_hasMore (up2 sc 0 (upd (upd (sc 0) 1 (y32.2.1)) 2 (y32.2.2))) st) (fun y38 => if y38 = 0 then ((y32.2.1), (y32.2.2), (y32.1)) else LetF (J_X2_stop (up2 sc 0 (upd (upd (sc 0) 1 (y32.2.1)) 2 (y32.2.2))) st) (fun y44 => ((y32.2.1), y44, (y32.1)))))) else LetF (J_X2_stop sc st) (fun y49 => ((sc 0 1), y49, (sr 0 2)))) else ((sc 0 1), (sc 0 2), (sr 0 2)))
theorem exl_X8_readEnd_0 {sr : Nat → Nat → Int32} {sc : Nat → Nat → Int32} {st : Nat → Nat → Int32} {m25 : Int32} {m26 : Int32} {r24 : Int32} {r20 : Int32} {r2 : Int32} {r7 : Int32} {m14 : Int32} {r35 : Int32} (w21 : r20 = J_X2_figures (0 : Int32) (4 : Int32)) (w3 : r2 = J_X2_stoppedAt sc st) (c5 : r2 = ((-9) : Int32)) (w9 : r7 = J_X2_here sc st) (c11 : r7 = (76 : Int32)) (w15 : m14 = J_X2_step sc st) (w31 : (r24, m25, m26) = J_X2_figure (up2 sc 0 (upd (sc 0) 1 m14)) st r20) (c33 : ¬ (r24 = ((-9) : Int32))) (w37 : r35 = J_X2_hasMore (up2 sc 0 (upd (upd (sc 0) 1 m25) 2 m26)) st) (c39 : r35 = (0 : Int32)) : (m25, m26, r24) = J_X8_readEnd sr sc st := by subst w21; refine Eq.symm ?_; unfold J_X8_readEnd; refine lt_e w3 ?_; refine Eq.trans (if_pos c5) ?_; refine lt_e w9 ?_; refine Eq.trans (if_pos c11) ?_; refine lt_e w15 ?_; refine lt_e w31 ?_; refine Eq.trans (if_neg c33) ?_; refine lt_e w37 ?_; refine Eq.trans (if_pos c39) ?_; rfl
theorem exl_X8_readEnd_1 {sr : Nat → Nat → Int32} {sc : Nat → Nat → Int32} {st : Nat → Nat → Int32} {m25 : Int32} {m42 : Int32} {r24 : Int32} {r20 : Int32} {r2 : Int32} {r7 : Int32} {m14 : Int32} {m26 : Int32} {r35 : Int32} (w21 : r20 = J_X2_figures (0 : Int32) (4 : Int32)) (w3 : r2 = J_X2_stoppedAt sc st) (c5 : r2 = ((-9) : Int32)) (w9 : r7 = J_X2_here sc st) (c11 : r7 = (76 : Int32)) (w15 : m14 = J_X2_step sc st) (w31 : (r24, m25, m26) = J_X2_figure (up2 sc 0 (upd (sc 0) 1 m14)) st r20) (c33 : ¬ (r24 = ((-9) : Int32))) (w37 : r35 = J_X2_hasMore (up2 sc 0 (upd (upd (sc 0) 1 m25) 2 m26)) st) (c39 : ¬ (r35 = (0 : Int32))) (w43 : m42 = J_X2_stop (up2 sc 0 (upd (upd (sc 0) 1 m25) 2 m26)) st) : (m25, m42, r24) = J_X8_readEnd sr sc st := by subst w21; refine Eq.symm ?_; unfold J_X8_readEnd; refine lt_e w3 ?_; refine Eq.trans (if_pos c5) ?_; refine lt_e w9 ?_; refine Eq.trans (if_pos c11) ?_; refine lt_e w15 ?_; refine lt_e w31 ?_; refine Eq.trans (if_neg c33) ?_; refine lt_e w37 ?_; refine Eq.trans (if_neg c39) ?_; refine lt_e w43 ?_; rfl
theorem exl_X8_readEnd_2 {sr : Nat → Nat → Int32} {sc : Nat → Nat → Int32} {st : Nat → Nat → Int32} {m25 : Int32} {m26 : Int32} {r20 : Int32} {r2 : Int32} {r7 : Int32} {m14 : Int32} {r24 : Int32} (w21 : r20 = J_X2_figures (0 : Int32) (4 : Int32)) (w3 : r2 = J_X2_stoppedAt sc st) (c5 : r2 = ((-9) : Int32)) (w9 : r7 = J_X2_here sc st) (c11 : r7 = (76 : Int32)) (w15 : m14 = J_X2_step sc st) (w31 : (r24, m25, m26) = J_X2_figure (up2 sc 0 (upd (sc 0) 1 m14)) st r20) (c33 : r24 = ((-9) : Int32)) : (m25, m26, (sr 0 2)) = J_X8_readEnd sr sc st := by subst w21; refine Eq.symm ?_; unfold J_X8_readEnd; refine lt_e w3 ?_; refine Eq.trans (if_pos c5) ?_; refine lt_e w9 ?_; refine Eq.trans (if_pos c11) ?_; refine lt_e w15 ?_; refine lt_e w31 ?_; refine Eq.trans (if_pos c33) ?_; rfl
theorem exl_X8_readEnd_3 {sr : Nat → Nat → Int32} {sc : Nat → Nat → Int32} {st : Nat → Nat → Int32} {m47 : Int32} {r2 : Int32} {r7 : Int32} (w3 : r2 = J_X2_stoppedAt sc st) (c5 : r2 = ((-9) : Int32)) (w9 : r7 = J_X2_here sc st) (c11 : ¬ (r7 = (76 : Int32))) (w48 : m47 = J_X2_stop sc st) : ((sc 0 1), m47, (sr 0 2)) = J_X8_readEnd sr sc st := by refine Eq.symm ?_; unfold J_X8_readEnd; refine lt_e w3 ?_; refine Eq.trans (if_pos c5) ?_; refine lt_e w9 ?_; refine Eq.trans (if_neg c11) ?_; refine lt_e w48 ?_; rfl
theorem exl_X8_readEnd_4 {sr : Nat → Nat → Int32} {sc : Nat → Nat → Int32} {st : Nat → Nat → Int32} {r2 : Int32} (w3 : r2 = J_X2_stoppedAt sc st) (c5 : ¬ (r2 = ((-9) : Int32))) : ((sc 0 1), (sc 0 2), (sr 0 2)) = J_X8_readEnd sr sc st := by refine Eq.symm ?_; unfold J_X8_readEnd; refine lt_e w3 ?_; refine Eq.trans (if_neg c5) ?_; rfl
set_option maxHeartbeats 4000000 in
set_option maxRecDepth 100000 in
theorem c_X8_readEnd (l : Launch) (D : va_G) (k : Nat → ClassId) (b : Nat → Nat) (qr : Nat → Nat) (sr : Nat → Nat → Int32) (qc : Nat → Nat) (sc : Nat → Nat → Int32) (qt : Nat → Nat) (st : Nat → Nat → Int32) (sz : Nat) (h_len : 0 ≤ (st 0 1).toInt ∧ (st 0 1).toInt ≤ 64) : MetV l D k b yX8_readEnd wsX8_readEnd ({ frames := 3, cells := 0, slots := 0, locals := 63 } : Room) [cell93_ qr qc sr, cell0_ k qr sr, cell58_ qc qt sc, cell49_ qt st, cell27_ k qt st] sz [.ref (qr 0)] (fun (u : Int32 × Int32 × Int32) => ((u.1), (u.2.1), (u.2.2)) = J_X8_readEnd sr sc st) (fun u => [cell197_ qr qc sr (u.2.2), cell0_ k qr sr, cell60_ qc qt (u.1) (u.2.1), cell49_ qt st, cell27_ k qt st]) := by
  refine g_enter (cc := cX8_readEnd) (maxL := 2) (ret := none) (by decide) rfl (Nat.le_of_ble_eq_true rfl) ?_
  intro p e s m below meth c A hsz hAe cx hr hP hD hS ls hl
  rw [hAe]
  refine g_q (fun Q hQ => ?_)
  have hx := cx.1.1
  have hb := cx.1.2.1
  have hl : lv_has ls 2 [(0, .ref (qr 0))] := hl
  obtain ⟨H, eH⟩ : ∃ H : Heap, H = s.heap := ⟨_, rfl⟩
  obtain ⟨locs, el⟩ : ∃ L : List Loc, L = [] := ⟨_, rfl⟩
  have hP : va_P D vwCl [cell93_ qr qc sr, cell0_ k qr sr, cell58_ qc qt sc, cell49_ qt st, cell27_ k qt st] H := by rw [eH]; exact hP
  have hD : va_D A [cell93_ qr qc sr, cell0_ k qr sr, cell58_ qc qt sc, cell49_ qt st, cell27_ k qt st] := hD
  have hS : va_S A s.heap H locs := by rw [eH, el]; exact hS
  suffices goal : W p l e ({ frames := 3, cells := 0, slots := 0, locals := 63 } : Room) s m ([.ref (qr 0)] : List Value).toArray below meth c H locs 0 0 Q (F0 m 0 ls []) by rw [eH, el] at goal; exact goal
  refine lv_aload_n hx hb dX8_readEnd_0 rfl (lv_at hl 0 rfl) ?_
  refine g_get cx hP iw_X8_readEnd_X8 0 rfl rfl 0 (by decide) rfl fw_X8_readEnd_20 rfl dX8_readEnd_1 ?_
  refine g_ir (g_runV (wc := [cell58_ qc qt sc, cell49_ qt st, cell27_ k qt st]) (rest := []) cx hP hD hS [2, 3, 4] rfl (by decide) [] (c_X2_stoppedAt l D k b qc sc qt st H.size) gX8_readEnd_X2_stoppedAt rfl rfl rfl nd_X2_stoppedAt ⟨Nat.le_of_ble_eq_true rfl, Nat.le_of_ble_eq_true rfl⟩ (ci := 1) (q0 := 0) rfl rfl rfl hl.1 rfl (Nat.le_of_ble_eq_true rfl) ⟨Nat.zero_le _, Nat.zero_le _⟩ dX8_readEnd_4) cx.2.2.1 hP hD hS [2, 3, 4] rfl rfl (fun r2 H locs hw1 hP hS => ?_)
  have w3 : r2 = J_X2_stoppedAt sc st := hw1
  clear hw1
  refine lv_bipush (v := (-9)) hx hb dX8_readEnd_7 (by decide) ?_
  refine lv_icmp_eq (tgt := 13) hx hb dX8_readEnd_9 (by decide) (fun c5 => ?_) (fun c5 => ?_)
  · have f5 : r2.toInt = (-9) := f_eq rfl (by decide) c5
    refine lv_aload_n hx hb dX8_readEnd_13 rfl (lv_at hl 0 rfl) ?_
    refine g_get cx hP iw_X8_readEnd_X8 0 rfl rfl 0 (by decide) rfl fw_X8_readEnd_20 rfl dX8_readEnd_14 ?_
    refine g_ir (g_runV (wc := [cell58_ qc qt sc, cell49_ qt st, cell27_ k qt st]) (rest := []) cx hP hD hS [2, 3, 4] rfl (by decide) [] (c_X2_here l D k b qc sc qt st H.size (show 0 ≤ (st 0 1).toInt ∧ (st 0 1).toInt ≤ 64 from by first | decide | omega)) gX8_readEnd_X2_here rfl rfl rfl nd_X2_here ⟨Nat.le_of_ble_eq_true rfl, Nat.le_of_ble_eq_true rfl⟩ (ci := 1) (q0 := 0) rfl rfl rfl hl.1 rfl (Nat.le_of_ble_eq_true rfl) ⟨Nat.zero_le _, Nat.zero_le _⟩ dX8_readEnd_17) cx.2.2.1 hP hD hS [2, 3, 4] rfl rfl (fun r7 H locs hw6 hP hS => ?_)
    replace hw6 : (-9 ≤ r7.toInt ∧ r7.toInt ≤ 255) ∧ (r7 = J_X2_here sc st) := hw6
    obtain ⟨w8, w9⟩ := hw6
    refine lv_bipush (v := 76) hx hb dX8_readEnd_20 (by decide) ?_
    refine lv_icmp_eq (tgt := 33) hx hb dX8_readEnd_22 (by decide) (fun c11 => ?_) (fun c11 => ?_)
    · have f11 : r7.toInt = 76 := f_eq rfl (by decide) c11
      refine lv_aload_n hx hb dX8_readEnd_33 rfl (lv_at hl 0 rfl) ?_
      refine g_get cx hP iw_X8_readEnd_X8 0 rfl rfl 0 (by decide) rfl fw_X8_readEnd_20 rfl dX8_readEnd_34 ?_
      refine g_v (w1 := fun (u : Int32) => [cell101_ qc qt sc u, cell49_ qt st, cell27_ k qt st]) (g_runV (wc := [cell58_ qc qt sc, cell49_ qt st, cell27_ k qt st]) (rest := []) cx hP hD hS [2, 3, 4] rfl (by decide) [] (c_X2_step l D k b qc sc qt st H.size) gX8_readEnd_X2_step rfl rfl rfl nd_X2_step ⟨Nat.le_of_ble_eq_true rfl, Nat.le_of_ble_eq_true rfl⟩ (ci := 1) (q0 := 0) rfl rfl rfl hl.1 rfl (Nat.le_of_ble_eq_true rfl) ⟨Nat.zero_le _, Nat.zero_le _⟩ dX8_readEnd_37) cx.2.2.1 hP hD hS [2, 3, 4] rfl (fun _ => rfl) (fun u13 H locs hw12 hP hD hS => ?_)
      obtain ⟨m14, rfl⟩ : ∃ z, z = u13 := ⟨_, rfl⟩
      have hP : va_P D vwCl [cell93_ qr qc sr, cell0_ k qr sr, cell101_ qc qt sc m14, cell49_ qt st, cell27_ k qt st] H := hP
      have hD : va_D A [cell93_ qr qc sr, cell0_ k qr sr, cell101_ qc qt sc m14, cell49_ qt st, cell27_ k qt st] := hD
      have w15 : m14 = J_X2_step sc st := hw12
      clear hw12
      refine lv_aload_n hx hb dX8_readEnd_40 rfl (lv_at hl 0 rfl) ?_
      refine g_get cx hP iw_X8_readEnd_X8 0 rfl rfl 0 (by decide) rfl fw_X8_readEnd_20 rfl dX8_readEnd_41 ?_
      refine lv_iconst (v := 0) hx hb dX8_readEnd_44 (by decide) ?_
      refine lv_iconst (v := 4) hx hb dX8_readEnd_45 (by decide) ?_
      have hlit17 : (0 : Int32).toInt = 0 := by decide
      have hlit18 : (4 : Int32).toInt = 4 := by decide
      refine g_ir (g_runS (wc := []) (rest := [.ref (qc 0)]) cx hP hD hS [] rfl (by decide) [.int 0, .int 4] (c_X2_figures l D k b H.size 0 4) gX8_readEnd_X2_figures rfl rfl rfl nd_X2_figures ⟨Nat.le_of_ble_eq_true rfl, Nat.le_of_ble_eq_true rfl⟩ rfl hl.1 rfl (Nat.le_of_ble_eq_true rfl) ⟨Nat.zero_le _, Nat.zero_le _⟩ dX8_readEnd_46) cx.2.2.1 hP hD hS [] rfl rfl (fun r20 H locs hw19 hP hS => ?_)
      have w21 : r20 = J_X2_figures (0 : Int32) (4 : Int32) := hw19
      clear hw19
      have zr20 : r20.toInt = 31 := by rw [w21]; decide
      refine g_i (w1 := fun (u : Int32 × Int32) => [cell60_ qc qt (u.1) (u.2), cell49_ qt st, cell27_ k qt st]) (g_runV (wc := [cell101_ qc qt sc m14, cell49_ qt st, cell27_ k qt st]) (rest := []) cx hP hD hS [2, 3, 4] rfl (by decide) [.int r20] (c_X2_figure l D k b qc (up2 sc 0 (upd (sc 0) 1 m14)) qt st H.size r20 (show 0 ≤ (st 0 1).toInt ∧ (st 0 1).toInt ≤ 64 from by first | decide | omega)) gX8_readEnd_X2_figure rfl rfl rfl nd_X2_figure ⟨Nat.le_of_ble_eq_true rfl, Nat.le_of_ble_eq_true rfl⟩ (ci := 1) (q0 := 0) rfl rfl rfl hl.1 rfl (Nat.le_of_ble_eq_true rfl) ⟨Nat.zero_le _, Nat.zero_le _⟩ dX8_readEnd_49) cx.2.2.1 hP hD hS [2, 3, 4] rfl (fun _ => rfl) (fun r24 u23 H locs hw22 hP hD hS => ?_)
      obtain ⟨m25, m26⟩ := u23
      have hP : va_P D vwCl [cell93_ qr qc sr, cell0_ k qr sr, cell60_ qc qt m25 m26, cell49_ qt st, cell27_ k qt st] H := hP
      have hD : va_D A [cell93_ qr qc sr, cell0_ k qr sr, cell60_ qc qt m25 m26, cell49_ qt st, cell27_ k qt st] := hD
      replace hw22 : (r24.toInt = -9 ∨ (0 ≤ r24.toInt ∧ r24.toInt ≤ 9)) ∧ (Imp (0 ≤ r20.toInt ∧ r20.toInt ≤ 63) (r24.toInt ≤ 5)) ∧ (Imp (0 ≤ r20.toInt ∧ r20.toInt ≤ 31) (r24.toInt ≤ 4)) ∧ (Imp (0 ≤ r20.toInt ∧ r20.toInt ≤ 7) (r24.toInt ≤ 2)) ∧ ((r24, m25, m26) = J_X2_figure (up2 sc 0 (upd (sc 0) 1 m14)) st r20) := hw22
      obtain ⟨w27, w28, w29, w30, w31⟩ := hw22
      have xr24 : r24.toInt ≤ 4 := w29 ⟨by omega, by omega⟩
      refine lv_istore_n (lv' := [(1, .int r24), (0, .ref (qr 0))]) hx hb dX8_readEnd_52 rfl hl (by decide) rfl (fun ls hl => ?_)
      refine lv_iload_n hx hb dX8_readEnd_53 rfl (lv_at hl 0 rfl) ?_
      refine lv_bipush (v := (-9)) hx hb dX8_readEnd_54 (by decide) ?_
      refine lv_icmp_ne (tgt := 60) hx hb dX8_readEnd_56 (by decide) (fun c33 => ?_) (fun c33 => ?_)
      · have f33 : ¬ r24.toInt = (-9) := f_ne rfl (by decide) c33
        refine lv_aload_n hx hb dX8_readEnd_60 rfl (lv_at hl 1 rfl) ?_
        refine lv_iload_n hx hb dX8_readEnd_61 rfl (lv_at hl 0 rfl) ?_
        refine g_pt cx hP hD hS iw_X8_readEnd_X8 tyX8 tyX8_ok nmX8 0 rfl rfl 2 (by decide) rfl fw_X8_readEnd_62 (ty := .int) rfl rfl rfl (Nat.le_of_ble_eq_true rfl) dX8_readEnd_62 (fun H locs hP hD hS => ?_)
        have hP : va_P D vwCl [cell197_ qr qc sr r24, cell0_ k qr sr, cell60_ qc qt m25 m26, cell49_ qt st, cell27_ k qt st] H := hP
        have hD : va_D A [cell197_ qr qc sr r24, cell0_ k qr sr, cell60_ qc qt m25 m26, cell49_ qt st, cell27_ k qt st] := hD
        refine lv_aload_n hx hb dX8_readEnd_65 rfl (lv_at hl 1 rfl) ?_
        refine g_get cx hP iw_X8_readEnd_X8 0 rfl rfl 0 (by decide) rfl fw_X8_readEnd_20 rfl dX8_readEnd_66 ?_
        refine g_ir (g_runV (wc := [cell60_ qc qt m25 m26, cell49_ qt st, cell27_ k qt st]) (rest := []) cx hP hD hS [2, 3, 4] rfl (by decide) [] (c_X2_hasMore l D k b qc (up2 sc 0 (upd (upd (sc 0) 1 m25) 2 m26)) qt st H.size) gX8_readEnd_X2_hasMore rfl rfl rfl nd_X2_hasMore ⟨Nat.le_of_ble_eq_true rfl, Nat.le_of_ble_eq_true rfl⟩ (ci := 1) (q0 := 0) rfl rfl rfl hl.1 rfl (Nat.le_of_ble_eq_true rfl) ⟨Nat.zero_le _, Nat.zero_le _⟩ dX8_readEnd_69) cx.2.2.1 hP hD hS [2, 3, 4] rfl rfl (fun r35 H locs hw34 hP hS => ?_)
        replace hw34 : (0 ≤ r35.toInt ∧ r35.toInt ≤ 1) ∧ (r35 = J_X2_hasMore (up2 sc 0 (upd (upd (sc 0) 1 m25) 2 m26)) st) := hw34
        obtain ⟨w36, w37⟩ := hw34
        refine lv_if_eq (tgt := 82) hx hb dX8_readEnd_72 (by decide) (fun c39 => ?_) (fun c39 => ?_)
        · have f39 : r35.toInt = 0 := f_eq rfl (by decide) c39
          rw [hQ]
          exact x_v cx hr (m25, m26, r24) hP hD hS (show (m25, m26, r24) = J_X8_readEnd sr sc st from (exl_X8_readEnd_0 w21 w3 c5 w9 c11 w15 w31 c33 w37 c39)) dX8_readEnd_82
        · have f39 : ¬ r35.toInt = 0 := f_ne rfl (by decide) c39
          refine lv_aload_n hx hb dX8_readEnd_75 rfl (lv_at hl 1 rfl) ?_
          refine g_get cx hP iw_X8_readEnd_X8 0 rfl rfl 0 (by decide) rfl fw_X8_readEnd_20 rfl dX8_readEnd_76 ?_
          refine g_v (w1 := fun (u : Int32) => [cell60_ qc qt m25 u, cell49_ qt st, cell27_ k qt st]) (g_runV (wc := [cell60_ qc qt m25 m26, cell49_ qt st, cell27_ k qt st]) (rest := []) cx hP hD hS [2, 3, 4] rfl (by decide) [] (c_X2_stop l D k b qc (up2 sc 0 (upd (upd (sc 0) 1 m25) 2 m26)) qt st H.size) gX8_readEnd_X2_stop rfl rfl rfl nd_X2_stop ⟨Nat.le_of_ble_eq_true rfl, Nat.le_of_ble_eq_true rfl⟩ (ci := 1) (q0 := 0) rfl rfl rfl hl.1 rfl (Nat.le_of_ble_eq_true rfl) ⟨Nat.zero_le _, Nat.zero_le _⟩ dX8_readEnd_79) cx.2.2.1 hP hD hS [2, 3, 4] rfl (fun _ => rfl) (fun u41 H locs hw40 hP hD hS => ?_)
          obtain ⟨m42, rfl⟩ : ∃ z, z = u41 := ⟨_, rfl⟩
          have hP : va_P D vwCl [cell197_ qr qc sr r24, cell0_ k qr sr, cell60_ qc qt m25 m42, cell49_ qt st, cell27_ k qt st] H := hP
          have hD : va_D A [cell197_ qr qc sr r24, cell0_ k qr sr, cell60_ qc qt m25 m42, cell49_ qt st, cell27_ k qt st] := hD
          have w43 : m42 = J_X2_stop (up2 sc 0 (upd (upd (sc 0) 1 m25) 2 m26)) st := hw40
          clear hw40
          rw [hQ]
          exact x_v cx hr (m25, m42, r24) hP hD hS (show (m25, m42, r24) = J_X8_readEnd sr sc st from (exl_X8_readEnd_1 w21 w3 c5 w9 c11 w15 w31 c33 w37 c39 w43)) dX8_readEnd_82
      · have f33 : r24.toInt = (-9) := f_eq rfl (by decide) c33
        rw [hQ]
        exact x_v cx hr (m25, m26, (sr 0 2)) hP hD hS (show (m25, m26, (sr 0 2)) = J_X8_readEnd sr sc st from (exl_X8_readEnd_2 w21 w3 c5 w9 c11 w15 w31 c33)) dX8_readEnd_59
    · have f11 : ¬ r7.toInt = 76 := f_ne rfl (by decide) c11
      refine lv_aload_n hx hb dX8_readEnd_25 rfl (lv_at hl 0 rfl) ?_
      refine g_get cx hP iw_X8_readEnd_X8 0 rfl rfl 0 (by decide) rfl fw_X8_readEnd_20 rfl dX8_readEnd_26 ?_
      refine g_v (w1 := fun (u : Int32) => [cell96_ qc qt sc u, cell49_ qt st, cell27_ k qt st]) (g_runV (wc := [cell58_ qc qt sc, cell49_ qt st, cell27_ k qt st]) (rest := []) cx hP hD hS [2, 3, 4] rfl (by decide) [] (c_X2_stop l D k b qc sc qt st H.size) gX8_readEnd_X2_stop rfl rfl rfl nd_X2_stop ⟨Nat.le_of_ble_eq_true rfl, Nat.le_of_ble_eq_true rfl⟩ (ci := 1) (q0 := 0) rfl rfl rfl hl.1 rfl (Nat.le_of_ble_eq_true rfl) ⟨Nat.zero_le _, Nat.zero_le _⟩ dX8_readEnd_29) cx.2.2.1 hP hD hS [2, 3, 4] rfl (fun _ => rfl) (fun u46 H locs hw45 hP hD hS => ?_)
      obtain ⟨m47, rfl⟩ : ∃ z, z = u46 := ⟨_, rfl⟩
      have hP : va_P D vwCl [cell93_ qr qc sr, cell0_ k qr sr, cell96_ qc qt sc m47, cell49_ qt st, cell27_ k qt st] H := hP
      have hD : va_D A [cell93_ qr qc sr, cell0_ k qr sr, cell96_ qc qt sc m47, cell49_ qt st, cell27_ k qt st] := hD
      have w48 : m47 = J_X2_stop sc st := hw45
      clear hw45
      rw [hQ]
      exact x_v cx hr ((sc 0 1), m47, (sr 0 2)) hP hD hS (show ((sc 0 1), m47, (sr 0 2)) = J_X8_readEnd sr sc st from (exl_X8_readEnd_3 w3 c5 w9 c11 w48)) dX8_readEnd_32
  · have f5 : ¬ r2.toInt = (-9) := f_ne rfl (by decide) c5
    rw [hQ]
    exact x_v cx hr ((sc 0 1), (sc 0 2), (sr 0 2)) hP hD hS (show ((sc 0 1), (sc 0 2), (sr 0 2)) = J_X8_readEnd sr sc st from (exl_X8_readEnd_4 w3 c5)) dX8_readEnd_12
