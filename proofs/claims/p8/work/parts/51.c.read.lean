theorem fw_X8_readException_20 : Cond.fieldLink RX8 20 "StillInAugust$RuleReader" "cursor" "LStillInAugust$Cursor;" ∈ wsX8_readException := by decide +kernel
theorem fw_X8_readException_31 : Cond.fieldLink RX8 31 "StillInAugust$RuleReader" "untoldWeeks" "I" ∈ wsX8_readException := by decide +kernel
theorem fw_X8_readException_9 : Cond.fieldLink RX8 9 "StillInAugust$RuleReader" "exceptLevel" "[I" ∈ wsX8_readException := by decide +kernel
theorem iw_X8_readException_X8 : ∀ w ∈ u_ws RX8 TX8 4, w ∈ wsX8_readException := fun _ h => List.mem_cons_of_mem _ (List.mem_append_left _ (List.mem_append_left _ (List.mem_append_right _ h)))
def J_X8_readException (sr : Nat → Nat → Int32) (sc : Nat → Nat → Int32) (st : Nat → Nat → Int32) : Int32 × Int32 × Int32 × (Nat → Int32) := let y11 := J_X2_figure sc st (sr 0 3); if (y11.1) = (-9) then ((y11.2.1), (y11.2.2), (sr 0 3), (sr 1)) else let y31 := J_X2_figure (up2 sc 0 (upd (upd (sc 0) 1 (y11.2.1)) 2 (y11.2.2))) st (J_X2_figures 0 4); if (y31.1) = (-9) then ((y31.2.1), (y31.2.2), (sr 0 3), (sr 1)) else ((y31.2.1), (y31.2.2), ((sr 0 3) &&& (((1 : Int32) <<< ((y11.1) &&& 31)) ^^^ ((-1) : Int32))), (upd (sr 1) ((y11.1)).toNatClampNeg (y31.1)))
set_option maxHeartbeats 4000000 in
set_option maxRecDepth 100000 in
theorem c_X8_readException (l : Launch) (D : va_G) (k : Nat → ClassId) (b : Nat → Nat) (qr : Nat → Nat) (sr : Nat → Nat → Int32) (qc : Nat → Nat) (sc : Nat → Nat → Int32) (qt : Nat → Nat) (st : Nat → Nat → Int32) (sz : Nat) (h_len : 0 ≤ (st 0 1).toInt ∧ (st 0 1).toInt ≤ 64) (u_w : 0 ≤ (sr 0 3).toInt ∧ (sr 0 3).toInt ≤ 31) : MetV l D k b yX8_readException wsX8_readException ({ frames := 3, cells := 0, slots := 0, locals := 63 } : Room) [cell93_ qr qc sr, cell0_ k qr sr, cell58_ qc qt sc, cell49_ qt st, cell27_ k qt st] sz [.ref (qr 0)] (fun (u : Int32 × Int32 × Int32 × (Nat → Int32)) => (0 ≤ (u.2.2.1).toInt ∧ (u.2.2.1).toInt ≤ 31) ∧ (((u.1), (u.2.1), (u.2.2.1), (u.2.2.2)) = J_X8_readException sr sc st)) (fun u => [cell133_ qr qc sr (u.2.2.1), cell86_ k qr (u.2.2.2), cell60_ qc qt (u.1) (u.2.1), cell49_ qt st, cell27_ k qt st]) := by
  refine g_enter (cc := cX8_readException) (maxL := 3) (ret := none) (by decide) rfl (Nat.le_of_ble_eq_true rfl) ?_
  intro p e s m below meth c A hsz hAe cx hr hP hD hS ls hl
  rw [hAe]
  refine g_q (fun Q hQ => ?_)
  have hx := cx.1.1
  have hb := cx.1.2.1
  have hl : lv_has ls 3 [(0, .ref (qr 0))] := hl
  obtain ⟨H, eH⟩ : ∃ H : Heap, H = s.heap := ⟨_, rfl⟩
  obtain ⟨locs, el⟩ : ∃ L : List Loc, L = [] := ⟨_, rfl⟩
  have hP : va_P D vwCl [cell93_ qr qc sr, cell0_ k qr sr, cell58_ qc qt sc, cell49_ qt st, cell27_ k qt st] H := by rw [eH]; exact hP
  have hD : va_D A [cell93_ qr qc sr, cell0_ k qr sr, cell58_ qc qt sc, cell49_ qt st, cell27_ k qt st] := hD
  have hS : va_S A s.heap H locs := by rw [eH, el]; exact hS
  suffices goal : W p l e ({ frames := 3, cells := 0, slots := 0, locals := 63 } : Room) s m ([.ref (qr 0)] : List Value).toArray below meth c H locs 0 0 Q (F0 m 0 ls []) by rw [eH, el] at goal; exact goal
  refine lv_aload_n hx hb dX8_readException_0 rfl (lv_at hl 0 rfl) ?_
  refine g_get cx hP iw_X8_readException_X8 0 rfl rfl 0 (by decide) rfl fw_X8_readException_20 rfl dX8_readException_1 ?_
  refine lv_aload_n hx hb dX8_readException_4 rfl (lv_at hl 0 rfl) ?_
  refine g_get cx hP iw_X8_readException_X8 0 rfl rfl 3 (by decide) rfl fw_X8_readException_31 rfl dX8_readException_5 ?_
  refine g_i (w1 := fun (u : Int32 × Int32) => [cell60_ qc qt (u.1) (u.2), cell49_ qt st, cell27_ k qt st]) (g_runV (wc := [cell58_ qc qt sc, cell49_ qt st, cell27_ k qt st]) (rest := []) cx hP hD hS [2, 3, 4] rfl (by decide) [.int (sr 0 3)] (c_X2_figure l D k b qc sc qt st H.size (sr 0 3) (show 0 ≤ (st 0 1).toInt ∧ (st 0 1).toInt ≤ 64 from by first | decide | omega)) gX8_readException_X2_figure rfl rfl rfl nd_X2_figure ⟨Nat.le_of_ble_eq_true rfl, Nat.le_of_ble_eq_true rfl⟩ (ci := 1) (q0 := 0) rfl rfl rfl hl.1 rfl (Nat.le_of_ble_eq_true rfl) ⟨Nat.zero_le _, Nat.zero_le _⟩ dX8_readException_8) cx.2.2.1 hP hD hS [2, 3, 4] rfl (fun _ => rfl) (fun r3 u2 H locs hw1 hP hD hS => ?_)
  obtain ⟨m4, m5⟩ := u2
  have hP : va_P D vwCl [cell93_ qr qc sr, cell0_ k qr sr, cell60_ qc qt m4 m5, cell49_ qt st, cell27_ k qt st] H := hP
  have hD : va_D A [cell93_ qr qc sr, cell0_ k qr sr, cell60_ qc qt m4 m5, cell49_ qt st, cell27_ k qt st] := hD
  replace hw1 : (r3.toInt = -9 ∨ (0 ≤ r3.toInt ∧ r3.toInt ≤ 9)) ∧ (Imp (0 ≤ (sr 0 3).toInt ∧ (sr 0 3).toInt ≤ 63) (r3.toInt ≤ 5)) ∧ (Imp (0 ≤ (sr 0 3).toInt ∧ (sr 0 3).toInt ≤ 31) (r3.toInt ≤ 4)) ∧ (Imp (0 ≤ (sr 0 3).toInt ∧ (sr 0 3).toInt ≤ 7) (r3.toInt ≤ 2)) ∧ ((r3, m4, m5) = J_X2_figure sc st (sr 0 3)) := hw1
  obtain ⟨w6, w7, w8, w9, w10⟩ := hw1
  have k12 : r3 = ((J_X2_figure sc st (sr 0 3)).1) := congrArg (fun z => (z.1)) w10
  have k13 : m4 = ((J_X2_figure sc st (sr 0 3)).2.1) := congrArg (fun z => (z.2.1)) w10
  have k14 : m5 = ((J_X2_figure sc st (sr 0 3)).2.2) := congrArg (fun z => (z.2.2)) w10
  have xr3 : r3.toInt ≤ 4 := w8 ⟨by omega, by omega⟩
  refine lv_istore_n (lv' := [(1, .int r3), (0, .ref (qr 0))]) hx hb dX8_readException_11 rfl hl (by decide) rfl (fun ls hl => ?_)
  refine lv_iload_n hx hb dX8_readException_12 rfl (lv_at hl 0 rfl) ?_
  refine lv_bipush (v := (-9)) hx hb dX8_readException_13 (by decide) ?_
  refine lv_icmp_ne (tgt := 19) hx hb dX8_readException_15 (by decide) (fun c15 => ?_) (fun c15 => ?_)
  · have f15 : ¬ r3.toInt = (-9) := f_ne rfl (by decide) c15
    refine lv_aload_n hx hb dX8_readException_19 rfl (lv_at hl 1 rfl) ?_
    refine g_get cx hP iw_X8_readException_X8 0 rfl rfl 0 (by decide) rfl fw_X8_readException_20 rfl dX8_readException_20 ?_
    refine lv_iconst (v := 0) hx hb dX8_readException_23 (by decide) ?_
    refine lv_iconst (v := 4) hx hb dX8_readException_24 (by decide) ?_
    have hlit16 : (0 : Int32).toInt = 0 := by decide
    have hlit17 : (4 : Int32).toInt = 4 := by decide
    refine g_ir (g_runS (wc := []) (rest := [.ref (qc 0)]) cx hP hD hS [] rfl (by decide) [.int 0, .int 4] (c_X2_figures l D k b H.size 0 4) gX8_readException_X2_figures rfl rfl rfl nd_X2_figures ⟨Nat.le_of_ble_eq_true rfl, Nat.le_of_ble_eq_true rfl⟩ rfl hl.1 rfl (Nat.le_of_ble_eq_true rfl) ⟨Nat.zero_le _, Nat.zero_le _⟩ dX8_readException_25) cx.2.2.1 hP hD hS [] rfl rfl (fun r19 H locs hw18 hP hS => ?_)
    have w20 : r19 = J_X2_figures (0 : Int32) (4 : Int32) := hw18
    clear hw18
    have zr19 : r19.toInt = 31 := by rw [w20]; decide
    refine g_i (w1 := fun (u : Int32 × Int32) => [cell60_ qc qt (u.1) (u.2), cell49_ qt st, cell27_ k qt st]) (g_runV (wc := [cell60_ qc qt m4 m5, cell49_ qt st, cell27_ k qt st]) (rest := []) cx hP hD hS [2, 3, 4] rfl (by decide) [.int r19] (c_X2_figure l D k b qc (up2 sc 0 (upd (upd (sc 0) 1 m4) 2 m5)) qt st H.size r19 (show 0 ≤ (st 0 1).toInt ∧ (st 0 1).toInt ≤ 64 from by first | decide | omega)) gX8_readException_X2_figure rfl rfl rfl nd_X2_figure ⟨Nat.le_of_ble_eq_true rfl, Nat.le_of_ble_eq_true rfl⟩ (ci := 1) (q0 := 0) rfl rfl rfl hl.1 rfl (Nat.le_of_ble_eq_true rfl) ⟨Nat.zero_le _, Nat.zero_le _⟩ dX8_readException_28) cx.2.2.1 hP hD hS [2, 3, 4] rfl (fun _ => rfl) (fun r23 u22 H locs hw21 hP hD hS => ?_)
    obtain ⟨m24, m25⟩ := u22
    have hP : va_P D vwCl [cell93_ qr qc sr, cell0_ k qr sr, cell60_ qc qt m24 m25, cell49_ qt st, cell27_ k qt st] H := hP
    have hD : va_D A [cell93_ qr qc sr, cell0_ k qr sr, cell60_ qc qt m24 m25, cell49_ qt st, cell27_ k qt st] := hD
    replace hw21 : (r23.toInt = -9 ∨ (0 ≤ r23.toInt ∧ r23.toInt ≤ 9)) ∧ (Imp (0 ≤ r19.toInt ∧ r19.toInt ≤ 63) (r23.toInt ≤ 5)) ∧ (Imp (0 ≤ r19.toInt ∧ r19.toInt ≤ 31) (r23.toInt ≤ 4)) ∧ (Imp (0 ≤ r19.toInt ∧ r19.toInt ≤ 7) (r23.toInt ≤ 2)) ∧ ((r23, m24, m25) = J_X2_figure (up2 sc 0 (upd (upd (sc 0) 1 m4) 2 m5)) st r19) := hw21
    obtain ⟨w26, w27, w28, w29, w30⟩ := hw21
    have k32 : r23 = ((J_X2_figure (up2 sc 0 (upd (upd (sc 0) 1 m4) 2 m5)) st r19).1) := congrArg (fun z => (z.1)) w30
    have k33 : m24 = ((J_X2_figure (up2 sc 0 (upd (upd (sc 0) 1 m4) 2 m5)) st r19).2.1) := congrArg (fun z => (z.2.1)) w30
    have k34 : m25 = ((J_X2_figure (up2 sc 0 (upd (upd (sc 0) 1 m4) 2 m5)) st r19).2.2) := congrArg (fun z => (z.2.2)) w30
    have xr23 : r23.toInt ≤ 4 := w28 ⟨by omega, by omega⟩
    refine lv_istore_n (lv' := [(2, .int r23), (1, .int r3), (0, .ref (qr 0))]) hx hb dX8_readException_31 rfl hl (by decide) rfl (fun ls hl => ?_)
    refine lv_iload_n hx hb dX8_readException_32 rfl (lv_at hl 0 rfl) ?_
    refine lv_bipush (v := (-9)) hx hb dX8_readException_33 (by decide) ?_
    refine lv_icmp_ne (tgt := 39) hx hb dX8_readException_35 (by decide) (fun c35 => ?_) (fun c35 => ?_)
    · have f35 : ¬ r23.toInt = (-9) := f_ne rfl (by decide) c35
      refine lv_aload_n hx hb dX8_readException_39 rfl (lv_at hl 2 rfl) ?_
      refine lv_dup hx hb dX8_readException_40 rfl ?_
      refine g_get cx hP iw_X8_readException_X8 0 rfl rfl 3 (by decide) rfl fw_X8_readException_31 rfl dX8_readException_41 ?_
      refine lv_iconst (v := 1) hx hb dX8_readException_44 (by decide) ?_
      refine lv_iload_n hx hb dX8_readException_45 rfl (lv_at hl 1 rfl) ?_
      refine lv_ishl hx hb dX8_readException_46 (lv_topi (fun v36 e36 => ?_))
      refine lv_iconst (v := (-1)) hx hb dX8_readException_47 (by decide) ?_
      refine lv_ixor hx hb dX8_readException_48 (lv_topi (fun v37 e37 => ?_))
      refine lv_iand hx hb dX8_readException_49 (lv_topi (fun v38 e38 => ?_))
      have t38 : 0 ≤ v38.toInt ∧ v38.toInt ≤ (sr 0 3).toInt := by rw [e38]; exact and_l rfl (by omega)
      refine g_pt cx hP hD hS iw_X8_readException_X8 tyX8 tyX8_ok nmX8 0 rfl rfl 3 (by decide) rfl fw_X8_readException_31 (ty := .int) rfl rfl rfl (Nat.le_of_ble_eq_true rfl) dX8_readException_50 (fun H locs hP hD hS => ?_)
      have hP : va_P D vwCl [cell133_ qr qc sr v38, cell0_ k qr sr, cell60_ qc qt m24 m25, cell49_ qt st, cell27_ k qt st] H := hP
      have hD : va_D A [cell133_ qr qc sr v38, cell0_ k qr sr, cell60_ qc qt m24 m25, cell49_ qt st, cell27_ k qt st] := hD
      refine lv_aload_n hx hb dX8_readException_53 rfl (lv_at hl 2 rfl) ?_
      refine g_get cx hP iw_X8_readException_X8 0 rfl rfl 1 (by decide) rfl fw_X8_readException_9 rfl dX8_readException_54 ?_
      refine lv_iload_n hx hb dX8_readException_57 rfl (lv_at hl 1 rfl) ?_
      refine lv_iload_n hx hb dX8_readException_58 rfl (lv_at hl 0 rfl) ?_
      have hn39 : vp_in r3 5 := f_in (a := r3.toInt) rfl (by omega) (by omega)
      refine va_iast hx hb cx.2.1 hP hD hS 1 0 rfl rfl hn39 dX8_readException_59 (fun H locs hP hD hS => ?_)
      obtain ⟨g40, eg40⟩ : ∃ g : Nat → Int32, g = upd (sr 1) (r3).toNatClampNeg r23 := ⟨_, rfl⟩
      rw [← eg40] at hP hD
      have hP : va_P D vwCl [cell133_ qr qc sr v38, (qr 1, .inl (k 0, 5, .inl g40)), cell60_ qc qt m24 m25, cell49_ qt st, cell27_ k qt st] H := hP
      have hD : va_D A [cell133_ qr qc sr v38, (qr 1, .inl (k 0, 5, .inl g40)), cell60_ qc qt m24 m25, cell49_ qt st, cell27_ k qt st] := hD
      rw [hQ]
      exact x_v cx hr (m24, m25, v38, g40) hP hD hS ⟨(show 0 ≤ v38.toInt ∧ v38.toInt ≤ 31 from by omega), (show (m24, m25, v38, g40) = J_X8_readException sr sc st from by subst k12 k13 k14 w20 k32 k33 k34 e36 e37 e38 eg40; first | (refine Eq.symm ?_; refine Eq.trans (if_neg c15) ?_; refine Eq.trans (if_neg c35) ?_; rfl) | (unfold J_X8_readException; try dsimp only; rw [if_neg c15, if_neg c35]))⟩ dX8_readException_60
    · have f35 : r23.toInt = (-9) := f_eq rfl (by decide) c35
      rw [hQ]
      exact x_v cx hr (m24, m25, (sr 0 3), (sr 1)) hP hD hS ⟨(show 0 ≤ (sr 0 3).toInt ∧ (sr 0 3).toInt ≤ 31 from by omega), (show (m24, m25, (sr 0 3), (sr 1)) = J_X8_readException sr sc st from by subst k12 k13 k14 w20 k32 k33 k34; first | (refine Eq.symm ?_; refine Eq.trans (if_neg c15) ?_; refine Eq.trans (if_pos c35) ?_; rfl) | (unfold J_X8_readException; try dsimp only; rw [if_neg c15, if_pos c35]))⟩ dX8_readException_38
  · have f15 : r3.toInt = (-9) := f_eq rfl (by decide) c15
    rw [hQ]
    exact x_v cx hr (m4, m5, (sr 0 3), (sr 1)) hP hD hS ⟨(show 0 ≤ (sr 0 3).toInt ∧ (sr 0 3).toInt ≤ 31 from by omega), (show (m4, m5, (sr 0 3), (sr 1)) = J_X8_readException sr sc st from by subst k12 k13 k14; first | (refine Eq.symm ?_; refine Eq.trans (if_pos c15) ?_; rfl) | (unfold J_X8_readException; try dsimp only; rw [if_pos c15]))⟩ dX8_readException_18
theorem fw_X8_readEnd_20 : Cond.fieldLink RX8 20 "StillInAugust$RuleReader" "cursor" "LStillInAugust$Cursor;" ∈ wsX8_readEnd := by decide +kernel
theorem fw_X8_readEnd_62 : Cond.fieldLink RX8 62 "StillInAugust$RuleReader" "otherLevel" "I" ∈ wsX8_readEnd := by decide +kernel
theorem nd_X2_hasMore : yX2_hasMore.cls = RX2 ∧ yX2_hasMore.cls ≠ "java/lang/invoke/MethodHandle" ∧ yX2_hasMore.cls ≠ "java/lang/invoke/VarHandle" ∧ (parseMethodDescriptor yX2_hasMore.desc).map (fun d => d.parameters.length) = some 0 := by decide +kernel
theorem nd_X2_stoppedAt : yX2_stoppedAt.cls = RX2 ∧ yX2_stoppedAt.cls ≠ "java/lang/invoke/MethodHandle" ∧ yX2_stoppedAt.cls ≠ "java/lang/invoke/VarHandle" ∧ (parseMethodDescriptor yX2_stoppedAt.desc).map (fun d => d.parameters.length) = some 0 := by decide +kernel
theorem iw_X8_readEnd_X8 : ∀ w ∈ u_ws RX8 TX8 4, w ∈ wsX8_readEnd := fun _ h => List.mem_cons_of_mem _ (List.mem_append_left _ (List.mem_append_left _ (List.mem_append_right _ h)))
def J_X8_readEnd (sr : Nat → Nat → Int32) (sc : Nat → Nat → Int32) (st : Nat → Nat → Int32) : Int32 × Int32 × Int32 := let y4 := J_X2_stoppedAt sc st; if y4 = (-9) then let y11 := J_X2_here sc st; if y11 = 76 then let y18 := J_X2_step sc st; let y35 := J_X2_figure (up2 sc 0 (upd (sc 0) 1 y18)) st (J_X2_figures 0 4); if (y35.1) = (-9) then ((y35.2.1), (y35.2.2), (sr 0 2)) else let y44 := J_X2_hasMore (up2 sc 0 (upd (upd (sc 0) 1 (y35.2.1)) 2 (y35.2.2))) st; if y44 = 0 then ((y35.2.1), (y35.2.2), (y35.1)) else let y51 := J_X2_stop (up2 sc 0 (upd (upd (sc 0) 1 (y35.2.1)) 2 (y35.2.2))) st; ((y35.2.1), y51, (y35.1)) else let y57 := J_X2_stop sc st; ((sc 0 1), y57, (sr 0 2)) else ((sc 0 1), (sc 0 2), (sr 0 2))
set_option maxHeartbeats 4000000 in
set_option maxRecDepth 100000 in
theorem c_X8_readEnd (l : Launch) (D : va_G) (k : Nat → ClassId) (b : Nat → Nat) (qr : Nat → Nat) (sr : Nat → Nat → Int32) (qc : Nat → Nat) (sc : Nat → Nat → Int32) (qt : Nat → Nat) (st : Nat → Nat → Int32) (sz : Nat) (h_len : 0 ≤ (st 0 1).toInt ∧ (st 0 1).toInt ≤ 64) : MetV l D k b yX8_readEnd wsX8_readEnd ({ frames := 3, cells := 0, slots := 0, locals := 63 } : Room) [cell93_ qr qc sr, cell0_ k qr sr, cell58_ qc qt sc, cell49_ qt st, cell27_ k qt st] sz [.ref (qr 0)] (fun (u : Int32 × Int32 × Int32) => ((u.1), (u.2.1), (u.2.2)) = J_X8_readEnd sr sc st) (fun u => [cell197_ qr qc sr (u.2.2), cell0_ k qr sr, cell60_ qc qt (u.1) (u.2.1), cell49_ qt st, cell27_ k qt st]) := by
  refine g_enter (cc := cX8_readEnd) (maxL := 2) (ret := none) (by decide) rfl (Nat.le_of_ble_eq_true rfl) ?_
  intro p e s m below meth c A hsz hAe cx hr hP hD hS ls hl
  rw [hAe]
  refine g_q (fun Q hQ => ?_)
  have hx := cx.1.1
  have hb := cx.1.2.1
  have hl : lv_has ls 2 [(0, .ref (qr 0))] := hl
  obtain ⟨H, eH⟩ : ∃ H : Heap, H = s.heap := ⟨_, rfl⟩
  obtain ⟨locs, el⟩ : ∃ L : List Loc, L = [] := ⟨_, rfl⟩
  have hP : va_P D vwCl [cell93_ qr qc sr, cell0_ k qr sr, cell58_ qc qt sc, cell49_ qt st, cell27_ k qt st] H := by rw [eH]; exact hP
  have hD : va_D A [cell93_ qr qc sr, cell0_ k qr sr, cell58_ qc qt sc, cell49_ qt st, cell27_ k qt st] := hD
  have hS : va_S A s.heap H locs := by rw [eH, el]; exact hS
  suffices goal : W p l e ({ frames := 3, cells := 0, slots := 0, locals := 63 } : Room) s m ([.ref (qr 0)] : List Value).toArray below meth c H locs 0 0 Q (F0 m 0 ls []) by rw [eH, el] at goal; exact goal
  refine lv_aload_n hx hb dX8_readEnd_0 rfl (lv_at hl 0 rfl) ?_
  refine g_get cx hP iw_X8_readEnd_X8 0 rfl rfl 0 (by decide) rfl fw_X8_readEnd_20 rfl dX8_readEnd_1 ?_
  refine g_ir (g_runV (wc := [cell58_ qc qt sc, cell49_ qt st, cell27_ k qt st]) (rest := []) cx hP hD hS [2, 3, 4] rfl (by decide) [] (c_X2_stoppedAt l D k b qc sc qt st H.size) gX8_readEnd_X2_stoppedAt rfl rfl rfl nd_X2_stoppedAt ⟨Nat.le_of_ble_eq_true rfl, Nat.le_of_ble_eq_true rfl⟩ (ci := 1) (q0 := 0) rfl rfl rfl hl.1 rfl (Nat.le_of_ble_eq_true rfl) ⟨Nat.zero_le _, Nat.zero_le _⟩ dX8_readEnd_4) cx.2.2.1 hP hD hS [2, 3, 4] rfl rfl (fun r2 H locs hw1 hP hS => ?_)
  have w3 : r2 = J_X2_stoppedAt sc st := hw1
  clear hw1
  have k5 : r2 = (J_X2_stoppedAt sc st) := congrArg (fun z => z) w3
  refine lv_bipush (v := (-9)) hx hb dX8_readEnd_7 (by decide) ?_
  refine lv_icmp_eq (tgt := 13) hx hb dX8_readEnd_9 (by decide) (fun c6 => ?_) (fun c6 => ?_)
  · have f6 : r2.toInt = (-9) := f_eq rfl (by decide) c6
    refine lv_aload_n hx hb dX8_readEnd_13 rfl (lv_at hl 0 rfl) ?_
    refine g_get cx hP iw_X8_readEnd_X8 0 rfl rfl 0 (by decide) rfl fw_X8_readEnd_20 rfl dX8_readEnd_14 ?_
    refine g_ir (g_runV (wc := [cell58_ qc qt sc, cell49_ qt st, cell27_ k qt st]) (rest := []) cx hP hD hS [2, 3, 4] rfl (by decide) [] (c_X2_here l D k b qc sc qt st H.size (show 0 ≤ (st 0 1).toInt ∧ (st 0 1).toInt ≤ 64 from by first | decide | omega)) gX8_readEnd_X2_here rfl rfl rfl nd_X2_here ⟨Nat.le_of_ble_eq_true rfl, Nat.le_of_ble_eq_true rfl⟩ (ci := 1) (q0 := 0) rfl rfl rfl hl.1 rfl (Nat.le_of_ble_eq_true rfl) ⟨Nat.zero_le _, Nat.zero_le _⟩ dX8_readEnd_17) cx.2.2.1 hP hD hS [2, 3, 4] rfl rfl (fun r8 H locs hw7 hP hS => ?_)
    replace hw7 : (-9 ≤ r8.toInt ∧ r8.toInt ≤ 255) ∧ (r8 = J_X2_here sc st) := hw7
    obtain ⟨w9, w10⟩ := hw7
    have k12 : r8 = (J_X2_here sc st) := congrArg (fun z => z) w10
    refine lv_bipush (v := 76) hx hb dX8_readEnd_20 (by decide) ?_
    refine lv_icmp_eq (tgt := 33) hx hb dX8_readEnd_22 (by decide) (fun c13 => ?_) (fun c13 => ?_)
    · have f13 : r8.toInt = 76 := f_eq rfl (by decide) c13
      refine lv_aload_n hx hb dX8_readEnd_33 rfl (lv_at hl 0 rfl) ?_
      refine g_get cx hP iw_X8_readEnd_X8 0 rfl rfl 0 (by decide) rfl fw_X8_readEnd_20 rfl dX8_readEnd_34 ?_
      refine g_v (w1 := fun (u : Int32) => [cell101_ qc qt sc u, cell49_ qt st, cell27_ k qt st]) (g_runV (wc := [cell58_ qc qt sc, cell49_ qt st, cell27_ k qt st]) (rest := []) cx hP hD hS [2, 3, 4] rfl (by decide) [] (c_X2_step l D k b qc sc qt st H.size) gX8_readEnd_X2_step rfl rfl rfl nd_X2_step ⟨Nat.le_of_ble_eq_true rfl, Nat.le_of_ble_eq_true rfl⟩ (ci := 1) (q0 := 0) rfl rfl rfl hl.1 rfl (Nat.le_of_ble_eq_true rfl) ⟨Nat.zero_le _, Nat.zero_le _⟩ dX8_readEnd_37) cx.2.2.1 hP hD hS [2, 3, 4] rfl (fun _ => rfl) (fun u15 H locs hw14 hP hD hS => ?_)
      obtain ⟨m16, rfl⟩ : ∃ z, z = u15 := ⟨_, rfl⟩
      have hP : va_P D vwCl [cell93_ qr qc sr, cell0_ k qr sr, cell101_ qc qt sc m16, cell49_ qt st, cell27_ k qt st] H := hP
      have hD : va_D A [cell93_ qr qc sr, cell0_ k qr sr, cell101_ qc qt sc m16, cell49_ qt st, cell27_ k qt st] := hD
      have w17 : m16 = J_X2_step sc st := hw14
      clear hw14
      have k19 : m16 = (J_X2_step sc st) := congrArg (fun z => z) w17
      refine lv_aload_n hx hb dX8_readEnd_40 rfl (lv_at hl 0 rfl) ?_
      refine g_get cx hP iw_X8_readEnd_X8 0 rfl rfl 0 (by decide) rfl fw_X8_readEnd_20 rfl dX8_readEnd_41 ?_
      refine lv_iconst (v := 0) hx hb dX8_readEnd_44 (by decide) ?_
      refine lv_iconst (v := 4) hx hb dX8_readEnd_45 (by decide) ?_
      have hlit20 : (0 : Int32).toInt = 0 := by decide
      have hlit21 : (4 : Int32).toInt = 4 := by decide
      refine g_ir (g_runS (wc := []) (rest := [.ref (qc 0)]) cx hP hD hS [] rfl (by decide) [.int 0, .int 4] (c_X2_figures l D k b H.size 0 4) gX8_readEnd_X2_figures rfl rfl rfl nd_X2_figures ⟨Nat.le_of_ble_eq_true rfl, Nat.le_of_ble_eq_true rfl⟩ rfl hl.1 rfl (Nat.le_of_ble_eq_true rfl) ⟨Nat.zero_le _, Nat.zero_le _⟩ dX8_readEnd_46) cx.2.2.1 hP hD hS [] rfl rfl (fun r23 H locs hw22 hP hS => ?_)
      have w24 : r23 = J_X2_figures (0 : Int32) (4 : Int32) := hw22
      clear hw22
      have zr23 : r23.toInt = 31 := by rw [w24]; decide
      refine g_i (w1 := fun (u : Int32 × Int32) => [cell60_ qc qt (u.1) (u.2), cell49_ qt st, cell27_ k qt st]) (g_runV (wc := [cell101_ qc qt sc m16, cell49_ qt st, cell27_ k qt st]) (rest := []) cx hP hD hS [2, 3, 4] rfl (by decide) [.int r23] (c_X2_figure l D k b qc (up2 sc 0 (upd (sc 0) 1 m16)) qt st H.size r23 (show 0 ≤ (st 0 1).toInt ∧ (st 0 1).toInt ≤ 64 from by first | decide | omega)) gX8_readEnd_X2_figure rfl rfl rfl nd_X2_figure ⟨Nat.le_of_ble_eq_true rfl, Nat.le_of_ble_eq_true rfl⟩ (ci := 1) (q0 := 0) rfl rfl rfl hl.1 rfl (Nat.le_of_ble_eq_true rfl) ⟨Nat.zero_le _, Nat.zero_le _⟩ dX8_readEnd_49) cx.2.2.1 hP hD hS [2, 3, 4] rfl (fun _ => rfl) (fun r27 u26 H locs hw25 hP hD hS => ?_)
      obtain ⟨m28, m29⟩ := u26
      have hP : va_P D vwCl [cell93_ qr qc sr, cell0_ k qr sr, cell60_ qc qt m28 m29, cell49_ qt st, cell27_ k qt st] H := hP
      have hD : va_D A [cell93_ qr qc sr, cell0_ k qr sr, cell60_ qc qt m28 m29, cell49_ qt st, cell27_ k qt st] := hD
      replace hw25 : (r27.toInt = -9 ∨ (0 ≤ r27.toInt ∧ r27.toInt ≤ 9)) ∧ (Imp (0 ≤ r23.toInt ∧ r23.toInt ≤ 63) (r27.toInt ≤ 5)) ∧ (Imp (0 ≤ r23.toInt ∧ r23.toInt ≤ 31) (r27.toInt ≤ 4)) ∧ (Imp (0 ≤ r23.toInt ∧ r23.toInt ≤ 7) (r27.toInt ≤ 2)) ∧ ((r27, m28, m29) = J_X2_figure (up2 sc 0 (upd (sc 0) 1 m16)) st r23) := hw25
      obtain ⟨w30, w31, w32, w33, w34⟩ := hw25
      have k36 : r27 = ((J_X2_figure (up2 sc 0 (upd (sc 0) 1 m16)) st r23).1) := congrArg (fun z => (z.1)) w34
      have k37 : m28 = ((J_X2_figure (up2 sc 0 (upd (sc 0) 1 m16)) st r23).2.1) := congrArg (fun z => (z.2.1)) w34
      have k38 : m29 = ((J_X2_figure (up2 sc 0 (upd (sc 0) 1 m16)) st r23).2.2) := congrArg (fun z => (z.2.2)) w34
      have xr27 : r27.toInt ≤ 4 := w32 ⟨by omega, by omega⟩
      refine lv_istore_n (lv' := [(1, .int r27), (0, .ref (qr 0))]) hx hb dX8_readEnd_52 rfl hl (by decide) rfl (fun ls hl => ?_)
      refine lv_iload_n hx hb dX8_readEnd_53 rfl (lv_at hl 0 rfl) ?_
      refine lv_bipush (v := (-9)) hx hb dX8_readEnd_54 (by decide) ?_
      refine lv_icmp_ne (tgt := 60) hx hb dX8_readEnd_56 (by decide) (fun c39 => ?_) (fun c39 => ?_)
      · have f39 : ¬ r27.toInt = (-9) := f_ne rfl (by decide) c39
        refine lv_aload_n hx hb dX8_readEnd_60 rfl (lv_at hl 1 rfl) ?_
        refine lv_iload_n hx hb dX8_readEnd_61 rfl (lv_at hl 0 rfl) ?_
        refine g_pt cx hP hD hS iw_X8_readEnd_X8 tyX8 tyX8_ok nmX8 0 rfl rfl 2 (by decide) rfl fw_X8_readEnd_62 (ty := .int) rfl rfl rfl (Nat.le_of_ble_eq_true rfl) dX8_readEnd_62 (fun H locs hP hD hS => ?_)
        have hP : va_P D vwCl [cell197_ qr qc sr r27, cell0_ k qr sr, cell60_ qc qt m28 m29, cell49_ qt st, cell27_ k qt st] H := hP
        have hD : va_D A [cell197_ qr qc sr r27, cell0_ k qr sr, cell60_ qc qt m28 m29, cell49_ qt st, cell27_ k qt st] := hD
        refine lv_aload_n hx hb dX8_readEnd_65 rfl (lv_at hl 1 rfl) ?_
        refine g_get cx hP iw_X8_readEnd_X8 0 rfl rfl 0 (by decide) rfl fw_X8_readEnd_20 rfl dX8_readEnd_66 ?_
        refine g_ir (g_runV (wc := [cell60_ qc qt m28 m29, cell49_ qt st, cell27_ k qt st]) (rest := []) cx hP hD hS [2, 3, 4] rfl (by decide) [] (c_X2_hasMore l D k b qc (up2 sc 0 (upd (upd (sc 0) 1 m28) 2 m29)) qt st H.size) gX8_readEnd_X2_hasMore rfl rfl rfl nd_X2_hasMore ⟨Nat.le_of_ble_eq_true rfl, Nat.le_of_ble_eq_true rfl⟩ (ci := 1) (q0 := 0) rfl rfl rfl hl.1 rfl (Nat.le_of_ble_eq_true rfl) ⟨Nat.zero_le _, Nat.zero_le _⟩ dX8_readEnd_69) cx.2.2.1 hP hD hS [2, 3, 4] rfl rfl (fun r41 H locs hw40 hP hS => ?_)
        replace hw40 : (0 ≤ r41.toInt ∧ r41.toInt ≤ 1) ∧ (r41 = J_X2_hasMore (up2 sc 0 (upd (upd (sc 0) 1 m28) 2 m29)) st) := hw40
        obtain ⟨w42, w43⟩ := hw40
        have k45 : r41 = (J_X2_hasMore (up2 sc 0 (upd (upd (sc 0) 1 m28) 2 m29)) st) := congrArg (fun z => z) w43
        refine lv_if_eq (tgt := 82) hx hb dX8_readEnd_72 (by decide) (fun c46 => ?_) (fun c46 => ?_)
        · have f46 : r41.toInt = 0 := f_eq rfl (by decide) c46
          rw [hQ]
          exact x_v cx hr (m28, m29, r27) hP hD hS (show (m28, m29, r27) = J_X8_readEnd sr sc st from by subst k5 k12 k19 w24 k36 k37 k38 k45; first | (refine Eq.symm ?_; refine Eq.trans (if_pos c6) ?_; refine Eq.trans (if_pos c13) ?_; refine Eq.trans (if_neg c39) ?_; refine Eq.trans (if_pos c46) ?_; rfl) | (unfold J_X8_readEnd; try dsimp only; rw [if_pos c6, if_pos c13, if_neg c39, if_pos c46])) dX8_readEnd_82
        · have f46 : ¬ r41.toInt = 0 := f_ne rfl (by decide) c46
          refine lv_aload_n hx hb dX8_readEnd_75 rfl (lv_at hl 1 rfl) ?_
          refine g_get cx hP iw_X8_readEnd_X8 0 rfl rfl 0 (by decide) rfl fw_X8_readEnd_20 rfl dX8_readEnd_76 ?_
          refine g_v (w1 := fun (u : Int32) => [cell60_ qc qt m28 u, cell49_ qt st, cell27_ k qt st]) (g_runV (wc := [cell60_ qc qt m28 m29, cell49_ qt st, cell27_ k qt st]) (rest := []) cx hP hD hS [2, 3, 4] rfl (by decide) [] (c_X2_stop l D k b qc (up2 sc 0 (upd (upd (sc 0) 1 m28) 2 m29)) qt st H.size) gX8_readEnd_X2_stop rfl rfl rfl nd_X2_stop ⟨Nat.le_of_ble_eq_true rfl, Nat.le_of_ble_eq_true rfl⟩ (ci := 1) (q0 := 0) rfl rfl rfl hl.1 rfl (Nat.le_of_ble_eq_true rfl) ⟨Nat.zero_le _, Nat.zero_le _⟩ dX8_readEnd_79) cx.2.2.1 hP hD hS [2, 3, 4] rfl (fun _ => rfl) (fun u48 H locs hw47 hP hD hS => ?_)
          obtain ⟨m49, rfl⟩ : ∃ z, z = u48 := ⟨_, rfl⟩
          have hP : va_P D vwCl [cell197_ qr qc sr r27, cell0_ k qr sr, cell60_ qc qt m28 m49, cell49_ qt st, cell27_ k qt st] H := hP
          have hD : va_D A [cell197_ qr qc sr r27, cell0_ k qr sr, cell60_ qc qt m28 m49, cell49_ qt st, cell27_ k qt st] := hD
          have w50 : m49 = J_X2_stop (up2 sc 0 (upd (upd (sc 0) 1 m28) 2 m29)) st := hw47
          clear hw47
          have k52 : m49 = (J_X2_stop (up2 sc 0 (upd (upd (sc 0) 1 m28) 2 m29)) st) := congrArg (fun z => z) w50
          rw [hQ]
          exact x_v cx hr (m28, m49, r27) hP hD hS (show (m28, m49, r27) = J_X8_readEnd sr sc st from by subst k5 k12 k19 w24 k36 k37 k38 k45 k52; first | (refine Eq.symm ?_; refine Eq.trans (if_pos c6) ?_; refine Eq.trans (if_pos c13) ?_; refine Eq.trans (if_neg c39) ?_; refine Eq.trans (if_neg c46) ?_; rfl) | (unfold J_X8_readEnd; try dsimp only; rw [if_pos c6, if_pos c13, if_neg c39, if_neg c46])) dX8_readEnd_82
      · have f39 : r27.toInt = (-9) := f_eq rfl (by decide) c39
        rw [hQ]
        exact x_v cx hr (m28, m29, (sr 0 2)) hP hD hS (show (m28, m29, (sr 0 2)) = J_X8_readEnd sr sc st from by subst k5 k12 k19 w24 k36 k37 k38; first | (refine Eq.symm ?_; refine Eq.trans (if_pos c6) ?_; refine Eq.trans (if_pos c13) ?_; refine Eq.trans (if_pos c39) ?_; rfl) | (unfold J_X8_readEnd; try dsimp only; rw [if_pos c6, if_pos c13, if_pos c39])) dX8_readEnd_59
    · have f13 : ¬ r8.toInt = 76 := f_ne rfl (by decide) c13
      refine lv_aload_n hx hb dX8_readEnd_25 rfl (lv_at hl 0 rfl) ?_
      refine g_get cx hP iw_X8_readEnd_X8 0 rfl rfl 0 (by decide) rfl fw_X8_readEnd_20 rfl dX8_readEnd_26 ?_
      refine g_v (w1 := fun (u : Int32) => [cell96_ qc qt sc u, cell49_ qt st, cell27_ k qt st]) (g_runV (wc := [cell58_ qc qt sc, cell49_ qt st, cell27_ k qt st]) (rest := []) cx hP hD hS [2, 3, 4] rfl (by decide) [] (c_X2_stop l D k b qc sc qt st H.size) gX8_readEnd_X2_stop rfl rfl rfl nd_X2_stop ⟨Nat.le_of_ble_eq_true rfl, Nat.le_of_ble_eq_true rfl⟩ (ci := 1) (q0 := 0) rfl rfl rfl hl.1 rfl (Nat.le_of_ble_eq_true rfl) ⟨Nat.zero_le _, Nat.zero_le _⟩ dX8_readEnd_29) cx.2.2.1 hP hD hS [2, 3, 4] rfl (fun _ => rfl) (fun u54 H locs hw53 hP hD hS => ?_)
      obtain ⟨m55, rfl⟩ : ∃ z, z = u54 := ⟨_, rfl⟩
      have hP : va_P D vwCl [cell93_ qr qc sr, cell0_ k qr sr, cell96_ qc qt sc m55, cell49_ qt st, cell27_ k qt st] H := hP
      have hD : va_D A [cell93_ qr qc sr, cell0_ k qr sr, cell96_ qc qt sc m55, cell49_ qt st, cell27_ k qt st] := hD
      have w56 : m55 = J_X2_stop sc st := hw53
      clear hw53
      have k58 : m55 = (J_X2_stop sc st) := congrArg (fun z => z) w56
      rw [hQ]
      exact x_v cx hr ((sc 0 1), m55, (sr 0 2)) hP hD hS (show ((sc 0 1), m55, (sr 0 2)) = J_X8_readEnd sr sc st from by subst k5 k12 k58; first | (refine Eq.symm ?_; refine Eq.trans (if_pos c6) ?_; refine Eq.trans (if_neg c13) ?_; rfl) | (unfold J_X8_readEnd; try dsimp only; rw [if_pos c6, if_neg c13])) dX8_readEnd_32
  · have f6 : ¬ r2.toInt = (-9) := f_ne rfl (by decide) c6
    rw [hQ]
    exact x_v cx hr ((sc 0 1), (sc 0 2), (sr 0 2)) hP hD hS (show ((sc 0 1), (sc 0 2), (sr 0 2)) = J_X8_readEnd sr sc st from by subst k5; first | (refine Eq.symm ?_; refine Eq.trans (if_neg c6) ?_; rfl) | (unfold J_X8_readEnd; try dsimp only; rw [if_neg c6])) dX8_readEnd_12
