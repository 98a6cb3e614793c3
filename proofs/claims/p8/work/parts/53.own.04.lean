theorem fw_X11_rule_28 : Cond.fieldLink RX11 28 "StillInAugust" "ruleReader" "LStillInAugust$RuleReader;" ∈ wsX11_rule := by decide +kernel
theorem fw_X11_rule_45 : Cond.fieldLink RX11 45 "StillInAugust" "levels" "[I" ∈ wsX11_rule := by decide +kernel
theorem nd_X11_isRule : yX11_isRule.cls = RX11 ∧ yX11_isRule.cls ≠ "java/lang/invoke/MethodHandle" ∧ yX11_isRule.cls ≠ "java/lang/invoke/VarHandle" ∧ (parseMethodDescriptor yX11_isRule.desc).map (fun d => d.parameters.length) = some 1 := by decide +kernel
theorem nd_X8_exceptions : yX8_exceptions.cls = RX8 ∧ yX8_exceptions.cls ≠ "java/lang/invoke/MethodHandle" ∧ yX8_exceptions.cls ≠ "java/lang/invoke/VarHandle" ∧ (parseMethodDescriptor yX8_exceptions.desc).map (fun d => d.parameters.length) = some 0 := by decide +kernel
theorem nd_X8_levelIn : yX8_levelIn.cls = RX8 ∧ yX8_levelIn.cls ≠ "java/lang/invoke/MethodHandle" ∧ yX8_levelIn.cls ≠ "java/lang/invoke/VarHandle" ∧ (parseMethodDescriptor yX8_levelIn.desc).map (fun d => d.parameters.length) = some 1 := by decide +kernel
theorem iw_X11_rule_X11 : ∀ w ∈ u_ws RX11 TX11 17, w ∈ wsX11_rule := fun _ h => List.mem_cons_of_mem _ (List.mem_append_left _ (List.mem_append_left _ (List.mem_append_left _ (List.mem_append_right _ h))))
def J_X11_rule (sx : Nat → Nat → Int32) (srr : Nat → Nat → Int32) (src : Nat → Nat → Int32) (st : Nat → Nat → Int32) (p0 : Int32) : Int32 × Int32 × Int32 × Int32 × (Nat → Int32) × Int32 × (Nat → Int32) := LetF (J_X11_isRule sx p0) (fun y6 => if y6 = 0 then (((-1) : Int32), (src 0 1), (src 0 2), (srr 0 3), (srr 1), (srr 0 2), (sx 1)) else LetF (J_X8_read (lS [(lI [0, 0, (srr 0 2), (srr 0 3)]), (srr 1)]) src (lS [(lI [0, (st 0 1)]), (st 1)])) (fun y18 => if (y18.1) = (-9) then LetF (J_X8_exceptions (lS [(lI [0, 0, (y18.2.2.2.2.2), (y18.2.2.2.1)]), (y18.2.2.2.2.1)]) (up2 src 0 (upd (upd (src 0) 1 (y18.2.1)) 2 (y18.2.2.1))) (lS [(lI [0, (st 0 1)]), (st 1)])) (fun y37 => (y37, (y18.2.1), (y18.2.2.1), (y18.2.2.2.1), (y18.2.2.2.2.1), (y18.2.2.2.2.2), (PFo (Int.toNat (5 * p0.toInt)) (clv (y18.2.2.2.1) (y18.2.2.2.2.1) (y18.2.2.2.2.2)) 5 (sx 1)))) else (((-3) : Int32), (y18.2.1), (y18.2.2.1), (y18.2.2.2.1), (y18.2.2.2.2.1), (y18.2.2.2.2.2), (sx 1))))
theorem exl_X11_rule_0 {sx : Nat → Nat → Int32} {srr : Nat → Nat → Int32} {src : Nat → Nat → Int32} {st : Nat → Nat → Int32} {p0 : Int32} {r35 : Int32} {m11 : Int32} {m12 : Int32} {m13 : Int32} {m14 : Nat → Int32} {m15 : Int32} {g31 : Nat → Int32} {r2 : Int32} {r10 : Int32} (qR_e : g31 = (PFo (Int.toNat (5 * p0.toInt)) (clv m13 m14 m15) 5 (sx 1))) (w5 : r2 = J_X11_isRule sx p0) (c7 : ¬ (r2 = (0 : Int32))) (w17 : (r10, m11, m12, m13, m14, m15) = J_X8_read (lS [(lI [0, 0, (srr 0 2), (srr 0 3)]), (srr 1)]) src (lS [(lI [0, (st 0 1)]), (st 1)])) (c19 : r10 = ((-9) : Int32)) (w36 : r35 = J_X8_exceptions (lS [(lI [0, 0, m15, m13]), m14]) (up2 src 0 (upd (upd (src 0) 1 m11) 2 m12)) (lS [(lI [0, (st 0 1)]), (st 1)])) : (r35, m11, m12, m13, m14, m15, g31) = J_X11_rule sx srr src st p0 := by subst qR_e; refine Eq.symm ?_; unfold J_X11_rule; refine lt_e w5 ?_; refine Eq.trans (if_neg c7) ?_; refine lt_e w17 ?_; refine Eq.trans (if_pos c19) ?_; refine lt_e w36 ?_; rfl
theorem exl_X11_rule_1 {sx : Nat → Nat → Int32} {srr : Nat → Nat → Int32} {src : Nat → Nat → Int32} {st : Nat → Nat → Int32} {p0 : Int32} {m11 : Int32} {m12 : Int32} {m13 : Int32} {m14 : Nat → Int32} {m15 : Int32} {r2 : Int32} {r10 : Int32} (w5 : r2 = J_X11_isRule sx p0) (c7 : ¬ (r2 = (0 : Int32))) (w17 : (r10, m11, m12, m13, m14, m15) = J_X8_read (lS [(lI [0, 0, (srr 0 2), (srr 0 3)]), (srr 1)]) src (lS [(lI [0, (st 0 1)]), (st 1)])) (c19 : ¬ (r10 = ((-9) : Int32))) : (((-3) : Int32), m11, m12, m13, m14, m15, (sx 1)) = J_X11_rule sx srr src st p0 := by refine Eq.symm ?_; unfold J_X11_rule; refine lt_e w5 ?_; refine Eq.trans (if_neg c7) ?_; refine lt_e w17 ?_; refine Eq.trans (if_neg c19) ?_; rfl
theorem exl_X11_rule_2 {sx : Nat → Nat → Int32} {srr : Nat → Nat → Int32} {src : Nat → Nat → Int32} {st : Nat → Nat → Int32} {p0 : Int32} {r2 : Int32} (w5 : r2 = J_X11_isRule sx p0) (c7 : r2 = (0 : Int32)) : (((-1) : Int32), (src 0 1), (src 0 2), (srr 0 3), (srr 1), (srr 0 2), (sx 1)) = J_X11_rule sx srr src st p0 := by refine Eq.symm ?_; unfold J_X11_rule; refine lt_e w5 ?_; refine Eq.trans (if_pos c7) ?_; rfl
set_option maxHeartbeats 20000000 in
set_option maxRecDepth 100000 in
theorem c_X11_rule (l : Launch) (D : va_G) (k : Nat → ClassId) (b : Nat → Nat) (qx : Nat → Nat) (sx : Nat → Nat → Int32) (qrr : Nat → Nat) (srr : Nat → Nat → Int32) (qrc : Nat → Nat) (src : Nat → Nat → Int32) (qt : Nat → Nat) (st : Nat → Nat → Int32) (sz : Nat) (p0 : Int32) (h_len : 0 ≤ (st 0 1).toInt ∧ (st 0 1).toInt ≤ 64) : MetI l D k b yX11_rule wsX11_rule ({ frames := 5, cells := 0, slots := 0, locals := 106 } : Room) [cell30_ qx sx, cell28_ k qx sx, cell29_ k qx sx, cell46_ qx qrc qrr srr, cell0_ k qrr srr, cell33_ qrc qx src, cell37_ qx qt st, cell27_ k qt st] sz [.ref (qx 0), .int p0] (fun (r : Int32) (u : Int32 × Int32 × Int32 × (Nat → Int32) × Int32 × (Nat → Int32)) => (r, (u.1), (u.2.1), (u.2.2.1), (u.2.2.2.1), (u.2.2.2.2.1), (u.2.2.2.2.2)) = J_X11_rule sx srr src st p0) (fun u => [cell30_ qx sx, (qx 1, .inl (k 0, 15, .inl (u.2.2.2.2.2))), cell29_ k qx sx, cell90_ qx qrc qrr (u.2.2.2.2.1) (u.2.2.1), cell86_ k qrr (u.2.2.2.1), cell72_ qrc qx (u.1) (u.2.1), cell37_ qx qt st, cell27_ k qt st]) := by
  refine g_enter (cc := cX11_rule) (maxL := 3) (ret := (some .int)) (by decide) rfl (Nat.le_of_ble_eq_true rfl) ?_
  intro p e s m below meth c A hsz hAe cx hr hP hD hS ls hl
  rw [hAe]
  refine g_q (fun Q hQ => ?_)
  have hx := cx.1.1
  have hb := cx.1.2.1
  have bp0 := i_rng p0
  have hl : lv_has ls 3 [(0, .ref (qx 0)), (1, .int p0)] := hl
  obtain ⟨H, eH⟩ : ∃ H : Heap, H = s.heap := ⟨_, rfl⟩
  obtain ⟨locs, el⟩ : ∃ L : List Loc, L = [] := ⟨_, rfl⟩
  have hP : va_P D vwCl [cell30_ qx sx, cell28_ k qx sx, cell29_ k qx sx, cell46_ qx qrc qrr srr, cell0_ k qrr srr, cell33_ qrc qx src, cell37_ qx qt st, cell27_ k qt st] H := by rw [eH]; exact hP
  have hD : va_D A [cell30_ qx sx, cell28_ k qx sx, cell29_ k qx sx, cell46_ qx qrc qrr srr, cell0_ k qrr srr, cell33_ qrc qx src, cell37_ qx qt st, cell27_ k qt st] := hD
  have hS : va_S A s.heap H locs := by rw [eH, el]; exact hS
  suffices goal : W p l e ({ frames := 5, cells := 0, slots := 0, locals := 106 } : Room) s m ([.ref (qx 0), .int p0] : List Value).toArray below meth c H locs 0 0 Q (F0 m 0 ls []) by rw [eH, el] at goal; exact goal
  refine lv_aload_n hx hb dX11_rule_0 rfl (lv_at hl 0 rfl) ?_
  refine lv_iload_n hx hb dX11_rule_1 rfl (lv_at hl 1 rfl) ?_
  refine g_ir (g_runV (wc := [cell30_ qx sx, cell28_ k qx sx, cell29_ k qx sx]) (rest := []) cx hP hD hS [0, 1, 2] rfl (by decide) [.int p0] (c_X11_isRule l D k b qx sx H.size p0) gX11_rule_X11_isRule rfl rfl rfl nd_X11_isRule ⟨Nat.le_of_ble_eq_true rfl, Nat.le_of_ble_eq_true rfl⟩ (ci := 9) (q0 := 0) rfl rfl rfl hl.1 rfl (Nat.le_of_ble_eq_true rfl) ⟨Nat.zero_le _, Nat.zero_le _⟩ dX11_rule_2) cx.2.2.1 hP hD hS [0, 1, 2] rfl rfl (fun r2 H locs hw1 hP hS => ?_)
  replace hw1 : (0 ≤ r2.toInt ∧ r2.toInt ≤ 1) ∧ (Imp (r2.toInt = 1) (0 ≤ p0.toInt ∧ p0.toInt ≤ 2)) ∧ (r2 = J_X11_isRule sx p0) := hw1
  obtain ⟨w3, w4, w5⟩ := hw1
  have zr2 : 0 ≤ r2.toInt ∧ r2.toInt ≤ 1 := w3
  refine lv_if_ne (tgt := 10) hx hb dX11_rule_5 (by decide) (fun c7 => ?_) (fun c7 => ?_)
  · have f7 : ¬ r2.toInt = 0 := f_ne rfl (by decide) c7
    have k7 : (0 ≤ p0.toInt ∧ p0.toInt ≤ 2) := w4 (by omega)
    refine lv_aload_n hx hb dX11_rule_10 rfl (lv_at hl 0 rfl) ?_
    refine g_get cx hP iw_X11_rule_X11 0 rfl rfl 2 (by decide) rfl fw_X11_rule_28 rfl dX11_rule_11 ?_
    refine g_i (w1 := fun (u : Int32 × Int32 × Int32 × (Nat → Int32) × Int32) => [cell90_ qx qrc qrr (u.2.2.2.2) (u.2.2.1), cell86_ k qrr (u.2.2.2.1), cell72_ qrc qx (u.1) (u.2.1), cell37_ qx qt st, cell27_ k qt st]) (g_runV (wc := [cell46_ qx qrc qrr srr, cell0_ k qrr srr, cell33_ qrc qx src, cell37_ qx qt st, cell27_ k qt st]) (rest := []) cx hP hD hS [3, 4, 5, 6, 7] rfl (by decide) [] (c_X8_read l D k b (lq [qx 5, qrr 1]) (lS [(lI [0, 0, (srr 0 2), (srr 0 3)]), (srr 1)]) qrc src (lq [qx 3, qt 1]) (lS [(lI [0, (st 0 1)]), (st 1)]) H.size (show 0 ≤ (st 0 1).toInt ∧ (st 0 1).toInt ≤ 64 from by first | decide | omega)) gX11_rule_X8_read rfl rfl rfl nd_X8_read ⟨Nat.le_of_ble_eq_true rfl, Nat.le_of_ble_eq_true rfl⟩ (ci := 6) (q0 := 0) rfl rfl rfl hl.1 rfl (Nat.le_of_ble_eq_true rfl) ⟨Nat.zero_le _, Nat.zero_le _⟩ dX11_rule_14) cx.2.2.1 hP hD hS [3, 4, 5, 6, 7] rfl (fun _ => rfl) (fun r10 u9 H locs hw8 hP hD hS => ?_)
    obtain ⟨m11, m12, m13, m14, m15⟩ := u9
    have hP : va_P D vwCl [cell30_ qx sx, cell28_ k qx sx, cell29_ k qx sx, cell90_ qx qrc qrr m15 m13, (qrr 1, .inl (k 0, 5, .inl m14)), cell72_ qrc qx m11 m12, cell37_ qx qt st, cell27_ k qt st] H := hP
    have hD : va_D A [cell30_ qx sx, cell28_ k qx sx, cell29_ k qx sx, cell90_ qx qrc qrr m15 m13, (qrr 1, .inl (k 0, 5, .inl m14)), cell72_ qrc qx m11 m12, cell37_ qx qt st, cell27_ k qt st] := hD
    replace hw8 : (0 ≤ m13.toInt ∧ m13.toInt ≤ 31) ∧ ((r10, m11, m12, m13, m14, m15) = J_X8_read (lS [(lI [0, 0, (srr 0 2), (srr 0 3)]), (srr 1)]) src (lS [(lI [0, (st 0 1)]), (st 1)])) := hw8
    obtain ⟨w16, w17⟩ := hw8
    refine lv_bipush (v := (-9)) hx hb dX11_rule_17 (by decide) ?_
    refine lv_icmp_eq (tgt := 25) hx hb dX11_rule_19 (by decide) (fun c19 => ?_) (fun c19 => ?_)
    · have f19 : r10.toInt = (-9) := f_eq rfl (by decide) c19
      refine lv_iconst (v := 0) hx hb dX11_rule_25 (by decide) ?_
      refine lv_istore_n (lv' := [(2, .int 0), (0, .ref (qx 0)), (1, .int p0)]) hx hb dX11_rule_26 rfl hl (by decide) rfl (fun ls hl => ?_)
      have hL27 : ∀ (n32 : Nat) (v30 : Int32) (g31 : Nat → Int32) (H : Heap) (locs : List Loc) (ls : Array Slot), 5 - v30.toInt < (n32 : Int) → (0 ≤ v30.toInt ∧ v30.toInt ≤ 5) → (g31 = (PFo (Int.toNat (5 * p0.toInt)) (clv m13 m14 m15) (Int.toNat v30.toInt) (sx 1))) → va_P D vwCl [cell30_ qx sx, (qx 1, .inl (k 0, 15, .inl g31)), cell29_ k qx sx, cell90_ qx qrc qrr m15 m13, (qrr 1, .inl (k 0, 5, .inl m14)), cell72_ qrc qx m11 m12, cell37_ qx qt st, cell27_ k qt st] H → va_D A [cell30_ qx sx, (qx 1, .inl (k 0, 15, .inl g31)), cell29_ k qx sx, cell90_ qx qrc qrr m15 m13, (qrr 1, .inl (k 0, 5, .inl m14)), cell72_ qrc qx m11 m12, cell37_ qx qt st, cell27_ k qt st] → va_S A s.heap H locs → lv_has ls 3 [(2, .int v30), (0, .ref (qx 0)), (1, .int p0)] → W p l e ({ frames := 5, cells := 0, slots := 0, locals := 106 } : Room) s m ([.ref (qx 0), .int p0] : List Value).toArray below meth c H locs 0 0 Q (F0 m 27 ls []) := by
        intro n32
        induction n32 with
        | zero => intro v30 g31 H locs ls hmn32 bv30 qR hP hD hS hl; exact absurd hmn32 (by omega)
        | succ n32 ih27 =>
          intro v30 g31 H locs ls hmn32 bv30 qR hP hD hS hl
          refine lv_iload_n hx hb dX11_rule_27 rfl (lv_at hl 0 rfl) ?_
          refine lv_iconst (v := 5) hx hb dX11_rule_28 (by decide) ?_
          refine lv_icmp_ge (tgt := 56) hx hb dX11_rule_29 (by decide) (fun c33 => ?_) (fun c33 => ?_)
          · have f33 : 5 ≤ v30.toInt := f_le (by decide) rfl c33
            have qR_e : g31 = (PFo (Int.toNat (5 * p0.toInt)) (clv m13 m14 m15) 5 (sx 1)) := by have q : Int.toNat v30.toInt = 5 := (by omega); rw [q] at qR; exact qR
            refine lv_aload_n hx hb dX11_rule_56 rfl (lv_at hl 1 rfl) ?_
            refine g_get cx hP iw_X11_rule_X11 0 rfl rfl 2 (by decide) rfl fw_X11_rule_28 rfl dX11_rule_57 ?_
            refine g_ir (g_runV (wc := [cell90_ qx qrc qrr m15 m13, (qrr 1, .inl (k 0, 5, .inl m14)), cell72_ qrc qx m11 m12, cell37_ qx qt st, cell27_ k qt st]) (rest := []) cx hP hD hS [3, 4, 5, 6, 7] rfl (by decide) [] (c_X8_exceptions l D k b (lq [qx 5, qrr 1]) (lS [(lI [0, 0, m15, m13]), m14]) qrc (up2 src 0 (upd (upd (src 0) 1 m11) 2 m12)) (lq [qx 3, qt 1]) (lS [(lI [0, (st 0 1)]), (st 1)]) H.size) gX11_rule_X8_exceptions rfl rfl rfl nd_X8_exceptions ⟨Nat.le_of_ble_eq_true rfl, Nat.le_of_ble_eq_true rfl⟩ (ci := 6) (q0 := 0) rfl rfl rfl hl.1 rfl (Nat.le_of_ble_eq_true rfl) ⟨Nat.zero_le _, Nat.zero_le _⟩ dX11_rule_60) cx.2.2.1 hP hD hS [3, 4, 5, 6, 7] rfl rfl (fun r35 H locs hw34 hP hS => ?_)
            have w36 : r35 = J_X8_exceptions (lS [(lI [0, 0, m15, m13]), m14]) (up2 src 0 (upd (upd (src 0) 1 m11) 2 m12)) (lS [(lI [0, (st 0 1)]), (st 1)]) := hw34
            clear hw34
            rw [hQ]
            exact x_i cx hr (m11, m12, m13, m14, m15, g31) hP hD hS (show (r35, m11, m12, m13, m14, m15, g31) = J_X11_rule sx srr src st p0 from (exl_X11_rule_0 qR_e w5 c7 w17 c19 w36)) dX11_rule_63
          · have f33 : v30.toInt < 5 := f_nle (by decide) rfl c33
            refine lv_aload_n hx hb dX11_rule_32 rfl (lv_at hl 1 rfl) ?_
            refine g_get cx hP iw_X11_rule_X11 0 rfl rfl 6 (by decide) rfl fw_X11_rule_45 rfl dX11_rule_33 ?_
            refine lv_iload_n hx hb dX11_rule_36 rfl (lv_at hl 2 rfl) ?_
            refine lv_iconst (v := 5) hx hb dX11_rule_37 (by decide) ?_
            refine lv_imul hx hb dX11_rule_38 (lv_topi (fun v38 e38 => ?_))
            have t38 : v38.toInt = p0.toInt * 5 := by rw [e38]; exact i_mul rfl (by decide) (by omega) (by omega)
            refine lv_iload_n hx hb dX11_rule_39 rfl (lv_at hl 0 rfl) ?_
            refine lv_iadd hx hb dX11_rule_40 (lv_topi (fun v39 e39 => ?_))
            have t39 : v39.toInt = v38.toInt + v30.toInt := by rw [e39]; exact i_add rfl rfl (by omega) (by omega)
            refine lv_aload_n hx hb dX11_rule_41 rfl (lv_at hl 1 rfl) ?_
            refine g_get cx hP iw_X11_rule_X11 0 rfl rfl 2 (by decide) rfl fw_X11_rule_28 rfl dX11_rule_42 ?_
            refine lv_iload_n hx hb dX11_rule_45 rfl (lv_at hl 0 rfl) ?_
            refine g_ir (g_runV (wc := [cell90_ qx qrc qrr m15 m13, (qrr 1, .inl (k 0, 5, .inl m14)), cell72_ qrc qx m11 m12, cell37_ qx qt st, cell27_ k qt st]) (rest := [.int v39, .ref (qx 1)]) cx hP hD hS [3, 4, 5, 6, 7] rfl (by decide) [.int v30] (c_X8_levelIn l D k b (lq [qx 5, qrr 1]) (lS [(lI [0, 0, m15, m13]), m14]) qrc (up2 src 0 (upd (upd (src 0) 1 m11) 2 m12)) (lq [qx 3, qt 1]) (lS [(lI [0, (st 0 1)]), (st 1)]) H.size v30 (show 0 ≤ v30.toInt ∧ v30.toInt ≤ 4 from by first | decide | omega)) gX11_rule_X8_levelIn rfl rfl rfl nd_X8_levelIn ⟨Nat.le_of_ble_eq_true rfl, Nat.le_of_ble_eq_true rfl⟩ (ci := 6) (q0 := 0) rfl rfl rfl hl.1 rfl (Nat.le_of_ble_eq_true rfl) ⟨Nat.zero_le _, Nat.zero_le _⟩ dX11_rule_46) cx.2.2.1 hP hD hS [3, 4, 5, 6, 7] rfl rfl (fun r41 H locs hw40 hP hS => ?_)
            have w42 : r41 = J_X8_levelIn (lS [(lI [0, 0, m15, m13]), m14]) (up2 src 0 (upd (upd (src 0) 1 m11) 2 m12)) (lS [(lI [0, (st 0 1)]), (st 1)]) v30 := hw40
            clear hw40
            have hlq_ := lin_clv w42 (show 0 ≤ v30.toInt from by omega)
            have hlin_ : r41 = (clv m13 m14 m15) (Int.toNat v30.toInt) := hlq_
            have hn44 : vp_in v39 15 := f_in (a := v39.toInt) rfl (by omega) (by omega)
            refine va_iast hx hb cx.2.1 hP hD hS 1 0 rfl rfl hn44 dX11_rule_49 (fun H locs hP hD hS => ?_)
            obtain ⟨g45, eg45⟩ : ∃ g : Nat → Int32, g = upd g31 (v39).toNatClampNeg r41 := ⟨_, rfl⟩
            rw [← eg45] at hP hD
            have hP : va_P D vwCl [cell30_ qx sx, (qx 1, .inl (k 0, 15, .inl g45)), cell29_ k qx sx, cell90_ qx qrc qrr m15 m13, (qrr 1, .inl (k 0, 5, .inl m14)), cell72_ qrc qx m11 m12, cell37_ qx qt st, cell27_ k qt st] H := hP
            have hD : va_D A [cell30_ qx sx, (qx 1, .inl (k 0, 15, .inl g45)), cell29_ k qx sx, cell90_ qx qrc qrr m15 m13, (qrr 1, .inl (k 0, 5, .inl m14)), cell72_ qrc qx m11 m12, cell37_ qx qt st, cell27_ k qt st] := hD
            have flq := PFo_st (P := (clv m13 m14 m15)) (b := Int.toNat (5 * p0.toInt)) eg45 (k := Int.toNat v30.toInt) (show v39.toInt = ((Int.toNat (5 * p0.toInt) : Nat) : Int) + ((Int.toNat v30.toInt : Nat) : Int) from by omega) (hlin_) qR
            obtain ⟨v46, e46⟩ : ∃ z : Int32, z = v30 + 1 := ⟨_, rfl⟩
            refine lv_iinc (v := v46) (lv' := [(2, .int v46), (0, .ref (qx 0)), (1, .int p0)]) hx hb dX11_rule_50 hl (k := 0) rfl (by rw [e46]; rfl) (by decide) rfl (fun ls hl => ?_)
            have t46 : v46.toInt = v30.toInt + 1 := by rw [e46]; exact i_add rfl (by decide) (by omega) (by omega)
            refine lv_goto (tgt := 27) hx hb dX11_rule_53 (by decide) ?_
            exact ih27 v46 g45 _ _ _ (by omega) (by first | decide | omega) (flq.trans (congrArg (fun n => (PFo (Int.toNat (5 * p0.toInt)) (clv m13 m14 m15) n (sx 1))) (by omega))) hP hD hS (lv_sub hl [0, 1, 2] rfl)
      have hlit47 : (0 : Int32).toInt = 0 := by decide
      exact hL27 (Int.toNat (5 - 0) + 1) 0 (sx 1) _ _ _ (by omega) (by first | decide | omega) (PFo_0 _ _ _) hP hD hS (lv_sub hl [0, 1, 2] rfl)
    · have f19 : ¬ r10.toInt = (-9) := f_ne rfl (by decide) c19
      refine lv_bipush (v := (-3)) hx hb dX11_rule_22 (by decide) ?_
      have hlit48 : ((-3) : Int32).toInt = -3 := by decide
      rw [hQ]
      exact x_i cx hr (m11, m12, m13, m14, m15, (sx 1)) hP hD hS (show (((-3) : Int32), m11, m12, m13, m14, m15, (sx 1)) = J_X11_rule sx srr src st p0 from (exl_X11_rule_1 w5 c7 w17 c19)) dX11_rule_24
  · have f7 : r2.toInt = 0 := f_eq rfl (by decide) c7
    refine lv_iconst (v := (-1)) hx hb dX11_rule_8 (by decide) ?_
    have hlit49 : ((-1) : Int32).toInt = -1 := by decide
    rw [hQ]
    exact x_i cx hr ((src 0 1), (src 0 2), (srr 0 3), (srr 1), (srr 0 2), (sx 1)) hP hD hS (show (((-1) : Int32), (src 0 1), (src 0 2), (srr 0 3), (srr 1), (srr 0 2), (sx 1)) = J_X11_rule sx srr src st p0 from (exl_X11_rule_2 w5 c7)) dX11_rule_9
