theorem fw_X5_expectOnce_S0_9 : Cond.fieldLink RX5 9 "StillInAugust$HouseReader" "untold" "[I" ∈ wsX5_expectOnce := by decide +kernel
theorem nd_J0_charAt_5068e : yJ0_charAt_5068e.cls = RJ0 ∧ yJ0_charAt_5068e.cls ≠ "java/lang/invoke/MethodHandle" ∧ yJ0_charAt_5068e.cls ≠ "java/lang/invoke/VarHandle" ∧ (parseMethodDescriptor yJ0_charAt_5068e.desc).map (fun d => d.parameters.length) = some 1 := by decide +kernel
theorem nd_J0_length_8abf5 : yJ0_length_8abf5.cls = RJ0 ∧ yJ0_length_8abf5.cls ≠ "java/lang/invoke/MethodHandle" ∧ yJ0_length_8abf5.cls ≠ "java/lang/invoke/VarHandle" ∧ (parseMethodDescriptor yJ0_length_8abf5.desc).map (fun d => d.parameters.length) = some 0 := by decide +kernel
theorem iw_X5_expectOnce_S0_X5 : ∀ w ∈ u_ws RX5 TX5 2, w ∈ wsX5_expectOnce := fun _ h => List.mem_cons_of_mem _ (List.mem_append_right _ h)
set_option maxHeartbeats 4000000 in
set_option maxRecDepth 100000 in
theorem c_X5_expectOnce_S0 (l : Launch) (D : va_G) (k : Nat → ClassId) (b : Nat → Nat) (qr : Nat → Nat) (sr : Nat → Nat → Int32) (qc : Nat → Nat) (sc : Nat → Nat → Int32) (qt : Nat → Nat) (st : Nat → Nat → Int32) (sz : Nat) (p0 : Int32) (u_a : ∀ j, 0 ≤ (sr 1 j).toInt ∧ (sr 1 j).toInt ≤ 31) (u_3 : 0 ≤ (sr 1 3).toInt ∧ (sr 1 3).toInt ≤ 7) (u_16 : 0 ≤ (sr 1 16).toInt ∧ (sr 1 16).toInt ≤ 7) (hp0 : -1 ≤ p0.toInt ∧ p0.toInt ≤ 2) : MetV l D k b yX5_expectOnce wsX5_expectOnce ({ frames := 4, cells := 0, slots := 0, locals := 85 } : Room) [(qr 0, .inr (3, [.ref (qc 0), .ref (qr 1)])), (qr 1, .inl (k 0, 26, .inl (sr 1))), (qc 0, .inr (1, [.ref (qt 0), .int (sc 0 1), .int (sc 0 2)])), (qt 0, .inr (8, [.ref (qt 1), .int (st 0 1)])), (qt 1, .inl (k 2, 64, .inl (st 1)))] sz [.ref (qr 0), .ref (b 10), .int p0] (fun (u : (Nat → Int32)) => (∀ j, 0 ≤ (u j).toInt ∧ (u j).toInt ≤ 31) ∧ (0 ≤ (u 3).toInt ∧ (u 3).toInt ≤ 7) ∧ (0 ≤ (u 16).toInt ∧ (u 16).toInt ≤ 7)) (fun u => [(qr 0, .inr (3, [.ref (qc 0), .ref (qr 1)])), (qr 1, .inl (k 0, 26, .inl u)), (qc 0, .inr (1, [.ref (qt 0), .int (sc 0 1), .int (sc 0 2)])), (qt 0, .inr (8, [.ref (qt 1), .int (st 0 1)])), (qt 1, .inl (k 2, 64, .inl (st 1)))]) := by
  refine g_enter (cc := cX5_expectOnce) (maxL := 4) (ret := none) (by decide) rfl (Nat.le_of_ble_eq_true rfl) ?_
  intro p e s m below meth c A hsz hAe cx hr hP hD hS ls hl
  rw [hAe]
  refine g_q (fun Q hQ => ?_)
  have hx := cx.1.1
  have hb := cx.1.2.1
  have bp0 := i_rng p0
  have hl : lv_has ls 4 [(0, .ref (qr 0)), (1, .ref (b 10)), (2, .int p0)] := hl
  obtain ⟨H, eH⟩ : ∃ H : Heap, H = s.heap := ⟨_, rfl⟩
  obtain ⟨locs, el⟩ : ∃ L : List Loc, L = [] := ⟨_, rfl⟩
  have hP : va_P D vwCl [(qr 0, .inr (3, [.ref (qc 0), .ref (qr 1)])), (qr 1, .inl (k 0, 26, .inl (sr 1))), (qc 0, .inr (1, [.ref (qt 0), .int (sc 0 1), .int (sc 0 2)])), (qt 0, .inr (8, [.ref (qt 1), .int (st 0 1)])), (qt 1, .inl (k 2, 64, .inl (st 1)))] H := by rw [eH]; exact hP
  have hD : va_D A [(qr 0, .inr (3, [.ref (qc 0), .ref (qr 1)])), (qr 1, .inl (k 0, 26, .inl (sr 1))), (qc 0, .inr (1, [.ref (qt 0), .int (sc 0 1), .int (sc 0 2)])), (qt 0, .inr (8, [.ref (qt 1), .int (st 0 1)])), (qt 1, .inl (k 2, 64, .inl (st 1)))] := hD
  have hS : va_S A s.heap H locs := by rw [eH, el]; exact hS
  suffices goal : W p l e ({ frames := 4, cells := 0, slots := 0, locals := 85 } : Room) s m ([.ref (qr 0), .ref (b 10), .int p0] : List Value).toArray below meth c H locs 0 0 Q (F0 m 0 ls []) by rw [eH, el] at goal; exact goal
  refine lv_iconst (v := 0) hx hb dX5_expectOnce_0 (by decide) ?_
  refine lv_istore_n (lv' := [(3, .int 0), (0, .ref (qr 0)), (1, .ref (b 10)), (2, .int p0)]) hx hb dX5_expectOnce_1 rfl hl (by decide) rfl (fun ls hl => ?_)
  have hL2 : ∀ (n21 : Nat) (v19 : Int32) (g20 : Nat → Int32) (H : Heap) (locs : List Loc) (ls : Array Slot), 7 - v19.toInt < (n21 : Int) → (0 ≤ v19.toInt ∧ v19.toInt ≤ 7) → (0 ≤ (g20 3).toInt ∧ (g20 3).toInt ≤ 7) → (0 ≤ (g20 16).toInt ∧ (g20 16).toInt ≤ 7) → (∀ j, 0 ≤ (g20 j).toInt ∧ (g20 j).toInt ≤ 31) → va_P D vwCl [(qr 0, .inr (3, [.ref (qc 0), .ref (qr 1)])), (qr 1, .inl (k 0, 26, .inl g20)), (qc 0, .inr (1, [.ref (qt 0), .int (sc 0 1), .int (sc 0 2)])), (qt 0, .inr (8, [.ref (qt 1), .int (st 0 1)])), (qt 1, .inl (k 2, 64, .inl (st 1)))] H → va_D A [(qr 0, .inr (3, [.ref (qc 0), .ref (qr 1)])), (qr 1, .inl (k 0, 26, .inl g20)), (qc 0, .inr (1, [.ref (qt 0), .int (sc 0 1), .int (sc 0 2)])), (qt 0, .inr (8, [.ref (qt 1), .int (st 0 1)])), (qt 1, .inl (k 2, 64, .inl (st 1)))] → va_S A s.heap H locs → lv_has ls 4 [(3, .int v19), (0, .ref (qr 0)), (1, .ref (b 10)), (2, .int p0)] → W p l e ({ frames := 4, cells := 0, slots := 0, locals := 85 } : Room) s m ([.ref (qr 0), .ref (b 10), .int p0] : List Value).toArray below meth c H locs 0 0 Q (F0 m 2 ls []) := by
    intro n21
    induction n21 with
    | zero => intro v19 g20 H locs ls hmn21 bv19 u3 u16 ag20 hP hD hS hl; exact absurd hmn21 (by omega)
    | succ n21 ih2 =>
      intro v19 g20 H locs ls hmn21 bv19 u3 u16 ag20 hP hD hS hl
      refine lv_iload_n hx hb dX5_expectOnce_2 rfl (lv_at hl 0 rfl) ?_
      refine lv_aload_n hx hb dX5_expectOnce_3 rfl (lv_at hl 2 rfl) ?_
      refine g_ir (g_runK (rest := [.int v19]) cx hP hD hS (i := 0) (Nat.le_of_ble_eq_true rfl) [] (c_J0_length_8abf5_S0 l D k b H.size) gX5_expectOnce_J0_length_8abf5 rfl rfl rfl nd_J0_length_8abf5 ⟨Nat.le_of_ble_eq_true rfl, Nat.le_of_ble_eq_true rfl⟩ rfl hl.1 rfl (Nat.le_of_ble_eq_true rfl) ⟨Nat.zero_le _, Nat.zero_le _⟩ dX5_expectOnce_4) cx.2.2.1 hP hD hS [] rfl rfl (fun r23 H locs hw22 hP hS => ?_)
      have w24 : r23.toInt = 7 := hw22
      clear hw22
      refine lv_icmp_ge (tgt := 34) hx hb dX5_expectOnce_7 (by decide) (fun c25 => ?_) (fun c25 => ?_)
      · have f25 : r23.toInt ≤ v19.toInt := f_le rfl rfl c25
        rw [hQ]
        exact x_v cx hr g20 hP hD hS ⟨ag20, (show 0 ≤ (g20 3).toInt ∧ (g20 3).toInt ≤ 7 from by omega), (show 0 ≤ (g20 16).toInt ∧ (g20 16).toInt ≤ 7 from by omega)⟩ dX5_expectOnce_34
      · have f25 : v19.toInt < r23.toInt := f_nle rfl rfl c25
        refine lv_aload_n hx hb dX5_expectOnce_10 rfl (lv_at hl 1 rfl) ?_
        refine g_get cx hP iw_X5_expectOnce_S0_X5 0 rfl rfl 1 (by decide) rfl fw_X5_expectOnce_S0_9 rfl dX5_expectOnce_11 ?_
        refine lv_aload_n hx hb dX5_expectOnce_14 rfl (lv_at hl 2 rfl) ?_
        refine lv_iload_n hx hb dX5_expectOnce_15 rfl (lv_at hl 0 rfl) ?_
        refine g_ir (g_runK (rest := [.ref (qr 1)]) cx hP hD hS (i := 0) (Nat.le_of_ble_eq_true rfl) [.int v19] (c_J0_charAt_5068e_S0 l D k b H.size v19 (show 0 ≤ v19.toInt ∧ v19.toInt ≤ 6 from by first | decide | omega)) gX5_expectOnce_J0_charAt_5068e rfl rfl rfl nd_J0_charAt_5068e ⟨Nat.le_of_ble_eq_true rfl, Nat.le_of_ble_eq_true rfl⟩ rfl hl.1 rfl (Nat.le_of_ble_eq_true rfl) ⟨Nat.zero_le _, Nat.zero_le _⟩ dX5_expectOnce_16) cx.2.2.1 hP hD hS [] rfl rfl (fun r27 H locs hw26 hP hS => ?_)
        replace hw26 : (65 ≤ r27.toInt ∧ r27.toInt ≤ 90) ∧ (¬ 0 = 1 ∨ r27.toInt = 87 ∨ r27.toInt = 79) := hw26
        obtain ⟨w28, w29⟩ := hw26
        have cw := w29
        refine lv_bipush (v := 65) hx hb dX5_expectOnce_19 (by decide) ?_
        refine lv_isub hx hb dX5_expectOnce_21 (lv_topi (fun v30 e30 => ?_))
        have t30 : v30.toInt = r27.toInt - 65 := by rw [e30]; exact i_sub rfl (by decide) (by omega) (by omega)
        refine lv_iconst (v := 0) hx hb dX5_expectOnce_22 (by decide) ?_
        refine lv_iload_n hx hb dX5_expectOnce_23 rfl (lv_at hl 3 rfl) ?_
        have hlit31 : (0 : Int32).toInt = 0 := by decide
        refine g_ir (g_runS (wc := []) (rest := [.int v30, .ref (qr 1)]) cx hP hD hS [] rfl (by decide) [.int 0, .int p0] (c_X2_figures l D k b H.size 0 p0) gX5_expectOnce_X2_figures rfl rfl rfl nd_X2_figures ⟨Nat.le_of_ble_eq_true rfl, Nat.le_of_ble_eq_true rfl⟩ rfl hl.1 rfl (Nat.le_of_ble_eq_true rfl) ⟨Nat.zero_le _, Nat.zero_le _⟩ dX5_expectOnce_24) cx.2.2.1 hP hD hS [] rfl rfl (fun r33 H locs hw32 hP hS => ?_)
        have w34 : r33 = J_X2_figures (0 : Int32) p0 := hw32
        clear hw32
        have zr33 := fig_t w34 ⟨by omega, by omega⟩
        have hn35 : vp_in v30 26 := f_in (a := v30.toInt) rfl (by omega) (by omega)
        refine va_iast hx hb cx.2.1 hP hD hS 1 0 rfl rfl hn35 dX5_expectOnce_27 (fun H locs hP hD hS => ?_)
        obtain ⟨g36, eg36⟩ : ∃ g : Nat → Int32, g = upd g20 (v30).toNatClampNeg r33 := ⟨_, rfl⟩
        rw [← eg36] at hP hD
        have hP : va_P D vwCl [(qr 0, .inr (3, [.ref (qc 0), .ref (qr 1)])), (qr 1, .inl (k 0, 26, .inl g36)), (qc 0, .inr (1, [.ref (qt 0), .int (sc 0 1), .int (sc 0 2)])), (qt 0, .inr (8, [.ref (qt 1), .int (st 0 1)])), (qt 1, .inl (k 2, 64, .inl (st 1)))] H := hP
        have hD : va_D A [(qr 0, .inr (3, [.ref (qc 0), .ref (qr 1)])), (qr 1, .inl (k 0, 26, .inl g36)), (qc 0, .inr (1, [.ref (qt 0), .int (sc 0 1), .int (sc 0 2)])), (qt 0, .inr (8, [.ref (qt 1), .int (st 0 1)])), (qt 1, .inl (k 2, 64, .inl (st 1)))] := hD
        have ag36 : ∀ j, 0 ≤ (g36 j).toInt ∧ (g36 j).toInt ≤ 31 := by rw [eg36]; exact upd_all ag20 ⟨by first | decide | omega, by first | decide | omega⟩
        have s37 := updI eg36 rfl (show 0 ≤ v30.toInt from by omega) 3
        have s38 := updI eg36 rfl (show 0 ≤ v30.toInt from by omega) 16
        obtain ⟨v39, e39⟩ : ∃ z : Int32, z = v19 + 1 := ⟨_, rfl⟩
        refine lv_iinc (v := v39) (lv' := [(3, .int v39), (0, .ref (qr 0)), (1, .ref (b 10)), (2, .int p0)]) hx hb dX5_expectOnce_28 hl (k := 0) rfl (by rw [e39]; rfl) (by decide) rfl (fun ls hl => ?_)
        have t39 : v39.toInt = v19.toInt + 1 := by rw [e39]; exact i_add rfl (by decide) (by omega) (by omega)
        refine lv_goto (tgt := 2) hx hb dX5_expectOnce_31 (by decide) ?_
        exact ih2 v39 g36 _ _ _ (by omega) (by first | decide | omega) (by first | decide | omega) (by first | decide | omega) ag36 hP hD hS (lv_sub hl [0, 1, 2, 3] rfl)
  have hlit40 : (0 : Int32).toInt = 0 := by decide
  exact hL2 (Int.toNat (7 - 0) + 1) 0 (sr 1) _ _ _ (by omega) (by first | decide | omega) (by first | decide | omega) (by first | decide | omega) u_a hP hD hS (lv_sub hl [0, 1, 2, 3] rfl)
theorem fw_X5_expectOnce_S1_9 : Cond.fieldLink RX5 9 "StillInAugust$HouseReader" "untold" "[I" ∈ wsX5_expectOnce := by decide +kernel
theorem iw_X5_expectOnce_S1_X5 : ∀ w ∈ u_ws RX5 TX5 2, w ∈ wsX5_expectOnce := fun _ h => List.mem_cons_of_mem _ (List.mem_append_right _ h)
set_option maxHeartbeats 4000000 in
set_option maxRecDepth 100000 in
theorem c_X5_expectOnce_S1 (l : Launch) (D : va_G) (k : Nat → ClassId) (b : Nat → Nat) (qr : Nat → Nat) (sr : Nat → Nat → Int32) (qc : Nat → Nat) (sc : Nat → Nat → Int32) (qt : Nat → Nat) (st : Nat → Nat → Int32) (sz : Nat) (p0 : Int32) (u_a : ∀ j, 0 ≤ (sr 1 j).toInt ∧ (sr 1 j).toInt ≤ 31) (u_3 : 0 ≤ (sr 1 3).toInt ∧ (sr 1 3).toInt ≤ 7) (u_16 : 0 ≤ (sr 1 16).toInt ∧ (sr 1 16).toInt ≤ 7) (hp0 : -1 ≤ p0.toInt ∧ p0.toInt ≤ 4) : MetV l D k b yX5_expectOnce wsX5_expectOnce ({ frames := 4, cells := 0, slots := 0, locals := 85 } : Room) [(qr 0, .inr (3, [.ref (qc 0), .ref (qr 1)])), (qr 1, .inl (k 0, 26, .inl (sr 1))), (qc 0, .inr (1, [.ref (qt 0), .int (sc 0 1), .int (sc 0 2)])), (qt 0, .inr (8, [.ref (qt 1), .int (st 0 1)])), (qt 1, .inl (k 2, 64, .inl (st 1)))] sz [.ref (qr 0), .ref (b 11), .int p0] (fun (u : (Nat → Int32)) => (∀ j, 0 ≤ (u j).toInt ∧ (u j).toInt ≤ 31) ∧ (0 ≤ (u 3).toInt ∧ (u 3).toInt ≤ 7) ∧ (0 ≤ (u 16).toInt ∧ (u 16).toInt ≤ 7)) (fun u => [(qr 0, .inr (3, [.ref (qc 0), .ref (qr 1)])), (qr 1, .inl (k 0, 26, .inl u)), (qc 0, .inr (1, [.ref (qt 0), .int (sc 0 1), .int (sc 0 2)])), (qt 0, .inr (8, [.ref (qt 1), .int (st 0 1)])), (qt 1, .inl (k 2, 64, .inl (st 1)))]) := by
  refine g_enter (cc := cX5_expectOnce) (maxL := 4) (ret := none) (by decide) rfl (Nat.le_of_ble_eq_true rfl) ?_
  intro p e s m below meth c A hsz hAe cx hr hP hD hS ls hl
  rw [hAe]
  refine g_q (fun Q hQ => ?_)
  have hx := cx.1.1
  have hb := cx.1.2.1
  have bp0 := i_rng p0
  have hl : lv_has ls 4 [(0, .ref (qr 0)), (1, .ref (b 11)), (2, .int p0)] := hl
  obtain ⟨H, eH⟩ : ∃ H : Heap, H = s.heap := ⟨_, rfl⟩
  obtain ⟨locs, el⟩ : ∃ L : List Loc, L = [] := ⟨_, rfl⟩
  have hP : va_P D vwCl [(qr 0, .inr (3, [.ref (qc 0), .ref (qr 1)])), (qr 1, .inl (k 0, 26, .inl (sr 1))), (qc 0, .inr (1, [.ref (qt 0), .int (sc 0 1), .int (sc 0 2)])), (qt 0, .inr (8, [.ref (qt 1), .int (st 0 1)])), (qt 1, .inl (k 2, 64, .inl (st 1)))] H := by rw [eH]; exact hP
  have hD : va_D A [(qr 0, .inr (3, [.ref (qc 0), .ref (qr 1)])), (qr 1, .inl (k 0, 26, .inl (sr 1))), (qc 0, .inr (1, [.ref (qt 0), .int (sc 0 1), .int (sc 0 2)])), (qt 0, .inr (8, [.ref (qt 1), .int (st 0 1)])), (qt 1, .inl (k 2, 64, .inl (st 1)))] := hD
  have hS : va_S A s.heap H locs := by rw [eH, el]; exact hS
  suffices goal : W p l e ({ frames := 4, cells := 0, slots := 0, locals := 85 } : Room) s m ([.ref (qr 0), .ref (b 11), .int p0] : List Value).toArray below meth c H locs 0 0 Q (F0 m 0 ls []) by rw [eH, el] at goal; exact goal
  refine lv_iconst (v := 0) hx hb dX5_expectOnce_0 (by decide) ?_
  refine lv_istore_n (lv' := [(3, .int 0), (0, .ref (qr 0)), (1, .ref (b 11)), (2, .int p0)]) hx hb dX5_expectOnce_1 rfl hl (by decide) rfl (fun ls hl => ?_)
  have hL2 : ∀ (n21 : Nat) (v19 : Int32) (g20 : Nat → Int32) (H : Heap) (locs : List Loc) (ls : Array Slot), 2 - v19.toInt < (n21 : Int) → (0 ≤ v19.toInt ∧ v19.toInt ≤ 2) → (0 ≤ (g20 3).toInt ∧ (g20 3).toInt ≤ 7) → (0 ≤ (g20 16).toInt ∧ (g20 16).toInt ≤ 7) → (∀ j, 0 ≤ (g20 j).toInt ∧ (g20 j).toInt ≤ 31) → va_P D vwCl [(qr 0, .inr (3, [.ref (qc 0), .ref (qr 1)])), (qr 1, .inl (k 0, 26, .inl g20)), (qc 0, .inr (1, [.ref (qt 0), .int (sc 0 1), .int (sc 0 2)])), (qt 0, .inr (8, [.ref (qt 1), .int (st 0 1)])), (qt 1, .inl (k 2, 64, .inl (st 1)))] H → va_D A [(qr 0, .inr (3, [.ref (qc 0), .ref (qr 1)])), (qr 1, .inl (k 0, 26, .inl g20)), (qc 0, .inr (1, [.ref (qt 0), .int (sc 0 1), .int (sc 0 2)])), (qt 0, .inr (8, [.ref (qt 1), .int (st 0 1)])), (qt 1, .inl (k 2, 64, .inl (st 1)))] → va_S A s.heap H locs → lv_has ls 4 [(3, .int v19), (0, .ref (qr 0)), (1, .ref (b 11)), (2, .int p0)] → W p l e ({ frames := 4, cells := 0, slots := 0, locals := 85 } : Room) s m ([.ref (qr 0), .ref (b 11), .int p0] : List Value).toArray below meth c H locs 0 0 Q (F0 m 2 ls []) := by
    intro n21
    induction n21 with
    | zero => intro v19 g20 H locs ls hmn21 bv19 u3 u16 ag20 hP hD hS hl; exact absurd hmn21 (by omega)
    | succ n21 ih2 =>
      intro v19 g20 H locs ls hmn21 bv19 u3 u16 ag20 hP hD hS hl
      refine lv_iload_n hx hb dX5_expectOnce_2 rfl (lv_at hl 0 rfl) ?_
      refine lv_aload_n hx hb dX5_expectOnce_3 rfl (lv_at hl 2 rfl) ?_
      refine g_ir (g_runK (rest := [.int v19]) cx hP hD hS (i := 1) (Nat.le_of_ble_eq_true rfl) [] (c_J0_length_8abf5_S1 l D k b H.size) gX5_expectOnce_J0_length_8abf5 rfl rfl rfl nd_J0_length_8abf5 ⟨Nat.le_of_ble_eq_true rfl, Nat.le_of_ble_eq_true rfl⟩ rfl hl.1 rfl (Nat.le_of_ble_eq_true rfl) ⟨Nat.zero_le _, Nat.zero_le _⟩ dX5_expectOnce_4) cx.2.2.1 hP hD hS [] rfl rfl (fun r23 H locs hw22 hP hS => ?_)
      have w24 : r23.toInt = 2 := hw22
      clear hw22
      refine lv_icmp_ge (tgt := 34) hx hb dX5_expectOnce_7 (by decide) (fun c25 => ?_) (fun c25 => ?_)
      · have f25 : r23.toInt ≤ v19.toInt := f_le rfl rfl c25
        rw [hQ]
        exact x_v cx hr g20 hP hD hS ⟨ag20, (show 0 ≤ (g20 3).toInt ∧ (g20 3).toInt ≤ 7 from by omega), (show 0 ≤ (g20 16).toInt ∧ (g20 16).toInt ≤ 7 from by omega)⟩ dX5_expectOnce_34
      · have f25 : v19.toInt < r23.toInt := f_nle rfl rfl c25
        refine lv_aload_n hx hb dX5_expectOnce_10 rfl (lv_at hl 1 rfl) ?_
        refine g_get cx hP iw_X5_expectOnce_S1_X5 0 rfl rfl 1 (by decide) rfl fw_X5_expectOnce_S1_9 rfl dX5_expectOnce_11 ?_
        refine lv_aload_n hx hb dX5_expectOnce_14 rfl (lv_at hl 2 rfl) ?_
        refine lv_iload_n hx hb dX5_expectOnce_15 rfl (lv_at hl 0 rfl) ?_
        refine g_ir (g_runK (rest := [.ref (qr 1)]) cx hP hD hS (i := 1) (Nat.le_of_ble_eq_true rfl) [.int v19] (c_J0_charAt_5068e_S1 l D k b H.size v19 (show 0 ≤ v19.toInt ∧ v19.toInt ≤ 1 from by first | decide | omega)) gX5_expectOnce_J0_charAt_5068e rfl rfl rfl nd_J0_charAt_5068e ⟨Nat.le_of_ble_eq_true rfl, Nat.le_of_ble_eq_true rfl⟩ rfl hl.1 rfl (Nat.le_of_ble_eq_true rfl) ⟨Nat.zero_le _, Nat.zero_le _⟩ dX5_expectOnce_16) cx.2.2.1 hP hD hS [] rfl rfl (fun r27 H locs hw26 hP hS => ?_)
        replace hw26 : (65 ≤ r27.toInt ∧ r27.toInt ≤ 90) ∧ (¬ 1 = 1 ∨ r27.toInt = 87 ∨ r27.toInt = 79) := hw26
        obtain ⟨w28, w29⟩ := hw26
        have cw := w29
        refine lv_bipush (v := 65) hx hb dX5_expectOnce_19 (by decide) ?_
        refine lv_isub hx hb dX5_expectOnce_21 (lv_topi (fun v30 e30 => ?_))
        have t30 : v30.toInt = r27.toInt - 65 := by rw [e30]; exact i_sub rfl (by decide) (by omega) (by omega)
        refine lv_iconst (v := 0) hx hb dX5_expectOnce_22 (by decide) ?_
        refine lv_iload_n hx hb dX5_expectOnce_23 rfl (lv_at hl 3 rfl) ?_
        have hlit31 : (0 : Int32).toInt = 0 := by decide
        refine g_ir (g_runS (wc := []) (rest := [.int v30, .ref (qr 1)]) cx hP hD hS [] rfl (by decide) [.int 0, .int p0] (c_X2_figures l D k b H.size 0 p0) gX5_expectOnce_X2_figures rfl rfl rfl nd_X2_figures ⟨Nat.le_of_ble_eq_true rfl, Nat.le_of_ble_eq_true rfl⟩ rfl hl.1 rfl (Nat.le_of_ble_eq_true rfl) ⟨Nat.zero_le _, Nat.zero_le _⟩ dX5_expectOnce_24) cx.2.2.1 hP hD hS [] rfl rfl (fun r33 H locs hw32 hP hS => ?_)
        have w34 : r33 = J_X2_figures (0 : Int32) p0 := hw32
        clear hw32
        have zr33 := fig_t w34 ⟨by omega, by omega⟩
        have hn35 : vp_in v30 26 := f_in (a := v30.toInt) rfl (by omega) (by omega)
        refine va_iast hx hb cx.2.1 hP hD hS 1 0 rfl rfl hn35 dX5_expectOnce_27 (fun H locs hP hD hS => ?_)
        obtain ⟨g36, eg36⟩ : ∃ g : Nat → Int32, g = upd g20 (v30).toNatClampNeg r33 := ⟨_, rfl⟩
        rw [← eg36] at hP hD
        have hP : va_P D vwCl [(qr 0, .inr (3, [.ref (qc 0), .ref (qr 1)])), (qr 1, .inl (k 0, 26, .inl g36)), (qc 0, .inr (1, [.ref (qt 0), .int (sc 0 1), .int (sc 0 2)])), (qt 0, .inr (8, [.ref (qt 1), .int (st 0 1)])), (qt 1, .inl (k 2, 64, .inl (st 1)))] H := hP
        have hD : va_D A [(qr 0, .inr (3, [.ref (qc 0), .ref (qr 1)])), (qr 1, .inl (k 0, 26, .inl g36)), (qc 0, .inr (1, [.ref (qt 0), .int (sc 0 1), .int (sc 0 2)])), (qt 0, .inr (8, [.ref (qt 1), .int (st 0 1)])), (qt 1, .inl (k 2, 64, .inl (st 1)))] := hD
        have ag36 : ∀ j, 0 ≤ (g36 j).toInt ∧ (g36 j).toInt ≤ 31 := by rw [eg36]; exact upd_all ag20 ⟨by first | decide | omega, by first | decide | omega⟩
        have s37 := updI eg36 rfl (show 0 ≤ v30.toInt from by omega) 3
        have s38 := updI eg36 rfl (show 0 ≤ v30.toInt from by omega) 16
        obtain ⟨v39, e39⟩ : ∃ z : Int32, z = v19 + 1 := ⟨_, rfl⟩
        refine lv_iinc (v := v39) (lv' := [(3, .int v39), (0, .ref (qr 0)), (1, .ref (b 11)), (2, .int p0)]) hx hb dX5_expectOnce_28 hl (k := 0) rfl (by rw [e39]; rfl) (by decide) rfl (fun ls hl => ?_)
        have t39 : v39.toInt = v19.toInt + 1 := by rw [e39]; exact i_add rfl (by decide) (by omega) (by omega)
        refine lv_goto (tgt := 2) hx hb dX5_expectOnce_31 (by decide) ?_
        exact ih2 v39 g36 _ _ _ (by omega) (by first | decide | omega) (by first | decide | omega) (by first | decide | omega) ag36 hP hD hS (lv_sub hl [0, 1, 2, 3] rfl)
  have hlit40 : (0 : Int32).toInt = 0 := by decide
  exact hL2 (Int.toNat (2 - 0) + 1) 0 (sr 1) _ _ _ (by omega) (by first | decide | omega) (by first | decide | omega) (by first | decide | omega) u_a hP hD hS (lv_sub hl [0, 1, 2, 3] rfl)
theorem fw_X5_expectOnce_S2_9 : Cond.fieldLink RX5 9 "StillInAugust$HouseReader" "untold" "[I" ∈ wsX5_expectOnce := by decide +kernel
theorem iw_X5_expectOnce_S2_X5 : ∀ w ∈ u_ws RX5 TX5 2, w ∈ wsX5_expectOnce := fun _ h => List.mem_cons_of_mem _ (List.mem_append_right _ h)
set_option maxHeartbeats 4000000 in
set_option maxRecDepth 100000 in
theorem c_X5_expectOnce_S2 (l : Launch) (D : va_G) (k : Nat → ClassId) (b : Nat → Nat) (qr : Nat → Nat) (sr : Nat → Nat → Int32) (qc : Nat → Nat) (sc : Nat → Nat → Int32) (qt : Nat → Nat) (st : Nat → Nat → Int32) (sz : Nat) (p0 : Int32) (u_a : ∀ j, 0 ≤ (sr 1 j).toInt ∧ (sr 1 j).toInt ≤ 31) (u_3 : 0 ≤ (sr 1 3).toInt ∧ (sr 1 3).toInt ≤ 7) (u_16 : 0 ≤ (sr 1 16).toInt ∧ (sr 1 16).toInt ≤ 7) (hp0 : -1 ≤ p0.toInt ∧ p0.toInt ≤ 2) : MetV l D k b yX5_expectOnce wsX5_expectOnce ({ frames := 4, cells := 0, slots := 0, locals := 85 } : Room) [(qr 0, .inr (3, [.ref (qc 0), .ref (qr 1)])), (qr 1, .inl (k 0, 26, .inl (sr 1))), (qc 0, .inr (1, [.ref (qt 0), .int (sc 0 1), .int (sc 0 2)])), (qt 0, .inr (8, [.ref (qt 1), .int (st 0 1)])), (qt 1, .inl (k 2, 64, .inl (st 1)))] sz [.ref (qr 0), .ref (b 12), .int p0] (fun (u : (Nat → Int32)) => (∀ j, 0 ≤ (u j).toInt ∧ (u j).toInt ≤ 31) ∧ (0 ≤ (u 3).toInt ∧ (u 3).toInt ≤ 7) ∧ (0 ≤ (u 16).toInt ∧ (u 16).toInt ≤ 7)) (fun u => [(qr 0, .inr (3, [.ref (qc 0), .ref (qr 1)])), (qr 1, .inl (k 0, 26, .inl u)), (qc 0, .inr (1, [.ref (qt 0), .int (sc 0 1), .int (sc 0 2)])), (qt 0, .inr (8, [.ref (qt 1), .int (st 0 1)])), (qt 1, .inl (k 2, 64, .inl (st 1)))]) := by
  refine g_enter (cc := cX5_expectOnce) (maxL := 4) (ret := none) (by decide) rfl (Nat.le_of_ble_eq_true rfl) ?_
  intro p e s m below meth c A hsz hAe cx hr hP hD hS ls hl
  rw [hAe]
  refine g_q (fun Q hQ => ?_)
  have hx := cx.1.1
  have hb := cx.1.2.1
  have bp0 := i_rng p0
  have hl : lv_has ls 4 [(0, .ref (qr 0)), (1, .ref (b 12)), (2, .int p0)] := hl
  obtain ⟨H, eH⟩ : ∃ H : Heap, H = s.heap := ⟨_, rfl⟩
  obtain ⟨locs, el⟩ : ∃ L : List Loc, L = [] := ⟨_, rfl⟩
  have hP : va_P D vwCl [(qr 0, .inr (3, [.ref (qc 0), .ref (qr 1)])), (qr 1, .inl (k 0, 26, .inl (sr 1))), (qc 0, .inr (1, [.ref (qt 0), .int (sc 0 1), .int (sc 0 2)])), (qt 0, .inr (8, [.ref (qt 1), .int (st 0 1)])), (qt 1, .inl (k 2, 64, .inl (st 1)))] H := by rw [eH]; exact hP
  have hD : va_D A [(qr 0, .inr (3, [.ref (qc 0), .ref (qr 1)])), (qr 1, .inl (k 0, 26, .inl (sr 1))), (qc 0, .inr (1, [.ref (qt 0), .int (sc 0 1), .int (sc 0 2)])), (qt 0, .inr (8, [.ref (qt 1), .int (st 0 1)])), (qt 1, .inl (k 2, 64, .inl (st 1)))] := hD
  have hS : va_S A s.heap H locs := by rw [eH, el]; exact hS
  suffices goal : W p l e ({ frames := 4, cells := 0, slots := 0, locals := 85 } : Room) s m ([.ref (qr 0), .ref (b 12), .int p0] : List Value).toArray below meth c H locs 0 0 Q (F0 m 0 ls []) by rw [eH, el] at goal; exact goal
  refine lv_iconst (v := 0) hx hb dX5_expectOnce_0 (by decide) ?_
  refine lv_istore_n (lv' := [(3, .int 0), (0, .ref (qr 0)), (1, .ref (b 12)), (2, .int p0)]) hx hb dX5_expectOnce_1 rfl hl (by decide) rfl (fun ls hl => ?_)
  have hL2 : ∀ (n21 : Nat) (v19 : Int32) (g20 : Nat → Int32) (H : Heap) (locs : List Loc) (ls : Array Slot), 2 - v19.toInt < (n21 : Int) → (0 ≤ v19.toInt ∧ v19.toInt ≤ 2) → (0 ≤ (g20 3).toInt ∧ (g20 3).toInt ≤ 7) → (0 ≤ (g20 16).toInt ∧ (g20 16).toInt ≤ 7) → (∀ j, 0 ≤ (g20 j).toInt ∧ (g20 j).toInt ≤ 31) → va_P D vwCl [(qr 0, .inr (3, [.ref (qc 0), .ref (qr 1)])), (qr 1, .inl (k 0, 26, .inl g20)), (qc 0, .inr (1, [.ref (qt 0), .int (sc 0 1), .int (sc 0 2)])), (qt 0, .inr (8, [.ref (qt 1), .int (st 0 1)])), (qt 1, .inl (k 2, 64, .inl (st 1)))] H → va_D A [(qr 0, .inr (3, [.ref (qc 0), .ref (qr 1)])), (qr 1, .inl (k 0, 26, .inl g20)), (qc 0, .inr (1, [.ref (qt 0), .int (sc 0 1), .int (sc 0 2)])), (qt 0, .inr (8, [.ref (qt 1), .int (st 0 1)])), (qt 1, .inl (k 2, 64, .inl (st 1)))] → va_S A s.heap H locs → lv_has ls 4 [(3, .int v19), (0, .ref (qr 0)), (1, .ref (b 12)), (2, .int p0)] → W p l e ({ frames := 4, cells := 0, slots := 0, locals := 85 } : Room) s m ([.ref (qr 0), .ref (b 12), .int p0] : List Value).toArray below meth c H locs 0 0 Q (F0 m 2 ls []) := by
    intro n21
    induction n21 with
    | zero => intro v19 g20 H locs ls hmn21 bv19 u3 u16 ag20 hP hD hS hl; exact absurd hmn21 (by omega)
    | succ n21 ih2 =>
      intro v19 g20 H locs ls hmn21 bv19 u3 u16 ag20 hP hD hS hl
      refine lv_iload_n hx hb dX5_expectOnce_2 rfl (lv_at hl 0 rfl) ?_
      refine lv_aload_n hx hb dX5_expectOnce_3 rfl (lv_at hl 2 rfl) ?_
      refine g_ir (g_runK (rest := [.int v19]) cx hP hD hS (i := 2) (Nat.le_of_ble_eq_true rfl) [] (c_J0_length_8abf5_S2 l D k b H.size) gX5_expectOnce_J0_length_8abf5 rfl rfl rfl nd_J0_length_8abf5 ⟨Nat.le_of_ble_eq_true rfl, Nat.le_of_ble_eq_true rfl⟩ rfl hl.1 rfl (Nat.le_of_ble_eq_true rfl) ⟨Nat.zero_le _, Nat.zero_le _⟩ dX5_expectOnce_4) cx.2.2.1 hP hD hS [] rfl rfl (fun r23 H locs hw22 hP hS => ?_)
      have w24 : r23.toInt = 2 := hw22
      clear hw22
      refine lv_icmp_ge (tgt := 34) hx hb dX5_expectOnce_7 (by decide) (fun c25 => ?_) (fun c25 => ?_)
      · have f25 : r23.toInt ≤ v19.toInt := f_le rfl rfl c25
        rw [hQ]
        exact x_v cx hr g20 hP hD hS ⟨ag20, (show 0 ≤ (g20 3).toInt ∧ (g20 3).toInt ≤ 7 from by omega), (show 0 ≤ (g20 16).toInt ∧ (g20 16).toInt ≤ 7 from by omega)⟩ dX5_expectOnce_34
      · have f25 : v19.toInt < r23.toInt := f_nle rfl rfl c25
        refine lv_aload_n hx hb dX5_expectOnce_10 rfl (lv_at hl 1 rfl) ?_
        refine g_get cx hP iw_X5_expectOnce_S2_X5 0 rfl rfl 1 (by decide) rfl fw_X5_expectOnce_S2_9 rfl dX5_expectOnce_11 ?_
        refine lv_aload_n hx hb dX5_expectOnce_14 rfl (lv_at hl 2 rfl) ?_
        refine lv_iload_n hx hb dX5_expectOnce_15 rfl (lv_at hl 0 rfl) ?_
        refine g_ir (g_runK (rest := [.ref (qr 1)]) cx hP hD hS (i := 2) (Nat.le_of_ble_eq_true rfl) [.int v19] (c_J0_charAt_5068e_S2 l D k b H.size v19 (show 0 ≤ v19.toInt ∧ v19.toInt ≤ 1 from by first | decide | omega)) gX5_expectOnce_J0_charAt_5068e rfl rfl rfl nd_J0_charAt_5068e ⟨Nat.le_of_ble_eq_true rfl, Nat.le_of_ble_eq_true rfl⟩ rfl hl.1 rfl (Nat.le_of_ble_eq_true rfl) ⟨Nat.zero_le _, Nat.zero_le _⟩ dX5_expectOnce_16) cx.2.2.1 hP hD hS [] rfl rfl (fun r27 H locs hw26 hP hS => ?_)
        replace hw26 : (65 ≤ r27.toInt ∧ r27.toInt ≤ 90) ∧ (¬ 2 = 1 ∨ r27.toInt = 87 ∨ r27.toInt = 79) := hw26
        obtain ⟨w28, w29⟩ := hw26
        have cw := w29
        refine lv_bipush (v := 65) hx hb dX5_expectOnce_19 (by decide) ?_
        refine lv_isub hx hb dX5_expectOnce_21 (lv_topi (fun v30 e30 => ?_))
        have t30 : v30.toInt = r27.toInt - 65 := by rw [e30]; exact i_sub rfl (by decide) (by omega) (by omega)
        refine lv_iconst (v := 0) hx hb dX5_expectOnce_22 (by decide) ?_
        refine lv_iload_n hx hb dX5_expectOnce_23 rfl (lv_at hl 3 rfl) ?_
        have hlit31 : (0 : Int32).toInt = 0 := by decide
        refine g_ir (g_runS (wc := []) (rest := [.int v30, .ref (qr 1)]) cx hP hD hS [] rfl (by decide) [.int 0, .int p0] (c_X2_figures l D k b H.size 0 p0) gX5_expectOnce_X2_figures rfl rfl rfl nd_X2_figures ⟨Nat.le_of_ble_eq_true rfl, Nat.le_of_ble_eq_true rfl⟩ rfl hl.1 rfl (Nat.le_of_ble_eq_true rfl) ⟨Nat.zero_le _, Nat.zero_le _⟩ dX5_expectOnce_24) cx.2.2.1 hP hD hS [] rfl rfl (fun r33 H locs hw32 hP hS => ?_)
        have w34 : r33 = J_X2_figures (0 : Int32) p0 := hw32
        clear hw32
        have zr33 := fig_t w34 ⟨by omega, by omega⟩
        have hn35 : vp_in v30 26 := f_in (a := v30.toInt) rfl (by omega) (by omega)
        refine va_iast hx hb cx.2.1 hP hD hS 1 0 rfl rfl hn35 dX5_expectOnce_27 (fun H locs hP hD hS => ?_)
        obtain ⟨g36, eg36⟩ : ∃ g : Nat → Int32, g = upd g20 (v30).toNatClampNeg r33 := ⟨_, rfl⟩
        rw [← eg36] at hP hD
        have hP : va_P D vwCl [(qr 0, .inr (3, [.ref (qc 0), .ref (qr 1)])), (qr 1, .inl (k 0, 26, .inl g36)), (qc 0, .inr (1, [.ref (qt 0), .int (sc 0 1), .int (sc 0 2)])), (qt 0, .inr (8, [.ref (qt 1), .int (st 0 1)])), (qt 1, .inl (k 2, 64, .inl (st 1)))] H := hP
        have hD : va_D A [(qr 0, .inr (3, [.ref (qc 0), .ref (qr 1)])), (qr 1, .inl (k 0, 26, .inl g36)), (qc 0, .inr (1, [.ref (qt 0), .int (sc 0 1), .int (sc 0 2)])), (qt 0, .inr (8, [.ref (qt 1), .int (st 0 1)])), (qt 1, .inl (k 2, 64, .inl (st 1)))] := hD
        have ag36 : ∀ j, 0 ≤ (g36 j).toInt ∧ (g36 j).toInt ≤ 31 := by rw [eg36]; exact upd_all ag20 ⟨by first | decide | omega, by first | decide | omega⟩
        have s37 := updI eg36 rfl (show 0 ≤ v30.toInt from by omega) 3
        have s38 := updI eg36 rfl (show 0 ≤ v30.toInt from by omega) 16
        obtain ⟨v39, e39⟩ : ∃ z : Int32, z = v19 + 1 := ⟨_, rfl⟩
        refine lv_iinc (v := v39) (lv' := [(3, .int v39), (0, .ref (qr 0)), (1, .ref (b 12)), (2, .int p0)]) hx hb dX5_expectOnce_28 hl (k := 0) rfl (by rw [e39]; rfl) (by decide) rfl (fun ls hl => ?_)
        have t39 : v39.toInt = v19.toInt + 1 := by rw [e39]; exact i_add rfl (by decide) (by omega) (by omega)
        refine lv_goto (tgt := 2) hx hb dX5_expectOnce_31 (by decide) ?_
        exact ih2 v39 g36 _ _ _ (by omega) (by first | decide | omega) (by first | decide | omega) (by first | decide | omega) ag36 hP hD hS (lv_sub hl [0, 1, 2, 3] rfl)
  have hlit40 : (0 : Int32).toInt = 0 := by decide
  exact hL2 (Int.toNat (2 - 0) + 1) 0 (sr 1) _ _ _ (by omega) (by first | decide | omega) (by first | decide | omega) (by first | decide | omega) u_a hP hD hS (lv_sub hl [0, 1, 2, 3] rfl)
theorem nd_X5_expectOnce : yX5_expectOnce.cls = RX5 ∧ yX5_expectOnce.cls ≠ "java/lang/invoke/MethodHandle" ∧ yX5_expectOnce.cls ≠ "java/lang/invoke/VarHandle" ∧ (parseMethodDescriptor yX5_expectOnce.desc).map (fun d => d.parameters.length) = some 2 := by decide +kernel
set_option maxHeartbeats 4000000 in
set_option maxRecDepth 100000 in
theorem c_X5_expectParts (l : Launch) (D : va_G) (k : Nat → ClassId) (b : Nat → Nat) (qr : Nat → Nat) (sr : Nat → Nat → Int32) (qc : Nat → Nat) (sc : Nat → Nat → Int32) (qt : Nat → Nat) (st : Nat → Nat → Int32) (sz : Nat) (p0 : Int32) (u_a : ∀ j, 0 ≤ (sr 1 j).toInt ∧ (sr 1 j).toInt ≤ 31) (u_3 : 0 ≤ (sr 1 3).toInt ∧ (sr 1 3).toInt ≤ 7) (u_16 : 0 ≤ (sr 1 16).toInt ∧ (sr 1 16).toInt ≤ 7) (hp0 : 0 ≤ p0.toInt ∧ p0.toInt ≤ 5) : MetV l D k b yX5_expectParts wsX5_expectParts ({ frames := 5, cells := 0, slots := 0, locals := 108 } : Room) [(qr 0, .inr (3, [.ref (qc 0), .ref (qr 1)])), (qr 1, .inl (k 0, 26, .inl (sr 1))), (qc 0, .inr (1, [.ref (qt 0), .int (sc 0 1), .int (sc 0 2)])), (qt 0, .inr (8, [.ref (qt 1), .int (st 0 1)])), (qt 1, .inl (k 2, 64, .inl (st 1)))] sz [.ref (qr 0), .int p0] (fun (u : (Nat → Int32)) => (∀ j, 0 ≤ (u j).toInt ∧ (u j).toInt ≤ 31) ∧ (0 ≤ (u 3).toInt ∧ (u 3).toInt ≤ 7) ∧ (0 ≤ (u 16).toInt ∧ (u 16).toInt ≤ 7)) (fun u => [(qr 0, .inr (3, [.ref (qc 0), .ref (qr 1)])), (qr 1, .inl (k 0, 26, .inl u)), (qc 0, .inr (1, [.ref (qt 0), .int (sc 0 1), .int (sc 0 2)])), (qt 0, .inr (8, [.ref (qt 1), .int (st 0 1)])), (qt 1, .inl (k 2, 64, .inl (st 1)))]) := by
  refine g_enter (cc := cX5_expectParts) (maxL := 2) (ret := none) (by decide) rfl (Nat.le_of_ble_eq_true rfl) ?_
  intro p e s m below meth c A hsz hAe cx hr hP hD hS ls hl
  rw [hAe]
  refine g_q (fun Q hQ => ?_)
  have hx := cx.1.1
  have hb := cx.1.2.1
  have bp0 := i_rng p0
  have hl : lv_has ls 2 [(0, .ref (qr 0)), (1, .int p0)] := hl
  obtain ⟨H, eH⟩ : ∃ H : Heap, H = s.heap := ⟨_, rfl⟩
  obtain ⟨locs, el⟩ : ∃ L : List Loc, L = [] := ⟨_, rfl⟩
  have hP : va_P D vwCl [(qr 0, .inr (3, [.ref (qc 0), .ref (qr 1)])), (qr 1, .inl (k 0, 26, .inl (sr 1))), (qc 0, .inr (1, [.ref (qt 0), .int (sc 0 1), .int (sc 0 2)])), (qt 0, .inr (8, [.ref (qt 1), .int (st 0 1)])), (qt 1, .inl (k 2, 64, .inl (st 1)))] H := by rw [eH]; exact hP
  have hD : va_D A [(qr 0, .inr (3, [.ref (qc 0), .ref (qr 1)])), (qr 1, .inl (k 0, 26, .inl (sr 1))), (qc 0, .inr (1, [.ref (qt 0), .int (sc 0 1), .int (sc 0 2)])), (qt 0, .inr (8, [.ref (qt 1), .int (st 0 1)])), (qt 1, .inl (k 2, 64, .inl (st 1)))] := hD
  have hS : va_S A s.heap H locs := by rw [eH, el]; exact hS
  suffices goal : W p l e ({ frames := 5, cells := 0, slots := 0, locals := 108 } : Room) s m ([.ref (qr 0), .int p0] : List Value).toArray below meth c H locs 0 0 Q (F0 m 0 ls []) by rw [eH, el] at goal; exact goal
  refine lv_aload_n hx hb dX5_expectParts_0 rfl (lv_at hl 0 rfl) ?_
  refine va_ldcS hx hb cx.1.2.2.2.1 cx.2.2.2.2.2.2.2.2.2.2.2.1 dX5_expectParts_1 ?_
  refine lv_iconst (v := 0) hx hb dX5_expectParts_3 (by decide) ?_
  have hlit1 : (0 : Int32).toInt = 0 := by decide
  refine g_vF (w1 := fun (u : (Nat → Int32)) => [(qr 0, .inr (3, [.ref (qc 0), .ref (qr 1)])), (qr 1, .inl (k 0, 26, .inl u)), (qc 0, .inr (1, [.ref (qt 0), .int (sc 0 1), .int (sc 0 2)])), (qt 0, .inr (8, [.ref (qt 1), .int (st 0 1)])), (qt 1, .inl (k 2, 64, .inl (st 1)))]) (g_runVF (ws := [(qr 0, .inr (3, [.ref (qc 0), .ref (qr 1)])), (qr 1, .inl (k 0, 26, .inl (sr 1))), (qc 0, .inr (1, [.ref (qt 0), .int (sc 0 1), .int (sc 0 2)])), (qt 0, .inr (8, [.ref (qt 1), .int (st 0 1)])), (qt 1, .inl (k 2, 64, .inl (st 1)))]) (rest := []) cx hP hD hS [.ref (b 10), .int 0] (c_X5_expectOnce_S0 l D k b qr sr qc sc qt st H.size 0 u_a (show 0 ≤ ((sr 1) 3).toInt ∧ ((sr 1) 3).toInt ≤ 7 from by first | decide | omega) (show 0 ≤ ((sr 1) 16).toInt ∧ ((sr 1) 16).toInt ≤ 7 from by first | decide | omega) (show -1 ≤ (0 : Int32).toInt ∧ (0 : Int32).toInt ≤ 2 from by first | decide | omega)) gX5_expectParts_X5_expectOnce rfl rfl rfl nd_X5_expectOnce ⟨Nat.le_of_ble_eq_true rfl, Nat.le_of_ble_eq_true rfl⟩ (ci := 3) (q0 := 0) rfl rfl rfl hl.1 rfl (Nat.le_of_ble_eq_true rfl) ⟨Nat.zero_le _, Nat.zero_le _⟩ dX5_expectParts_4) cx.2.2.1 hD hS (fun u3 H locs hw2 hP hD hS => ?_)
  obtain ⟨m4, rfl⟩ : ∃ z, z = u3 := ⟨_, rfl⟩
  have hP : va_P D vwCl [(qr 0, .inr (3, [.ref (qc 0), .ref (qr 1)])), (qr 1, .inl (k 0, 26, .inl m4)), (qc 0, .inr (1, [.ref (qt 0), .int (sc 0 1), .int (sc 0 2)])), (qt 0, .inr (8, [.ref (qt 1), .int (st 0 1)])), (qt 1, .inl (k 2, 64, .inl (st 1)))] H := hP
  have hD : va_D A [(qr 0, .inr (3, [.ref (qc 0), .ref (qr 1)])), (qr 1, .inl (k 0, 26, .inl m4)), (qc 0, .inr (1, [.ref (qt 0), .int (sc 0 1), .int (sc 0 2)])), (qt 0, .inr (8, [.ref (qt 1), .int (st 0 1)])), (qt 1, .inl (k 2, 64, .inl (st 1)))] := hD
  replace hw2 : (∀ j, 0 ≤ (m4 j).toInt ∧ (m4 j).toInt ≤ 31) ∧ (0 ≤ (m4 3).toInt ∧ (m4 3).toInt ≤ 7) ∧ (0 ≤ (m4 16).toInt ∧ (m4 16).toInt ≤ 7) := hw2
  obtain ⟨w5, w6, w7⟩ := hw2
  refine lv_aload_n hx hb dX5_expectParts_7 rfl (lv_at hl 0 rfl) ?_
  refine va_ldcS hx hb cx.1.2.2.2.1 cx.2.2.2.2.2.2.2.2.2.2.2.2.1 dX5_expectParts_8 ?_
  refine lv_iload_n hx hb dX5_expectParts_10 rfl (lv_at hl 1 rfl) ?_
  refine lv_iconst (v := 1) hx hb dX5_expectParts_11 (by decide) ?_
  refine lv_isub hx hb dX5_expectParts_12 (lv_topi (fun v8 e8 => ?_))
  have t8 : v8.toInt = p0.toInt - 1 := by rw [e8]; exact i_sub rfl (by decide) (by omega) (by omega)
  refine g_vF (w1 := fun (u : (Nat → Int32)) => [(qr 0, .inr (3, [.ref (qc 0), .ref (qr 1)])), (qr 1, .inl (k 0, 26, .inl u)), (qc 0, .inr (1, [.ref (qt 0), .int (sc 0 1), .int (sc 0 2)])), (qt 0, .inr (8, [.ref (qt 1), .int (st 0 1)])), (qt 1, .inl (k 2, 64, .inl (st 1)))]) (g_runVF (ws := [(qr 0, .inr (3, [.ref (qc 0), .ref (qr 1)])), (qr 1, .inl (k 0, 26, .inl m4)), (qc 0, .inr (1, [.ref (qt 0), .int (sc 0 1), .int (sc 0 2)])), (qt 0, .inr (8, [.ref (qt 1), .int (st 0 1)])), (qt 1, .inl (k 2, 64, .inl (st 1)))]) (rest := []) cx hP hD hS [.ref (b 11), .int v8] (c_X5_expectOnce_S1 l D k b qr (up2 sr 1 m4) qc sc qt st H.size v8 w5 (show 0 ≤ (m4 3).toInt ∧ (m4 3).toInt ≤ 7 from by first | decide | omega) (show 0 ≤ (m4 16).toInt ∧ (m4 16).toInt ≤ 7 from by first | decide | omega) (show -1 ≤ v8.toInt ∧ v8.toInt ≤ 4 from by first | decide | omega)) gX5_expectParts_X5_expectOnce rfl rfl rfl nd_X5_expectOnce ⟨Nat.le_of_ble_eq_true rfl, Nat.le_of_ble_eq_true rfl⟩ (ci := 3) (q0 := 0) rfl rfl rfl hl.1 rfl (Nat.le_of_ble_eq_true rfl) ⟨Nat.zero_le _, Nat.zero_le _⟩ dX5_expectParts_13) cx.2.2.1 hD hS (fun u10 H locs hw9 hP hD hS => ?_)
  obtain ⟨m11, rfl⟩ : ∃ z, z = u10 := ⟨_, rfl⟩
  have hP : va_P D vwCl [(qr 0, .inr (3, [.ref (qc 0), .ref (qr 1)])), (qr 1, .inl (k 0, 26, .inl m11)), (qc 0, .inr (1, [.ref (qt 0), .int (sc 0 1), .int (sc 0 2)])), (qt 0, .inr (8, [.ref (qt 1), .int (st 0 1)])), (qt 1, .inl (k 2, 64, .inl (st 1)))] H := hP
  have hD : va_D A [(qr 0, .inr (3, [.ref (qc 0), .ref (qr 1)])), (qr 1, .inl (k 0, 26, .inl m11)), (qc 0, .inr (1, [.ref (qt 0), .int (sc 0 1), .int (sc 0 2)])), (qt 0, .inr (8, [.ref (qt 1), .int (st 0 1)])), (qt 1, .inl (k 2, 64, .inl (st 1)))] := hD
  replace hw9 : (∀ j, 0 ≤ (m11 j).toInt ∧ (m11 j).toInt ≤ 31) ∧ (0 ≤ (m11 3).toInt ∧ (m11 3).toInt ≤ 7) ∧ (0 ≤ (m11 16).toInt ∧ (m11 16).toInt ≤ 7) := hw9
  obtain ⟨w12, w13, w14⟩ := hw9
  refine lv_aload_n hx hb dX5_expectParts_16 rfl (lv_at hl 0 rfl) ?_
  refine va_ldcS hx hb cx.1.2.2.2.1 cx.2.2.2.2.2.2.2.2.2.2.2.2.2 dX5_expectParts_17 ?_
  refine lv_iconst (v := 2) hx hb dX5_expectParts_19 (by decide) ?_
  have hlit15 : (2 : Int32).toInt = 2 := by decide
  refine g_vF (w1 := fun (u : (Nat → Int32)) => [(qr 0, .inr (3, [.ref (qc 0), .ref (qr 1)])), (qr 1, .inl (k 0, 26, .inl u)), (qc 0, .inr (1, [.ref (qt 0), .int (sc 0 1), .int (sc 0 2)])), (qt 0, .inr (8, [.ref (qt 1), .int (st 0 1)])), (qt 1, .inl (k 2, 64, .inl (st 1)))]) (g_runVF (ws := [(qr 0, .inr (3, [.ref (qc 0), .ref (qr 1)])), (qr 1, .inl (k 0, 26, .inl m11)), (qc 0, .inr (1, [.ref (qt 0), .int (sc 0 1), .int (sc 0 2)])), (qt 0, .inr (8, [.ref (qt 1), .int (st 0 1)])), (qt 1, .inl (k 2, 64, .inl (st 1)))]) (rest := []) cx hP hD hS [.ref (b 12), .int 2] (c_X5_expectOnce_S2 l D k b qr (up2 sr 1 m11) qc sc qt st H.size 2 w12 (show 0 ≤ (m11 3).toInt ∧ (m11 3).toInt ≤ 7 from by first | decide | omega) (show 0 ≤ (m11 16).toInt ∧ (m11 16).toInt ≤ 7 from by first | decide | omega) (show -1 ≤ (2 : Int32).toInt ∧ (2 : Int32).toInt ≤ 2 from by first | decide | omega)) gX5_expectParts_X5_expectOnce rfl rfl rfl nd_X5_expectOnce ⟨Nat.le_of_ble_eq_true rfl, Nat.le_of_ble_eq_true rfl⟩ (ci := 3) (q0 := 0) rfl rfl rfl hl.1 rfl (Nat.le_of_ble_eq_true rfl) ⟨Nat.zero_le _, Nat.zero_le _⟩ dX5_expectParts_20) cx.2.2.1 hD hS (fun u17 H locs hw16 hP hD hS => ?_)
  obtain ⟨m18, rfl⟩ : ∃ z, z = u17 := ⟨_, rfl⟩
  have hP : va_P D vwCl [(qr 0, .inr (3, [.ref (qc 0), .ref (qr 1)])), (qr 1, .inl (k 0, 26, .inl m18)), (qc 0, .inr (1, [.ref (qt 0), .int (sc 0 1), .int (sc 0 2)])), (qt 0, .inr (8, [.ref (qt 1), .int (st 0 1)])), (qt 1, .inl (k 2, 64, .inl (st 1)))] H := hP
  have hD : va_D A [(qr 0, .inr (3, [.ref (qc 0), .ref (qr 1)])), (qr 1, .inl (k 0, 26, .inl m18)), (qc 0, .inr (1, [.ref (qt 0), .int (sc 0 1), .int (sc 0 2)])), (qt 0, .inr (8, [.ref (qt 1), .int (st 0 1)])), (qt 1, .inl (k 2, 64, .inl (st 1)))] := hD
  replace hw16 : (∀ j, 0 ≤ (m18 j).toInt ∧ (m18 j).toInt ≤ 31) ∧ (0 ≤ (m18 3).toInt ∧ (m18 3).toInt ≤ 7) ∧ (0 ≤ (m18 16).toInt ∧ (m18 16).toInt ≤ 7) := hw16
  obtain ⟨w19, w20, w21⟩ := hw16
  rw [hQ]
  exact x_v cx hr m18 hP hD hS ⟨w19, (show 0 ≤ (m18 3).toInt ∧ (m18 3).toInt ≤ 7 from by omega), (show 0 ≤ (m18 16).toInt ∧ (m18 16).toInt ≤ 7 from by omega)⟩ dX5_expectParts_23
theorem fw_X5_readWeeks_20 : Cond.fieldLink RX5 20 "StillInAugust$HouseReader" "cursor" "LStillInAugust$Cursor;" ∈ wsX5_readWeeks := by decide +kernel
theorem fw_X5_readWeeks_66 : Cond.fieldLink RX5 66 "StillInAugust$House" "weeks" "I" ∈ wsX5_readWeeks := by decide +kernel
theorem nd_X2_figure : yX2_figure.cls = RX2 ∧ yX2_figure.cls ≠ "java/lang/invoke/MethodHandle" ∧ yX2_figure.cls ≠ "java/lang/invoke/VarHandle" ∧ (parseMethodDescriptor yX2_figure.desc).map (fun d => d.parameters.length) = some 1 := by decide +kernel
theorem nd_X5_expectParts : yX5_expectParts.cls = RX5 ∧ yX5_expectParts.cls ≠ "java/lang/invoke/MethodHandle" ∧ yX5_expectParts.cls ≠ "java/lang/invoke/VarHandle" ∧ (parseMethodDescriptor yX5_expectParts.desc).map (fun d => d.parameters.length) = some 1 := by decide +kernel
theorem iw_X5_readWeeks_X4 : ∀ w ∈ u_ws RX4 TX4 14, w ∈ wsX5_readWeeks := fun _ h => List.mem_cons_of_mem _ (List.mem_append_left _ (List.mem_append_left _ (List.mem_append_right _ h)))
theorem iw_X5_readWeeks_X5 : ∀ w ∈ u_ws RX5 TX5 2, w ∈ wsX5_readWeeks := fun _ h => List.mem_cons_of_mem _ (List.mem_append_left _ (List.mem_append_left _ (List.mem_append_left _ (List.mem_append_right _ h))))
set_option maxHeartbeats 4000000 in
set_option maxRecDepth 100000 in
theorem c_X5_readWeeks (l : Launch) (D : va_G) (k : Nat → ClassId) (b : Nat → Nat) (qr : Nat → Nat) (sr : Nat → Nat → Int32) (qc : Nat → Nat) (sc : Nat → Nat → Int32) (qt : Nat → Nat) (st : Nat → Nat → Int32) (qh : Nat → Nat) (sh : Nat → Nat → Int32) (sz : Nat) (h_len : 0 ≤ (st 0 1).toInt ∧ (st 0 1).toInt ≤ 64) (u_a : ∀ j, 0 ≤ (sr 1 j).toInt ∧ (sr 1 j).toInt ≤ 31) (u_3 : 0 ≤ (sr 1 3).toInt ∧ (sr 1 3).toInt ≤ 7) (u_16 : 0 ≤ (sr 1 16).toInt ∧ (sr 1 16).toInt ≤ 7) (h_wk : 0 ≤ (sh 0 0).toInt ∧ (sh 0 0).toInt ≤ 5) : MetV l D k b yX5_readWeeks wsX5_readWeeks ({ frames := 6, cells := 0, slots := 0, locals := 129 } : Room) [(qr 0, .inr (3, [.ref (qc 0), .ref (qr 1)])), (qr 1, .inl (k 0, 26, .inl (sr 1))), (qc 0, .inr (1, [.ref (qt 0), .int (sc 0 1), .int (sc 0 2)])), (qt 0, .inr (8, [.ref (qt 1), .int (st 0 1)])), (qt 1, .inl (k 2, 64, .inl (st 1))), (qh 0, .inr (2, [.int (sh 0 0), .int (sh 0 1), .ref (qh 1), .ref (qh 2), .ref (qh 3), .ref (qh 4), .int (sh 0 6), .int (sh 0 7), .int (sh 0 8), .int (sh 0 9), .int (sh 0 10), .int (sh 0 11), .int (sh 0 12), .ref (qh 5)])), (qh 1, .inl (k 0, 5, .inl (sh 1))), (qh 2, .inl (k 0, 5, .inl (sh 2))), (qh 3, .inl (k 0, 3, .inl (sh 3))), (qh 4, .inl (k 0, 3, .inl (sh 4))), (qh 5, .inl (k 0, 525, .inl (sh 5)))] sz [.ref (qr 0), .ref (qh 0)] (fun (u : Int32 × Int32 × (Nat → Int32) × Int32) => (∀ j, 0 ≤ ((u.2.2.1) j).toInt ∧ ((u.2.2.1) j).toInt ≤ 31) ∧ (0 ≤ ((u.2.2.1) 3).toInt ∧ ((u.2.2.1) 3).toInt ≤ 7) ∧ (0 ≤ ((u.2.2.1) 16).toInt ∧ ((u.2.2.1) 16).toInt ≤ 7) ∧ (0 ≤ (u.2.2.2).toInt ∧ (u.2.2.2).toInt ≤ 5)) (fun u => [(qr 0, .inr (3, [.ref (qc 0), .ref (qr 1)])), (qr 1, .inl (k 0, 26, .inl (u.2.2.1))), (qc 0, .inr (1, [.ref (qt 0), .int (u.1), .int (u.2.1)])), (qt 0, .inr (8, [.ref (qt 1), .int (st 0 1)])), (qt 1, .inl (k 2, 64, .inl (st 1))), (qh 0, .inr (2, [.int (u.2.2.2), .int (sh 0 1), .ref (qh 1), .ref (qh 2), .ref (qh 3), .ref (qh 4), .int (sh 0 6), .int (sh 0 7), .int (sh 0 8), .int (sh 0 9), .int (sh 0 10), .int (sh 0 11), .int (sh 0 12), .ref (qh 5)])), (qh 1, .inl (k 0, 5, .inl (sh 1))), (qh 2, .inl (k 0, 5, .inl (sh 2))), (qh 3, .inl (k 0, 3, .inl (sh 3))), (qh 4, .inl (k 0, 3, .inl (sh 4))), (qh 5, .inl (k 0, 525, .inl (sh 5)))]) := by
  refine g_enter (cc := cX5_readWeeks) (maxL := 3) (ret := none) (by decide) rfl (Nat.le_of_ble_eq_true rfl) ?_
  intro p e s m below meth c A hsz hAe cx hr hP hD hS ls hl
  rw [hAe]
  refine g_q (fun Q hQ => ?_)
  have hx := cx.1.1
  have hb := cx.1.2.1
  have hl : lv_has ls 3 [(0, .ref (qr 0)), (1, .ref (qh 0))] := hl
  obtain ⟨H, eH⟩ : ∃ H : Heap, H = s.heap := ⟨_, rfl⟩
  obtain ⟨locs, el⟩ : ∃ L : List Loc, L = [] := ⟨_, rfl⟩
  have hP : va_P D vwCl [(qr 0, .inr (3, [.ref (qc 0), .ref (qr 1)])), (qr 1, .inl (k 0, 26, .inl (sr 1))), (qc 0, .inr (1, [.ref (qt 0), .int (sc 0 1), .int (sc 0 2)])), (qt 0, .inr (8, [.ref (qt 1), .int (st 0 1)])), (qt 1, .inl (k 2, 64, .inl (st 1))), (qh 0, .inr (2, [.int (sh 0 0), .int (sh 0 1), .ref (qh 1), .ref (qh 2), .ref (qh 3), .ref (qh 4), .int (sh 0 6), .int (sh 0 7), .int (sh 0 8), .int (sh 0 9), .int (sh 0 10), .int (sh 0 11), .int (sh 0 12), .ref (qh 5)])), (qh 1, .inl (k 0, 5, .inl (sh 1))), (qh 2, .inl (k 0, 5, .inl (sh 2))), (qh 3, .inl (k 0, 3, .inl (sh 3))), (qh 4, .inl (k 0, 3, .inl (sh 4))), (qh 5, .inl (k 0, 525, .inl (sh 5)))] H := by rw [eH]; exact hP
  have hD : va_D A [(qr 0, .inr (3, [.ref (qc 0), .ref (qr 1)])), (qr 1, .inl (k 0, 26, .inl (sr 1))), (qc 0, .inr (1, [.ref (qt 0), .int (sc 0 1), .int (sc 0 2)])), (qt 0, .inr (8, [.ref (qt 1), .int (st 0 1)])), (qt 1, .inl (k 2, 64, .inl (st 1))), (qh 0, .inr (2, [.int (sh 0 0), .int (sh 0 1), .ref (qh 1), .ref (qh 2), .ref (qh 3), .ref (qh 4), .int (sh 0 6), .int (sh 0 7), .int (sh 0 8), .int (sh 0 9), .int (sh 0 10), .int (sh 0 11), .int (sh 0 12), .ref (qh 5)])), (qh 1, .inl (k 0, 5, .inl (sh 1))), (qh 2, .inl (k 0, 5, .inl (sh 2))), (qh 3, .inl (k 0, 3, .inl (sh 3))), (qh 4, .inl (k 0, 3, .inl (sh 4))), (qh 5, .inl (k 0, 525, .inl (sh 5)))] := hD
  have hS : va_S A s.heap H locs := by rw [eH, el]; exact hS
  suffices goal : W p l e ({ frames := 6, cells := 0, slots := 0, locals := 129 } : Room) s m ([.ref (qr 0), .ref (qh 0)] : List Value).toArray below meth c H locs 0 0 Q (F0 m 0 ls []) by rw [eH, el] at goal; exact goal
  refine lv_aload_n hx hb dX5_readWeeks_0 rfl (lv_at hl 0 rfl) ?_
  refine g_get cx hP iw_X5_readWeeks_X5 0 rfl rfl 0 (by decide) rfl fw_X5_readWeeks_20 rfl dX5_readWeeks_1 ?_
  refine g_ir (g_runV (wc := [(qc 0, .inr (1, [.ref (qt 0), .int (sc 0 1), .int (sc 0 2)])), (qt 0, .inr (8, [.ref (qt 1), .int (st 0 1)])), (qt 1, .inl (k 2, 64, .inl (st 1)))]) (rest := []) cx hP hD hS [2, 3, 4] rfl (by decide) [] (c_X2_here l D k b qc sc qt st H.size (show 0 ≤ (st 0 1).toInt ∧ (st 0 1).toInt ≤ 64 from by first | decide | omega)) gX5_readWeeks_X2_here rfl rfl rfl nd_X2_here ⟨Nat.le_of_ble_eq_true rfl, Nat.le_of_ble_eq_true rfl⟩ (ci := 1) (q0 := 0) rfl rfl rfl hl.1 rfl (Nat.le_of_ble_eq_true rfl) ⟨Nat.zero_le _, Nat.zero_le _⟩ dX5_readWeeks_4) cx.2.2.1 hP hD hS [2, 3, 4] rfl rfl (fun r2 H locs hw1 hP hS => ?_)
  have w3 : -9 ≤ r2.toInt ∧ r2.toInt ≤ 255 := hw1
  clear hw1
  refine lv_bipush (v := 78) hx hb dX5_readWeeks_7 (by decide) ?_
  refine lv_icmp_eq (tgt := 20) hx hb dX5_readWeeks_9 (by decide) (fun c4 => ?_) (fun c4 => ?_)
  · have f4 : r2.toInt = 78 := f_eq rfl (by decide) c4
    refine lv_aload_n hx hb dX5_readWeeks_20 rfl (lv_at hl 0 rfl) ?_
    refine g_get cx hP iw_X5_readWeeks_X5 0 rfl rfl 0 (by decide) rfl fw_X5_readWeeks_20 rfl dX5_readWeeks_21 ?_
    refine g_v (w1 := fun (u : Int32) => [(qc 0, .inr (1, [.ref (qt 0), .int u, .int (sc 0 2)])), (qt 0, .inr (8, [.ref (qt 1), .int (st 0 1)])), (qt 1, .inl (k 2, 64, .inl (st 1)))]) (g_runV (wc := [(qc 0, .inr (1, [.ref (qt 0), .int (sc 0 1), .int (sc 0 2)])), (qt 0, .inr (8, [.ref (qt 1), .int (st 0 1)])), (qt 1, .inl (k 2, 64, .inl (st 1)))]) (rest := []) cx hP hD hS [2, 3, 4] rfl (by decide) [] (c_X2_step l D k b qc sc qt st H.size) gX5_readWeeks_X2_step rfl rfl rfl nd_X2_step ⟨Nat.le_of_ble_eq_true rfl, Nat.le_of_ble_eq_true rfl⟩ (ci := 1) (q0 := 0) rfl rfl rfl hl.1 rfl (Nat.le_of_ble_eq_true rfl) ⟨Nat.zero_le _, Nat.zero_le _⟩ dX5_readWeeks_24) cx.2.2.1 hP hD hS [2, 3, 4] rfl (fun _ => rfl) (fun u6 H locs hw5 hP hD hS => ?_)
    obtain ⟨m7, rfl⟩ : ∃ z, z = u6 := ⟨_, rfl⟩
    have hP : va_P D vwCl [(qr 0, .inr (3, [.ref (qc 0), .ref (qr 1)])), (qr 1, .inl (k 0, 26, .inl (sr 1))), (qc 0, .inr (1, [.ref (qt 0), .int m7, .int (sc 0 2)])), (qt 0, .inr (8, [.ref (qt 1), .int (st 0 1)])), (qt 1, .inl (k 2, 64, .inl (st 1))), (qh 0, .inr (2, [.int (sh 0 0), .int (sh 0 1), .ref (qh 1), .ref (qh 2), .ref (qh 3), .ref (qh 4), .int (sh 0 6), .int (sh 0 7), .int (sh 0 8), .int (sh 0 9), .int (sh 0 10), .int (sh 0 11), .int (sh 0 12), .ref (qh 5)])), (qh 1, .inl (k 0, 5, .inl (sh 1))), (qh 2, .inl (k 0, 5, .inl (sh 2))), (qh 3, .inl (k 0, 3, .inl (sh 3))), (qh 4, .inl (k 0, 3, .inl (sh 4))), (qh 5, .inl (k 0, 525, .inl (sh 5)))] H := hP
    have hD : va_D A [(qr 0, .inr (3, [.ref (qc 0), .ref (qr 1)])), (qr 1, .inl (k 0, 26, .inl (sr 1))), (qc 0, .inr (1, [.ref (qt 0), .int m7, .int (sc 0 2)])), (qt 0, .inr (8, [.ref (qt 1), .int (st 0 1)])), (qt 1, .inl (k 2, 64, .inl (st 1))), (qh 0, .inr (2, [.int (sh 0 0), .int (sh 0 1), .ref (qh 1), .ref (qh 2), .ref (qh 3), .ref (qh 4), .int (sh 0 6), .int (sh 0 7), .int (sh 0 8), .int (sh 0 9), .int (sh 0 10), .int (sh 0 11), .int (sh 0 12), .ref (qh 5)])), (qh 1, .inl (k 0, 5, .inl (sh 1))), (qh 2, .inl (k 0, 5, .inl (sh 2))), (qh 3, .inl (k 0, 3, .inl (sh 3))), (qh 4, .inl (k 0, 3, .inl (sh 4))), (qh 5, .inl (k 0, 525, .inl (sh 5)))] := hD
    clear hw5
    refine lv_aload_n hx hb dX5_readWeeks_27 rfl (lv_at hl 0 rfl) ?_
    refine g_get cx hP iw_X5_readWeeks_X5 0 rfl rfl 0 (by decide) rfl fw_X5_readWeeks_20 rfl dX5_readWeeks_28 ?_
    refine lv_iconst (v := 1) hx hb dX5_readWeeks_31 (by decide) ?_
    refine lv_iconst (v := 5) hx hb dX5_readWeeks_32 (by decide) ?_
    have hlit8 : (1 : Int32).toInt = 1 := by decide
    have hlit9 : (5 : Int32).toInt = 5 := by decide
    refine g_ir (g_runS (wc := []) (rest := [.ref (qc 0)]) cx hP hD hS [] rfl (by decide) [.int 1, .int 5] (c_X2_figures l D k b H.size 1 5) gX5_readWeeks_X2_figures rfl rfl rfl nd_X2_figures ⟨Nat.le_of_ble_eq_true rfl, Nat.le_of_ble_eq_true rfl⟩ rfl hl.1 rfl (Nat.le_of_ble_eq_true rfl) ⟨Nat.zero_le _, Nat.zero_le _⟩ dX5_readWeeks_33) cx.2.2.1 hP hD hS [] rfl rfl (fun r11 H locs hw10 hP hS => ?_)
    have w12 : r11 = J_X2_figures (1 : Int32) (5 : Int32) := hw10
    clear hw10
    have zr11 : r11.toInt = 62 := by rw [w12]; decide
    refine g_i (w1 := fun (u : Int32 × Int32) => [(qc 0, .inr (1, [.ref (qt 0), .int (u.1), .int (u.2)])), (qt 0, .inr (8, [.ref (qt 1), .int (st 0 1)])), (qt 1, .inl (k 2, 64, .inl (st 1)))]) (g_runV (wc := [(qc 0, .inr (1, [.ref (qt 0), .int m7, .int (sc 0 2)])), (qt 0, .inr (8, [.ref (qt 1), .int (st 0 1)])), (qt 1, .inl (k 2, 64, .inl (st 1)))]) (rest := []) cx hP hD hS [2, 3, 4] rfl (by decide) [.int r11] (c_X2_figure l D k b qc (up2 sc 0 (upd (sc 0) 1 m7)) qt st H.size r11 (show 0 ≤ (st 0 1).toInt ∧ (st 0 1).toInt ≤ 64 from by first | decide | omega)) gX5_readWeeks_X2_figure rfl rfl rfl nd_X2_figure ⟨Nat.le_of_ble_eq_true rfl, Nat.le_of_ble_eq_true rfl⟩ (ci := 1) (q0 := 0) rfl rfl rfl hl.1 rfl (Nat.le_of_ble_eq_true rfl) ⟨Nat.zero_le _, Nat.zero_le _⟩ dX5_readWeeks_36) cx.2.2.1 hP hD hS [2, 3, 4] rfl (fun _ => rfl) (fun r15 u14 H locs hw13 hP hD hS => ?_)
    obtain ⟨m16, m17⟩ := u14
    have hP : va_P D vwCl [(qr 0, .inr (3, [.ref (qc 0), .ref (qr 1)])), (qr 1, .inl (k 0, 26, .inl (sr 1))), (qc 0, .inr (1, [.ref (qt 0), .int m16, .int m17])), (qt 0, .inr (8, [.ref (qt 1), .int (st 0 1)])), (qt 1, .inl (k 2, 64, .inl (st 1))), (qh 0, .inr (2, [.int (sh 0 0), .int (sh 0 1), .ref (qh 1), .ref (qh 2), .ref (qh 3), .ref (qh 4), .int (sh 0 6), .int (sh 0 7), .int (sh 0 8), .int (sh 0 9), .int (sh 0 10), .int (sh 0 11), .int (sh 0 12), .ref (qh 5)])), (qh 1, .inl (k 0, 5, .inl (sh 1))), (qh 2, .inl (k 0, 5, .inl (sh 2))), (qh 3, .inl (k 0, 3, .inl (sh 3))), (qh 4, .inl (k 0, 3, .inl (sh 4))), (qh 5, .inl (k 0, 525, .inl (sh 5)))] H := hP
    have hD : va_D A [(qr 0, .inr (3, [.ref (qc 0), .ref (qr 1)])), (qr 1, .inl (k 0, 26, .inl (sr 1))), (qc 0, .inr (1, [.ref (qt 0), .int m16, .int m17])), (qt 0, .inr (8, [.ref (qt 1), .int (st 0 1)])), (qt 1, .inl (k 2, 64, .inl (st 1))), (qh 0, .inr (2, [.int (sh 0 0), .int (sh 0 1), .ref (qh 1), .ref (qh 2), .ref (qh 3), .ref (qh 4), .int (sh 0 6), .int (sh 0 7), .int (sh 0 8), .int (sh 0 9), .int (sh 0 10), .int (sh 0 11), .int (sh 0 12), .ref (qh 5)])), (qh 1, .inl (k 0, 5, .inl (sh 1))), (qh 2, .inl (k 0, 5, .inl (sh 2))), (qh 3, .inl (k 0, 3, .inl (sh 3))), (qh 4, .inl (k 0, 3, .inl (sh 4))), (qh 5, .inl (k 0, 525, .inl (sh 5)))] := hD
    replace hw13 : (r15.toInt = -9 ∨ (0 ≤ r15.toInt ∧ r15.toInt ≤ 9)) ∧ (Imp (0 ≤ r11.toInt ∧ r11.toInt ≤ 63) (r15.toInt ≤ 5)) ∧ (Imp (0 ≤ r11.toInt ∧ r11.toInt ≤ 31) (r15.toInt ≤ 4)) ∧ (Imp (0 ≤ r11.toInt ∧ r11.toInt ≤ 7) (r15.toInt ≤ 2)) := hw13
    obtain ⟨w18, w19, w20, w21⟩ := hw13
    have xr15 : r15.toInt ≤ 5 := w19 ⟨by omega, by omega⟩
    refine lv_istore_n (lv' := [(2, .int r15), (0, .ref (qr 0)), (1, .ref (qh 0))]) hx hb dX5_readWeeks_39 rfl hl (by decide) rfl (fun ls hl => ?_)
    refine lv_iload_n hx hb dX5_readWeeks_40 rfl (lv_at hl 0 rfl) ?_
    refine lv_bipush (v := (-9)) hx hb dX5_readWeeks_41 (by decide) ?_
    refine lv_icmp_ne (tgt := 47) hx hb dX5_readWeeks_43 (by decide) (fun c22 => ?_) (fun c22 => ?_)
    · have f22 : ¬ r15.toInt = (-9) := f_ne rfl (by decide) c22
      refine lv_aload_n hx hb dX5_readWeeks_47 rfl (lv_at hl 2 rfl) ?_
      refine lv_iload_n hx hb dX5_readWeeks_48 rfl (lv_at hl 0 rfl) ?_
      refine g_pt cx hP hD hS iw_X5_readWeeks_X4 tyX4 tyX4_ok nmX4 5 rfl rfl 0 (by decide) rfl fw_X5_readWeeks_66 (ty := .int) rfl rfl rfl (Nat.le_of_ble_eq_true rfl) dX5_readWeeks_49 (fun H locs hP hD hS => ?_)
      have hP : va_P D vwCl [(qr 0, .inr (3, [.ref (qc 0), .ref (qr 1)])), (qr 1, .inl (k 0, 26, .inl (sr 1))), (qc 0, .inr (1, [.ref (qt 0), .int m16, .int m17])), (qt 0, .inr (8, [.ref (qt 1), .int (st 0 1)])), (qt 1, .inl (k 2, 64, .inl (st 1))), (qh 0, .inr (2, [.int r15, .int (sh 0 1), .ref (qh 1), .ref (qh 2), .ref (qh 3), .ref (qh 4), .int (sh 0 6), .int (sh 0 7), .int (sh 0 8), .int (sh 0 9), .int (sh 0 10), .int (sh 0 11), .int (sh 0 12), .ref (qh 5)])), (qh 1, .inl (k 0, 5, .inl (sh 1))), (qh 2, .inl (k 0, 5, .inl (sh 2))), (qh 3, .inl (k 0, 3, .inl (sh 3))), (qh 4, .inl (k 0, 3, .inl (sh 4))), (qh 5, .inl (k 0, 525, .inl (sh 5)))] H := hP
      have hD : va_D A [(qr 0, .inr (3, [.ref (qc 0), .ref (qr 1)])), (qr 1, .inl (k 0, 26, .inl (sr 1))), (qc 0, .inr (1, [.ref (qt 0), .int m16, .int m17])), (qt 0, .inr (8, [.ref (qt 1), .int (st 0 1)])), (qt 1, .inl (k 2, 64, .inl (st 1))), (qh 0, .inr (2, [.int r15, .int (sh 0 1), .ref (qh 1), .ref (qh 2), .ref (qh 3), .ref (qh 4), .int (sh 0 6), .int (sh 0 7), .int (sh 0 8), .int (sh 0 9), .int (sh 0 10), .int (sh 0 11), .int (sh 0 12), .ref (qh 5)])), (qh 1, .inl (k 0, 5, .inl (sh 1))), (qh 2, .inl (k 0, 5, .inl (sh 2))), (qh 3, .inl (k 0, 3, .inl (sh 3))), (qh 4, .inl (k 0, 3, .inl (sh 4))), (qh 5, .inl (k 0, 525, .inl (sh 5)))] := hD
      refine lv_aload_n hx hb dX5_readWeeks_52 rfl (lv_at hl 1 rfl) ?_
      refine lv_iload_n hx hb dX5_readWeeks_53 rfl (lv_at hl 0 rfl) ?_
      refine g_v (w1 := fun (u : (Nat → Int32)) => [(qr 0, .inr (3, [.ref (qc 0), .ref (qr 1)])), (qr 1, .inl (k 0, 26, .inl u)), (qc 0, .inr (1, [.ref (qt 0), .int m16, .int m17])), (qt 0, .inr (8, [.ref (qt 1), .int (st 0 1)])), (qt 1, .inl (k 2, 64, .inl (st 1)))]) (g_runV (wc := [(qr 0, .inr (3, [.ref (qc 0), .ref (qr 1)])), (qr 1, .inl (k 0, 26, .inl (sr 1))), (qc 0, .inr (1, [.ref (qt 0), .int m16, .int m17])), (qt 0, .inr (8, [.ref (qt 1), .int (st 0 1)])), (qt 1, .inl (k 2, 64, .inl (st 1)))]) (rest := []) cx hP hD hS [0, 1, 2, 3, 4] rfl (by decide) [.int r15] (c_X5_expectParts l D k b qr sr qc (up2 sc 0 (upd (upd (sc 0) 1 m16) 2 m17)) qt st H.size r15 u_a (show 0 ≤ ((sr 1) 3).toInt ∧ ((sr 1) 3).toInt ≤ 7 from by first | decide | omega) (show 0 ≤ ((sr 1) 16).toInt ∧ ((sr 1) 16).toInt ≤ 7 from by first | decide | omega) (show 0 ≤ r15.toInt ∧ r15.toInt ≤ 5 from by first | decide | omega)) gX5_readWeeks_X5_expectParts rfl rfl rfl nd_X5_expectParts ⟨Nat.le_of_ble_eq_true rfl, Nat.le_of_ble_eq_true rfl⟩ (ci := 3) (q0 := 0) rfl rfl rfl hl.1 rfl (Nat.le_of_ble_eq_true rfl) ⟨Nat.zero_le _, Nat.zero_le _⟩ dX5_readWeeks_54) cx.2.2.1 hP hD hS [0, 1, 2, 3, 4] rfl (fun _ => rfl) (fun u24 H locs hw23 hP hD hS => ?_)
      obtain ⟨m25, rfl⟩ : ∃ z, z = u24 := ⟨_, rfl⟩
      have hP : va_P D vwCl [(qr 0, .inr (3, [.ref (qc 0), .ref (qr 1)])), (qr 1, .inl (k 0, 26, .inl m25)), (qc 0, .inr (1, [.ref (qt 0), .int m16, .int m17])), (qt 0, .inr (8, [.ref (qt 1), .int (st 0 1)])), (qt 1, .inl (k 2, 64, .inl (st 1))), (qh 0, .inr (2, [.int r15, .int (sh 0 1), .ref (qh 1), .ref (qh 2), .ref (qh 3), .ref (qh 4), .int (sh 0 6), .int (sh 0 7), .int (sh 0 8), .int (sh 0 9), .int (sh 0 10), .int (sh 0 11), .int (sh 0 12), .ref (qh 5)])), (qh 1, .inl (k 0, 5, .inl (sh 1))), (qh 2, .inl (k 0, 5, .inl (sh 2))), (qh 3, .inl (k 0, 3, .inl (sh 3))), (qh 4, .inl (k 0, 3, .inl (sh 4))), (qh 5, .inl (k 0, 525, .inl (sh 5)))] H := hP
      have hD : va_D A [(qr 0, .inr (3, [.ref (qc 0), .ref (qr 1)])), (qr 1, .inl (k 0, 26, .inl m25)), (qc 0, .inr (1, [.ref (qt 0), .int m16, .int m17])), (qt 0, .inr (8, [.ref (qt 1), .int (st 0 1)])), (qt 1, .inl (k 2, 64, .inl (st 1))), (qh 0, .inr (2, [.int r15, .int (sh 0 1), .ref (qh 1), .ref (qh 2), .ref (qh 3), .ref (qh 4), .int (sh 0 6), .int (sh 0 7), .int (sh 0 8), .int (sh 0 9), .int (sh 0 10), .int (sh 0 11), .int (sh 0 12), .ref (qh 5)])), (qh 1, .inl (k 0, 5, .inl (sh 1))), (qh 2, .inl (k 0, 5, .inl (sh 2))), (qh 3, .inl (k 0, 3, .inl (sh 3))), (qh 4, .inl (k 0, 3, .inl (sh 4))), (qh 5, .inl (k 0, 525, .inl (sh 5)))] := hD
      replace hw23 : (∀ j, 0 ≤ (m25 j).toInt ∧ (m25 j).toInt ≤ 31) ∧ (0 ≤ (m25 3).toInt ∧ (m25 3).toInt ≤ 7) ∧ (0 ≤ (m25 16).toInt ∧ (m25 16).toInt ≤ 7) := hw23
      obtain ⟨w26, w27, w28⟩ := hw23
      rw [hQ]
      exact x_v cx hr (m16, m17, m25, r15) hP hD hS ⟨w26, (show 0 ≤ (m25 3).toInt ∧ (m25 3).toInt ≤ 7 from by omega), (show 0 ≤ (m25 16).toInt ∧ (m25 16).toInt ≤ 7 from by omega), (show 0 ≤ r15.toInt ∧ r15.toInt ≤ 5 from by omega)⟩ dX5_readWeeks_57
    · have f22 : r15.toInt = (-9) := f_eq rfl (by decide) c22
      rw [hQ]
      exact x_v cx hr (m16, m17, (sr 1), (sh 0 0)) hP hD hS ⟨u_a, (show 0 ≤ ((sr 1) 3).toInt ∧ ((sr 1) 3).toInt ≤ 7 from by omega), (show 0 ≤ ((sr 1) 16).toInt ∧ ((sr 1) 16).toInt ≤ 7 from by omega), (show 0 ≤ (sh 0 0).toInt ∧ (sh 0 0).toInt ≤ 5 from by omega)⟩ dX5_readWeeks_46
  · have f4 : ¬ r2.toInt = 78 := f_ne rfl (by decide) c4
    refine lv_aload_n hx hb dX5_readWeeks_12 rfl (lv_at hl 0 rfl) ?_
    refine g_get cx hP iw_X5_readWeeks_X5 0 rfl rfl 0 (by decide) rfl fw_X5_readWeeks_20 rfl dX5_readWeeks_13 ?_
    refine g_v (w1 := fun (u : Int32) => [(qc 0, .inr (1, [.ref (qt 0), .int (sc 0 1), .int u])), (qt 0, .inr (8, [.ref (qt 1), .int (st 0 1)])), (qt 1, .inl (k 2, 64, .inl (st 1)))]) (g_runV (wc := [(qc 0, .inr (1, [.ref (qt 0), .int (sc 0 1), .int (sc 0 2)])), (qt 0, .inr (8, [.ref (qt 1), .int (st 0 1)])), (qt 1, .inl (k 2, 64, .inl (st 1)))]) (rest := []) cx hP hD hS [2, 3, 4] rfl (by decide) [] (c_X2_stop l D k b qc sc qt st H.size) gX5_readWeeks_X2_stop rfl rfl rfl nd_X2_stop ⟨Nat.le_of_ble_eq_true rfl, Nat.le_of_ble_eq_true rfl⟩ (ci := 1) (q0 := 0) rfl rfl rfl hl.1 rfl (Nat.le_of_ble_eq_true rfl) ⟨Nat.zero_le _, Nat.zero_le _⟩ dX5_readWeeks_16) cx.2.2.1 hP hD hS [2, 3, 4] rfl (fun _ => rfl) (fun u30 H locs hw29 hP hD hS => ?_)
    obtain ⟨m31, rfl⟩ : ∃ z, z = u30 := ⟨_, rfl⟩
    have hP : va_P D vwCl [(qr 0, .inr (3, [.ref (qc 0), .ref (qr 1)])), (qr 1, .inl (k 0, 26, .inl (sr 1))), (qc 0, .inr (1, [.ref (qt 0), .int (sc 0 1), .int m31])), (qt 0, .inr (8, [.ref (qt 1), .int (st 0 1)])), (qt 1, .inl (k 2, 64, .inl (st 1))), (qh 0, .inr (2, [.int (sh 0 0), .int (sh 0 1), .ref (qh 1), .ref (qh 2), .ref (qh 3), .ref (qh 4), .int (sh 0 6), .int (sh 0 7), .int (sh 0 8), .int (sh 0 9), .int (sh 0 10), .int (sh 0 11), .int (sh 0 12), .ref (qh 5)])), (qh 1, .inl (k 0, 5, .inl (sh 1))), (qh 2, .inl (k 0, 5, .inl (sh 2))), (qh 3, .inl (k 0, 3, .inl (sh 3))), (qh 4, .inl (k 0, 3, .inl (sh 4))), (qh 5, .inl (k 0, 525, .inl (sh 5)))] H := hP
    have hD : va_D A [(qr 0, .inr (3, [.ref (qc 0), .ref (qr 1)])), (qr 1, .inl (k 0, 26, .inl (sr 1))), (qc 0, .inr (1, [.ref (qt 0), .int (sc 0 1), .int m31])), (qt 0, .inr (8, [.ref (qt 1), .int (st 0 1)])), (qt 1, .inl (k 2, 64, .inl (st 1))), (qh 0, .inr (2, [.int (sh 0 0), .int (sh 0 1), .ref (qh 1), .ref (qh 2), .ref (qh 3), .ref (qh 4), .int (sh 0 6), .int (sh 0 7), .int (sh 0 8), .int (sh 0 9), .int (sh 0 10), .int (sh 0 11), .int (sh 0 12), .ref (qh 5)])), (qh 1, .inl (k 0, 5, .inl (sh 1))), (qh 2, .inl (k 0, 5, .inl (sh 2))), (qh 3, .inl (k 0, 3, .inl (sh 3))), (qh 4, .inl (k 0, 3, .inl (sh 4))), (qh 5, .inl (k 0, 525, .inl (sh 5)))] := hD
    clear hw29
    rw [hQ]
    exact x_v cx hr ((sc 0 1), m31, (sr 1), (sh 0 0)) hP hD hS ⟨u_a, (show 0 ≤ ((sr 1) 3).toInt ∧ ((sr 1) 3).toInt ≤ 7 from by omega), (show 0 ≤ ((sr 1) 16).toInt ∧ ((sr 1) 16).toInt ≤ 7 from by omega), (show 0 ≤ (sh 0 0).toInt ∧ (sh 0 0).toInt ≤ 5 from by omega)⟩ dX5_readWeeks_19
theorem fw_X5_readPart_20 : Cond.fieldLink RX5 20 "StillInAugust$HouseReader" "cursor" "LStillInAugust$Cursor;" ∈ wsX5_readPart := by decide +kernel
theorem fw_X5_readPart_9 : Cond.fieldLink RX5 9 "StillInAugust$HouseReader" "untold" "[I" ∈ wsX5_readPart := by decide +kernel
theorem nd_X4_put : yX4_put.cls = RX4 ∧ yX4_put.cls ≠ "java/lang/invoke/MethodHandle" ∧ yX4_put.cls ≠ "java/lang/invoke/VarHandle" ∧ (parseMethodDescriptor yX4_put.desc).map (fun d => d.parameters.length) = some 4 := by decide +kernel
theorem nd_X5_firstFigures : yX5_firstFigures.cls ≠ "java/lang/invoke/MethodHandle" ∧ yX5_firstFigures.cls ≠ "java/lang/invoke/VarHandle" ∧ (parseMethodDescriptor yX5_firstFigures.desc).map (fun d => d.parameters.length) = some 1 := by decide +kernel
theorem nd_X5_hasSecond : yX5_hasSecond.cls ≠ "java/lang/invoke/MethodHandle" ∧ yX5_hasSecond.cls ≠ "java/lang/invoke/VarHandle" ∧ (parseMethodDescriptor yX5_hasSecond.desc).map (fun d => d.parameters.length) = some 1 := by decide +kernel
theorem nd_X5_secondFigures : yX5_secondFigures.cls ≠ "java/lang/invoke/MethodHandle" ∧ yX5_secondFigures.cls ≠ "java/lang/invoke/VarHandle" ∧ (parseMethodDescriptor yX5_secondFigures.desc).map (fun d => d.parameters.length) = some 1 := by decide +kernel
theorem nd_X5_tellsWhich : yX5_tellsWhich.cls ≠ "java/lang/invoke/MethodHandle" ∧ yX5_tellsWhich.cls ≠ "java/lang/invoke/VarHandle" ∧ (parseMethodDescriptor yX5_tellsWhich.desc).map (fun d => d.parameters.length) = some 1 := by decide +kernel
theorem iw_X5_readPart_X5 : ∀ w ∈ u_ws RX5 TX5 2, w ∈ wsX5_readPart := fun _ h => List.mem_cons_of_mem _ (List.mem_append_left _ (List.mem_append_left _ (List.mem_append_left _ (List.mem_append_right _ h))))
set_option maxHeartbeats 4000000 in
set_option maxRecDepth 100000 in
theorem c_X5_readPart (l : Launch) (D : va_G) (k : Nat → ClassId) (b : Nat → Nat) (qr : Nat → Nat) (sr : Nat → Nat → Int32) (qc : Nat → Nat) (sc : Nat → Nat → Int32) (qt : Nat → Nat) (st : Nat → Nat → Int32) (qh : Nat → Nat) (sh : Nat → Nat → Int32) (sz : Nat) (h_len : 0 ≤ (st 0 1).toInt ∧ (st 0 1).toInt ≤ 64) (u_a : ∀ j, 0 ≤ (sr 1 j).toInt ∧ (sr 1 j).toInt ≤ 31) (u_3 : 0 ≤ (sr 1 3).toInt ∧ (sr 1 3).toInt ≤ 7) (u_16 : 0 ≤ (sr 1 16).toInt ∧ (sr 1 16).toInt ≤ 7) (h_wk : 0 ≤ (sh 0 0).toInt ∧ (sh 0 0).toInt ≤ 5) (h_hk : 0 ≤ (sh 0 1).toInt ∧ (sh 0 1).toInt ≤ 4) (h_fl : 0 ≤ (sh 0 12).toInt ∧ (sh 0 12).toInt ≤ 5) (h_of : ∀ j, 0 ≤ (sh 2 j).toInt ∧ (sh 2 j).toInt ≤ 4) (h_go : ∀ j, 0 ≤ (sh 3 j).toInt ∧ (sh 3 j).toInt ≤ 5) : MetV l D k b yX5_readPart wsX5_readPart ({ frames := 3, cells := 0, slots := 0, locals := 63 } : Room) [(qr 0, .inr (3, [.ref (qc 0), .ref (qr 1)])), (qr 1, .inl (k 0, 26, .inl (sr 1))), (qc 0, .inr (1, [.ref (qt 0), .int (sc 0 1), .int (sc 0 2)])), (qt 0, .inr (8, [.ref (qt 1), .int (st 0 1)])), (qt 1, .inl (k 2, 64, .inl (st 1))), (qh 0, .inr (2, [.int (sh 0 0), .int (sh 0 1), .ref (qh 1), .ref (qh 2), .ref (qh 3), .ref (qh 4), .int (sh 0 6), .int (sh 0 7), .int (sh 0 8), .int (sh 0 9), .int (sh 0 10), .int (sh 0 11), .int (sh 0 12), .ref (qh 5)])), (qh 1, .inl (k 0, 5, .inl (sh 1))), (qh 2, .inl (k 0, 5, .inl (sh 2))), (qh 3, .inl (k 0, 3, .inl (sh 3))), (qh 4, .inl (k 0, 3, .inl (sh 4))), (qh 5, .inl (k 0, 525, .inl (sh 5)))] sz [.ref (qr 0), .ref (qh 0)] (fun (u : Int32 × Int32 × (Nat → Int32) × Int32 × (Nat → Int32) × (Nat → Int32) × (Nat → Int32) × (Nat → Int32) × Int32 × Int32 × Int32 × Int32 × Int32 × Int32 × Int32) => (∀ j, 0 ≤ ((u.2.2.1) j).toInt ∧ ((u.2.2.1) j).toInt ≤ 31) ∧ (0 ≤ ((u.2.2.1) 3).toInt ∧ ((u.2.2.1) 3).toInt ≤ 7) ∧ (0 ≤ ((u.2.2.1) 16).toInt ∧ ((u.2.2.1) 16).toInt ≤ 7) ∧ (0 ≤ (u.2.2.2.1).toInt ∧ (u.2.2.2.1).toInt ≤ 4) ∧ (0 ≤ (u.2.2.2.2.2.2.2.2.2.2.2.2.2.2).toInt ∧ (u.2.2.2.2.2.2.2.2.2.2.2.2.2.2).toInt ≤ 5) ∧ (∀ j, 0 ≤ ((u.2.2.2.2.2.1) j).toInt ∧ ((u.2.2.2.2.2.1) j).toInt ≤ 4) ∧ (∀ j, 0 ≤ ((u.2.2.2.2.2.2.1) j).toInt ∧ ((u.2.2.2.2.2.2.1) j).toInt ≤ 5)) (fun u => [(qr 0, .inr (3, [.ref (qc 0), .ref (qr 1)])), (qr 1, .inl (k 0, 26, .inl (u.2.2.1))), (qc 0, .inr (1, [.ref (qt 0), .int (u.1), .int (u.2.1)])), (qt 0, .inr (8, [.ref (qt 1), .int (st 0 1)])), (qt 1, .inl (k 2, 64, .inl (st 1))), (qh 0, .inr (2, [.int (sh 0 0), .int (u.2.2.2.1), .ref (qh 1), .ref (qh 2), .ref (qh 3), .ref (qh 4), .int (u.2.2.2.2.2.2.2.2.1), .int (u.2.2.2.2.2.2.2.2.2.1), .int (u.2.2.2.2.2.2.2.2.2.2.1), .int (u.2.2.2.2.2.2.2.2.2.2.2.1), .int (u.2.2.2.2.2.2.2.2.2.2.2.2.1), .int (u.2.2.2.2.2.2.2.2.2.2.2.2.2.1), .int (u.2.2.2.2.2.2.2.2.2.2.2.2.2.2), .ref (qh 5)])), (qh 1, .inl (k 0, 5, .inl (u.2.2.2.2.1))), (qh 2, .inl (k 0, 5, .inl (u.2.2.2.2.2.1))), (qh 3, .inl (k 0, 3, .inl (u.2.2.2.2.2.2.1))), (qh 4, .inl (k 0, 3, .inl (u.2.2.2.2.2.2.2.1))), (qh 5, .inl (k 0, 525, .inl (sh 5)))]) := by
  refine g_enter (cc := cX5_readPart) (maxL := 6) (ret := none) (by decide) rfl (Nat.le_of_ble_eq_true rfl) ?_
  intro p e s m below meth c A hsz hAe cx hr hP hD hS ls hl
  rw [hAe]
  refine g_q (fun Q hQ => ?_)
  have hx := cx.1.1
  have hb := cx.1.2.1
  have hl : lv_has ls 6 [(0, .ref (qr 0)), (1, .ref (qh 0))] := hl
  obtain ⟨H, eH⟩ : ∃ H : Heap, H = s.heap := ⟨_, rfl⟩
  obtain ⟨locs, el⟩ : ∃ L : List Loc, L = [] := ⟨_, rfl⟩
  have hP : va_P D vwCl [(qr 0, .inr (3, [.ref (qc 0), .ref (qr 1)])), (qr 1, .inl (k 0, 26, .inl (sr 1))), (qc 0, .inr (1, [.ref (qt 0), .int (sc 0 1), .int (sc 0 2)])), (qt 0, .inr (8, [.ref (qt 1), .int (st 0 1)])), (qt 1, .inl (k 2, 64, .inl (st 1))), (qh 0, .inr (2, [.int (sh 0 0), .int (sh 0 1), .ref (qh 1), .ref (qh 2), .ref (qh 3), .ref (qh 4), .int (sh 0 6), .int (sh 0 7), .int (sh 0 8), .int (sh 0 9), .int (sh 0 10), .int (sh 0 11), .int (sh 0 12), .ref (qh 5)])), (qh 1, .inl (k 0, 5, .inl (sh 1))), (qh 2, .inl (k 0, 5, .inl (sh 2))), (qh 3, .inl (k 0, 3, .inl (sh 3))), (qh 4, .inl (k 0, 3, .inl (sh 4))), (qh 5, .inl (k 0, 525, .inl (sh 5)))] H := by rw [eH]; exact hP
  have hD : va_D A [(qr 0, .inr (3, [.ref (qc 0), .ref (qr 1)])), (qr 1, .inl (k 0, 26, .inl (sr 1))), (qc 0, .inr (1, [.ref (qt 0), .int (sc 0 1), .int (sc 0 2)])), (qt 0, .inr (8, [.ref (qt 1), .int (st 0 1)])), (qt 1, .inl (k 2, 64, .inl (st 1))), (qh 0, .inr (2, [.int (sh 0 0), .int (sh 0 1), .ref (qh 1), .ref (qh 2), .ref (qh 3), .ref (qh 4), .int (sh 0 6), .int (sh 0 7), .int (sh 0 8), .int (sh 0 9), .int (sh 0 10), .int (sh 0 11), .int (sh 0 12), .ref (qh 5)])), (qh 1, .inl (k 0, 5, .inl (sh 1))), (qh 2, .inl (k 0, 5, .inl (sh 2))), (qh 3, .inl (k 0, 3, .inl (sh 3))), (qh 4, .inl (k 0, 3, .inl (sh 4))), (qh 5, .inl (k 0, 525, .inl (sh 5)))] := hD
  have hS : va_S A s.heap H locs := by rw [eH, el]; exact hS
  suffices goal : W p l e ({ frames := 3, cells := 0, slots := 0, locals := 63 } : Room) s m ([.ref (qr 0), .ref (qh 0)] : List Value).toArray below meth c H locs 0 0 Q (F0 m 0 ls []) by rw [eH, el] at goal; exact goal
  refine lv_aload_n hx hb dX5_readPart_0 rfl (lv_at hl 0 rfl) ?_
  refine g_get cx hP iw_X5_readPart_X5 0 rfl rfl 0 (by decide) rfl fw_X5_readPart_20 rfl dX5_readPart_1 ?_
  refine g_ir (g_runV (wc := [(qc 0, .inr (1, [.ref (qt 0), .int (sc 0 1), .int (sc 0 2)])), (qt 0, .inr (8, [.ref (qt 1), .int (st 0 1)])), (qt 1, .inl (k 2, 64, .inl (st 1)))]) (rest := []) cx hP hD hS [2, 3, 4] rfl (by decide) [] (c_X2_here l D k b qc sc qt st H.size (show 0 ≤ (st 0 1).toInt ∧ (st 0 1).toInt ≤ 64 from by first | decide | omega)) gX5_readPart_X2_here rfl rfl rfl nd_X2_here ⟨Nat.le_of_ble_eq_true rfl, Nat.le_of_ble_eq_true rfl⟩ (ci := 1) (q0 := 0) rfl rfl rfl hl.1 rfl (Nat.le_of_ble_eq_true rfl) ⟨Nat.zero_le _, Nat.zero_le _⟩ dX5_readPart_4) cx.2.2.1 hP hD hS [2, 3, 4] rfl rfl (fun r2 H locs hw1 hP hS => ?_)
  have w3 : -9 ≤ r2.toInt ∧ r2.toInt ≤ 255 := hw1
  clear hw1
  refine lv_istore_n (lv' := [(2, .int r2), (0, .ref (qr 0)), (1, .ref (qh 0))]) hx hb dX5_readPart_7 rfl hl (by decide) rfl (fun ls hl => ?_)
  refine lv_iload_n hx hb dX5_readPart_8 rfl (lv_at hl 0 rfl) ?_
  refine lv_bipush (v := 65) hx hb dX5_readPart_9 (by decide) ?_
  have hJ32 : ∀  (H : Heap) (locs : List Loc) (ls : Array Slot), va_P D vwCl [(qr 0, .inr (3, [.ref (qc 0), .ref (qr 1)])), (qr 1, .inl (k 0, 26, .inl (sr 1))), (qc 0, .inr (1, [.ref (qt 0), .int (sc 0 1), .int (sc 0 2)])), (qt 0, .inr (8, [.ref (qt 1), .int (st 0 1)])), (qt 1, .inl (k 2, 64, .inl (st 1))), (qh 0, .inr (2, [.int (sh 0 0), .int (sh 0 1), .ref (qh 1), .ref (qh 2), .ref (qh 3), .ref (qh 4), .int (sh 0 6), .int (sh 0 7), .int (sh 0 8), .int (sh 0 9), .int (sh 0 10), .int (sh 0 11), .int (sh 0 12), .ref (qh 5)])), (qh 1, .inl (k 0, 5, .inl (sh 1))), (qh 2, .inl (k 0, 5, .inl (sh 2))), (qh 3, .inl (k 0, 3, .inl (sh 3))), (qh 4, .inl (k 0, 3, .inl (sh 4))), (qh 5, .inl (k 0, 525, .inl (sh 5)))] H → va_D A [(qr 0, .inr (3, [.ref (qc 0), .ref (qr 1)])), (qr 1, .inl (k 0, 26, .inl (sr 1))), (qc 0, .inr (1, [.ref (qt 0), .int (sc 0 1), .int (sc 0 2)])), (qt 0, .inr (8, [.ref (qt 1), .int (st 0 1)])), (qt 1, .inl (k 2, 64, .inl (st 1))), (qh 0, .inr (2, [.int (sh 0 0), .int (sh 0 1), .ref (qh 1), .ref (qh 2), .ref (qh 3), .ref (qh 4), .int (sh 0 6), .int (sh 0 7), .int (sh 0 8), .int (sh 0 9), .int (sh 0 10), .int (sh 0 11), .int (sh 0 12), .ref (qh 5)])), (qh 1, .inl (k 0, 5, .inl (sh 1))), (qh 2, .inl (k 0, 5, .inl (sh 2))), (qh 3, .inl (k 0, 3, .inl (sh 3))), (qh 4, .inl (k 0, 3, .inl (sh 4))), (qh 5, .inl (k 0, 525, .inl (sh 5)))] → va_S A s.heap H locs → lv_has ls 6 [(0, .ref (qr 0))] → W p l e ({ frames := 3, cells := 0, slots := 0, locals := 63 } : Room) s m ([.ref (qr 0), .ref (qh 0)] : List Value).toArray below meth c H locs 0 0 Q (F0 m 32 ls []) := by
    intro  H locs ls  hP hD hS hl
    refine lv_aload_n hx hb dX5_readPart_32 rfl (lv_at hl 0 rfl) ?_
    refine g_get cx hP iw_X5_readPart_X5 0 rfl rfl 0 (by decide) rfl fw_X5_readPart_20 rfl dX5_readPart_33 ?_
    refine g_v (w1 := fun (u : Int32) => [(qc 0, .inr (1, [.ref (qt 0), .int (sc 0 1), .int u])), (qt 0, .inr (8, [.ref (qt 1), .int (st 0 1)])), (qt 1, .inl (k 2, 64, .inl (st 1)))]) (g_runV (wc := [(qc 0, .inr (1, [.ref (qt 0), .int (sc 0 1), .int (sc 0 2)])), (qt 0, .inr (8, [.ref (qt 1), .int (st 0 1)])), (qt 1, .inl (k 2, 64, .inl (st 1)))]) (rest := []) cx hP hD hS [2, 3, 4] rfl (by decide) [] (c_X2_stop l D k b qc sc qt st H.size) gX5_readPart_X2_stop rfl rfl rfl nd_X2_stop ⟨Nat.le_of_ble_eq_true rfl, Nat.le_of_ble_eq_true rfl⟩ (ci := 1) (q0 := 0) rfl rfl rfl hl.1 rfl (Nat.le_of_ble_eq_true rfl) ⟨Nat.zero_le _, Nat.zero_le _⟩ dX5_readPart_36) cx.2.2.1 hP hD hS [2, 3, 4] rfl (fun _ => rfl) (fun u182 H locs hw181 hP hD hS => ?_)
    obtain ⟨m183, rfl⟩ : ∃ z, z = u182 := ⟨_, rfl⟩
    have hP : va_P D vwCl [(qr 0, .inr (3, [.ref (qc 0), .ref (qr 1)])), (qr 1, .inl (k 0, 26, .inl (sr 1))), (qc 0, .inr (1, [.ref (qt 0), .int (sc 0 1), .int m183])), (qt 0, .inr (8, [.ref (qt 1), .int (st 0 1)])), (qt 1, .inl (k 2, 64, .inl (st 1))), (qh 0, .inr (2, [.int (sh 0 0), .int (sh 0 1), .ref (qh 1), .ref (qh 2), .ref (qh 3), .ref (qh 4), .int (sh 0 6), .int (sh 0 7), .int (sh 0 8), .int (sh 0 9), .int (sh 0 10), .int (sh 0 11), .int (sh 0 12), .ref (qh 5)])), (qh 1, .inl (k 0, 5, .inl (sh 1))), (qh 2, .inl (k 0, 5, .inl (sh 2))), (qh 3, .inl (k 0, 3, .inl (sh 3))), (qh 4, .inl (k 0, 3, .inl (sh 4))), (qh 5, .inl (k 0, 525, .inl (sh 5)))] H := hP
    have hD : va_D A [(qr 0, .inr (3, [.ref (qc 0), .ref (qr 1)])), (qr 1, .inl (k 0, 26, .inl (sr 1))), (qc 0, .inr (1, [.ref (qt 0), .int (sc 0 1), .int m183])), (qt 0, .inr (8, [.ref (qt 1), .int (st 0 1)])), (qt 1, .inl (k 2, 64, .inl (st 1))), (qh 0, .inr (2, [.int (sh 0 0), .int (sh 0 1), .ref (qh 1), .ref (qh 2), .ref (qh 3), .ref (qh 4), .int (sh 0 6), .int (sh 0 7), .int (sh 0 8), .int (sh 0 9), .int (sh 0 10), .int (sh 0 11), .int (sh 0 12), .ref (qh 5)])), (qh 1, .inl (k 0, 5, .inl (sh 1))), (qh 2, .inl (k 0, 5, .inl (sh 2))), (qh 3, .inl (k 0, 3, .inl (sh 3))), (qh 4, .inl (k 0, 3, .inl (sh 4))), (qh 5, .inl (k 0, 525, .inl (sh 5)))] := hD
    clear hw181
    rw [hQ]
    exact x_v cx hr ((sc 0 1), m183, (sr 1), (sh 0 1), (sh 1), (sh 2), (sh 3), (sh 4), (sh 0 6), (sh 0 7), (sh 0 8), (sh 0 9), (sh 0 10), (sh 0 11), (sh 0 12)) hP hD hS ⟨u_a, (show 0 ≤ ((sr 1) 3).toInt ∧ ((sr 1) 3).toInt ≤ 7 from by omega), (show 0 ≤ ((sr 1) 16).toInt ∧ ((sr 1) 16).toInt ≤ 7 from by omega), (show 0 ≤ (sh 0 1).toInt ∧ (sh 0 1).toInt ≤ 4 from by omega), (show 0 ≤ (sh 0 12).toInt ∧ (sh 0 12).toInt ≤ 5 from by omega), h_of, h_go⟩ dX5_readPart_39
  refine lv_icmp_lt (tgt := 32) hx hb dX5_readPart_11 (by decide) (fun c184 => ?_) (fun c184 => ?_)
  · have f184 : r2.toInt < 65 := f_lt rfl (by decide) c184
    exact hJ32  _ _ _  hP hD hS (lv_sub hl [1] rfl)
  · have f184 : 65 ≤ r2.toInt := f_nlt rfl (by decide) c184
    refine lv_iload_n hx hb dX5_readPart_14 rfl (lv_at hl 0 rfl) ?_
    refine lv_bipush (v := 90) hx hb dX5_readPart_15 (by decide) ?_
    refine lv_icmp_gt (tgt := 32) hx hb dX5_readPart_17 (by decide) (fun c185 => ?_) (fun c185 => ?_)
    · have f185 : 90 < r2.toInt := f_lt (by decide) rfl c185
      exact hJ32  _ _ _  hP hD hS (lv_sub hl [1] rfl)
    · have f185 : r2.toInt ≤ 90 := f_nlt (by decide) rfl c185
      refine lv_aload_n hx hb dX5_readPart_20 rfl (lv_at hl 1 rfl) ?_
      refine g_get cx hP iw_X5_readPart_X5 0 rfl rfl 1 (by decide) rfl fw_X5_readPart_9 rfl dX5_readPart_21 ?_
      refine lv_iload_n hx hb dX5_readPart_24 rfl (lv_at hl 0 rfl) ?_
      refine lv_bipush (v := 65) hx hb dX5_readPart_25 (by decide) ?_
      refine lv_isub hx hb dX5_readPart_27 (lv_topi (fun v186 e186 => ?_))
      have t186 : v186.toInt = r2.toInt - 65 := by rw [e186]; exact i_sub rfl (by decide) (by omega) (by omega)
      have hn187 : vp_in v186 26 := f_in (a := v186.toInt) rfl (by omega) (by omega)
      refine va_iald hx hb cx.2.1 hP 1 0 rfl rfl hn187 dX5_readPart_28 (lv_topi (fun v188 e188 => ?_))
      have t188 : 0 ≤ v188.toInt ∧ v188.toInt ≤ 31 := by rw [e188]; exact u_a _
      refine lv_if_ne (tgt := 40) hx hb dX5_readPart_29 (by decide) (fun c189 => ?_) (fun c189 => ?_)
      · have f189 : ¬ v188.toInt = 0 := f_ne rfl (by decide) c189
        refine lv_aload_n hx hb dX5_readPart_40 rfl (lv_at hl 1 rfl) ?_
        refine g_get cx hP iw_X5_readPart_X5 0 rfl rfl 0 (by decide) rfl fw_X5_readPart_20 rfl dX5_readPart_41 ?_
        refine g_v (w1 := fun (u : Int32) => [(qc 0, .inr (1, [.ref (qt 0), .int u, .int (sc 0 2)])), (qt 0, .inr (8, [.ref (qt 1), .int (st 0 1)])), (qt 1, .inl (k 2, 64, .inl (st 1)))]) (g_runV (wc := [(qc 0, .inr (1, [.ref (qt 0), .int (sc 0 1), .int (sc 0 2)])), (qt 0, .inr (8, [.ref (qt 1), .int (st 0 1)])), (qt 1, .inl (k 2, 64, .inl (st 1)))]) (rest := []) cx hP hD hS [2, 3, 4] rfl (by decide) [] (c_X2_step l D k b qc sc qt st H.size) gX5_readPart_X2_step rfl rfl rfl nd_X2_step ⟨Nat.le_of_ble_eq_true rfl, Nat.le_of_ble_eq_true rfl⟩ (ci := 1) (q0 := 0) rfl rfl rfl hl.1 rfl (Nat.le_of_ble_eq_true rfl) ⟨Nat.zero_le _, Nat.zero_le _⟩ dX5_readPart_44) cx.2.2.1 hP hD hS [2, 3, 4] rfl (fun _ => rfl) (fun u191 H locs hw190 hP hD hS => ?_)
        obtain ⟨m192, rfl⟩ : ∃ z, z = u191 := ⟨_, rfl⟩
        have hP : va_P D vwCl [(qr 0, .inr (3, [.ref (qc 0), .ref (qr 1)])), (qr 1, .inl (k 0, 26, .inl (sr 1))), (qc 0, .inr (1, [.ref (qt 0), .int m192, .int (sc 0 2)])), (qt 0, .inr (8, [.ref (qt 1), .int (st 0 1)])), (qt 1, .inl (k 2, 64, .inl (st 1))), (qh 0, .inr (2, [.int (sh 0 0), .int (sh 0 1), .ref (qh 1), .ref (qh 2), .ref (qh 3), .ref (qh 4), .int (sh 0 6), .int (sh 0 7), .int (sh 0 8), .int (sh 0 9), .int (sh 0 10), .int (sh 0 11), .int (sh 0 12), .ref (qh 5)])), (qh 1, .inl (k 0, 5, .inl (sh 1))), (qh 2, .inl (k 0, 5, .inl (sh 2))), (qh 3, .inl (k 0, 3, .inl (sh 3))), (qh 4, .inl (k 0, 3, .inl (sh 4))), (qh 5, .inl (k 0, 525, .inl (sh 5)))] H := hP
        have hD : va_D A [(qr 0, .inr (3, [.ref (qc 0), .ref (qr 1)])), (qr 1, .inl (k 0, 26, .inl (sr 1))), (qc 0, .inr (1, [.ref (qt 0), .int m192, .int (sc 0 2)])), (qt 0, .inr (8, [.ref (qt 1), .int (st 0 1)])), (qt 1, .inl (k 2, 64, .inl (st 1))), (qh 0, .inr (2, [.int (sh 0 0), .int (sh 0 1), .ref (qh 1), .ref (qh 2), .ref (qh 3), .ref (qh 4), .int (sh 0 6), .int (sh 0 7), .int (sh 0 8), .int (sh 0 9), .int (sh 0 10), .int (sh 0 11), .int (sh 0 12), .ref (qh 5)])), (qh 1, .inl (k 0, 5, .inl (sh 1))), (qh 2, .inl (k 0, 5, .inl (sh 2))), (qh 3, .inl (k 0, 3, .inl (sh 3))), (qh 4, .inl (k 0, 3, .inl (sh 4))), (qh 5, .inl (k 0, 525, .inl (sh 5)))] := hD
        clear hw190
        refine lv_iload_n hx hb dX5_readPart_47 rfl (lv_at hl 0 rfl) ?_
        refine g_ir (g_runS (wc := []) (rest := []) cx hP hD hS [] rfl (by decide) [.int r2] (c_X5_tellsWhich l D k b H.size r2) gX5_readPart_X5_tellsWhich rfl rfl rfl nd_X5_tellsWhich ⟨Nat.le_of_ble_eq_true rfl, Nat.le_of_ble_eq_true rfl⟩ rfl hl.1 rfl (Nat.le_of_ble_eq_true rfl) ⟨Nat.zero_le _, Nat.zero_le _⟩ dX5_readPart_48) cx.2.2.1 hP hD hS [] rfl rfl (fun r194 H locs hw193 hP hS => ?_)
        have w195 : r194 = J_X5_tellsWhich r2 := hw193
        clear hw193
        have zr194 := tells_b w195
        have hJ74 : ∀ (v210 : Int32) (x211 : Int32) (x212 : Int32) (H : Heap) (locs : List Loc) (ls : Array Slot), (-9 ≤ v210.toInt ∧ v210.toInt ≤ 4) → (¬ (r2.toInt = 81 ∨ r2.toInt = 68) ∨ v210.toInt ≤ 2) → (v210.toInt = -9 ∨ 0 ≤ v210.toInt) → va_P D vwCl [(qr 0, .inr (3, [.ref (qc 0), .ref (qr 1)])), (qr 1, .inl (k 0, 26, .inl (sr 1))), (qc 0, .inr (1, [.ref (qt 0), .int x211, .int x212])), (qt 0, .inr (8, [.ref (qt 1), .int (st 0 1)])), (qt 1, .inl (k 2, 64, .inl (st 1))), (qh 0, .inr (2, [.int (sh 0 0), .int (sh 0 1), .ref (qh 1), .ref (qh 2), .ref (qh 3), .ref (qh 4), .int (sh 0 6), .int (sh 0 7), .int (sh 0 8), .int (sh 0 9), .int (sh 0 10), .int (sh 0 11), .int (sh 0 12), .ref (qh 5)])), (qh 1, .inl (k 0, 5, .inl (sh 1))), (qh 2, .inl (k 0, 5, .inl (sh 2))), (qh 3, .inl (k 0, 3, .inl (sh 3))), (qh 4, .inl (k 0, 3, .inl (sh 4))), (qh 5, .inl (k 0, 525, .inl (sh 5)))] H → va_D A [(qr 0, .inr (3, [.ref (qc 0), .ref (qr 1)])), (qr 1, .inl (k 0, 26, .inl (sr 1))), (qc 0, .inr (1, [.ref (qt 0), .int x211, .int x212])), (qt 0, .inr (8, [.ref (qt 1), .int (st 0 1)])), (qt 1, .inl (k 2, 64, .inl (st 1))), (qh 0, .inr (2, [.int (sh 0 0), .int (sh 0 1), .ref (qh 1), .ref (qh 2), .ref (qh 3), .ref (qh 4), .int (sh 0 6), .int (sh 0 7), .int (sh 0 8), .int (sh 0 9), .int (sh 0 10), .int (sh 0 11), .int (sh 0 12), .ref (qh 5)])), (qh 1, .inl (k 0, 5, .inl (sh 1))), (qh 2, .inl (k 0, 5, .inl (sh 2))), (qh 3, .inl (k 0, 3, .inl (sh 3))), (qh 4, .inl (k 0, 3, .inl (sh 4))), (qh 5, .inl (k 0, 525, .inl (sh 5)))] → va_S A s.heap H locs → lv_has ls 6 [(2, .int r2), (0, .ref (qr 0)), (1, .ref (qh 0))] → W p l e ({ frames := 3, cells := 0, slots := 0, locals := 63 } : Room) s m ([.ref (qr 0), .ref (qh 0)] : List Value).toArray below meth c H locs 0 0 Q (F0 m 74 ls [.int v210]) := by
          intro v210 x211 x212 H locs ls bv210 wq wr hP hD hS hl
          refine lv_istore_n (lv' := [(3, .int v210), (2, .int r2), (0, .ref (qr 0)), (1, .ref (qh 0))]) hx hb dX5_readPart_74 rfl hl (by decide) rfl (fun ls hl => ?_)
          refine lv_iload_n hx hb dX5_readPart_75 rfl (lv_at hl 0 rfl) ?_
          refine lv_bipush (v := (-9)) hx hb dX5_readPart_76 (by decide) ?_
          refine lv_icmp_ne (tgt := 82) hx hb dX5_readPart_78 (by decide) (fun c213 => ?_) (fun c213 => ?_)
          · have f213 : ¬ v210.toInt = (-9) := f_ne rfl (by decide) c213
            refine lv_aload_n hx hb dX5_readPart_82 rfl (lv_at hl 2 rfl) ?_
            refine g_get cx hP iw_X5_readPart_X5 0 rfl rfl 1 (by decide) rfl fw_X5_readPart_9 rfl dX5_readPart_83 ?_
            refine lv_iload_n hx hb dX5_readPart_86 rfl (lv_at hl 1 rfl) ?_
            refine lv_bipush (v := 65) hx hb dX5_readPart_87 (by decide) ?_
            refine lv_isub hx hb dX5_readPart_89 (lv_topi (fun v214 e214 => ?_))
            have t214 : v214.toInt = r2.toInt - 65 := by rw [e214]; exact i_sub rfl (by decide) (by omega) (by omega)
            refine lv_dup2_11 hx hb dX5_readPart_90 rfl rfl ?_
            have hn215 : vp_in v214 26 := f_in (a := v214.toInt) rfl (by omega) (by omega)
            refine va_iald hx hb cx.2.1 hP 1 0 rfl rfl hn215 dX5_readPart_91 (lv_topi (fun v216 e216 => ?_))
            have t216 : 0 ≤ v216.toInt ∧ v216.toInt ≤ 31 := by rw [e216]; exact u_a _
            have s217 := ldI e216 rfl (show 0 ≤ v214.toInt from by omega) 3
            have s218 := ldI e216 rfl (show 0 ≤ v214.toInt from by omega) 16
            refine lv_iconst (v := 1) hx hb dX5_readPart_92 (by decide) ?_
            refine lv_iload_n hx hb dX5_readPart_93 rfl (lv_at hl 0 rfl) ?_
            refine lv_ishl hx hb dX5_readPart_94 (lv_topi (fun v219 e219 => ?_))
            refine lv_iconst (v := (-1)) hx hb dX5_readPart_95 (by decide) ?_
            refine lv_ixor hx hb dX5_readPart_96 (lv_topi (fun v220 e220 => ?_))
            refine lv_iand hx hb dX5_readPart_97 (lv_topi (fun v221 e221 => ?_))
            have t221 : 0 ≤ v221.toInt ∧ v221.toInt ≤ v216.toInt := by rw [e221]; exact and_l rfl (by omega)
            have hn222 : vp_in v214 26 := f_in (a := v214.toInt) rfl (by omega) (by omega)
            refine va_iast hx hb cx.2.1 hP hD hS 1 0 rfl rfl hn222 dX5_readPart_98 (fun H locs hP hD hS => ?_)
            obtain ⟨g223, eg223⟩ : ∃ g : Nat → Int32, g = upd (sr 1) (v214).toNatClampNeg v221 := ⟨_, rfl⟩
            rw [← eg223] at hP hD
            have hP : va_P D vwCl [(qr 0, .inr (3, [.ref (qc 0), .ref (qr 1)])), (qr 1, .inl (k 0, 26, .inl g223)), (qc 0, .inr (1, [.ref (qt 0), .int x211, .int x212])), (qt 0, .inr (8, [.ref (qt 1), .int (st 0 1)])), (qt 1, .inl (k 2, 64, .inl (st 1))), (qh 0, .inr (2, [.int (sh 0 0), .int (sh 0 1), .ref (qh 1), .ref (qh 2), .ref (qh 3), .ref (qh 4), .int (sh 0 6), .int (sh 0 7), .int (sh 0 8), .int (sh 0 9), .int (sh 0 10), .int (sh 0 11), .int (sh 0 12), .ref (qh 5)])), (qh 1, .inl (k 0, 5, .inl (sh 1))), (qh 2, .inl (k 0, 5, .inl (sh 2))), (qh 3, .inl (k 0, 3, .inl (sh 3))), (qh 4, .inl (k 0, 3, .inl (sh 4))), (qh 5, .inl (k 0, 525, .inl (sh 5)))] H := hP
            have hD : va_D A [(qr 0, .inr (3, [.ref (qc 0), .ref (qr 1)])), (qr 1, .inl (k 0, 26, .inl g223)), (qc 0, .inr (1, [.ref (qt 0), .int x211, .int x212])), (qt 0, .inr (8, [.ref (qt 1), .int (st 0 1)])), (qt 1, .inl (k 2, 64, .inl (st 1))), (qh 0, .inr (2, [.int (sh 0 0), .int (sh 0 1), .ref (qh 1), .ref (qh 2), .ref (qh 3), .ref (qh 4), .int (sh 0 6), .int (sh 0 7), .int (sh 0 8), .int (sh 0 9), .int (sh 0 10), .int (sh 0 11), .int (sh 0 12), .ref (qh 5)])), (qh 1, .inl (k 0, 5, .inl (sh 1))), (qh 2, .inl (k 0, 5, .inl (sh 2))), (qh 3, .inl (k 0, 3, .inl (sh 3))), (qh 4, .inl (k 0, 3, .inl (sh 4))), (qh 5, .inl (k 0, 525, .inl (sh 5)))] := hD
            have ag223 : ∀ j, 0 ≤ (g223 j).toInt ∧ (g223 j).toInt ≤ 31 := by rw [eg223]; exact upd_all u_a ⟨by first | decide | omega, by first | decide | omega⟩
            have s224 := updI eg223 rfl (show 0 ≤ v214.toInt from by omega) 3
            have s225 := updI eg223 rfl (show 0 ≤ v214.toInt from by omega) 16
            refine lv_aload_n hx hb dX5_readPart_99 rfl (lv_at hl 2 rfl) ?_
            refine g_get cx hP iw_X5_readPart_X5 0 rfl rfl 0 (by decide) rfl fw_X5_readPart_20 rfl dX5_readPart_100 ?_
            refine lv_iload_n hx hb dX5_readPart_103 rfl (lv_at hl 1 rfl) ?_
            refine g_ir (g_runS (wc := []) (rest := [.ref (qc 0)]) cx hP hD hS [] rfl (by decide) [.int r2] (c_X5_firstFigures l D k b H.size r2) gX5_readPart_X5_firstFigures rfl rfl rfl nd_X5_firstFigures ⟨Nat.le_of_ble_eq_true rfl, Nat.le_of_ble_eq_true rfl⟩ rfl hl.1 rfl (Nat.le_of_ble_eq_true rfl) ⟨Nat.zero_le _, Nat.zero_le _⟩ dX5_readPart_104) cx.2.2.1 hP hD hS [] rfl rfl (fun r227 H locs hw226 hP hS => ?_)
            have w228 : r227 = J_X5_firstFigures r2 := hw226
            clear hw226
            have zr227 := ff_t w228
            refine g_i (w1 := fun (u : Int32 × Int32) => [(qc 0, .inr (1, [.ref (qt 0), .int (u.1), .int (u.2)])), (qt 0, .inr (8, [.ref (qt 1), .int (st 0 1)])), (qt 1, .inl (k 2, 64, .inl (st 1)))]) (g_runV (wc := [(qc 0, .inr (1, [.ref (qt 0), .int x211, .int x212])), (qt 0, .inr (8, [.ref (qt 1), .int (st 0 1)])), (qt 1, .inl (k 2, 64, .inl (st 1)))]) (rest := []) cx hP hD hS [2, 3, 4] rfl (by decide) [.int r227] (c_X2_figure l D k b qc (up2 sc 0 (upd (upd (sc 0) 1 x211) 2 x212)) qt st H.size r227 (show 0 ≤ (st 0 1).toInt ∧ (st 0 1).toInt ≤ 64 from by first | decide | omega)) gX5_readPart_X2_figure rfl rfl rfl nd_X2_figure ⟨Nat.le_of_ble_eq_true rfl, Nat.le_of_ble_eq_true rfl⟩ (ci := 1) (q0 := 0) rfl rfl rfl hl.1 rfl (Nat.le_of_ble_eq_true rfl) ⟨Nat.zero_le _, Nat.zero_le _⟩ dX5_readPart_107) cx.2.2.1 hP hD hS [2, 3, 4] rfl (fun _ => rfl) (fun r231 u230 H locs hw229 hP hD hS => ?_)
            obtain ⟨m232, m233⟩ := u230
            have hP : va_P D vwCl [(qr 0, .inr (3, [.ref (qc 0), .ref (qr 1)])), (qr 1, .inl (k 0, 26, .inl g223)), (qc 0, .inr (1, [.ref (qt 0), .int m232, .int m233])), (qt 0, .inr (8, [.ref (qt 1), .int (st 0 1)])), (qt 1, .inl (k 2, 64, .inl (st 1))), (qh 0, .inr (2, [.int (sh 0 0), .int (sh 0 1), .ref (qh 1), .ref (qh 2), .ref (qh 3), .ref (qh 4), .int (sh 0 6), .int (sh 0 7), .int (sh 0 8), .int (sh 0 9), .int (sh 0 10), .int (sh 0 11), .int (sh 0 12), .ref (qh 5)])), (qh 1, .inl (k 0, 5, .inl (sh 1))), (qh 2, .inl (k 0, 5, .inl (sh 2))), (qh 3, .inl (k 0, 3, .inl (sh 3))), (qh 4, .inl (k 0, 3, .inl (sh 4))), (qh 5, .inl (k 0, 525, .inl (sh 5)))] H := hP
            have hD : va_D A [(qr 0, .inr (3, [.ref (qc 0), .ref (qr 1)])), (qr 1, .inl (k 0, 26, .inl g223)), (qc 0, .inr (1, [.ref (qt 0), .int m232, .int m233])), (qt 0, .inr (8, [.ref (qt 1), .int (st 0 1)])), (qt 1, .inl (k 2, 64, .inl (st 1))), (qh 0, .inr (2, [.int (sh 0 0), .int (sh 0 1), .ref (qh 1), .ref (qh 2), .ref (qh 3), .ref (qh 4), .int (sh 0 6), .int (sh 0 7), .int (sh 0 8), .int (sh 0 9), .int (sh 0 10), .int (sh 0 11), .int (sh 0 12), .ref (qh 5)])), (qh 1, .inl (k 0, 5, .inl (sh 1))), (qh 2, .inl (k 0, 5, .inl (sh 2))), (qh 3, .inl (k 0, 3, .inl (sh 3))), (qh 4, .inl (k 0, 3, .inl (sh 4))), (qh 5, .inl (k 0, 525, .inl (sh 5)))] := hD
            replace hw229 : (r231.toInt = -9 ∨ (0 ≤ r231.toInt ∧ r231.toInt ≤ 9)) ∧ (Imp (0 ≤ r227.toInt ∧ r227.toInt ≤ 63) (r231.toInt ≤ 5)) ∧ (Imp (0 ≤ r227.toInt ∧ r227.toInt ≤ 31) (r231.toInt ≤ 4)) ∧ (Imp (0 ≤ r227.toInt ∧ r227.toInt ≤ 7) (r231.toInt ≤ 2)) := hw229
            obtain ⟨w234, w235, w236, w237⟩ := hw229
            have f4 : ¬ (r2.toInt = 72 ∨ r2.toInt = 79) ∨ r231.toInt ≤ 4 := by by_cases q : (r2.toInt = 72 ∨ r2.toInt = 79); exact Or.inr (w236 ⟨by omega, by omega⟩); exact Or.inl q
            have f5 : ¬ r2.toInt = 81 ∨ r231.toInt ≤ 5 := by by_cases q : r2.toInt = 81; exact Or.inr (w235 ⟨by omega, by omega⟩); exact Or.inl q
            refine lv_istore (lv' := [(4, .int r231), (3, .int v210), (2, .int r2), (0, .ref (qr 0)), (1, .ref (qh 0))]) hx hb dX5_readPart_110 hl (by decide) rfl (fun ls hl => ?_)
            refine lv_iload hx hb dX5_readPart_112 (lv_at hl 0 rfl) ?_
            refine lv_bipush (v := (-9)) hx hb dX5_readPart_114 (by decide) ?_
            refine lv_icmp_ne (tgt := 120) hx hb dX5_readPart_116 (by decide) (fun c238 => ?_) (fun c238 => ?_)
            · have f238 : ¬ r231.toInt = (-9) := f_ne rfl (by decide) c238
              refine lv_iload_n hx hb dX5_readPart_120 rfl (lv_at hl 2 rfl) ?_
              refine g_ir (g_runS (wc := []) (rest := []) cx hP hD hS [] rfl (by decide) [.int r2] (c_X5_hasSecond l D k b H.size r2) gX5_readPart_X5_hasSecond rfl rfl rfl nd_X5_hasSecond ⟨Nat.le_of_ble_eq_true rfl, Nat.le_of_ble_eq_true rfl⟩ rfl hl.1 rfl (Nat.le_of_ble_eq_true rfl) ⟨Nat.zero_le _, Nat.zero_le _⟩ dX5_readPart_121) cx.2.2.1 hP hD hS [] rfl rfl (fun r240 H locs hw239 hP hS => ?_)
              have w241 : r240 = J_X5_hasSecond r2 := hw239
              clear hw239
              have zr240 := second_b w241
              have hJ142 : ∀ (v254 : Int32) (x255 : Int32) (x256 : Int32) (H : Heap) (locs : List Loc) (ls : Array Slot), (-9 ≤ v254.toInt ∧ v254.toInt ≤ 9) → (¬ r2.toInt = 66 ∨ v254.toInt ≤ 5) → (v254.toInt = -9 ∨ 0 ≤ v254.toInt) → va_P D vwCl [(qr 0, .inr (3, [.ref (qc 0), .ref (qr 1)])), (qr 1, .inl (k 0, 26, .inl g223)), (qc 0, .inr (1, [.ref (qt 0), .int x255, .int x256])), (qt 0, .inr (8, [.ref (qt 1), .int (st 0 1)])), (qt 1, .inl (k 2, 64, .inl (st 1))), (qh 0, .inr (2, [.int (sh 0 0), .int (sh 0 1), .ref (qh 1), .ref (qh 2), .ref (qh 3), .ref (qh 4), .int (sh 0 6), .int (sh 0 7), .int (sh 0 8), .int (sh 0 9), .int (sh 0 10), .int (sh 0 11), .int (sh 0 12), .ref (qh 5)])), (qh 1, .inl (k 0, 5, .inl (sh 1))), (qh 2, .inl (k 0, 5, .inl (sh 2))), (qh 3, .inl (k 0, 3, .inl (sh 3))), (qh 4, .inl (k 0, 3, .inl (sh 4))), (qh 5, .inl (k 0, 525, .inl (sh 5)))] H → va_D A [(qr 0, .inr (3, [.ref (qc 0), .ref (qr 1)])), (qr 1, .inl (k 0, 26, .inl g223)), (qc 0, .inr (1, [.ref (qt 0), .int x255, .int x256])), (qt 0, .inr (8, [.ref (qt 1), .int (st 0 1)])), (qt 1, .inl (k 2, 64, .inl (st 1))), (qh 0, .inr (2, [.int (sh 0 0), .int (sh 0 1), .ref (qh 1), .ref (qh 2), .ref (qh 3), .ref (qh 4), .int (sh 0 6), .int (sh 0 7), .int (sh 0 8), .int (sh 0 9), .int (sh 0 10), .int (sh 0 11), .int (sh 0 12), .ref (qh 5)])), (qh 1, .inl (k 0, 5, .inl (sh 1))), (qh 2, .inl (k 0, 5, .inl (sh 2))), (qh 3, .inl (k 0, 3, .inl (sh 3))), (qh 4, .inl (k 0, 3, .inl (sh 4))), (qh 5, .inl (k 0, 525, .inl (sh 5)))] → va_S A s.heap H locs → lv_has ls 6 [(4, .int r231), (3, .int v210), (2, .int r2), (1, .ref (qh 0))] → W p l e ({ frames := 3, cells := 0, slots := 0, locals := 63 } : Room) s m ([.ref (qr 0), .ref (qh 0)] : List Value).toArray below meth c H locs 0 0 Q (F0 m 142 ls [.int v254]) := by
                intro v254 x255 x256 H locs ls bv254 sq sr hP hD hS hl
                refine lv_istore (lv' := [(5, .int v254), (4, .int r231), (3, .int v210), (2, .int r2), (1, .ref (qh 0))]) hx hb dX5_readPart_142 hl (by decide) rfl (fun ls hl => ?_)
                refine lv_iload hx hb dX5_readPart_144 (lv_at hl 0 rfl) ?_
                refine lv_bipush (v := (-9)) hx hb dX5_readPart_146 (by decide) ?_
                refine lv_icmp_ne (tgt := 152) hx hb dX5_readPart_148 (by decide) (fun c257 => ?_) (fun c257 => ?_)
                · have f257 : ¬ v254.toInt = (-9) := f_ne rfl (by decide) c257
                  refine lv_aload_n hx hb dX5_readPart_152 rfl (lv_at hl 4 rfl) ?_
                  refine lv_iload_n hx hb dX5_readPart_153 rfl (lv_at hl 3 rfl) ?_
                  refine lv_iload_n hx hb dX5_readPart_154 rfl (lv_at hl 2 rfl) ?_
                  refine lv_iload hx hb dX5_readPart_155 (lv_at hl 1 rfl) ?_
                  refine lv_iload hx hb dX5_readPart_157 (lv_at hl 0 rfl) ?_
                  refine g_v (w1 := fun (u : Int32 × (Nat → Int32) × (Nat → Int32) × (Nat → Int32) × (Nat → Int32) × Int32 × Int32 × Int32 × Int32 × Int32 × Int32 × Int32) => [(qh 0, .inr (2, [.int (sh 0 0), .int (u.1), .ref (qh 1), .ref (qh 2), .ref (qh 3), .ref (qh 4), .int (u.2.2.2.2.2.1), .int (u.2.2.2.2.2.2.1), .int (u.2.2.2.2.2.2.2.1), .int (u.2.2.2.2.2.2.2.2.1), .int (u.2.2.2.2.2.2.2.2.2.1), .int (u.2.2.2.2.2.2.2.2.2.2.1), .int (u.2.2.2.2.2.2.2.2.2.2.2), .ref (qh 5)])), (qh 1, .inl (k 0, 5, .inl (u.2.1))), (qh 2, .inl (k 0, 5, .inl (u.2.2.1))), (qh 3, .inl (k 0, 3, .inl (u.2.2.2.1))), (qh 4, .inl (k 0, 3, .inl (u.2.2.2.2.1))), (qh 5, .inl (k 0, 525, .inl (sh 5)))]) (g_runV (wc := [(qh 0, .inr (2, [.int (sh 0 0), .int (sh 0 1), .ref (qh 1), .ref (qh 2), .ref (qh 3), .ref (qh 4), .int (sh 0 6), .int (sh 0 7), .int (sh 0 8), .int (sh 0 9), .int (sh 0 10), .int (sh 0 11), .int (sh 0 12), .ref (qh 5)])), (qh 1, .inl (k 0, 5, .inl (sh 1))), (qh 2, .inl (k 0, 5, .inl (sh 2))), (qh 3, .inl (k 0, 3, .inl (sh 3))), (qh 4, .inl (k 0, 3, .inl (sh 4))), (qh 5, .inl (k 0, 525, .inl (sh 5)))]) (rest := []) cx hP hD hS [5, 6, 7, 8, 9, 10] rfl (by decide) [.int r2, .int v210, .int r231, .int v254] (c_X4_put l D k b qh sh H.size r2 v210 r231 v254 (show 0 ≤ (sh 0 0).toInt ∧ (sh 0 0).toInt ≤ 5 from by first | decide | omega) (show 0 ≤ (sh 0 1).toInt ∧ (sh 0 1).toInt ≤ 4 from by first | decide | omega) (show 0 ≤ (sh 0 12).toInt ∧ (sh 0 12).toInt ≤ 5 from by first | decide | omega) h_of h_go (show ¬ (r2.toInt = 81 ∨ r2.toInt = 68) ∨ v210.toInt ≤ 2 from by first | decide | omega) (show ¬ r2.toInt = 72 ∨ r231.toInt ≤ 4 from by first | decide | omega) (show ¬ r2.toInt = 79 ∨ r231.toInt ≤ 4 from by first | decide | omega) (show ¬ r2.toInt = 81 ∨ r231.toInt ≤ 5 from by first | decide | omega) (show ¬ r2.toInt = 66 ∨ v254.toInt ≤ 5 from by first | decide | omega) (show 0 ≤ v210.toInt ∧ v210.toInt ≤ 4 from by first | decide | omega) (show 0 ≤ r231.toInt ∧ r231.toInt ≤ 9 from by first | decide | omega) (show 0 ≤ v254.toInt ∧ v254.toInt ≤ 9 from by first | decide | omega)) gX5_readPart_X4_put rfl rfl rfl nd_X4_put ⟨Nat.le_of_ble_eq_true rfl, Nat.le_of_ble_eq_true rfl⟩ (ci := 2) (q0 := 0) rfl rfl rfl hl.1 rfl (Nat.le_of_ble_eq_true rfl) ⟨Nat.zero_le _, Nat.zero_le _⟩ dX5_readPart_159) cx.2.2.1 hP hD hS [5, 6, 7, 8, 9, 10] rfl (fun _ => rfl) (fun u259 H locs hw258 hP hD hS => ?_)
                  obtain ⟨m260, m261, m262, m263, m264, m265, m266, m267, m268, m269, m270, m271⟩ := u259
                  have hP : va_P D vwCl [(qr 0, .inr (3, [.ref (qc 0), .ref (qr 1)])), (qr 1, .inl (k 0, 26, .inl g223)), (qc 0, .inr (1, [.ref (qt 0), .int x255, .int x256])), (qt 0, .inr (8, [.ref (qt 1), .int (st 0 1)])), (qt 1, .inl (k 2, 64, .inl (st 1))), (qh 0, .inr (2, [.int (sh 0 0), .int m260, .ref (qh 1), .ref (qh 2), .ref (qh 3), .ref (qh 4), .int m265, .int m266, .int m267, .int m268, .int m269, .int m270, .int m271, .ref (qh 5)])), (qh 1, .inl (k 0, 5, .inl m261)), (qh 2, .inl (k 0, 5, .inl m262)), (qh 3, .inl (k 0, 3, .inl m263)), (qh 4, .inl (k 0, 3, .inl m264)), (qh 5, .inl (k 0, 525, .inl (sh 5)))] H := hP
                  have hD : va_D A [(qr 0, .inr (3, [.ref (qc 0), .ref (qr 1)])), (qr 1, .inl (k 0, 26, .inl g223)), (qc 0, .inr (1, [.ref (qt 0), .int x255, .int x256])), (qt 0, .inr (8, [.ref (qt 1), .int (st 0 1)])), (qt 1, .inl (k 2, 64, .inl (st 1))), (qh 0, .inr (2, [.int (sh 0 0), .int m260, .ref (qh 1), .ref (qh 2), .ref (qh 3), .ref (qh 4), .int m265, .int m266, .int m267, .int m268, .int m269, .int m270, .int m271, .ref (qh 5)])), (qh 1, .inl (k 0, 5, .inl m261)), (qh 2, .inl (k 0, 5, .inl m262)), (qh 3, .inl (k 0, 3, .inl m263)), (qh 4, .inl (k 0, 3, .inl m264)), (qh 5, .inl (k 0, 525, .inl (sh 5)))] := hD
                  replace hw258 : (0 ≤ m260.toInt ∧ m260.toInt ≤ 4) ∧ (0 ≤ m271.toInt ∧ m271.toInt ≤ 5) ∧ (∀ j, 0 ≤ (m262 j).toInt ∧ (m262 j).toInt ≤ 4) ∧ (∀ j, 0 ≤ (m263 j).toInt ∧ (m263 j).toInt ≤ 5) := hw258
                  obtain ⟨w272, w273, w274, w275⟩ := hw258
                  rw [hQ]
                  exact x_v cx hr (x255, x256, g223, m260, m261, m262, m263, m264, m265, m266, m267, m268, m269, m270, m271) hP hD hS ⟨ag223, (show 0 ≤ (g223 3).toInt ∧ (g223 3).toInt ≤ 7 from by omega), (show 0 ≤ (g223 16).toInt ∧ (g223 16).toInt ≤ 7 from by omega), (show 0 ≤ m260.toInt ∧ m260.toInt ≤ 4 from by omega), (show 0 ≤ m271.toInt ∧ m271.toInt ≤ 5 from by omega), w274, w275⟩ dX5_readPart_162
                · have f257 : v254.toInt = (-9) := f_eq rfl (by decide) c257
                  rw [hQ]
                  exact x_v cx hr (x255, x256, g223, (sh 0 1), (sh 1), (sh 2), (sh 3), (sh 4), (sh 0 6), (sh 0 7), (sh 0 8), (sh 0 9), (sh 0 10), (sh 0 11), (sh 0 12)) hP hD hS ⟨ag223, (show 0 ≤ (g223 3).toInt ∧ (g223 3).toInt ≤ 7 from by omega), (show 0 ≤ (g223 16).toInt ∧ (g223 16).toInt ≤ 7 from by omega), (show 0 ≤ (sh 0 1).toInt ∧ (sh 0 1).toInt ≤ 4 from by omega), (show 0 ≤ (sh 0 12).toInt ∧ (sh 0 12).toInt ≤ 5 from by omega), h_of, h_go⟩ dX5_readPart_151
              refine lv_if_eq (tgt := 141) hx hb dX5_readPart_124 (by decide) (fun c276 => ?_) (fun c276 => ?_)
              · have f276 : r240.toInt = 0 := f_eq rfl (by decide) c276
                have k276 : ¬ r2.toInt = 66 := second_f w241 c276
                refine lv_iconst (v := 0) hx hb dX5_readPart_141 (by decide) ?_
                have hlit277 : (0 : Int32).toInt = 0 := by decide
                exact hJ142 0 m232 m233 _ _ _ (by first | decide | omega) (by first | decide | omega) (by first | decide | omega) hP hD hS (lv_sub hl [0, 1, 2, 4] rfl)
              · have f276 : ¬ r240.toInt = 0 := f_ne rfl (by decide) c276
                refine lv_aload_n hx hb dX5_readPart_127 rfl (lv_at hl 3 rfl) ?_
                refine g_get cx hP iw_X5_readPart_X5 0 rfl rfl 0 (by decide) rfl fw_X5_readPart_20 rfl dX5_readPart_128 ?_
                refine lv_iload_n hx hb dX5_readPart_131 rfl (lv_at hl 2 rfl) ?_
                refine g_ir (g_runS (wc := []) (rest := [.ref (qc 0)]) cx hP hD hS [] rfl (by decide) [.int r2] (c_X5_secondFigures l D k b H.size r2) gX5_readPart_X5_secondFigures rfl rfl rfl nd_X5_secondFigures ⟨Nat.le_of_ble_eq_true rfl, Nat.le_of_ble_eq_true rfl⟩ rfl hl.1 rfl (Nat.le_of_ble_eq_true rfl) ⟨Nat.zero_le _, Nat.zero_le _⟩ dX5_readPart_132) cx.2.2.1 hP hD hS [] rfl rfl (fun r279 H locs hw278 hP hS => ?_)
                have w280 : r279 = J_X5_secondFigures r2 := hw278
                clear hw278
                have zr279 := sf_t w280
                refine g_i (w1 := fun (u : Int32 × Int32) => [(qc 0, .inr (1, [.ref (qt 0), .int (u.1), .int (u.2)])), (qt 0, .inr (8, [.ref (qt 1), .int (st 0 1)])), (qt 1, .inl (k 2, 64, .inl (st 1)))]) (g_runV (wc := [(qc 0, .inr (1, [.ref (qt 0), .int m232, .int m233])), (qt 0, .inr (8, [.ref (qt 1), .int (st 0 1)])), (qt 1, .inl (k 2, 64, .inl (st 1)))]) (rest := []) cx hP hD hS [2, 3, 4] rfl (by decide) [.int r279] (c_X2_figure l D k b qc (up2 sc 0 (upd (upd (sc 0) 1 m232) 2 m233)) qt st H.size r279 (show 0 ≤ (st 0 1).toInt ∧ (st 0 1).toInt ≤ 64 from by first | decide | omega)) gX5_readPart_X2_figure rfl rfl rfl nd_X2_figure ⟨Nat.le_of_ble_eq_true rfl, Nat.le_of_ble_eq_true rfl⟩ (ci := 1) (q0 := 0) rfl rfl rfl hl.1 rfl (Nat.le_of_ble_eq_true rfl) ⟨Nat.zero_le _, Nat.zero_le _⟩ dX5_readPart_135) cx.2.2.1 hP hD hS [2, 3, 4] rfl (fun _ => rfl) (fun r283 u282 H locs hw281 hP hD hS => ?_)
                obtain ⟨m284, m285⟩ := u282
                have hP : va_P D vwCl [(qr 0, .inr (3, [.ref (qc 0), .ref (qr 1)])), (qr 1, .inl (k 0, 26, .inl g223)), (qc 0, .inr (1, [.ref (qt 0), .int m284, .int m285])), (qt 0, .inr (8, [.ref (qt 1), .int (st 0 1)])), (qt 1, .inl (k 2, 64, .inl (st 1))), (qh 0, .inr (2, [.int (sh 0 0), .int (sh 0 1), .ref (qh 1), .ref (qh 2), .ref (qh 3), .ref (qh 4), .int (sh 0 6), .int (sh 0 7), .int (sh 0 8), .int (sh 0 9), .int (sh 0 10), .int (sh 0 11), .int (sh 0 12), .ref (qh 5)])), (qh 1, .inl (k 0, 5, .inl (sh 1))), (qh 2, .inl (k 0, 5, .inl (sh 2))), (qh 3, .inl (k 0, 3, .inl (sh 3))), (qh 4, .inl (k 0, 3, .inl (sh 4))), (qh 5, .inl (k 0, 525, .inl (sh 5)))] H := hP
                have hD : va_D A [(qr 0, .inr (3, [.ref (qc 0), .ref (qr 1)])), (qr 1, .inl (k 0, 26, .inl g223)), (qc 0, .inr (1, [.ref (qt 0), .int m284, .int m285])), (qt 0, .inr (8, [.ref (qt 1), .int (st 0 1)])), (qt 1, .inl (k 2, 64, .inl (st 1))), (qh 0, .inr (2, [.int (sh 0 0), .int (sh 0 1), .ref (qh 1), .ref (qh 2), .ref (qh 3), .ref (qh 4), .int (sh 0 6), .int (sh 0 7), .int (sh 0 8), .int (sh 0 9), .int (sh 0 10), .int (sh 0 11), .int (sh 0 12), .ref (qh 5)])), (qh 1, .inl (k 0, 5, .inl (sh 1))), (qh 2, .inl (k 0, 5, .inl (sh 2))), (qh 3, .inl (k 0, 3, .inl (sh 3))), (qh 4, .inl (k 0, 3, .inl (sh 4))), (qh 5, .inl (k 0, 525, .inl (sh 5)))] := hD
                replace hw281 : (r283.toInt = -9 ∨ (0 ≤ r283.toInt ∧ r283.toInt ≤ 9)) ∧ (Imp (0 ≤ r279.toInt ∧ r279.toInt ≤ 63) (r283.toInt ≤ 5)) ∧ (Imp (0 ≤ r279.toInt ∧ r279.toInt ≤ 31) (r283.toInt ≤ 4)) ∧ (Imp (0 ≤ r279.toInt ∧ r279.toInt ≤ 7) (r283.toInt ≤ 2)) := hw281
                obtain ⟨w286, w287, w288, w289⟩ := hw281
                have f6 : ¬ r2.toInt = 66 ∨ r283.toInt ≤ 5 := by by_cases q : r2.toInt = 66; exact Or.inr (w287 ⟨by omega, by omega⟩); exact Or.inl q
                refine lv_goto (tgt := 142) hx hb dX5_readPart_138 (by decide) ?_
                exact hJ142 r283 m284 m285 _ _ _ (by first | decide | omega) (by first | decide | omega) (by first | decide | omega) hP hD hS (lv_sub hl [0, 1, 2, 4] rfl)
            · have f238 : r231.toInt = (-9) := f_eq rfl (by decide) c238
              rw [hQ]
              exact x_v cx hr (m232, m233, g223, (sh 0 1), (sh 1), (sh 2), (sh 3), (sh 4), (sh 0 6), (sh 0 7), (sh 0 8), (sh 0 9), (sh 0 10), (sh 0 11), (sh 0 12)) hP hD hS ⟨ag223, (show 0 ≤ (g223 3).toInt ∧ (g223 3).toInt ≤ 7 from by omega), (show 0 ≤ (g223 16).toInt ∧ (g223 16).toInt ≤ 7 from by omega), (show 0 ≤ (sh 0 1).toInt ∧ (sh 0 1).toInt ≤ 4 from by omega), (show 0 ≤ (sh 0 12).toInt ∧ (sh 0 12).toInt ≤ 5 from by omega), h_of, h_go⟩ dX5_readPart_119
          · have f213 : v210.toInt = (-9) := f_eq rfl (by decide) c213
            rw [hQ]
            exact x_v cx hr (x211, x212, (sr 1), (sh 0 1), (sh 1), (sh 2), (sh 3), (sh 4), (sh 0 6), (sh 0 7), (sh 0 8), (sh 0 9), (sh 0 10), (sh 0 11), (sh 0 12)) hP hD hS ⟨u_a, (show 0 ≤ ((sr 1) 3).toInt ∧ ((sr 1) 3).toInt ≤ 7 from by omega), (show 0 ≤ ((sr 1) 16).toInt ∧ ((sr 1) 16).toInt ≤ 7 from by omega), (show 0 ≤ (sh 0 1).toInt ∧ (sh 0 1).toInt ≤ 4 from by omega), (show 0 ≤ (sh 0 12).toInt ∧ (sh 0 12).toInt ≤ 5 from by omega), h_of, h_go⟩ dX5_readPart_81
        refine lv_if_eq (tgt := 73) hx hb dX5_readPart_51 (by decide) (fun c290 => ?_) (fun c290 => ?_)
        · have f290 : r194.toInt = 0 := f_eq rfl (by decide) c290
          have k290 : ¬ r2.toInt = 87 ∧ ¬ r2.toInt = 79 ∧ ¬ r2.toInt = 81 ∧ ¬ r2.toInt = 68 := tells_f w195 c290
          refine lv_iconst (v := 0) hx hb dX5_readPart_73 (by decide) ?_
          have hlit291 : (0 : Int32).toInt = 0 := by decide
          exact hJ74 0 m192 (sc 0 2) _ _ _ (by first | decide | omega) (by first | decide | omega) (by first | decide | omega) hP hD hS (lv_sub hl [0, 1, 2] rfl)
        · have f290 : ¬ r194.toInt = 0 := f_ne rfl (by decide) c290
          refine lv_aload_n hx hb dX5_readPart_54 rfl (lv_at hl 1 rfl) ?_
          refine g_get cx hP iw_X5_readPart_X5 0 rfl rfl 0 (by decide) rfl fw_X5_readPart_20 rfl dX5_readPart_55 ?_
          refine lv_aload_n hx hb dX5_readPart_58 rfl (lv_at hl 1 rfl) ?_
          refine g_get cx hP iw_X5_readPart_X5 0 rfl rfl 1 (by decide) rfl fw_X5_readPart_9 rfl dX5_readPart_59 ?_
          refine lv_iload_n hx hb dX5_readPart_62 rfl (lv_at hl 0 rfl) ?_
          refine lv_bipush (v := 65) hx hb dX5_readPart_63 (by decide) ?_
          refine lv_isub hx hb dX5_readPart_65 (lv_topi (fun v292 e292 => ?_))
          have t292 : v292.toInt = r2.toInt - 65 := by rw [e292]; exact i_sub rfl (by decide) (by omega) (by omega)
          have hn293 : vp_in v292 26 := f_in (a := v292.toInt) rfl (by omega) (by omega)
          refine va_iald hx hb cx.2.1 hP 1 0 rfl rfl hn293 dX5_readPart_66 (lv_topi (fun v294 e294 => ?_))
          have t294 : 0 ≤ v294.toInt ∧ v294.toInt ≤ 31 := by rw [e294]; exact u_a _
          have s295 := ldI e294 rfl (show 0 ≤ v292.toInt from by omega) 3
          have s296 := ldI e294 rfl (show 0 ≤ v292.toInt from by omega) 16
          refine g_i (w1 := fun (u : Int32 × Int32) => [(qc 0, .inr (1, [.ref (qt 0), .int (u.1), .int (u.2)])), (qt 0, .inr (8, [.ref (qt 1), .int (st 0 1)])), (qt 1, .inl (k 2, 64, .inl (st 1)))]) (g_runV (wc := [(qc 0, .inr (1, [.ref (qt 0), .int m192, .int (sc 0 2)])), (qt 0, .inr (8, [.ref (qt 1), .int (st 0 1)])), (qt 1, .inl (k 2, 64, .inl (st 1)))]) (rest := []) cx hP hD hS [2, 3, 4] rfl (by decide) [.int v294] (c_X2_figure l D k b qc (up2 sc 0 (upd (sc 0) 1 m192)) qt st H.size v294 (show 0 ≤ (st 0 1).toInt ∧ (st 0 1).toInt ≤ 64 from by first | decide | omega)) gX5_readPart_X2_figure rfl rfl rfl nd_X2_figure ⟨Nat.le_of_ble_eq_true rfl, Nat.le_of_ble_eq_true rfl⟩ (ci := 1) (q0 := 0) rfl rfl rfl hl.1 rfl (Nat.le_of_ble_eq_true rfl) ⟨Nat.zero_le _, Nat.zero_le _⟩ dX5_readPart_67) cx.2.2.1 hP hD hS [2, 3, 4] rfl (fun _ => rfl) (fun r299 u298 H locs hw297 hP hD hS => ?_)
          obtain ⟨m300, m301⟩ := u298
          have hP : va_P D vwCl [(qr 0, .inr (3, [.ref (qc 0), .ref (qr 1)])), (qr 1, .inl (k 0, 26, .inl (sr 1))), (qc 0, .inr (1, [.ref (qt 0), .int m300, .int m301])), (qt 0, .inr (8, [.ref (qt 1), .int (st 0 1)])), (qt 1, .inl (k 2, 64, .inl (st 1))), (qh 0, .inr (2, [.int (sh 0 0), .int (sh 0 1), .ref (qh 1), .ref (qh 2), .ref (qh 3), .ref (qh 4), .int (sh 0 6), .int (sh 0 7), .int (sh 0 8), .int (sh 0 9), .int (sh 0 10), .int (sh 0 11), .int (sh 0 12), .ref (qh 5)])), (qh 1, .inl (k 0, 5, .inl (sh 1))), (qh 2, .inl (k 0, 5, .inl (sh 2))), (qh 3, .inl (k 0, 3, .inl (sh 3))), (qh 4, .inl (k 0, 3, .inl (sh 4))), (qh 5, .inl (k 0, 525, .inl (sh 5)))] H := hP
          have hD : va_D A [(qr 0, .inr (3, [.ref (qc 0), .ref (qr 1)])), (qr 1, .inl (k 0, 26, .inl (sr 1))), (qc 0, .inr (1, [.ref (qt 0), .int m300, .int m301])), (qt 0, .inr (8, [.ref (qt 1), .int (st 0 1)])), (qt 1, .inl (k 2, 64, .inl (st 1))), (qh 0, .inr (2, [.int (sh 0 0), .int (sh 0 1), .ref (qh 1), .ref (qh 2), .ref (qh 3), .ref (qh 4), .int (sh 0 6), .int (sh 0 7), .int (sh 0 8), .int (sh 0 9), .int (sh 0 10), .int (sh 0 11), .int (sh 0 12), .ref (qh 5)])), (qh 1, .inl (k 0, 5, .inl (sh 1))), (qh 2, .inl (k 0, 5, .inl (sh 2))), (qh 3, .inl (k 0, 3, .inl (sh 3))), (qh 4, .inl (k 0, 3, .inl (sh 4))), (qh 5, .inl (k 0, 525, .inl (sh 5)))] := hD
          replace hw297 : (r299.toInt = -9 ∨ (0 ≤ r299.toInt ∧ r299.toInt ≤ 9)) ∧ (Imp (0 ≤ v294.toInt ∧ v294.toInt ≤ 63) (r299.toInt ≤ 5)) ∧ (Imp (0 ≤ v294.toInt ∧ v294.toInt ≤ 31) (r299.toInt ≤ 4)) ∧ (Imp (0 ≤ v294.toInt ∧ v294.toInt ≤ 7) (r299.toInt ≤ 2)) := hw297
          obtain ⟨w302, w303, w304, w305⟩ := hw297
          have xr299 : r299.toInt ≤ 4 := w304 ⟨by omega, by omega⟩
          have wq : ¬ (r2.toInt = 81 ∨ r2.toInt = 68) ∨ r299.toInt ≤ 2 := by by_cases q : (r2.toInt = 81 ∨ r2.toInt = 68); exact Or.inr (w305 ⟨by omega, by omega⟩); exact Or.inl q
          refine lv_goto (tgt := 74) hx hb dX5_readPart_70 (by decide) ?_
          exact hJ74 r299 m300 m301 _ _ _ (by first | decide | omega) (by first | decide | omega) (by first | decide | omega) hP hD hS (lv_sub hl [0, 1, 2] rfl)
      · have f189 : v188.toInt = 0 := f_eq rfl (by decide) c189
        exact hJ32  _ _ _  hP hD hS (lv_sub hl [1] rfl)
theorem fw_X5_read_20 : Cond.fieldLink RX5 20 "StillInAugust$HouseReader" "cursor" "LStillInAugust$Cursor;" ∈ wsX5_read := by decide +kernel
theorem nd_X2_hasMore : yX2_hasMore.cls = RX2 ∧ yX2_hasMore.cls ≠ "java/lang/invoke/MethodHandle" ∧ yX2_hasMore.cls ≠ "java/lang/invoke/VarHandle" ∧ (parseMethodDescriptor yX2_hasMore.desc).map (fun d => d.parameters.length) = some 0 := by decide +kernel
theorem nd_X2_start : yX2_start.cls = RX2 ∧ yX2_start.cls ≠ "java/lang/invoke/MethodHandle" ∧ yX2_start.cls ≠ "java/lang/invoke/VarHandle" ∧ (parseMethodDescriptor yX2_start.desc).map (fun d => d.parameters.length) = some 0 := by decide +kernel
theorem nd_X2_stoppedAt : yX2_stoppedAt.cls = RX2 ∧ yX2_stoppedAt.cls ≠ "java/lang/invoke/MethodHandle" ∧ yX2_stoppedAt.cls ≠ "java/lang/invoke/VarHandle" ∧ (parseMethodDescriptor yX2_stoppedAt.desc).map (fun d => d.parameters.length) = some 0 := by decide +kernel
theorem nd_X4_clear : yX4_clear.cls = RX4 ∧ yX4_clear.cls ≠ "java/lang/invoke/MethodHandle" ∧ yX4_clear.cls ≠ "java/lang/invoke/VarHandle" ∧ (parseMethodDescriptor yX4_clear.desc).map (fun d => d.parameters.length) = some 0 := by decide +kernel
theorem nd_X5_readPart : yX5_readPart.cls = RX5 ∧ yX5_readPart.cls ≠ "java/lang/invoke/MethodHandle" ∧ yX5_readPart.cls ≠ "java/lang/invoke/VarHandle" ∧ (parseMethodDescriptor yX5_readPart.desc).map (fun d => d.parameters.length) = some 1 := by decide +kernel
theorem nd_X5_readWeeks : yX5_readWeeks.cls = RX5 ∧ yX5_readWeeks.cls ≠ "java/lang/invoke/MethodHandle" ∧ yX5_readWeeks.cls ≠ "java/lang/invoke/VarHandle" ∧ (parseMethodDescriptor yX5_readWeeks.desc).map (fun d => d.parameters.length) = some 1 := by decide +kernel
theorem iw_X5_read_X5 : ∀ w ∈ u_ws RX5 TX5 2, w ∈ wsX5_read := fun _ h => List.mem_cons_of_mem _ (List.mem_append_left _ (List.mem_append_left _ (List.mem_append_left _ (List.mem_append_right _ h))))
set_option maxHeartbeats 4000000 in
set_option maxRecDepth 100000 in
theorem c_X5_read (l : Launch) (D : va_G) (k : Nat → ClassId) (b : Nat → Nat) (qr : Nat → Nat) (sr : Nat → Nat → Int32) (qc : Nat → Nat) (sc : Nat → Nat → Int32) (qt : Nat → Nat) (st : Nat → Nat → Int32) (qh : Nat → Nat) (sh : Nat → Nat → Int32) (sz : Nat) (h_len : 0 ≤ (st 0 1).toInt ∧ (st 0 1).toInt ≤ 64) (u_a : ∀ j, 0 ≤ (sr 1 j).toInt ∧ (sr 1 j).toInt ≤ 31) (u_3 : 0 ≤ (sr 1 3).toInt ∧ (sr 1 3).toInt ≤ 7) (u_16 : 0 ≤ (sr 1 16).toInt ∧ (sr 1 16).toInt ≤ 7) (h_of : ∀ j, 0 ≤ (sh 2 j).toInt ∧ (sh 2 j).toInt ≤ 4) (h_go : ∀ j, 0 ≤ (sh 3 j).toInt ∧ (sh 3 j).toInt ≤ 5) : MetI l D k b yX5_read wsX5_read ({ frames := 7, cells := 0, slots := 0, locals := 151 } : Room) [(qr 0, .inr (3, [.ref (qc 0), .ref (qr 1)])), (qr 1, .inl (k 0, 26, .inl (sr 1))), (qc 0, .inr (1, [.ref (qt 0), .int (sc 0 1), .int (sc 0 2)])), (qt 0, .inr (8, [.ref (qt 1), .int (st 0 1)])), (qt 1, .inl (k 2, 64, .inl (st 1))), (qh 0, .inr (2, [.int (sh 0 0), .int (sh 0 1), .ref (qh 1), .ref (qh 2), .ref (qh 3), .ref (qh 4), .int (sh 0 6), .int (sh 0 7), .int (sh 0 8), .int (sh 0 9), .int (sh 0 10), .int (sh 0 11), .int (sh 0 12), .ref (qh 5)])), (qh 1, .inl (k 0, 5, .inl (sh 1))), (qh 2, .inl (k 0, 5, .inl (sh 2))), (qh 3, .inl (k 0, 3, .inl (sh 3))), (qh 4, .inl (k 0, 3, .inl (sh 4))), (qh 5, .inl (k 0, 525, .inl (sh 5)))] sz [.ref (qr 0), .ref (qh 0)] (fun (r : Int32) (u : Int32 × Int32 × (Nat → Int32) × Int32 × Int32 × (Nat → Int32) × (Nat → Int32) × (Nat → Int32) × (Nat → Int32) × Int32 × Int32 × Int32 × Int32 × Int32 × Int32 × Int32) => (∀ j, 0 ≤ ((u.2.2.1) j).toInt ∧ ((u.2.2.1) j).toInt ≤ 31) ∧ (0 ≤ ((u.2.2.1) 3).toInt ∧ ((u.2.2.1) 3).toInt ≤ 7) ∧ (0 ≤ ((u.2.2.1) 16).toInt ∧ ((u.2.2.1) 16).toInt ≤ 7) ∧ (0 ≤ (u.2.2.2.1).toInt ∧ (u.2.2.2.1).toInt ≤ 5) ∧ (0 ≤ (u.2.2.2.2.1).toInt ∧ (u.2.2.2.2.1).toInt ≤ 4) ∧ (0 ≤ (u.2.2.2.2.2.2.2.2.2.2.2.2.2.2.2).toInt ∧ (u.2.2.2.2.2.2.2.2.2.2.2.2.2.2.2).toInt ≤ 5) ∧ (∀ j, 0 ≤ ((u.2.2.2.2.2.2.1) j).toInt ∧ ((u.2.2.2.2.2.2.1) j).toInt ≤ 4) ∧ (∀ j, 0 ≤ ((u.2.2.2.2.2.2.2.1) j).toInt ∧ ((u.2.2.2.2.2.2.2.1) j).toInt ≤ 5)) (fun u => [(qr 0, .inr (3, [.ref (qc 0), .ref (qr 1)])), (qr 1, .inl (k 0, 26, .inl (u.2.2.1))), (qc 0, .inr (1, [.ref (qt 0), .int (u.1), .int (u.2.1)])), (qt 0, .inr (8, [.ref (qt 1), .int (st 0 1)])), (qt 1, .inl (k 2, 64, .inl (st 1))), (qh 0, .inr (2, [.int (u.2.2.2.1), .int (u.2.2.2.2.1), .ref (qh 1), .ref (qh 2), .ref (qh 3), .ref (qh 4), .int (u.2.2.2.2.2.2.2.2.2.1), .int (u.2.2.2.2.2.2.2.2.2.2.1), .int (u.2.2.2.2.2.2.2.2.2.2.2.1), .int (u.2.2.2.2.2.2.2.2.2.2.2.2.1), .int (u.2.2.2.2.2.2.2.2.2.2.2.2.2.1), .int (u.2.2.2.2.2.2.2.2.2.2.2.2.2.2.1), .int (u.2.2.2.2.2.2.2.2.2.2.2.2.2.2.2), .ref (qh 5)])), (qh 1, .inl (k 0, 5, .inl (u.2.2.2.2.2.1))), (qh 2, .inl (k 0, 5, .inl (u.2.2.2.2.2.2.1))), (qh 3, .inl (k 0, 3, .inl (u.2.2.2.2.2.2.2.1))), (qh 4, .inl (k 0, 3, .inl (u.2.2.2.2.2.2.2.2.1))), (qh 5, .inl (k 0, 525, .inl (sh 5)))]) := by
  refine g_enter (cc := cX5_read) (maxL := 3) (ret := (some .int)) (by decide) rfl (Nat.le_of_ble_eq_true rfl) ?_
  intro p e s m below meth c A hsz hAe cx hr hP hD hS ls hl
  rw [hAe]
  refine g_q (fun Q hQ => ?_)
  have hx := cx.1.1
  have hb := cx.1.2.1
  have hl : lv_has ls 3 [(0, .ref (qr 0)), (1, .ref (qh 0))] := hl
  obtain ⟨H, eH⟩ : ∃ H : Heap, H = s.heap := ⟨_, rfl⟩
  obtain ⟨locs, el⟩ : ∃ L : List Loc, L = [] := ⟨_, rfl⟩
  have hP : va_P D vwCl [(qr 0, .inr (3, [.ref (qc 0), .ref (qr 1)])), (qr 1, .inl (k 0, 26, .inl (sr 1))), (qc 0, .inr (1, [.ref (qt 0), .int (sc 0 1), .int (sc 0 2)])), (qt 0, .inr (8, [.ref (qt 1), .int (st 0 1)])), (qt 1, .inl (k 2, 64, .inl (st 1))), (qh 0, .inr (2, [.int (sh 0 0), .int (sh 0 1), .ref (qh 1), .ref (qh 2), .ref (qh 3), .ref (qh 4), .int (sh 0 6), .int (sh 0 7), .int (sh 0 8), .int (sh 0 9), .int (sh 0 10), .int (sh 0 11), .int (sh 0 12), .ref (qh 5)])), (qh 1, .inl (k 0, 5, .inl (sh 1))), (qh 2, .inl (k 0, 5, .inl (sh 2))), (qh 3, .inl (k 0, 3, .inl (sh 3))), (qh 4, .inl (k 0, 3, .inl (sh 4))), (qh 5, .inl (k 0, 525, .inl (sh 5)))] H := by rw [eH]; exact hP
  have hD : va_D A [(qr 0, .inr (3, [.ref (qc 0), .ref (qr 1)])), (qr 1, .inl (k 0, 26, .inl (sr 1))), (qc 0, .inr (1, [.ref (qt 0), .int (sc 0 1), .int (sc 0 2)])), (qt 0, .inr (8, [.ref (qt 1), .int (st 0 1)])), (qt 1, .inl (k 2, 64, .inl (st 1))), (qh 0, .inr (2, [.int (sh 0 0), .int (sh 0 1), .ref (qh 1), .ref (qh 2), .ref (qh 3), .ref (qh 4), .int (sh 0 6), .int (sh 0 7), .int (sh 0 8), .int (sh 0 9), .int (sh 0 10), .int (sh 0 11), .int (sh 0 12), .ref (qh 5)])), (qh 1, .inl (k 0, 5, .inl (sh 1))), (qh 2, .inl (k 0, 5, .inl (sh 2))), (qh 3, .inl (k 0, 3, .inl (sh 3))), (qh 4, .inl (k 0, 3, .inl (sh 4))), (qh 5, .inl (k 0, 525, .inl (sh 5)))] := hD
  have hS : va_S A s.heap H locs := by rw [eH, el]; exact hS
  suffices goal : W p l e ({ frames := 7, cells := 0, slots := 0, locals := 151 } : Room) s m ([.ref (qr 0), .ref (qh 0)] : List Value).toArray below meth c H locs 0 0 Q (F0 m 0 ls []) by rw [eH, el] at goal; exact goal
  refine lv_aload_n hx hb dX5_read_0 rfl (lv_at hl 0 rfl) ?_
  refine g_get cx hP iw_X5_read_X5 0 rfl rfl 0 (by decide) rfl fw_X5_read_20 rfl dX5_read_1 ?_
  refine g_v (w1 := fun (u : Int32 × Int32) => [(qc 0, .inr (1, [.ref (qt 0), .int (u.1), .int (u.2)])), (qt 0, .inr (8, [.ref (qt 1), .int (st 0 1)])), (qt 1, .inl (k 2, 64, .inl (st 1)))]) (g_runV (wc := [(qc 0, .inr (1, [.ref (qt 0), .int (sc 0 1), .int (sc 0 2)])), (qt 0, .inr (8, [.ref (qt 1), .int (st 0 1)])), (qt 1, .inl (k 2, 64, .inl (st 1)))]) (rest := []) cx hP hD hS [2, 3, 4] rfl (by decide) [] (c_X2_start l D k b qc sc qt st H.size) gX5_read_X2_start rfl rfl rfl nd_X2_start ⟨Nat.le_of_ble_eq_true rfl, Nat.le_of_ble_eq_true rfl⟩ (ci := 1) (q0 := 0) rfl rfl rfl hl.1 rfl (Nat.le_of_ble_eq_true rfl) ⟨Nat.zero_le _, Nat.zero_le _⟩ dX5_read_4) cx.2.2.1 hP hD hS [2, 3, 4] rfl (fun _ => rfl) (fun u2 H locs hw1 hP hD hS => ?_)
  obtain ⟨m3, m4⟩ := u2
  have hP : va_P D vwCl [(qr 0, .inr (3, [.ref (qc 0), .ref (qr 1)])), (qr 1, .inl (k 0, 26, .inl (sr 1))), (qc 0, .inr (1, [.ref (qt 0), .int m3, .int m4])), (qt 0, .inr (8, [.ref (qt 1), .int (st 0 1)])), (qt 1, .inl (k 2, 64, .inl (st 1))), (qh 0, .inr (2, [.int (sh 0 0), .int (sh 0 1), .ref (qh 1), .ref (qh 2), .ref (qh 3), .ref (qh 4), .int (sh 0 6), .int (sh 0 7), .int (sh 0 8), .int (sh 0 9), .int (sh 0 10), .int (sh 0 11), .int (sh 0 12), .ref (qh 5)])), (qh 1, .inl (k 0, 5, .inl (sh 1))), (qh 2, .inl (k 0, 5, .inl (sh 2))), (qh 3, .inl (k 0, 3, .inl (sh 3))), (qh 4, .inl (k 0, 3, .inl (sh 4))), (qh 5, .inl (k 0, 525, .inl (sh 5)))] H := hP
  have hD : va_D A [(qr 0, .inr (3, [.ref (qc 0), .ref (qr 1)])), (qr 1, .inl (k 0, 26, .inl (sr 1))), (qc 0, .inr (1, [.ref (qt 0), .int m3, .int m4])), (qt 0, .inr (8, [.ref (qt 1), .int (st 0 1)])), (qt 1, .inl (k 2, 64, .inl (st 1))), (qh 0, .inr (2, [.int (sh 0 0), .int (sh 0 1), .ref (qh 1), .ref (qh 2), .ref (qh 3), .ref (qh 4), .int (sh 0 6), .int (sh 0 7), .int (sh 0 8), .int (sh 0 9), .int (sh 0 10), .int (sh 0 11), .int (sh 0 12), .ref (qh 5)])), (qh 1, .inl (k 0, 5, .inl (sh 1))), (qh 2, .inl (k 0, 5, .inl (sh 2))), (qh 3, .inl (k 0, 3, .inl (sh 3))), (qh 4, .inl (k 0, 3, .inl (sh 4))), (qh 5, .inl (k 0, 525, .inl (sh 5)))] := hD
  clear hw1
  refine lv_aload_n hx hb dX5_read_7 rfl (lv_at hl 1 rfl) ?_
  refine g_v (w1 := fun (u : Int32 × Int32 × (Nat → Int32) × (Nat → Int32) × (Nat → Int32) × (Nat → Int32) × Int32 × Int32 × Int32 × Int32 × Int32 × Int32 × Int32) => [(qh 0, .inr (2, [.int (u.1), .int (u.2.1), .ref (qh 1), .ref (qh 2), .ref (qh 3), .ref (qh 4), .int (u.2.2.2.2.2.2.1), .int (u.2.2.2.2.2.2.2.1), .int (u.2.2.2.2.2.2.2.2.1), .int (u.2.2.2.2.2.2.2.2.2.1), .int (u.2.2.2.2.2.2.2.2.2.2.1), .int (u.2.2.2.2.2.2.2.2.2.2.2.1), .int (u.2.2.2.2.2.2.2.2.2.2.2.2), .ref (qh 5)])), (qh 1, .inl (k 0, 5, .inl (u.2.2.1))), (qh 2, .inl (k 0, 5, .inl (u.2.2.2.1))), (qh 3, .inl (k 0, 3, .inl (u.2.2.2.2.1))), (qh 4, .inl (k 0, 3, .inl (u.2.2.2.2.2.1))), (qh 5, .inl (k 0, 525, .inl (sh 5)))]) (g_runV (wc := [(qh 0, .inr (2, [.int (sh 0 0), .int (sh 0 1), .ref (qh 1), .ref (qh 2), .ref (qh 3), .ref (qh 4), .int (sh 0 6), .int (sh 0 7), .int (sh 0 8), .int (sh 0 9), .int (sh 0 10), .int (sh 0 11), .int (sh 0 12), .ref (qh 5)])), (qh 1, .inl (k 0, 5, .inl (sh 1))), (qh 2, .inl (k 0, 5, .inl (sh 2))), (qh 3, .inl (k 0, 3, .inl (sh 3))), (qh 4, .inl (k 0, 3, .inl (sh 4))), (qh 5, .inl (k 0, 525, .inl (sh 5)))]) (rest := []) cx hP hD hS [5, 6, 7, 8, 9, 10] rfl (by decide) [] (c_X4_clear l D k b qh sh H.size h_of h_go) gX5_read_X4_clear rfl rfl rfl nd_X4_clear ⟨Nat.le_of_ble_eq_true rfl, Nat.le_of_ble_eq_true rfl⟩ (ci := 2) (q0 := 0) rfl rfl rfl hl.1 rfl (Nat.le_of_ble_eq_true rfl) ⟨Nat.zero_le _, Nat.zero_le _⟩ dX5_read_8) cx.2.2.1 hP hD hS [5, 6, 7, 8, 9, 10] rfl (fun _ => rfl) (fun u6 H locs hw5 hP hD hS => ?_)
  obtain ⟨m7, m8, m9, m10, m11, m12, m13, m14, m15, m16, m17, m18, m19⟩ := u6
  have hP : va_P D vwCl [(qr 0, .inr (3, [.ref (qc 0), .ref (qr 1)])), (qr 1, .inl (k 0, 26, .inl (sr 1))), (qc 0, .inr (1, [.ref (qt 0), .int m3, .int m4])), (qt 0, .inr (8, [.ref (qt 1), .int (st 0 1)])), (qt 1, .inl (k 2, 64, .inl (st 1))), (qh 0, .inr (2, [.int m7, .int m8, .ref (qh 1), .ref (qh 2), .ref (qh 3), .ref (qh 4), .int m13, .int m14, .int m15, .int m16, .int m17, .int m18, .int m19, .ref (qh 5)])), (qh 1, .inl (k 0, 5, .inl m9)), (qh 2, .inl (k 0, 5, .inl m10)), (qh 3, .inl (k 0, 3, .inl m11)), (qh 4, .inl (k 0, 3, .inl m12)), (qh 5, .inl (k 0, 525, .inl (sh 5)))] H := hP
  have hD : va_D A [(qr 0, .inr (3, [.ref (qc 0), .ref (qr 1)])), (qr 1, .inl (k 0, 26, .inl (sr 1))), (qc 0, .inr (1, [.ref (qt 0), .int m3, .int m4])), (qt 0, .inr (8, [.ref (qt 1), .int (st 0 1)])), (qt 1, .inl (k 2, 64, .inl (st 1))), (qh 0, .inr (2, [.int m7, .int m8, .ref (qh 1), .ref (qh 2), .ref (qh 3), .ref (qh 4), .int m13, .int m14, .int m15, .int m16, .int m17, .int m18, .int m19, .ref (qh 5)])), (qh 1, .inl (k 0, 5, .inl m9)), (qh 2, .inl (k 0, 5, .inl m10)), (qh 3, .inl (k 0, 3, .inl m11)), (qh 4, .inl (k 0, 3, .inl m12)), (qh 5, .inl (k 0, 525, .inl (sh 5)))] := hD
  replace hw5 : (0 ≤ m7.toInt ∧ m7.toInt ≤ 5) ∧ (0 ≤ m8.toInt ∧ m8.toInt ≤ 4) ∧ (0 ≤ m19.toInt ∧ m19.toInt ≤ 5) ∧ (∀ j, 0 ≤ (m10 j).toInt ∧ (m10 j).toInt ≤ 4) ∧ (∀ j, 0 ≤ (m11 j).toInt ∧ (m11 j).toInt ≤ 5) := hw5
  obtain ⟨w20, w21, w22, w23, w24⟩ := hw5
  refine lv_aload_n hx hb dX5_read_11 rfl (lv_at hl 0 rfl) ?_
  refine lv_aload_n hx hb dX5_read_12 rfl (lv_at hl 1 rfl) ?_
  refine g_vF (w1 := fun (u : Int32 × Int32 × (Nat → Int32) × Int32) => [(qr 0, .inr (3, [.ref (qc 0), .ref (qr 1)])), (qr 1, .inl (k 0, 26, .inl (u.2.2.1))), (qc 0, .inr (1, [.ref (qt 0), .int (u.1), .int (u.2.1)])), (qt 0, .inr (8, [.ref (qt 1), .int (st 0 1)])), (qt 1, .inl (k 2, 64, .inl (st 1))), (qh 0, .inr (2, [.int (u.2.2.2), .int m8, .ref (qh 1), .ref (qh 2), .ref (qh 3), .ref (qh 4), .int m13, .int m14, .int m15, .int m16, .int m17, .int m18, .int m19, .ref (qh 5)])), (qh 1, .inl (k 0, 5, .inl m9)), (qh 2, .inl (k 0, 5, .inl m10)), (qh 3, .inl (k 0, 3, .inl m11)), (qh 4, .inl (k 0, 3, .inl m12)), (qh 5, .inl (k 0, 525, .inl (sh 5)))]) (g_runVF (ws := [(qr 0, .inr (3, [.ref (qc 0), .ref (qr 1)])), (qr 1, .inl (k 0, 26, .inl (sr 1))), (qc 0, .inr (1, [.ref (qt 0), .int m3, .int m4])), (qt 0, .inr (8, [.ref (qt 1), .int (st 0 1)])), (qt 1, .inl (k 2, 64, .inl (st 1))), (qh 0, .inr (2, [.int m7, .int m8, .ref (qh 1), .ref (qh 2), .ref (qh 3), .ref (qh 4), .int m13, .int m14, .int m15, .int m16, .int m17, .int m18, .int m19, .ref (qh 5)])), (qh 1, .inl (k 0, 5, .inl m9)), (qh 2, .inl (k 0, 5, .inl m10)), (qh 3, .inl (k 0, 3, .inl m11)), (qh 4, .inl (k 0, 3, .inl m12)), (qh 5, .inl (k 0, 525, .inl (sh 5)))]) (rest := []) cx hP hD hS [.ref (qh 0)] (c_X5_readWeeks l D k b qr sr qc (up2 sc 0 (upd (upd (sc 0) 1 m3) 2 m4)) qt st qh (up2 (up2 (up2 (up2 (up2 sh 0 (upd (upd (upd (upd (upd (upd (upd (upd (upd (sh 0) 0 m7) 1 m8) 6 m13) 7 m14) 8 m15) 9 m16) 10 m17) 11 m18) 12 m19)) 1 m9) 2 m10) 3 m11) 4 m12) H.size (show 0 ≤ (st 0 1).toInt ∧ (st 0 1).toInt ≤ 64 from by first | decide | omega) u_a (show 0 ≤ ((sr 1) 3).toInt ∧ ((sr 1) 3).toInt ≤ 7 from by first | decide | omega) (show 0 ≤ ((sr 1) 16).toInt ∧ ((sr 1) 16).toInt ≤ 7 from by first | decide | omega) (show 0 ≤ m7.toInt ∧ m7.toInt ≤ 5 from by first | decide | omega)) gX5_read_X5_readWeeks rfl rfl rfl nd_X5_readWeeks ⟨Nat.le_of_ble_eq_true rfl, Nat.le_of_ble_eq_true rfl⟩ (ci := 3) (q0 := 0) rfl rfl rfl hl.1 rfl (Nat.le_of_ble_eq_true rfl) ⟨Nat.zero_le _, Nat.zero_le _⟩ dX5_read_13) cx.2.2.1 hD hS (fun u26 H locs hw25 hP hD hS => ?_)
  obtain ⟨m27, m28, m29, m30⟩ := u26
  have hP : va_P D vwCl [(qr 0, .inr (3, [.ref (qc 0), .ref (qr 1)])), (qr 1, .inl (k 0, 26, .inl m29)), (qc 0, .inr (1, [.ref (qt 0), .int m27, .int m28])), (qt 0, .inr (8, [.ref (qt 1), .int (st 0 1)])), (qt 1, .inl (k 2, 64, .inl (st 1))), (qh 0, .inr (2, [.int m30, .int m8, .ref (qh 1), .ref (qh 2), .ref (qh 3), .ref (qh 4), .int m13, .int m14, .int m15, .int m16, .int m17, .int m18, .int m19, .ref (qh 5)])), (qh 1, .inl (k 0, 5, .inl m9)), (qh 2, .inl (k 0, 5, .inl m10)), (qh 3, .inl (k 0, 3, .inl m11)), (qh 4, .inl (k 0, 3, .inl m12)), (qh 5, .inl (k 0, 525, .inl (sh 5)))] H := hP
  have hD : va_D A [(qr 0, .inr (3, [.ref (qc 0), .ref (qr 1)])), (qr 1, .inl (k 0, 26, .inl m29)), (qc 0, .inr (1, [.ref (qt 0), .int m27, .int m28])), (qt 0, .inr (8, [.ref (qt 1), .int (st 0 1)])), (qt 1, .inl (k 2, 64, .inl (st 1))), (qh 0, .inr (2, [.int m30, .int m8, .ref (qh 1), .ref (qh 2), .ref (qh 3), .ref (qh 4), .int m13, .int m14, .int m15, .int m16, .int m17, .int m18, .int m19, .ref (qh 5)])), (qh 1, .inl (k 0, 5, .inl m9)), (qh 2, .inl (k 0, 5, .inl m10)), (qh 3, .inl (k 0, 3, .inl m11)), (qh 4, .inl (k 0, 3, .inl m12)), (qh 5, .inl (k 0, 525, .inl (sh 5)))] := hD
  replace hw25 : (∀ j, 0 ≤ (m29 j).toInt ∧ (m29 j).toInt ≤ 31) ∧ (0 ≤ (m29 3).toInt ∧ (m29 3).toInt ≤ 7) ∧ (0 ≤ (m29 16).toInt ∧ (m29 16).toInt ≤ 7) ∧ (0 ≤ m30.toInt ∧ m30.toInt ≤ 5) := hw25
  obtain ⟨w31, w32, w33, w34⟩ := hw25
  refine lv_iconst (v := 0) hx hb dX5_read_16 (by decide) ?_
  refine lv_istore_n (lv' := [(2, .int 0), (0, .ref (qr 0)), (1, .ref (qh 0))]) hx hb dX5_read_17 rfl hl (by decide) rfl (fun ls hl => ?_)
  have hL18 : ∀ (n79 : Nat) (v63 : Int32) (g64 : Nat → Int32) (x65 : Int32) (x66 : Int32) (x67 : Int32) (x68 : Int32) (x69 : Int32) (x70 : Int32) (x71 : Int32) (x72 : Int32) (x73 : Int32) (x74 : Int32) (g75 : Nat → Int32) (g76 : Nat → Int32) (g77 : Nat → Int32) (g78 : Nat → Int32) (H : Heap) (locs : List Loc) (ls : Array Slot), 64 - v63.toInt < (n79 : Int) → (0 ≤ v63.toInt ∧ v63.toInt ≤ 64) → (0 ≤ x67.toInt ∧ x67.toInt ≤ 4) → (0 ≤ x74.toInt ∧ x74.toInt ≤ 5) → (0 ≤ (g64 3).toInt ∧ (g64 3).toInt ≤ 7) → (0 ≤ (g64 16).toInt ∧ (g64 16).toInt ≤ 7) → (∀ j, 0 ≤ (g64 j).toInt ∧ (g64 j).toInt ≤ 31) → (∀ j, 0 ≤ (g76 j).toInt ∧ (g76 j).toInt ≤ 4) → (∀ j, 0 ≤ (g77 j).toInt ∧ (g77 j).toInt ≤ 5) → va_P D vwCl [(qr 0, .inr (3, [.ref (qc 0), .ref (qr 1)])), (qr 1, .inl (k 0, 26, .inl g64)), (qc 0, .inr (1, [.ref (qt 0), .int x65, .int x66])), (qt 0, .inr (8, [.ref (qt 1), .int (st 0 1)])), (qt 1, .inl (k 2, 64, .inl (st 1))), (qh 0, .inr (2, [.int m30, .int x67, .ref (qh 1), .ref (qh 2), .ref (qh 3), .ref (qh 4), .int x68, .int x69, .int x70, .int x71, .int x72, .int x73, .int x74, .ref (qh 5)])), (qh 1, .inl (k 0, 5, .inl g75)), (qh 2, .inl (k 0, 5, .inl g76)), (qh 3, .inl (k 0, 3, .inl g77)), (qh 4, .inl (k 0, 3, .inl g78)), (qh 5, .inl (k 0, 525, .inl (sh 5)))] H → va_D A [(qr 0, .inr (3, [.ref (qc 0), .ref (qr 1)])), (qr 1, .inl (k 0, 26, .inl g64)), (qc 0, .inr (1, [.ref (qt 0), .int x65, .int x66])), (qt 0, .inr (8, [.ref (qt 1), .int (st 0 1)])), (qt 1, .inl (k 2, 64, .inl (st 1))), (qh 0, .inr (2, [.int m30, .int x67, .ref (qh 1), .ref (qh 2), .ref (qh 3), .ref (qh 4), .int x68, .int x69, .int x70, .int x71, .int x72, .int x73, .int x74, .ref (qh 5)])), (qh 1, .inl (k 0, 5, .inl g75)), (qh 2, .inl (k 0, 5, .inl g76)), (qh 3, .inl (k 0, 3, .inl g77)), (qh 4, .inl (k 0, 3, .inl g78)), (qh 5, .inl (k 0, 525, .inl (sh 5)))] → va_S A s.heap H locs → lv_has ls 3 [(2, .int v63), (0, .ref (qr 0)), (1, .ref (qh 0))] → W p l e ({ frames := 7, cells := 0, slots := 0, locals := 151 } : Room) s m ([.ref (qr 0), .ref (qh 0)] : List Value).toArray below meth c H locs 0 0 Q (F0 m 18 ls []) := by
    intro n79
    induction n79 with
    | zero => intro v63 g64 x65 x66 x67 x68 x69 x70 x71 x72 x73 x74 g75 g76 g77 g78 H locs ls hmn79 bv63 bx67 bx74 u3 u16 ag64 ag76 ag77 hP hD hS hl; exact absurd hmn79 (by omega)
    | succ n79 ih18 =>
      intro v63 g64 x65 x66 x67 x68 x69 x70 x71 x72 x73 x74 g75 g76 g77 g78 H locs ls hmn79 bv63 bx67 bx74 u3 u16 ag64 ag76 ag77 hP hD hS hl
      refine lv_iload_n hx hb dX5_read_18 rfl (lv_at hl 0 rfl) ?_
      refine lv_bipush (v := 64) hx hb dX5_read_19 (by decide) ?_
      have hJ45 : ∀  (H : Heap) (locs : List Loc) (ls : Array Slot), va_P D vwCl [(qr 0, .inr (3, [.ref (qc 0), .ref (qr 1)])), (qr 1, .inl (k 0, 26, .inl g64)), (qc 0, .inr (1, [.ref (qt 0), .int x65, .int x66])), (qt 0, .inr (8, [.ref (qt 1), .int (st 0 1)])), (qt 1, .inl (k 2, 64, .inl (st 1))), (qh 0, .inr (2, [.int m30, .int x67, .ref (qh 1), .ref (qh 2), .ref (qh 3), .ref (qh 4), .int x68, .int x69, .int x70, .int x71, .int x72, .int x73, .int x74, .ref (qh 5)])), (qh 1, .inl (k 0, 5, .inl g75)), (qh 2, .inl (k 0, 5, .inl g76)), (qh 3, .inl (k 0, 3, .inl g77)), (qh 4, .inl (k 0, 3, .inl g78)), (qh 5, .inl (k 0, 525, .inl (sh 5)))] H → va_D A [(qr 0, .inr (3, [.ref (qc 0), .ref (qr 1)])), (qr 1, .inl (k 0, 26, .inl g64)), (qc 0, .inr (1, [.ref (qt 0), .int x65, .int x66])), (qt 0, .inr (8, [.ref (qt 1), .int (st 0 1)])), (qt 1, .inl (k 2, 64, .inl (st 1))), (qh 0, .inr (2, [.int m30, .int x67, .ref (qh 1), .ref (qh 2), .ref (qh 3), .ref (qh 4), .int x68, .int x69, .int x70, .int x71, .int x72, .int x73, .int x74, .ref (qh 5)])), (qh 1, .inl (k 0, 5, .inl g75)), (qh 2, .inl (k 0, 5, .inl g76)), (qh 3, .inl (k 0, 3, .inl g77)), (qh 4, .inl (k 0, 3, .inl g78)), (qh 5, .inl (k 0, 525, .inl (sh 5)))] → va_S A s.heap H locs → lv_has ls 3 [(0, .ref (qr 0))] → W p l e ({ frames := 7, cells := 0, slots := 0, locals := 151 } : Room) s m ([.ref (qr 0), .ref (qh 0)] : List Value).toArray below meth c H locs 0 0 Q (F0 m 45 ls []) := by
        intro  H locs ls  hP hD hS hl
        refine lv_aload_n hx hb dX5_read_45 rfl (lv_at hl 0 rfl) ?_
        refine g_get cx hP iw_X5_read_X5 0 rfl rfl 0 (by decide) rfl fw_X5_read_20 rfl dX5_read_46 ?_
        refine g_ir (g_runV (wc := [(qc 0, .inr (1, [.ref (qt 0), .int x65, .int x66])), (qt 0, .inr (8, [.ref (qt 1), .int (st 0 1)])), (qt 1, .inl (k 2, 64, .inl (st 1)))]) (rest := []) cx hP hD hS [2, 3, 4] rfl (by decide) [] (c_X2_stoppedAt l D k b qc (up2 sc 0 (upd (upd (sc 0) 1 x65) 2 x66)) qt st H.size) gX5_read_X2_stoppedAt rfl rfl rfl nd_X2_stoppedAt ⟨Nat.le_of_ble_eq_true rfl, Nat.le_of_ble_eq_true rfl⟩ (ci := 1) (q0 := 0) rfl rfl rfl hl.1 rfl (Nat.le_of_ble_eq_true rfl) ⟨Nat.zero_le _, Nat.zero_le _⟩ dX5_read_49) cx.2.2.1 hP hD hS [2, 3, 4] rfl rfl (fun r109 H locs hw108 hP hS => ?_)
        clear hw108
        rw [hQ]
        exact x_i cx hr (x65, x66, g64, m30, x67, g75, g76, g77, g78, x68, x69, x70, x71, x72, x73, x74) hP hD hS ⟨ag64, (show 0 ≤ (g64 3).toInt ∧ (g64 3).toInt ≤ 7 from by omega), (show 0 ≤ (g64 16).toInt ∧ (g64 16).toInt ≤ 7 from by omega), (show 0 ≤ m30.toInt ∧ m30.toInt ≤ 5 from by omega), (show 0 ≤ x67.toInt ∧ x67.toInt ≤ 4 from by omega), (show 0 ≤ x74.toInt ∧ x74.toInt ≤ 5 from by omega), ag76, ag77⟩ dX5_read_52
      refine lv_icmp_ge (tgt := 45) hx hb dX5_read_21 (by decide) (fun c110 => ?_) (fun c110 => ?_)
      · have f110 : 64 ≤ v63.toInt := f_le (by decide) rfl c110
        exact hJ45  _ _ _  hP hD hS (lv_sub hl [1] rfl)
      · have f110 : v63.toInt < 64 := f_nle (by decide) rfl c110
        refine lv_aload_n hx hb dX5_read_24 rfl (lv_at hl 1 rfl) ?_
        refine g_get cx hP iw_X5_read_X5 0 rfl rfl 0 (by decide) rfl fw_X5_read_20 rfl dX5_read_25 ?_
        refine g_ir (g_runV (wc := [(qc 0, .inr (1, [.ref (qt 0), .int x65, .int x66])), (qt 0, .inr (8, [.ref (qt 1), .int (st 0 1)])), (qt 1, .inl (k 2, 64, .inl (st 1)))]) (rest := []) cx hP hD hS [2, 3, 4] rfl (by decide) [] (c_X2_hasMore l D k b qc (up2 sc 0 (upd (upd (sc 0) 1 x65) 2 x66)) qt st H.size) gX5_read_X2_hasMore rfl rfl rfl nd_X2_hasMore ⟨Nat.le_of_ble_eq_true rfl, Nat.le_of_ble_eq_true rfl⟩ (ci := 1) (q0 := 0) rfl rfl rfl hl.1 rfl (Nat.le_of_ble_eq_true rfl) ⟨Nat.zero_le _, Nat.zero_le _⟩ dX5_read_28) cx.2.2.1 hP hD hS [2, 3, 4] rfl rfl (fun r112 H locs hw111 hP hS => ?_)
        have w113 : 0 ≤ r112.toInt ∧ r112.toInt ≤ 1 := hw111
        clear hw111
        refine lv_if_eq (tgt := 45) hx hb dX5_read_31 (by decide) (fun c114 => ?_) (fun c114 => ?_)
        · have f114 : r112.toInt = 0 := f_eq rfl (by decide) c114
          exact hJ45  _ _ _  hP hD hS (lv_sub hl [1] rfl)
        · have f114 : ¬ r112.toInt = 0 := f_ne rfl (by decide) c114
          refine lv_aload_n hx hb dX5_read_34 rfl (lv_at hl 1 rfl) ?_
          refine lv_aload_n hx hb dX5_read_35 rfl (lv_at hl 2 rfl) ?_
          refine g_vF (w1 := fun (u : Int32 × Int32 × (Nat → Int32) × Int32 × (Nat → Int32) × (Nat → Int32) × (Nat → Int32) × (Nat → Int32) × Int32 × Int32 × Int32 × Int32 × Int32 × Int32 × Int32) => [(qr 0, .inr (3, [.ref (qc 0), .ref (qr 1)])), (qr 1, .inl (k 0, 26, .inl (u.2.2.1))), (qc 0, .inr (1, [.ref (qt 0), .int (u.1), .int (u.2.1)])), (qt 0, .inr (8, [.ref (qt 1), .int (st 0 1)])), (qt 1, .inl (k 2, 64, .inl (st 1))), (qh 0, .inr (2, [.int m30, .int (u.2.2.2.1), .ref (qh 1), .ref (qh 2), .ref (qh 3), .ref (qh 4), .int (u.2.2.2.2.2.2.2.2.1), .int (u.2.2.2.2.2.2.2.2.2.1), .int (u.2.2.2.2.2.2.2.2.2.2.1), .int (u.2.2.2.2.2.2.2.2.2.2.2.1), .int (u.2.2.2.2.2.2.2.2.2.2.2.2.1), .int (u.2.2.2.2.2.2.2.2.2.2.2.2.2.1), .int (u.2.2.2.2.2.2.2.2.2.2.2.2.2.2), .ref (qh 5)])), (qh 1, .inl (k 0, 5, .inl (u.2.2.2.2.1))), (qh 2, .inl (k 0, 5, .inl (u.2.2.2.2.2.1))), (qh 3, .inl (k 0, 3, .inl (u.2.2.2.2.2.2.1))), (qh 4, .inl (k 0, 3, .inl (u.2.2.2.2.2.2.2.1))), (qh 5, .inl (k 0, 525, .inl (sh 5)))]) (g_runVF (ws := [(qr 0, .inr (3, [.ref (qc 0), .ref (qr 1)])), (qr 1, .inl (k 0, 26, .inl g64)), (qc 0, .inr (1, [.ref (qt 0), .int x65, .int x66])), (qt 0, .inr (8, [.ref (qt 1), .int (st 0 1)])), (qt 1, .inl (k 2, 64, .inl (st 1))), (qh 0, .inr (2, [.int m30, .int x67, .ref (qh 1), .ref (qh 2), .ref (qh 3), .ref (qh 4), .int x68, .int x69, .int x70, .int x71, .int x72, .int x73, .int x74, .ref (qh 5)])), (qh 1, .inl (k 0, 5, .inl g75)), (qh 2, .inl (k 0, 5, .inl g76)), (qh 3, .inl (k 0, 3, .inl g77)), (qh 4, .inl (k 0, 3, .inl g78)), (qh 5, .inl (k 0, 525, .inl (sh 5)))]) (rest := []) cx hP hD hS [.ref (qh 0)] (c_X5_readPart l D k b qr (up2 sr 1 g64) qc (up2 sc 0 (upd (upd (sc 0) 1 x65) 2 x66)) qt st qh (up2 (up2 (up2 (up2 (up2 sh 0 (upd (upd (upd (upd (upd (upd (upd (upd (upd (sh 0) 0 m30) 1 x67) 6 x68) 7 x69) 8 x70) 9 x71) 10 x72) 11 x73) 12 x74)) 1 g75) 2 g76) 3 g77) 4 g78) H.size (show 0 ≤ (st 0 1).toInt ∧ (st 0 1).toInt ≤ 64 from by first | decide | omega) ag64 (show 0 ≤ (g64 3).toInt ∧ (g64 3).toInt ≤ 7 from by first | decide | omega) (show 0 ≤ (g64 16).toInt ∧ (g64 16).toInt ≤ 7 from by first | decide | omega) (show 0 ≤ m30.toInt ∧ m30.toInt ≤ 5 from by first | decide | omega) (show 0 ≤ x67.toInt ∧ x67.toInt ≤ 4 from by first | decide | omega) (show 0 ≤ x74.toInt ∧ x74.toInt ≤ 5 from by first | decide | omega) ag76 ag77) gX5_read_X5_readPart rfl rfl rfl nd_X5_readPart ⟨Nat.le_of_ble_eq_true rfl, Nat.le_of_ble_eq_true rfl⟩ (ci := 3) (q0 := 0) rfl rfl rfl hl.1 rfl (Nat.le_of_ble_eq_true rfl) ⟨Nat.zero_le _, Nat.zero_le _⟩ dX5_read_36) cx.2.2.1 hD hS (fun u116 H locs hw115 hP hD hS => ?_)
          obtain ⟨m117, m118, m119, m120, m121, m122, m123, m124, m125, m126, m127, m128, m129, m130, m131⟩ := u116
          have hP : va_P D vwCl [(qr 0, .inr (3, [.ref (qc 0), .ref (qr 1)])), (qr 1, .inl (k 0, 26, .inl m119)), (qc 0, .inr (1, [.ref (qt 0), .int m117, .int m118])), (qt 0, .inr (8, [.ref (qt 1), .int (st 0 1)])), (qt 1, .inl (k 2, 64, .inl (st 1))), (qh 0, .inr (2, [.int m30, .int m120, .ref (qh 1), .ref (qh 2), .ref (qh 3), .ref (qh 4), .int m125, .int m126, .int m127, .int m128, .int m129, .int m130, .int m131, .ref (qh 5)])), (qh 1, .inl (k 0, 5, .inl m121)), (qh 2, .inl (k 0, 5, .inl m122)), (qh 3, .inl (k 0, 3, .inl m123)), (qh 4, .inl (k 0, 3, .inl m124)), (qh 5, .inl (k 0, 525, .inl (sh 5)))] H := hP
          have hD : va_D A [(qr 0, .inr (3, [.ref (qc 0), .ref (qr 1)])), (qr 1, .inl (k 0, 26, .inl m119)), (qc 0, .inr (1, [.ref (qt 0), .int m117, .int m118])), (qt 0, .inr (8, [.ref (qt 1), .int (st 0 1)])), (qt 1, .inl (k 2, 64, .inl (st 1))), (qh 0, .inr (2, [.int m30, .int m120, .ref (qh 1), .ref (qh 2), .ref (qh 3), .ref (qh 4), .int m125, .int m126, .int m127, .int m128, .int m129, .int m130, .int m131, .ref (qh 5)])), (qh 1, .inl (k 0, 5, .inl m121)), (qh 2, .inl (k 0, 5, .inl m122)), (qh 3, .inl (k 0, 3, .inl m123)), (qh 4, .inl (k 0, 3, .inl m124)), (qh 5, .inl (k 0, 525, .inl (sh 5)))] := hD
          replace hw115 : (∀ j, 0 ≤ (m119 j).toInt ∧ (m119 j).toInt ≤ 31) ∧ (0 ≤ (m119 3).toInt ∧ (m119 3).toInt ≤ 7) ∧ (0 ≤ (m119 16).toInt ∧ (m119 16).toInt ≤ 7) ∧ (0 ≤ m120.toInt ∧ m120.toInt ≤ 4) ∧ (0 ≤ m131.toInt ∧ m131.toInt ≤ 5) ∧ (∀ j, 0 ≤ (m122 j).toInt ∧ (m122 j).toInt ≤ 4) ∧ (∀ j, 0 ≤ (m123 j).toInt ∧ (m123 j).toInt ≤ 5) := hw115
          obtain ⟨w132, w133, w134, w135, w136, w137, w138⟩ := hw115
          obtain ⟨v139, e139⟩ : ∃ z : Int32, z = v63 + 1 := ⟨_, rfl⟩
          refine lv_iinc (v := v139) (lv' := [(2, .int v139), (0, .ref (qr 0)), (1, .ref (qh 0))]) hx hb dX5_read_39 hl (k := 0) rfl (by rw [e139]; rfl) (by decide) rfl (fun ls hl => ?_)
          have t139 : v139.toInt = v63.toInt + 1 := by rw [e139]; exact i_add rfl (by decide) (by omega) (by omega)
          refine lv_goto (tgt := 18) hx hb dX5_read_42 (by decide) ?_
          exact ih18 v139 m119 m117 m118 m120 m125 m126 m127 m128 m129 m130 m131 m121 m122 m123 m124 _ _ _ (by omega) (by first | decide | omega) (by first | decide | omega) (by first | decide | omega) (by first | decide | omega) (by first | decide | omega) w132 w137 w138 hP hD hS (lv_sub hl [0, 1, 2] rfl)
  have hlit140 : (0 : Int32).toInt = 0 := by decide
  exact hL18 (Int.toNat (64 - 0) + 1) 0 m29 m27 m28 m8 m13 m14 m15 m16 m17 m18 m19 m9 m10 m11 m12 _ _ _ (by omega) (by first | decide | omega) (by first | decide | omega) (by first | decide | omega) (by first | decide | omega) (by first | decide | omega) w31 w23 w24 hP hD hS (lv_sub hl [0, 1, 2] rfl)
theorem fw_X8_readException_20 : Cond.fieldLink RX8 20 "StillInAugust$RuleReader" "cursor" "LStillInAugust$Cursor;" ∈ wsX8_readException := by decide +kernel
theorem fw_X8_readException_31 : Cond.fieldLink RX8 31 "StillInAugust$RuleReader" "untoldWeeks" "I" ∈ wsX8_readException := by decide +kernel
theorem fw_X8_readException_9 : Cond.fieldLink RX8 9 "StillInAugust$RuleReader" "exceptLevel" "[I" ∈ wsX8_readException := by decide +kernel
theorem iw_X8_readException_X8 : ∀ w ∈ u_ws RX8 TX8 4, w ∈ wsX8_readException := fun _ h => List.mem_cons_of_mem _ (List.mem_append_left _ (List.mem_append_left _ (List.mem_append_right _ h)))
set_option maxHeartbeats 4000000 in
set_option maxRecDepth 100000 in
theorem c_X8_readException (l : Launch) (D : va_G) (k : Nat → ClassId) (b : Nat → Nat) (qr : Nat → Nat) (sr : Nat → Nat → Int32) (qc : Nat → Nat) (sc : Nat → Nat → Int32) (qt : Nat → Nat) (st : Nat → Nat → Int32) (sz : Nat) (h_len : 0 ≤ (st 0 1).toInt ∧ (st 0 1).toInt ≤ 64) (u_w : 0 ≤ (sr 0 3).toInt ∧ (sr 0 3).toInt ≤ 31) : MetV l D k b yX8_readException wsX8_readException ({ frames := 3, cells := 0, slots := 0, locals := 63 } : Room) [(qr 0, .inr (6, [.ref (qc 0), .ref (qr 1), .int (sr 0 2), .int (sr 0 3)])), (qr 1, .inl (k 0, 5, .inl (sr 1))), (qc 0, .inr (1, [.ref (qt 0), .int (sc 0 1), .int (sc 0 2)])), (qt 0, .inr (8, [.ref (qt 1), .int (st 0 1)])), (qt 1, .inl (k 2, 64, .inl (st 1)))] sz [.ref (qr 0)] (fun (u : Int32 × Int32 × Int32 × (Nat → Int32)) => 0 ≤ (u.2.2.1).toInt ∧ (u.2.2.1).toInt ≤ 31) (fun u => [(qr 0, .inr (6, [.ref (qc 0), .ref (qr 1), .int (sr 0 2), .int (u.2.2.1)])), (qr 1, .inl (k 0, 5, .inl (u.2.2.2))), (qc 0, .inr (1, [.ref (qt 0), .int (u.1), .int (u.2.1)])), (qt 0, .inr (8, [.ref (qt 1), .int (st 0 1)])), (qt 1, .inl (k 2, 64, .inl (st 1)))]) := by
  refine g_enter (cc := cX8_readException) (maxL := 3) (ret := none) (by decide) rfl (Nat.le_of_ble_eq_true rfl) ?_
  intro p e s m below meth c A hsz hAe cx hr hP hD hS ls hl
  rw [hAe]
  refine g_q (fun Q hQ => ?_)
  have hx := cx.1.1
  have hb := cx.1.2.1
  have hl : lv_has ls 3 [(0, .ref (qr 0))] := hl
  obtain ⟨H, eH⟩ : ∃ H : Heap, H = s.heap := ⟨_, rfl⟩
  obtain ⟨locs, el⟩ : ∃ L : List Loc, L = [] := ⟨_, rfl⟩
  have hP : va_P D vwCl [(qr 0, .inr (6, [.ref (qc 0), .ref (qr 1), .int (sr 0 2), .int (sr 0 3)])), (qr 1, .inl (k 0, 5, .inl (sr 1))), (qc 0, .inr (1, [.ref (qt 0), .int (sc 0 1), .int (sc 0 2)])), (qt 0, .inr (8, [.ref (qt 1), .int (st 0 1)])), (qt 1, .inl (k 2, 64, .inl (st 1)))] H := by rw [eH]; exact hP
  have hD : va_D A [(qr 0, .inr (6, [.ref (qc 0), .ref (qr 1), .int (sr 0 2), .int (sr 0 3)])), (qr 1, .inl (k 0, 5, .inl (sr 1))), (qc 0, .inr (1, [.ref (qt 0), .int (sc 0 1), .int (sc 0 2)])), (qt 0, .inr (8, [.ref (qt 1), .int (st 0 1)])), (qt 1, .inl (k 2, 64, .inl (st 1)))] := hD
  have hS : va_S A s.heap H locs := by rw [eH, el]; exact hS
  suffices goal : W p l e ({ frames := 3, cells := 0, slots := 0, locals := 63 } : Room) s m ([.ref (qr 0)] : List Value).toArray below meth c H locs 0 0 Q (F0 m 0 ls []) by rw [eH, el] at goal; exact goal
  refine lv_aload_n hx hb dX8_readException_0 rfl (lv_at hl 0 rfl) ?_
  refine g_get cx hP iw_X8_readException_X8 0 rfl rfl 0 (by decide) rfl fw_X8_readException_20 rfl dX8_readException_1 ?_
  refine lv_aload_n hx hb dX8_readException_4 rfl (lv_at hl 0 rfl) ?_
  refine g_get cx hP iw_X8_readException_X8 0 rfl rfl 3 (by decide) rfl fw_X8_readException_31 rfl dX8_readException_5 ?_
  refine g_i (w1 := fun (u : Int32 × Int32) => [(qc 0, .inr (1, [.ref (qt 0), .int (u.1), .int (u.2)])), (qt 0, .inr (8, [.ref (qt 1), .int (st 0 1)])), (qt 1, .inl (k 2, 64, .inl (st 1)))]) (g_runV (wc := [(qc 0, .inr (1, [.ref (qt 0), .int (sc 0 1), .int (sc 0 2)])), (qt 0, .inr (8, [.ref (qt 1), .int (st 0 1)])), (qt 1, .inl (k 2, 64, .inl (st 1)))]) (rest := []) cx hP hD hS [2, 3, 4] rfl (by decide) [.int (sr 0 3)] (c_X2_figure l D k b qc sc qt st H.size (sr 0 3) (show 0 ≤ (st 0 1).toInt ∧ (st 0 1).toInt ≤ 64 from by first | decide | omega)) gX8_readException_X2_figure rfl rfl rfl nd_X2_figure ⟨Nat.le_of_ble_eq_true rfl, Nat.le_of_ble_eq_true rfl⟩ (ci := 1) (q0 := 0) rfl rfl rfl hl.1 rfl (Nat.le_of_ble_eq_true rfl) ⟨Nat.zero_le _, Nat.zero_le _⟩ dX8_readException_8) cx.2.2.1 hP hD hS [2, 3, 4] rfl (fun _ => rfl) (fun r3 u2 H locs hw1 hP hD hS => ?_)
  obtain ⟨m4, m5⟩ := u2
  have hP : va_P D vwCl [(qr 0, .inr (6, [.ref (qc 0), .ref (qr 1), .int (sr 0 2), .int (sr 0 3)])), (qr 1, .inl (k 0, 5, .inl (sr 1))), (qc 0, .inr (1, [.ref (qt 0), .int m4, .int m5])), (qt 0, .inr (8, [.ref (qt 1), .int (st 0 1)])), (qt 1, .inl (k 2, 64, .inl (st 1)))] H := hP
  have hD : va_D A [(qr 0, .inr (6, [.ref (qc 0), .ref (qr 1), .int (sr 0 2), .int (sr 0 3)])), (qr 1, .inl (k 0, 5, .inl (sr 1))), (qc 0, .inr (1, [.ref (qt 0), .int m4, .int m5])), (qt 0, .inr (8, [.ref (qt 1), .int (st 0 1)])), (qt 1, .inl (k 2, 64, .inl (st 1)))] := hD
  replace hw1 : (r3.toInt = -9 ∨ (0 ≤ r3.toInt ∧ r3.toInt ≤ 9)) ∧ (Imp (0 ≤ (sr 0 3).toInt ∧ (sr 0 3).toInt ≤ 63) (r3.toInt ≤ 5)) ∧ (Imp (0 ≤ (sr 0 3).toInt ∧ (sr 0 3).toInt ≤ 31) (r3.toInt ≤ 4)) ∧ (Imp (0 ≤ (sr 0 3).toInt ∧ (sr 0 3).toInt ≤ 7) (r3.toInt ≤ 2)) := hw1
  obtain ⟨w6, w7, w8, w9⟩ := hw1
  have xr3 : r3.toInt ≤ 4 := w8 ⟨by omega, by omega⟩
  refine lv_istore_n (lv' := [(1, .int r3), (0, .ref (qr 0))]) hx hb dX8_readException_11 rfl hl (by decide) rfl (fun ls hl => ?_)
  refine lv_iload_n hx hb dX8_readException_12 rfl (lv_at hl 0 rfl) ?_
  refine lv_bipush (v := (-9)) hx hb dX8_readException_13 (by decide) ?_
  refine lv_icmp_ne (tgt := 19) hx hb dX8_readException_15 (by decide) (fun c10 => ?_) (fun c10 => ?_)
  · have f10 : ¬ r3.toInt = (-9) := f_ne rfl (by decide) c10
    refine lv_aload_n hx hb dX8_readException_19 rfl (lv_at hl 1 rfl) ?_
    refine g_get cx hP iw_X8_readException_X8 0 rfl rfl 0 (by decide) rfl fw_X8_readException_20 rfl dX8_readException_20 ?_
    refine lv_iconst (v := 0) hx hb dX8_readException_23 (by decide) ?_
    refine lv_iconst (v := 4) hx hb dX8_readException_24 (by decide) ?_
    have hlit11 : (0 : Int32).toInt = 0 := by decide
    have hlit12 : (4 : Int32).toInt = 4 := by decide
    refine g_ir (g_runS (wc := []) (rest := [.ref (qc 0)]) cx hP hD hS [] rfl (by decide) [.int 0, .int 4] (c_X2_figures l D k b H.size 0 4) gX8_readException_X2_figures rfl rfl rfl nd_X2_figures ⟨Nat.le_of_ble_eq_true rfl, Nat.le_of_ble_eq_true rfl⟩ rfl hl.1 rfl (Nat.le_of_ble_eq_true rfl) ⟨Nat.zero_le _, Nat.zero_le _⟩ dX8_readException_25) cx.2.2.1 hP hD hS [] rfl rfl (fun r14 H locs hw13 hP hS => ?_)
    have w15 : r14 = J_X2_figures (0 : Int32) (4 : Int32) := hw13
    clear hw13
    have zr14 : r14.toInt = 31 := by rw [w15]; decide
    refine g_i (w1 := fun (u : Int32 × Int32) => [(qc 0, .inr (1, [.ref (qt 0), .int (u.1), .int (u.2)])), (qt 0, .inr (8, [.ref (qt 1), .int (st 0 1)])), (qt 1, .inl (k 2, 64, .inl (st 1)))]) (g_runV (wc := [(qc 0, .inr (1, [.ref (qt 0), .int m4, .int m5])), (qt 0, .inr (8, [.ref (qt 1), .int (st 0 1)])), (qt 1, .inl (k 2, 64, .inl (st 1)))]) (rest := []) cx hP hD hS [2, 3, 4] rfl (by decide) [.int r14] (c_X2_figure l D k b qc (up2 sc 0 (upd (upd (sc 0) 1 m4) 2 m5)) qt st H.size r14 (show 0 ≤ (st 0 1).toInt ∧ (st 0 1).toInt ≤ 64 from by first | decide | omega)) gX8_readException_X2_figure rfl rfl rfl nd_X2_figure ⟨Nat.le_of_ble_eq_true rfl, Nat.le_of_ble_eq_true rfl⟩ (ci := 1) (q0 := 0) rfl rfl rfl hl.1 rfl (Nat.le_of_ble_eq_true rfl) ⟨Nat.zero_le _, Nat.zero_le _⟩ dX8_readException_28) cx.2.2.1 hP hD hS [2, 3, 4] rfl (fun _ => rfl) (fun r18 u17 H locs hw16 hP hD hS => ?_)
    obtain ⟨m19, m20⟩ := u17
    have hP : va_P D vwCl [(qr 0, .inr (6, [.ref (qc 0), .ref (qr 1), .int (sr 0 2), .int (sr 0 3)])), (qr 1, .inl (k 0, 5, .inl (sr 1))), (qc 0, .inr (1, [.ref (qt 0), .int m19, .int m20])), (qt 0, .inr (8, [.ref (qt 1), .int (st 0 1)])), (qt 1, .inl (k 2, 64, .inl (st 1)))] H := hP
    have hD : va_D A [(qr 0, .inr (6, [.ref (qc 0), .ref (qr 1), .int (sr 0 2), .int (sr 0 3)])), (qr 1, .inl (k 0, 5, .inl (sr 1))), (qc 0, .inr (1, [.ref (qt 0), .int m19, .int m20])), (qt 0, .inr (8, [.ref (qt 1), .int (st 0 1)])), (qt 1, .inl (k 2, 64, .inl (st 1)))] := hD
    replace hw16 : (r18.toInt = -9 ∨ (0 ≤ r18.toInt ∧ r18.toInt ≤ 9)) ∧ (Imp (0 ≤ r14.toInt ∧ r14.toInt ≤ 63) (r18.toInt ≤ 5)) ∧ (Imp (0 ≤ r14.toInt ∧ r14.toInt ≤ 31) (r18.toInt ≤ 4)) ∧ (Imp (0 ≤ r14.toInt ∧ r14.toInt ≤ 7) (r18.toInt ≤ 2)) := hw16
    obtain ⟨w21, w22, w23, w24⟩ := hw16
    have xr18 : r18.toInt ≤ 4 := w23 ⟨by omega, by omega⟩
    refine lv_istore_n (lv' := [(2, .int r18), (1, .int r3), (0, .ref (qr 0))]) hx hb dX8_readException_31 rfl hl (by decide) rfl (fun ls hl => ?_)
    refine lv_iload_n hx hb dX8_readException_32 rfl (lv_at hl 0 rfl) ?_
    refine lv_bipush (v := (-9)) hx hb dX8_readException_33 (by decide) ?_
    refine lv_icmp_ne (tgt := 39) hx hb dX8_readException_35 (by decide) (fun c25 => ?_) (fun c25 => ?_)
    · have f25 : ¬ r18.toInt = (-9) := f_ne rfl (by decide) c25
      refine lv_aload_n hx hb dX8_readException_39 rfl (lv_at hl 2 rfl) ?_
      refine lv_dup hx hb dX8_readException_40 rfl ?_
      refine g_get cx hP iw_X8_readException_X8 0 rfl rfl 3 (by decide) rfl fw_X8_readException_31 rfl dX8_readException_41 ?_
      refine lv_iconst (v := 1) hx hb dX8_readException_44 (by decide) ?_
      refine lv_iload_n hx hb dX8_readException_45 rfl (lv_at hl 1 rfl) ?_
      refine lv_ishl hx hb dX8_readException_46 (lv_topi (fun v26 e26 => ?_))
      refine lv_iconst (v := (-1)) hx hb dX8_readException_47 (by decide) ?_
      refine lv_ixor hx hb dX8_readException_48 (lv_topi (fun v27 e27 => ?_))
      refine lv_iand hx hb dX8_readException_49 (lv_topi (fun v28 e28 => ?_))
      have t28 : 0 ≤ v28.toInt ∧ v28.toInt ≤ (sr 0 3).toInt := by rw [e28]; exact and_l rfl (by omega)
      refine g_pt cx hP hD hS iw_X8_readException_X8 tyX8 tyX8_ok nmX8 0 rfl rfl 3 (by decide) rfl fw_X8_readException_31 (ty := .int) rfl rfl rfl (Nat.le_of_ble_eq_true rfl) dX8_readException_50 (fun H locs hP hD hS => ?_)
      have hP : va_P D vwCl [(qr 0, .inr (6, [.ref (qc 0), .ref (qr 1), .int (sr 0 2), .int v28])), (qr 1, .inl (k 0, 5, .inl (sr 1))), (qc 0, .inr (1, [.ref (qt 0), .int m19, .int m20])), (qt 0, .inr (8, [.ref (qt 1), .int (st 0 1)])), (qt 1, .inl (k 2, 64, .inl (st 1)))] H := hP
      have hD : va_D A [(qr 0, .inr (6, [.ref (qc 0), .ref (qr 1), .int (sr 0 2), .int v28])), (qr 1, .inl (k 0, 5, .inl (sr 1))), (qc 0, .inr (1, [.ref (qt 0), .int m19, .int m20])), (qt 0, .inr (8, [.ref (qt 1), .int (st 0 1)])), (qt 1, .inl (k 2, 64, .inl (st 1)))] := hD
      refine lv_aload_n hx hb dX8_readException_53 rfl (lv_at hl 2 rfl) ?_
      refine g_get cx hP iw_X8_readException_X8 0 rfl rfl 1 (by decide) rfl fw_X8_readException_9 rfl dX8_readException_54 ?_
      refine lv_iload_n hx hb dX8_readException_57 rfl (lv_at hl 1 rfl) ?_
      refine lv_iload_n hx hb dX8_readException_58 rfl (lv_at hl 0 rfl) ?_
      have hn29 : vp_in r3 5 := f_in (a := r3.toInt) rfl (by omega) (by omega)
      refine va_iast hx hb cx.2.1 hP hD hS 1 0 rfl rfl hn29 dX8_readException_59 (fun H locs hP hD hS => ?_)
      obtain ⟨g30, eg30⟩ : ∃ g : Nat → Int32, g = upd (sr 1) (r3).toNatClampNeg r18 := ⟨_, rfl⟩
      rw [← eg30] at hP hD
      have hP : va_P D vwCl [(qr 0, .inr (6, [.ref (qc 0), .ref (qr 1), .int (sr 0 2), .int v28])), (qr 1, .inl (k 0, 5, .inl g30)), (qc 0, .inr (1, [.ref (qt 0), .int m19, .int m20])), (qt 0, .inr (8, [.ref (qt 1), .int (st 0 1)])), (qt 1, .inl (k 2, 64, .inl (st 1)))] H := hP
      have hD : va_D A [(qr 0, .inr (6, [.ref (qc 0), .ref (qr 1), .int (sr 0 2), .int v28])), (qr 1, .inl (k 0, 5, .inl g30)), (qc 0, .inr (1, [.ref (qt 0), .int m19, .int m20])), (qt 0, .inr (8, [.ref (qt 1), .int (st 0 1)])), (qt 1, .inl (k 2, 64, .inl (st 1)))] := hD
      rw [hQ]
      exact x_v cx hr (m19, m20, v28, g30) hP hD hS (show 0 ≤ v28.toInt ∧ v28.toInt ≤ 31 from by omega) dX8_readException_60
    · have f25 : r18.toInt = (-9) := f_eq rfl (by decide) c25
      rw [hQ]
      exact x_v cx hr (m19, m20, (sr 0 3), (sr 1)) hP hD hS (show 0 ≤ (sr 0 3).toInt ∧ (sr 0 3).toInt ≤ 31 from by omega) dX8_readException_38
  · have f10 : r3.toInt = (-9) := f_eq rfl (by decide) c10
    rw [hQ]
    exact x_v cx hr (m4, m5, (sr 0 3), (sr 1)) hP hD hS (show 0 ≤ (sr 0 3).toInt ∧ (sr 0 3).toInt ≤ 31 from by omega) dX8_readException_18
theorem fw_X8_readEnd_20 : Cond.fieldLink RX8 20 "StillInAugust$RuleReader" "cursor" "LStillInAugust$Cursor;" ∈ wsX8_readEnd := by decide +kernel
theorem fw_X8_readEnd_62 : Cond.fieldLink RX8 62 "StillInAugust$RuleReader" "otherLevel" "I" ∈ wsX8_readEnd := by decide +kernel
theorem iw_X8_readEnd_X8 : ∀ w ∈ u_ws RX8 TX8 4, w ∈ wsX8_readEnd := fun _ h => List.mem_cons_of_mem _ (List.mem_append_left _ (List.mem_append_left _ (List.mem_append_right _ h)))
set_option maxHeartbeats 4000000 in
set_option maxRecDepth 100000 in
theorem c_X8_readEnd (l : Launch) (D : va_G) (k : Nat → ClassId) (b : Nat → Nat) (qr : Nat → Nat) (sr : Nat → Nat → Int32) (qc : Nat → Nat) (sc : Nat → Nat → Int32) (qt : Nat → Nat) (st : Nat → Nat → Int32) (sz : Nat) (h_len : 0 ≤ (st 0 1).toInt ∧ (st 0 1).toInt ≤ 64) : MetV l D k b yX8_readEnd wsX8_readEnd ({ frames := 3, cells := 0, slots := 0, locals := 63 } : Room) [(qr 0, .inr (6, [.ref (qc 0), .ref (qr 1), .int (sr 0 2), .int (sr 0 3)])), (qr 1, .inl (k 0, 5, .inl (sr 1))), (qc 0, .inr (1, [.ref (qt 0), .int (sc 0 1), .int (sc 0 2)])), (qt 0, .inr (8, [.ref (qt 1), .int (st 0 1)])), (qt 1, .inl (k 2, 64, .inl (st 1)))] sz [.ref (qr 0)] (fun (u : Int32 × Int32 × Int32) => True) (fun u => [(qr 0, .inr (6, [.ref (qc 0), .ref (qr 1), .int (u.2.2), .int (sr 0 3)])), (qr 1, .inl (k 0, 5, .inl (sr 1))), (qc 0, .inr (1, [.ref (qt 0), .int (u.1), .int (u.2.1)])), (qt 0, .inr (8, [.ref (qt 1), .int (st 0 1)])), (qt 1, .inl (k 2, 64, .inl (st 1)))]) := by
  refine g_enter (cc := cX8_readEnd) (maxL := 2) (ret := none) (by decide) rfl (Nat.le_of_ble_eq_true rfl) ?_
  intro p e s m below meth c A hsz hAe cx hr hP hD hS ls hl
  rw [hAe]
  refine g_q (fun Q hQ => ?_)
  have hx := cx.1.1
  have hb := cx.1.2.1
  have hl : lv_has ls 2 [(0, .ref (qr 0))] := hl
  obtain ⟨H, eH⟩ : ∃ H : Heap, H = s.heap := ⟨_, rfl⟩
  obtain ⟨locs, el⟩ : ∃ L : List Loc, L = [] := ⟨_, rfl⟩
  have hP : va_P D vwCl [(qr 0, .inr (6, [.ref (qc 0), .ref (qr 1), .int (sr 0 2), .int (sr 0 3)])), (qr 1, .inl (k 0, 5, .inl (sr 1))), (qc 0, .inr (1, [.ref (qt 0), .int (sc 0 1), .int (sc 0 2)])), (qt 0, .inr (8, [.ref (qt 1), .int (st 0 1)])), (qt 1, .inl (k 2, 64, .inl (st 1)))] H := by rw [eH]; exact hP
  have hD : va_D A [(qr 0, .inr (6, [.ref (qc 0), .ref (qr 1), .int (sr 0 2), .int (sr 0 3)])), (qr 1, .inl (k 0, 5, .inl (sr 1))), (qc 0, .inr (1, [.ref (qt 0), .int (sc 0 1), .int (sc 0 2)])), (qt 0, .inr (8, [.ref (qt 1), .int (st 0 1)])), (qt 1, .inl (k 2, 64, .inl (st 1)))] := hD
  have hS : va_S A s.heap H locs := by rw [eH, el]; exact hS
  suffices goal : W p l e ({ frames := 3, cells := 0, slots := 0, locals := 63 } : Room) s m ([.ref (qr 0)] : List Value).toArray below meth c H locs 0 0 Q (F0 m 0 ls []) by rw [eH, el] at goal; exact goal
  refine lv_aload_n hx hb dX8_readEnd_0 rfl (lv_at hl 0 rfl) ?_
  refine g_get cx hP iw_X8_readEnd_X8 0 rfl rfl 0 (by decide) rfl fw_X8_readEnd_20 rfl dX8_readEnd_1 ?_
  refine g_ir (g_runV (wc := [(qc 0, .inr (1, [.ref (qt 0), .int (sc 0 1), .int (sc 0 2)])), (qt 0, .inr (8, [.ref (qt 1), .int (st 0 1)])), (qt 1, .inl (k 2, 64, .inl (st 1)))]) (rest := []) cx hP hD hS [2, 3, 4] rfl (by decide) [] (c_X2_stoppedAt l D k b qc sc qt st H.size) gX8_readEnd_X2_stoppedAt rfl rfl rfl nd_X2_stoppedAt ⟨Nat.le_of_ble_eq_true rfl, Nat.le_of_ble_eq_true rfl⟩ (ci := 1) (q0 := 0) rfl rfl rfl hl.1 rfl (Nat.le_of_ble_eq_true rfl) ⟨Nat.zero_le _, Nat.zero_le _⟩ dX8_readEnd_4) cx.2.2.1 hP hD hS [2, 3, 4] rfl rfl (fun r2 H locs hw1 hP hS => ?_)
  clear hw1
  refine lv_bipush (v := (-9)) hx hb dX8_readEnd_7 (by decide) ?_
  refine lv_icmp_eq (tgt := 13) hx hb dX8_readEnd_9 (by decide) (fun c3 => ?_) (fun c3 => ?_)
  · have f3 : r2.toInt = (-9) := f_eq rfl (by decide) c3
    refine lv_aload_n hx hb dX8_readEnd_13 rfl (lv_at hl 0 rfl) ?_
    refine g_get cx hP iw_X8_readEnd_X8 0 rfl rfl 0 (by decide) rfl fw_X8_readEnd_20 rfl dX8_readEnd_14 ?_
    refine g_ir (g_runV (wc := [(qc 0, .inr (1, [.ref (qt 0), .int (sc 0 1), .int (sc 0 2)])), (qt 0, .inr (8, [.ref (qt 1), .int (st 0 1)])), (qt 1, .inl (k 2, 64, .inl (st 1)))]) (rest := []) cx hP hD hS [2, 3, 4] rfl (by decide) [] (c_X2_here l D k b qc sc qt st H.size (show 0 ≤ (st 0 1).toInt ∧ (st 0 1).toInt ≤ 64 from by first | decide | omega)) gX8_readEnd_X2_here rfl rfl rfl nd_X2_here ⟨Nat.le_of_ble_eq_true rfl, Nat.le_of_ble_eq_true rfl⟩ (ci := 1) (q0 := 0) rfl rfl rfl hl.1 rfl (Nat.le_of_ble_eq_true rfl) ⟨Nat.zero_le _, Nat.zero_le _⟩ dX8_readEnd_17) cx.2.2.1 hP hD hS [2, 3, 4] rfl rfl (fun r5 H locs hw4 hP hS => ?_)
    have w6 : -9 ≤ r5.toInt ∧ r5.toInt ≤ 255 := hw4
    clear hw4
    refine lv_bipush (v := 76) hx hb dX8_readEnd_20 (by decide) ?_
    refine lv_icmp_eq (tgt := 33) hx hb dX8_readEnd_22 (by decide) (fun c7 => ?_) (fun c7 => ?_)
    · have f7 : r5.toInt = 76 := f_eq rfl (by decide) c7
      refine lv_aload_n hx hb dX8_readEnd_33 rfl (lv_at hl 0 rfl) ?_
      refine g_get cx hP iw_X8_readEnd_X8 0 rfl rfl 0 (by decide) rfl fw_X8_readEnd_20 rfl dX8_readEnd_34 ?_
      refine g_v (w1 := fun (u : Int32) => [(qc 0, .inr (1, [.ref (qt 0), .int u, .int (sc 0 2)])), (qt 0, .inr (8, [.ref (qt 1), .int (st 0 1)])), (qt 1, .inl (k 2, 64, .inl (st 1)))]) (g_runV (wc := [(qc 0, .inr (1, [.ref (qt 0), .int (sc 0 1), .int (sc 0 2)])), (qt 0, .inr (8, [.ref (qt 1), .int (st 0 1)])), (qt 1, .inl (k 2, 64, .inl (st 1)))]) (rest := []) cx hP hD hS [2, 3, 4] rfl (by decide) [] (c_X2_step l D k b qc sc qt st H.size) gX8_readEnd_X2_step rfl rfl rfl nd_X2_step ⟨Nat.le_of_ble_eq_true rfl, Nat.le_of_ble_eq_true rfl⟩ (ci := 1) (q0 := 0) rfl rfl rfl hl.1 rfl (Nat.le_of_ble_eq_true rfl) ⟨Nat.zero_le _, Nat.zero_le _⟩ dX8_readEnd_37) cx.2.2.1 hP hD hS [2, 3, 4] rfl (fun _ => rfl) (fun u9 H locs hw8 hP hD hS => ?_)
      obtain ⟨m10, rfl⟩ : ∃ z, z = u9 := ⟨_, rfl⟩
      have hP : va_P D vwCl [(qr 0, .inr (6, [.ref (qc 0), .ref (qr 1), .int (sr 0 2), .int (sr 0 3)])), (qr 1, .inl (k 0, 5, .inl (sr 1))), (qc 0, .inr (1, [.ref (qt 0), .int m10, .int (sc 0 2)])), (qt 0, .inr (8, [.ref (qt 1), .int (st 0 1)])), (qt 1, .inl (k 2, 64, .inl (st 1)))] H := hP
      have hD : va_D A [(qr 0, .inr (6, [.ref (qc 0), .ref (qr 1), .int (sr 0 2), .int (sr 0 3)])), (qr 1, .inl (k 0, 5, .inl (sr 1))), (qc 0, .inr (1, [.ref (qt 0), .int m10, .int (sc 0 2)])), (qt 0, .inr (8, [.ref (qt 1), .int (st 0 1)])), (qt 1, .inl (k 2, 64, .inl (st 1)))] := hD
      clear hw8
      refine lv_aload_n hx hb dX8_readEnd_40 rfl (lv_at hl 0 rfl) ?_
      refine g_get cx hP iw_X8_readEnd_X8 0 rfl rfl 0 (by decide) rfl fw_X8_readEnd_20 rfl dX8_readEnd_41 ?_
      refine lv_iconst (v := 0) hx hb dX8_readEnd_44 (by decide) ?_
      refine lv_iconst (v := 4) hx hb dX8_readEnd_45 (by decide) ?_
      have hlit11 : (0 : Int32).toInt = 0 := by decide
      have hlit12 : (4 : Int32).toInt = 4 := by decide
      refine g_ir (g_runS (wc := []) (rest := [.ref (qc 0)]) cx hP hD hS [] rfl (by decide) [.int 0, .int 4] (c_X2_figures l D k b H.size 0 4) gX8_readEnd_X2_figures rfl rfl rfl nd_X2_figures ⟨Nat.le_of_ble_eq_true rfl, Nat.le_of_ble_eq_true rfl⟩ rfl hl.1 rfl (Nat.le_of_ble_eq_true rfl) ⟨Nat.zero_le _, Nat.zero_le _⟩ dX8_readEnd_46) cx.2.2.1 hP hD hS [] rfl rfl (fun r14 H locs hw13 hP hS => ?_)
      have w15 : r14 = J_X2_figures (0 : Int32) (4 : Int32) := hw13
      clear hw13
      have zr14 : r14.toInt = 31 := by rw [w15]; decide
      refine g_i (w1 := fun (u : Int32 × Int32) => [(qc 0, .inr (1, [.ref (qt 0), .int (u.1), .int (u.2)])), (qt 0, .inr (8, [.ref (qt 1), .int (st 0 1)])), (qt 1, .inl (k 2, 64, .inl (st 1)))]) (g_runV (wc := [(qc 0, .inr (1, [.ref (qt 0), .int m10, .int (sc 0 2)])), (qt 0, .inr (8, [.ref (qt 1), .int (st 0 1)])), (qt 1, .inl (k 2, 64, .inl (st 1)))]) (rest := []) cx hP hD hS [2, 3, 4] rfl (by decide) [.int r14] (c_X2_figure l D k b qc (up2 sc 0 (upd (sc 0) 1 m10)) qt st H.size r14 (show 0 ≤ (st 0 1).toInt ∧ (st 0 1).toInt ≤ 64 from by first | decide | omega)) gX8_readEnd_X2_figure rfl rfl rfl nd_X2_figure ⟨Nat.le_of_ble_eq_true rfl, Nat.le_of_ble_eq_true rfl⟩ (ci := 1) (q0 := 0) rfl rfl rfl hl.1 rfl (Nat.le_of_ble_eq_true rfl) ⟨Nat.zero_le _, Nat.zero_le _⟩ dX8_readEnd_49) cx.2.2.1 hP hD hS [2, 3, 4] rfl (fun _ => rfl) (fun r18 u17 H locs hw16 hP hD hS => ?_)
      obtain ⟨m19, m20⟩ := u17
      have hP : va_P D vwCl [(qr 0, .inr (6, [.ref (qc 0), .ref (qr 1), .int (sr 0 2), .int (sr 0 3)])), (qr 1, .inl (k 0, 5, .inl (sr 1))), (qc 0, .inr (1, [.ref (qt 0), .int m19, .int m20])), (qt 0, .inr (8, [.ref (qt 1), .int (st 0 1)])), (qt 1, .inl (k 2, 64, .inl (st 1)))] H := hP
      have hD : va_D A [(qr 0, .inr (6, [.ref (qc 0), .ref (qr 1), .int (sr 0 2), .int (sr 0 3)])), (qr 1, .inl (k 0, 5, .inl (sr 1))), (qc 0, .inr (1, [.ref (qt 0), .int m19, .int m20])), (qt 0, .inr (8, [.ref (qt 1), .int (st 0 1)])), (qt 1, .inl (k 2, 64, .inl (st 1)))] := hD
      replace hw16 : (r18.toInt = -9 ∨ (0 ≤ r18.toInt ∧ r18.toInt ≤ 9)) ∧ (Imp (0 ≤ r14.toInt ∧ r14.toInt ≤ 63) (r18.toInt ≤ 5)) ∧ (Imp (0 ≤ r14.toInt ∧ r14.toInt ≤ 31) (r18.toInt ≤ 4)) ∧ (Imp (0 ≤ r14.toInt ∧ r14.toInt ≤ 7) (r18.toInt ≤ 2)) := hw16
      obtain ⟨w21, w22, w23, w24⟩ := hw16
      have xr18 : r18.toInt ≤ 4 := w23 ⟨by omega, by omega⟩
      refine lv_istore_n (lv' := [(1, .int r18), (0, .ref (qr 0))]) hx hb dX8_readEnd_52 rfl hl (by decide) rfl (fun ls hl => ?_)
      refine lv_iload_n hx hb dX8_readEnd_53 rfl (lv_at hl 0 rfl) ?_
      refine lv_bipush (v := (-9)) hx hb dX8_readEnd_54 (by decide) ?_
      refine lv_icmp_ne (tgt := 60) hx hb dX8_readEnd_56 (by decide) (fun c25 => ?_) (fun c25 => ?_)
      · have f25 : ¬ r18.toInt = (-9) := f_ne rfl (by decide) c25
        refine lv_aload_n hx hb dX8_readEnd_60 rfl (lv_at hl 1 rfl) ?_
        refine lv_iload_n hx hb dX8_readEnd_61 rfl (lv_at hl 0 rfl) ?_
        refine g_pt cx hP hD hS iw_X8_readEnd_X8 tyX8 tyX8_ok nmX8 0 rfl rfl 2 (by decide) rfl fw_X8_readEnd_62 (ty := .int) rfl rfl rfl (Nat.le_of_ble_eq_true rfl) dX8_readEnd_62 (fun H locs hP hD hS => ?_)
        have hP : va_P D vwCl [(qr 0, .inr (6, [.ref (qc 0), .ref (qr 1), .int r18, .int (sr 0 3)])), (qr 1, .inl (k 0, 5, .inl (sr 1))), (qc 0, .inr (1, [.ref (qt 0), .int m19, .int m20])), (qt 0, .inr (8, [.ref (qt 1), .int (st 0 1)])), (qt 1, .inl (k 2, 64, .inl (st 1)))] H := hP
        have hD : va_D A [(qr 0, .inr (6, [.ref (qc 0), .ref (qr 1), .int r18, .int (sr 0 3)])), (qr 1, .inl (k 0, 5, .inl (sr 1))), (qc 0, .inr (1, [.ref (qt 0), .int m19, .int m20])), (qt 0, .inr (8, [.ref (qt 1), .int (st 0 1)])), (qt 1, .inl (k 2, 64, .inl (st 1)))] := hD
        refine lv_aload_n hx hb dX8_readEnd_65 rfl (lv_at hl 1 rfl) ?_
        refine g_get cx hP iw_X8_readEnd_X8 0 rfl rfl 0 (by decide) rfl fw_X8_readEnd_20 rfl dX8_readEnd_66 ?_
        refine g_ir (g_runV (wc := [(qc 0, .inr (1, [.ref (qt 0), .int m19, .int m20])), (qt 0, .inr (8, [.ref (qt 1), .int (st 0 1)])), (qt 1, .inl (k 2, 64, .inl (st 1)))]) (rest := []) cx hP hD hS [2, 3, 4] rfl (by decide) [] (c_X2_hasMore l D k b qc (up2 sc 0 (upd (upd (sc 0) 1 m19) 2 m20)) qt st H.size) gX8_readEnd_X2_hasMore rfl rfl rfl nd_X2_hasMore ⟨Nat.le_of_ble_eq_true rfl, Nat.le_of_ble_eq_true rfl⟩ (ci := 1) (q0 := 0) rfl rfl rfl hl.1 rfl (Nat.le_of_ble_eq_true rfl) ⟨Nat.zero_le _, Nat.zero_le _⟩ dX8_readEnd_69) cx.2.2.1 hP hD hS [2, 3, 4] rfl rfl (fun r27 H locs hw26 hP hS => ?_)
        have w28 : 0 ≤ r27.toInt ∧ r27.toInt ≤ 1 := hw26
        clear hw26
        refine lv_if_eq (tgt := 82) hx hb dX8_readEnd_72 (by decide) (fun c29 => ?_) (fun c29 => ?_)
        · have f29 : r27.toInt = 0 := f_eq rfl (by decide) c29
          rw [hQ]
          exact x_v cx hr (m19, m20, r18) hP hD hS trivial dX8_readEnd_82
        · have f29 : ¬ r27.toInt = 0 := f_ne rfl (by decide) c29
          refine lv_aload_n hx hb dX8_readEnd_75 rfl (lv_at hl 1 rfl) ?_
          refine g_get cx hP iw_X8_readEnd_X8 0 rfl rfl 0 (by decide) rfl fw_X8_readEnd_20 rfl dX8_readEnd_76 ?_
          refine g_v (w1 := fun (u : Int32) => [(qc 0, .inr (1, [.ref (qt 0), .int m19, .int u])), (qt 0, .inr (8, [.ref (qt 1), .int (st 0 1)])), (qt 1, .inl (k 2, 64, .inl (st 1)))]) (g_runV (wc := [(qc 0, .inr (1, [.ref (qt 0), .int m19, .int m20])), (qt 0, .inr (8, [.ref (qt 1), .int (st 0 1)])), (qt 1, .inl (k 2, 64, .inl (st 1)))]) (rest := []) cx hP hD hS [2, 3, 4] rfl (by decide) [] (c_X2_stop l D k b qc (up2 sc 0 (upd (upd (sc 0) 1 m19) 2 m20)) qt st H.size) gX8_readEnd_X2_stop rfl rfl rfl nd_X2_stop ⟨Nat.le_of_ble_eq_true rfl, Nat.le_of_ble_eq_true rfl⟩ (ci := 1) (q0 := 0) rfl rfl rfl hl.1 rfl (Nat.le_of_ble_eq_true rfl) ⟨Nat.zero_le _, Nat.zero_le _⟩ dX8_readEnd_79) cx.2.2.1 hP hD hS [2, 3, 4] rfl (fun _ => rfl) (fun u31 H locs hw30 hP hD hS => ?_)
          obtain ⟨m32, rfl⟩ : ∃ z, z = u31 := ⟨_, rfl⟩
          have hP : va_P D vwCl [(qr 0, .inr (6, [.ref (qc 0), .ref (qr 1), .int r18, .int (sr 0 3)])), (qr 1, .inl (k 0, 5, .inl (sr 1))), (qc 0, .inr (1, [.ref (qt 0), .int m19, .int m32])), (qt 0, .inr (8, [.ref (qt 1), .int (st 0 1)])), (qt 1, .inl (k 2, 64, .inl (st 1)))] H := hP
          have hD : va_D A [(qr 0, .inr (6, [.ref (qc 0), .ref (qr 1), .int r18, .int (sr 0 3)])), (qr 1, .inl (k 0, 5, .inl (sr 1))), (qc 0, .inr (1, [.ref (qt 0), .int m19, .int m32])), (qt 0, .inr (8, [.ref (qt 1), .int (st 0 1)])), (qt 1, .inl (k 2, 64, .inl (st 1)))] := hD
          clear hw30
          rw [hQ]
          exact x_v cx hr (m19, m32, r18) hP hD hS trivial dX8_readEnd_82
      · have f25 : r18.toInt = (-9) := f_eq rfl (by decide) c25
        rw [hQ]
        exact x_v cx hr (m19, m20, (sr 0 2)) hP hD hS trivial dX8_readEnd_59
    · have f7 : ¬ r5.toInt = 76 := f_ne rfl (by decide) c7
      refine lv_aload_n hx hb dX8_readEnd_25 rfl (lv_at hl 0 rfl) ?_
      refine g_get cx hP iw_X8_readEnd_X8 0 rfl rfl 0 (by decide) rfl fw_X8_readEnd_20 rfl dX8_readEnd_26 ?_
      refine g_v (w1 := fun (u : Int32) => [(qc 0, .inr (1, [.ref (qt 0), .int (sc 0 1), .int u])), (qt 0, .inr (8, [.ref (qt 1), .int (st 0 1)])), (qt 1, .inl (k 2, 64, .inl (st 1)))]) (g_runV (wc := [(qc 0, .inr (1, [.ref (qt 0), .int (sc 0 1), .int (sc 0 2)])), (qt 0, .inr (8, [.ref (qt 1), .int (st 0 1)])), (qt 1, .inl (k 2, 64, .inl (st 1)))]) (rest := []) cx hP hD hS [2, 3, 4] rfl (by decide) [] (c_X2_stop l D k b qc sc qt st H.size) gX8_readEnd_X2_stop rfl rfl rfl nd_X2_stop ⟨Nat.le_of_ble_eq_true rfl, Nat.le_of_ble_eq_true rfl⟩ (ci := 1) (q0 := 0) rfl rfl rfl hl.1 rfl (Nat.le_of_ble_eq_true rfl) ⟨Nat.zero_le _, Nat.zero_le _⟩ dX8_readEnd_29) cx.2.2.1 hP hD hS [2, 3, 4] rfl (fun _ => rfl) (fun u34 H locs hw33 hP hD hS => ?_)
      obtain ⟨m35, rfl⟩ : ∃ z, z = u34 := ⟨_, rfl⟩
      have hP : va_P D vwCl [(qr 0, .inr (6, [.ref (qc 0), .ref (qr 1), .int (sr 0 2), .int (sr 0 3)])), (qr 1, .inl (k 0, 5, .inl (sr 1))), (qc 0, .inr (1, [.ref (qt 0), .int (sc 0 1), .int m35])), (qt 0, .inr (8, [.ref (qt 1), .int (st 0 1)])), (qt 1, .inl (k 2, 64, .inl (st 1)))] H := hP
      have hD : va_D A [(qr 0, .inr (6, [.ref (qc 0), .ref (qr 1), .int (sr 0 2), .int (sr 0 3)])), (qr 1, .inl (k 0, 5, .inl (sr 1))), (qc 0, .inr (1, [.ref (qt 0), .int (sc 0 1), .int m35])), (qt 0, .inr (8, [.ref (qt 1), .int (st 0 1)])), (qt 1, .inl (k 2, 64, .inl (st 1)))] := hD
      clear hw33
      rw [hQ]
      exact x_v cx hr ((sc 0 1), m35, (sr 0 2)) hP hD hS trivial dX8_readEnd_32
  · have f3 : ¬ r2.toInt = (-9) := f_ne rfl (by decide) c3
    rw [hQ]
    exact x_v cx hr ((sc 0 1), (sc 0 2), (sr 0 2)) hP hD hS trivial dX8_readEnd_12
theorem fw_X8_read_20 : Cond.fieldLink RX8 20 "StillInAugust$RuleReader" "cursor" "LStillInAugust$Cursor;" ∈ wsX8_read := by decide +kernel
theorem fw_X8_read_31 : Cond.fieldLink RX8 31 "StillInAugust$RuleReader" "untoldWeeks" "I" ∈ wsX8_read := by decide +kernel
theorem nd_X8_readEnd : yX8_readEnd.cls = RX8 ∧ yX8_readEnd.cls ≠ "java/lang/invoke/MethodHandle" ∧ yX8_readEnd.cls ≠ "java/lang/invoke/VarHandle" ∧ (parseMethodDescriptor yX8_readEnd.desc).map (fun d => d.parameters.length) = some 0 := by decide +kernel
theorem nd_X8_readException : yX8_readException.cls = RX8 ∧ yX8_readException.cls ≠ "java/lang/invoke/MethodHandle" ∧ yX8_readException.cls ≠ "java/lang/invoke/VarHandle" ∧ (parseMethodDescriptor yX8_readException.desc).map (fun d => d.parameters.length) = some 0 := by decide +kernel
theorem iw_X8_read_X8 : ∀ w ∈ u_ws RX8 TX8 4, w ∈ wsX8_read := fun _ h => List.mem_cons_of_mem _ (List.mem_append_left _ (List.mem_append_left _ (List.mem_append_right _ h)))
set_option maxHeartbeats 4000000 in
set_option maxRecDepth 100000 in
theorem c_X8_read (l : Launch) (D : va_G) (k : Nat → ClassId) (b : Nat → Nat) (qr : Nat → Nat) (sr : Nat → Nat → Int32) (qc : Nat → Nat) (sc : Nat → Nat → Int32) (qt : Nat → Nat) (st : Nat → Nat → Int32) (sz : Nat) (h_len : 0 ≤ (st 0 1).toInt ∧ (st 0 1).toInt ≤ 64) : MetI l D k b yX8_read wsX8_read ({ frames := 4, cells := 0, slots := 0, locals := 85 } : Room) [(qr 0, .inr (6, [.ref (qc 0), .ref (qr 1), .int (sr 0 2), .int (sr 0 3)])), (qr 1, .inl (k 0, 5, .inl (sr 1))), (qc 0, .inr (1, [.ref (qt 0), .int (sc 0 1), .int (sc 0 2)])), (qt 0, .inr (8, [.ref (qt 1), .int (st 0 1)])), (qt 1, .inl (k 2, 64, .inl (st 1)))] sz [.ref (qr 0)] (fun (r : Int32) (u : Int32 × Int32 × Int32 × (Nat → Int32) × Int32) => 0 ≤ (u.2.2.1).toInt ∧ (u.2.2.1).toInt ≤ 31) (fun u => [(qr 0, .inr (6, [.ref (qc 0), .ref (qr 1), .int (u.2.2.2.2), .int (u.2.2.1)])), (qr 1, .inl (k 0, 5, .inl (u.2.2.2.1))), (qc 0, .inr (1, [.ref (qt 0), .int (u.1), .int (u.2.1)])), (qt 0, .inr (8, [.ref (qt 1), .int (st 0 1)])), (qt 1, .inl (k 2, 64, .inl (st 1)))]) := by
  refine g_enter (cc := cX8_read) (maxL := 2) (ret := (some .int)) (by decide) rfl (Nat.le_of_ble_eq_true rfl) ?_
  intro p e s m below meth c A hsz hAe cx hr hP hD hS ls hl
  rw [hAe]
  refine g_q (fun Q hQ => ?_)
  have hx := cx.1.1
  have hb := cx.1.2.1
  have hl : lv_has ls 2 [(0, .ref (qr 0))] := hl
  obtain ⟨H, eH⟩ : ∃ H : Heap, H = s.heap := ⟨_, rfl⟩
  obtain ⟨locs, el⟩ : ∃ L : List Loc, L = [] := ⟨_, rfl⟩
  have hP : va_P D vwCl [(qr 0, .inr (6, [.ref (qc 0), .ref (qr 1), .int (sr 0 2), .int (sr 0 3)])), (qr 1, .inl (k 0, 5, .inl (sr 1))), (qc 0, .inr (1, [.ref (qt 0), .int (sc 0 1), .int (sc 0 2)])), (qt 0, .inr (8, [.ref (qt 1), .int (st 0 1)])), (qt 1, .inl (k 2, 64, .inl (st 1)))] H := by rw [eH]; exact hP
  have hD : va_D A [(qr 0, .inr (6, [.ref (qc 0), .ref (qr 1), .int (sr 0 2), .int (sr 0 3)])), (qr 1, .inl (k 0, 5, .inl (sr 1))), (qc 0, .inr (1, [.ref (qt 0), .int (sc 0 1), .int (sc 0 2)])), (qt 0, .inr (8, [.ref (qt 1), .int (st 0 1)])), (qt 1, .inl (k 2, 64, .inl (st 1)))] := hD
  have hS : va_S A s.heap H locs := by rw [eH, el]; exact hS
  suffices goal : W p l e ({ frames := 4, cells := 0, slots := 0, locals := 85 } : Room) s m ([.ref (qr 0)] : List Value).toArray below meth c H locs 0 0 Q (F0 m 0 ls []) by rw [eH, el] at goal; exact goal
  refine lv_aload_n hx hb dX8_read_0 rfl (lv_at hl 0 rfl) ?_
  refine g_get cx hP iw_X8_read_X8 0 rfl rfl 0 (by decide) rfl fw_X8_read_20 rfl dX8_read_1 ?_
  refine g_v (w1 := fun (u : Int32 × Int32) => [(qc 0, .inr (1, [.ref (qt 0), .int (u.1), .int (u.2)])), (qt 0, .inr (8, [.ref (qt 1), .int (st 0 1)])), (qt 1, .inl (k 2, 64, .inl (st 1)))]) (g_runV (wc := [(qc 0, .inr (1, [.ref (qt 0), .int (sc 0 1), .int (sc 0 2)])), (qt 0, .inr (8, [.ref (qt 1), .int (st 0 1)])), (qt 1, .inl (k 2, 64, .inl (st 1)))]) (rest := []) cx hP hD hS [2, 3, 4] rfl (by decide) [] (c_X2_start l D k b qc sc qt st H.size) gX8_read_X2_start rfl rfl rfl nd_X2_start ⟨Nat.le_of_ble_eq_true rfl, Nat.le_of_ble_eq_true rfl⟩ (ci := 1) (q0 := 0) rfl rfl rfl hl.1 rfl (Nat.le_of_ble_eq_true rfl) ⟨Nat.zero_le _, Nat.zero_le _⟩ dX8_read_4) cx.2.2.1 hP hD hS [2, 3, 4] rfl (fun _ => rfl) (fun u2 H locs hw1 hP hD hS => ?_)
  obtain ⟨m3, m4⟩ := u2
  have hP : va_P D vwCl [(qr 0, .inr (6, [.ref (qc 0), .ref (qr 1), .int (sr 0 2), .int (sr 0 3)])), (qr 1, .inl (k 0, 5, .inl (sr 1))), (qc 0, .inr (1, [.ref (qt 0), .int m3, .int m4])), (qt 0, .inr (8, [.ref (qt 1), .int (st 0 1)])), (qt 1, .inl (k 2, 64, .inl (st 1)))] H := hP
  have hD : va_D A [(qr 0, .inr (6, [.ref (qc 0), .ref (qr 1), .int (sr 0 2), .int (sr 0 3)])), (qr 1, .inl (k 0, 5, .inl (sr 1))), (qc 0, .inr (1, [.ref (qt 0), .int m3, .int m4])), (qt 0, .inr (8, [.ref (qt 1), .int (st 0 1)])), (qt 1, .inl (k 2, 64, .inl (st 1)))] := hD
  clear hw1
  refine lv_aload_n hx hb dX8_read_7 rfl (lv_at hl 0 rfl) ?_
  refine lv_iconst (v := 0) hx hb dX8_read_8 (by decide) ?_
  refine lv_iconst (v := 4) hx hb dX8_read_9 (by decide) ?_
  have hlit5 : (0 : Int32).toInt = 0 := by decide
  have hlit6 : (4 : Int32).toInt = 4 := by decide
  refine g_ir (g_runS (wc := []) (rest := [.ref (qr 0)]) cx hP hD hS [] rfl (by decide) [.int 0, .int 4] (c_X2_figures l D k b H.size 0 4) gX8_read_X2_figures rfl rfl rfl nd_X2_figures ⟨Nat.le_of_ble_eq_true rfl, Nat.le_of_ble_eq_true rfl⟩ rfl hl.1 rfl (Nat.le_of_ble_eq_true rfl) ⟨Nat.zero_le _, Nat.zero_le _⟩ dX8_read_10) cx.2.2.1 hP hD hS [] rfl rfl (fun r8 H locs hw7 hP hS => ?_)
  have w9 : r8 = J_X2_figures (0 : Int32) (4 : Int32) := hw7
  clear hw7
  have zr8 : r8.toInt = 31 := by rw [w9]; decide
  refine g_pt cx hP hD hS iw_X8_read_X8 tyX8 tyX8_ok nmX8 0 rfl rfl 3 (by decide) rfl fw_X8_read_31 (ty := .int) rfl rfl rfl (Nat.le_of_ble_eq_true rfl) dX8_read_13 (fun H locs hP hD hS => ?_)
  have hP : va_P D vwCl [(qr 0, .inr (6, [.ref (qc 0), .ref (qr 1), .int (sr 0 2), .int r8])), (qr 1, .inl (k 0, 5, .inl (sr 1))), (qc 0, .inr (1, [.ref (qt 0), .int m3, .int m4])), (qt 0, .inr (8, [.ref (qt 1), .int (st 0 1)])), (qt 1, .inl (k 2, 64, .inl (st 1)))] H := hP
  have hD : va_D A [(qr 0, .inr (6, [.ref (qc 0), .ref (qr 1), .int (sr 0 2), .int r8])), (qr 1, .inl (k 0, 5, .inl (sr 1))), (qc 0, .inr (1, [.ref (qt 0), .int m3, .int m4])), (qt 0, .inr (8, [.ref (qt 1), .int (st 0 1)])), (qt 1, .inl (k 2, 64, .inl (st 1)))] := hD
  refine lv_iconst (v := 0) hx hb dX8_read_16 (by decide) ?_
  refine lv_istore_n (lv' := [(1, .int 0), (0, .ref (qr 0))]) hx hb dX8_read_17 rfl hl (by decide) rfl (fun ls hl => ?_)
  have hL18 : ∀ (n29 : Nat) (v24 : Int32) (x25 : Int32) (g26 : Nat → Int32) (x27 : Int32) (x28 : Int32) (H : Heap) (locs : List Loc) (ls : Array Slot), 5 - v24.toInt < (n29 : Int) → (0 ≤ v24.toInt ∧ v24.toInt ≤ 5) → (0 ≤ x25.toInt ∧ x25.toInt ≤ 31) → va_P D vwCl [(qr 0, .inr (6, [.ref (qc 0), .ref (qr 1), .int (sr 0 2), .int x25])), (qr 1, .inl (k 0, 5, .inl g26)), (qc 0, .inr (1, [.ref (qt 0), .int x27, .int x28])), (qt 0, .inr (8, [.ref (qt 1), .int (st 0 1)])), (qt 1, .inl (k 2, 64, .inl (st 1)))] H → va_D A [(qr 0, .inr (6, [.ref (qc 0), .ref (qr 1), .int (sr 0 2), .int x25])), (qr 1, .inl (k 0, 5, .inl g26)), (qc 0, .inr (1, [.ref (qt 0), .int x27, .int x28])), (qt 0, .inr (8, [.ref (qt 1), .int (st 0 1)])), (qt 1, .inl (k 2, 64, .inl (st 1)))] → va_S A s.heap H locs → lv_has ls 2 [(1, .int v24), (0, .ref (qr 0))] → W p l e ({ frames := 4, cells := 0, slots := 0, locals := 85 } : Room) s m ([.ref (qr 0)] : List Value).toArray below meth c H locs 0 0 Q (F0 m 18 ls []) := by
    intro n29
    induction n29 with
    | zero => intro v24 x25 g26 x27 x28 H locs ls hmn29 bv24 bx25 hP hD hS hl; exact absurd hmn29 (by omega)
    | succ n29 ih18 =>
      intro v24 x25 g26 x27 x28 H locs ls hmn29 bv24 bx25 hP hD hS hl
      refine lv_iload_n hx hb dX8_read_18 rfl (lv_at hl 0 rfl) ?_
      refine lv_iconst (v := 5) hx hb dX8_read_19 (by decide) ?_
      have hJ55 : ∀  (H : Heap) (locs : List Loc) (ls : Array Slot), va_P D vwCl [(qr 0, .inr (6, [.ref (qc 0), .ref (qr 1), .int (sr 0 2), .int x25])), (qr 1, .inl (k 0, 5, .inl g26)), (qc 0, .inr (1, [.ref (qt 0), .int x27, .int x28])), (qt 0, .inr (8, [.ref (qt 1), .int (st 0 1)])), (qt 1, .inl (k 2, 64, .inl (st 1)))] H → va_D A [(qr 0, .inr (6, [.ref (qc 0), .ref (qr 1), .int (sr 0 2), .int x25])), (qr 1, .inl (k 0, 5, .inl g26)), (qc 0, .inr (1, [.ref (qt 0), .int x27, .int x28])), (qt 0, .inr (8, [.ref (qt 1), .int (st 0 1)])), (qt 1, .inl (k 2, 64, .inl (st 1)))] → va_S A s.heap H locs → lv_has ls 2 [(0, .ref (qr 0))] → W p l e ({ frames := 4, cells := 0, slots := 0, locals := 85 } : Room) s m ([.ref (qr 0)] : List Value).toArray below meth c H locs 0 0 Q (F0 m 55 ls []) := by
        intro  H locs ls  hP hD hS hl
        refine lv_aload_n hx hb dX8_read_55 rfl (lv_at hl 0 rfl) ?_
        refine g_vF (w1 := fun (u : Int32 × Int32 × Int32) => [(qr 0, .inr (6, [.ref (qc 0), .ref (qr 1), .int (u.2.2), .int x25])), (qr 1, .inl (k 0, 5, .inl g26)), (qc 0, .inr (1, [.ref (qt 0), .int (u.1), .int (u.2.1)])), (qt 0, .inr (8, [.ref (qt 1), .int (st 0 1)])), (qt 1, .inl (k 2, 64, .inl (st 1)))]) (g_runVF (ws := [(qr 0, .inr (6, [.ref (qc 0), .ref (qr 1), .int (sr 0 2), .int x25])), (qr 1, .inl (k 0, 5, .inl g26)), (qc 0, .inr (1, [.ref (qt 0), .int x27, .int x28])), (qt 0, .inr (8, [.ref (qt 1), .int (st 0 1)])), (qt 1, .inl (k 2, 64, .inl (st 1)))]) (rest := []) cx hP hD hS [] (c_X8_readEnd l D k b qr (up2 (up2 sr 0 (upd (sr 0) 3 x25)) 1 g26) qc (up2 sc 0 (upd (upd (sc 0) 1 x27) 2 x28)) qt st H.size (show 0 ≤ (st 0 1).toInt ∧ (st 0 1).toInt ≤ 64 from by first | decide | omega)) gX8_read_X8_readEnd rfl rfl rfl nd_X8_readEnd ⟨Nat.le_of_ble_eq_true rfl, Nat.le_of_ble_eq_true rfl⟩ (ci := 6) (q0 := 0) rfl rfl rfl hl.1 rfl (Nat.le_of_ble_eq_true rfl) ⟨Nat.zero_le _, Nat.zero_le _⟩ dX8_read_56) cx.2.2.1 hD hS (fun u45 H locs hw44 hP hD hS => ?_)
        obtain ⟨m46, m47, m48⟩ := u45
        have hP : va_P D vwCl [(qr 0, .inr (6, [.ref (qc 0), .ref (qr 1), .int m48, .int x25])), (qr 1, .inl (k 0, 5, .inl g26)), (qc 0, .inr (1, [.ref (qt 0), .int m46, .int m47])), (qt 0, .inr (8, [.ref (qt 1), .int (st 0 1)])), (qt 1, .inl (k 2, 64, .inl (st 1)))] H := hP
        have hD : va_D A [(qr 0, .inr (6, [.ref (qc 0), .ref (qr 1), .int m48, .int x25])), (qr 1, .inl (k 0, 5, .inl g26)), (qc 0, .inr (1, [.ref (qt 0), .int m46, .int m47])), (qt 0, .inr (8, [.ref (qt 1), .int (st 0 1)])), (qt 1, .inl (k 2, 64, .inl (st 1)))] := hD
        clear hw44
        refine lv_aload_n hx hb dX8_read_59 rfl (lv_at hl 0 rfl) ?_
        refine g_get cx hP iw_X8_read_X8 0 rfl rfl 0 (by decide) rfl fw_X8_read_20 rfl dX8_read_60 ?_
        refine g_ir (g_runV (wc := [(qc 0, .inr (1, [.ref (qt 0), .int m46, .int m47])), (qt 0, .inr (8, [.ref (qt 1), .int (st 0 1)])), (qt 1, .inl (k 2, 64, .inl (st 1)))]) (rest := []) cx hP hD hS [2, 3, 4] rfl (by decide) [] (c_X2_stoppedAt l D k b qc (up2 sc 0 (upd (upd (sc 0) 1 m46) 2 m47)) qt st H.size) gX8_read_X2_stoppedAt rfl rfl rfl nd_X2_stoppedAt ⟨Nat.le_of_ble_eq_true rfl, Nat.le_of_ble_eq_true rfl⟩ (ci := 1) (q0 := 0) rfl rfl rfl hl.1 rfl (Nat.le_of_ble_eq_true rfl) ⟨Nat.zero_le _, Nat.zero_le _⟩ dX8_read_63) cx.2.2.1 hP hD hS [2, 3, 4] rfl rfl (fun r50 H locs hw49 hP hS => ?_)
        clear hw49
        rw [hQ]
        exact x_i cx hr (m46, m47, x25, g26, m48) hP hD hS (show 0 ≤ x25.toInt ∧ x25.toInt ≤ 31 from by omega) dX8_read_66
      refine lv_icmp_ge (tgt := 55) hx hb dX8_read_20 (by decide) (fun c51 => ?_) (fun c51 => ?_)
      · have f51 : 5 ≤ v24.toInt := f_le (by decide) rfl c51
        exact hJ55  _ _ _  hP hD hS (lv_sub hl [1] rfl)
      · have f51 : v24.toInt < 5 := f_nle (by decide) rfl c51
        refine lv_aload_n hx hb dX8_read_23 rfl (lv_at hl 1 rfl) ?_
        refine g_get cx hP iw_X8_read_X8 0 rfl rfl 0 (by decide) rfl fw_X8_read_20 rfl dX8_read_24 ?_
        refine g_ir (g_runV (wc := [(qc 0, .inr (1, [.ref (qt 0), .int x27, .int x28])), (qt 0, .inr (8, [.ref (qt 1), .int (st 0 1)])), (qt 1, .inl (k 2, 64, .inl (st 1)))]) (rest := []) cx hP hD hS [2, 3, 4] rfl (by decide) [] (c_X2_hasMore l D k b qc (up2 sc 0 (upd (upd (sc 0) 1 x27) 2 x28)) qt st H.size) gX8_read_X2_hasMore rfl rfl rfl nd_X2_hasMore ⟨Nat.le_of_ble_eq_true rfl, Nat.le_of_ble_eq_true rfl⟩ (ci := 1) (q0 := 0) rfl rfl rfl hl.1 rfl (Nat.le_of_ble_eq_true rfl) ⟨Nat.zero_le _, Nat.zero_le _⟩ dX8_read_27) cx.2.2.1 hP hD hS [2, 3, 4] rfl rfl (fun r53 H locs hw52 hP hS => ?_)
        have w54 : 0 ≤ r53.toInt ∧ r53.toInt ≤ 1 := hw52
        clear hw52
        refine lv_if_eq (tgt := 55) hx hb dX8_read_30 (by decide) (fun c55 => ?_) (fun c55 => ?_)
        · have f55 : r53.toInt = 0 := f_eq rfl (by decide) c55
          exact hJ55  _ _ _  hP hD hS (lv_sub hl [1] rfl)
        · have f55 : ¬ r53.toInt = 0 := f_ne rfl (by decide) c55
          refine lv_aload_n hx hb dX8_read_33 rfl (lv_at hl 1 rfl) ?_
          refine g_get cx hP iw_X8_read_X8 0 rfl rfl 0 (by decide) rfl fw_X8_read_20 rfl dX8_read_34 ?_
          refine g_ir (g_runV (wc := [(qc 0, .inr (1, [.ref (qt 0), .int x27, .int x28])), (qt 0, .inr (8, [.ref (qt 1), .int (st 0 1)])), (qt 1, .inl (k 2, 64, .inl (st 1)))]) (rest := []) cx hP hD hS [2, 3, 4] rfl (by decide) [] (c_X2_here l D k b qc (up2 sc 0 (upd (upd (sc 0) 1 x27) 2 x28)) qt st H.size (show 0 ≤ (st 0 1).toInt ∧ (st 0 1).toInt ≤ 64 from by first | decide | omega)) gX8_read_X2_here rfl rfl rfl nd_X2_here ⟨Nat.le_of_ble_eq_true rfl, Nat.le_of_ble_eq_true rfl⟩ (ci := 1) (q0 := 0) rfl rfl rfl hl.1 rfl (Nat.le_of_ble_eq_true rfl) ⟨Nat.zero_le _, Nat.zero_le _⟩ dX8_read_37) cx.2.2.1 hP hD hS [2, 3, 4] rfl rfl (fun r57 H locs hw56 hP hS => ?_)
          have w58 : -9 ≤ r57.toInt ∧ r57.toInt ≤ 255 := hw56
          clear hw56
          refine lv_bipush (v := 76) hx hb dX8_read_40 (by decide) ?_
          refine lv_icmp_eq (tgt := 55) hx hb dX8_read_42 (by decide) (fun c59 => ?_) (fun c59 => ?_)
          · have f59 : r57.toInt = 76 := f_eq rfl (by decide) c59
            exact hJ55  _ _ _  hP hD hS (lv_sub hl [1] rfl)
          · have f59 : ¬ r57.toInt = 76 := f_ne rfl (by decide) c59
            refine lv_aload_n hx hb dX8_read_45 rfl (lv_at hl 1 rfl) ?_
            refine g_vF (w1 := fun (u : Int32 × Int32 × Int32 × (Nat → Int32)) => [(qr 0, .inr (6, [.ref (qc 0), .ref (qr 1), .int (sr 0 2), .int (u.2.2.1)])), (qr 1, .inl (k 0, 5, .inl (u.2.2.2))), (qc 0, .inr (1, [.ref (qt 0), .int (u.1), .int (u.2.1)])), (qt 0, .inr (8, [.ref (qt 1), .int (st 0 1)])), (qt 1, .inl (k 2, 64, .inl (st 1)))]) (g_runVF (ws := [(qr 0, .inr (6, [.ref (qc 0), .ref (qr 1), .int (sr 0 2), .int x25])), (qr 1, .inl (k 0, 5, .inl g26)), (qc 0, .inr (1, [.ref (qt 0), .int x27, .int x28])), (qt 0, .inr (8, [.ref (qt 1), .int (st 0 1)])), (qt 1, .inl (k 2, 64, .inl (st 1)))]) (rest := []) cx hP hD hS [] (c_X8_readException l D k b qr (up2 (up2 sr 0 (upd (sr 0) 3 x25)) 1 g26) qc (up2 sc 0 (upd (upd (sc 0) 1 x27) 2 x28)) qt st H.size (show 0 ≤ (st 0 1).toInt ∧ (st 0 1).toInt ≤ 64 from by first | decide | omega) (show 0 ≤ x25.toInt ∧ x25.toInt ≤ 31 from by first | decide | omega)) gX8_read_X8_readException rfl rfl rfl nd_X8_readException ⟨Nat.le_of_ble_eq_true rfl, Nat.le_of_ble_eq_true rfl⟩ (ci := 6) (q0 := 0) rfl rfl rfl hl.1 rfl (Nat.le_of_ble_eq_true rfl) ⟨Nat.zero_le _, Nat.zero_le _⟩ dX8_read_46) cx.2.2.1 hD hS (fun u61 H locs hw60 hP hD hS => ?_)
            obtain ⟨m62, m63, m64, m65⟩ := u61
            have hP : va_P D vwCl [(qr 0, .inr (6, [.ref (qc 0), .ref (qr 1), .int (sr 0 2), .int m64])), (qr 1, .inl (k 0, 5, .inl m65)), (qc 0, .inr (1, [.ref (qt 0), .int m62, .int m63])), (qt 0, .inr (8, [.ref (qt 1), .int (st 0 1)])), (qt 1, .inl (k 2, 64, .inl (st 1)))] H := hP
            have hD : va_D A [(qr 0, .inr (6, [.ref (qc 0), .ref (qr 1), .int (sr 0 2), .int m64])), (qr 1, .inl (k 0, 5, .inl m65)), (qc 0, .inr (1, [.ref (qt 0), .int m62, .int m63])), (qt 0, .inr (8, [.ref (qt 1), .int (st 0 1)])), (qt 1, .inl (k 2, 64, .inl (st 1)))] := hD
            have w66 : 0 ≤ m64.toInt ∧ m64.toInt ≤ 31 := hw60
            clear hw60
            obtain ⟨v67, e67⟩ : ∃ z : Int32, z = v24 + 1 := ⟨_, rfl⟩
            refine lv_iinc (v := v67) (lv' := [(1, .int v67), (0, .ref (qr 0))]) hx hb dX8_read_49 hl (k := 0) rfl (by rw [e67]; rfl) (by decide) rfl (fun ls hl => ?_)
            have t67 : v67.toInt = v24.toInt + 1 := by rw [e67]; exact i_add rfl (by decide) (by omega) (by omega)
            refine lv_goto (tgt := 18) hx hb dX8_read_52 (by decide) ?_
            exact ih18 v67 m64 m65 m62 m63 _ _ _ (by omega) (by first | decide | omega) (by first | decide | omega) hP hD hS (lv_sub hl [0, 1] rfl)
  have hlit68 : (0 : Int32).toInt = 0 := by decide
  exact hL18 (Int.toNat (5 - 0) + 1) 0 r8 (sr 1) m3 m4 _ _ _ (by omega) (by first | decide | omega) (by first | decide | omega) hP hD hS (lv_sub hl [0, 1] rfl)
theorem fw_X8_levelIn_31 : Cond.fieldLink RX8 31 "StillInAugust$RuleReader" "untoldWeeks" "I" ∈ wsX8_levelIn := by decide +kernel
theorem fw_X8_levelIn_62 : Cond.fieldLink RX8 62 "StillInAugust$RuleReader" "otherLevel" "I" ∈ wsX8_levelIn := by decide +kernel
theorem fw_X8_levelIn_9 : Cond.fieldLink RX8 9 "StillInAugust$RuleReader" "exceptLevel" "[I" ∈ wsX8_levelIn := by decide +kernel
theorem iw_X8_levelIn_X8 : ∀ w ∈ u_ws RX8 TX8 4, w ∈ wsX8_levelIn := fun _ h => List.mem_cons_of_mem _ (List.mem_append_right _ h)
set_option maxHeartbeats 4000000 in
set_option maxRecDepth 100000 in
theorem c_X8_levelIn (l : Launch) (D : va_G) (k : Nat → ClassId) (b : Nat → Nat) (qr : Nat → Nat) (sr : Nat → Nat → Int32) (qc : Nat → Nat) (sc : Nat → Nat → Int32) (qt : Nat → Nat) (st : Nat → Nat → Int32) (sz : Nat) (p0 : Int32) (hp0 : 0 ≤ p0.toInt ∧ p0.toInt ≤ 4) : MetI l D k b yX8_levelIn wsX8_levelIn ({ frames := 0, cells := 0, slots := 0, locals := 0 } : Room) [(qr 0, .inr (6, [.ref (qc 0), .ref (qr 1), .int (sr 0 2), .int (sr 0 3)])), (qr 1, .inl (k 0, 5, .inl (sr 1))), (qc 0, .inr (1, [.ref (qt 0), .int (sc 0 1), .int (sc 0 2)])), (qt 0, .inr (8, [.ref (qt 1), .int (st 0 1)])), (qt 1, .inl (k 2, 64, .inl (st 1)))] sz [.ref (qr 0), .int p0] (fun (r : Int32) (u : Unit) => True) (fun u => [(qr 0, .inr (6, [.ref (qc 0), .ref (qr 1), .int (sr 0 2), .int (sr 0 3)])), (qr 1, .inl (k 0, 5, .inl (sr 1))), (qc 0, .inr (1, [.ref (qt 0), .int (sc 0 1), .int (sc 0 2)])), (qt 0, .inr (8, [.ref (qt 1), .int (st 0 1)])), (qt 1, .inl (k 2, 64, .inl (st 1)))]) := by
  refine g_enter (cc := cX8_levelIn) (maxL := 2) (ret := (some .int)) (by decide) rfl (Nat.le_of_ble_eq_true rfl) ?_
  intro p e s m below meth c A hsz hAe cx hr hP hD hS ls hl
  rw [hAe]
  refine g_q (fun Q hQ => ?_)
  have hx := cx.1.1
  have hb := cx.1.2.1
  have bp0 := i_rng p0
  have hl : lv_has ls 2 [(0, .ref (qr 0)), (1, .int p0)] := hl
  obtain ⟨H, eH⟩ : ∃ H : Heap, H = s.heap := ⟨_, rfl⟩
  obtain ⟨locs, el⟩ : ∃ L : List Loc, L = [] := ⟨_, rfl⟩
  have hP : va_P D vwCl [(qr 0, .inr (6, [.ref (qc 0), .ref (qr 1), .int (sr 0 2), .int (sr 0 3)])), (qr 1, .inl (k 0, 5, .inl (sr 1))), (qc 0, .inr (1, [.ref (qt 0), .int (sc 0 1), .int (sc 0 2)])), (qt 0, .inr (8, [.ref (qt 1), .int (st 0 1)])), (qt 1, .inl (k 2, 64, .inl (st 1)))] H := by rw [eH]; exact hP
  have hD : va_D A [(qr 0, .inr (6, [.ref (qc 0), .ref (qr 1), .int (sr 0 2), .int (sr 0 3)])), (qr 1, .inl (k 0, 5, .inl (sr 1))), (qc 0, .inr (1, [.ref (qt 0), .int (sc 0 1), .int (sc 0 2)])), (qt 0, .inr (8, [.ref (qt 1), .int (st 0 1)])), (qt 1, .inl (k 2, 64, .inl (st 1)))] := hD
  have hS : va_S A s.heap H locs := by rw [eH, el]; exact hS
  suffices goal : W p l e ({ frames := 0, cells := 0, slots := 0, locals := 0 } : Room) s m ([.ref (qr 0), .int p0] : List Value).toArray below meth c H locs 0 0 Q (F0 m 0 ls []) by rw [eH, el] at goal; exact goal
  refine lv_aload_n hx hb dX8_levelIn_0 rfl (lv_at hl 0 rfl) ?_
  refine g_get cx hP iw_X8_levelIn_X8 0 rfl rfl 3 (by decide) rfl fw_X8_levelIn_31 rfl dX8_levelIn_1 ?_
  refine lv_iload_n hx hb dX8_levelIn_4 rfl (lv_at hl 1 rfl) ?_
  refine lv_ishr hx hb dX8_levelIn_5 (lv_topi (fun v1 e1 => ?_))
  refine lv_iconst (v := 1) hx hb dX8_levelIn_6 (by decide) ?_
  refine lv_iand hx hb dX8_levelIn_7 (lv_topi (fun v2 e2 => ?_))
  have t2 : 0 ≤ v2.toInt ∧ v2.toInt ≤ 1 := by rw [e2]; exact and_r (by decide) (by omega)
  refine lv_if_ne (tgt := 20) hx hb dX8_levelIn_8 (by decide) (fun c3 => ?_) (fun c3 => ?_)
  · have f3 : ¬ v2.toInt = 0 := f_ne rfl (by decide) c3
    refine lv_aload_n hx hb dX8_levelIn_20 rfl (lv_at hl 0 rfl) ?_
    refine g_get cx hP iw_X8_levelIn_X8 0 rfl rfl 2 (by decide) rfl fw_X8_levelIn_62 rfl dX8_levelIn_21 ?_
    rw [hQ]
    exact x_i cx hr () hP hD hS trivial dX8_levelIn_24
  · have f3 : v2.toInt = 0 := f_eq rfl (by decide) c3
    refine lv_aload_n hx hb dX8_levelIn_11 rfl (lv_at hl 0 rfl) ?_
    refine g_get cx hP iw_X8_levelIn_X8 0 rfl rfl 1 (by decide) rfl fw_X8_levelIn_9 rfl dX8_levelIn_12 ?_
    refine lv_iload_n hx hb dX8_levelIn_15 rfl (lv_at hl 1 rfl) ?_
    have hn4 : vp_in p0 5 := f_in (a := p0.toInt) rfl (by omega) (by omega)
    refine va_iald hx hb cx.2.1 hP 1 0 rfl rfl hn4 dX8_levelIn_16 (lv_topi (fun v5 e5 => ?_))
    refine lv_goto (tgt := 24) hx hb dX8_levelIn_17 (by decide) ?_
    rw [hQ]
    exact x_i cx hr () hP hD hS trivial dX8_levelIn_24
theorem fw_X8_exceptions_31 : Cond.fieldLink RX8 31 "StillInAugust$RuleReader" "untoldWeeks" "I" ∈ wsX8_exceptions := by decide +kernel
theorem nd_J6_bitCount_0f7a4 : yJ6_bitCount_0f7a4.cls ≠ "java/lang/invoke/MethodHandle" ∧ yJ6_bitCount_0f7a4.cls ≠ "java/lang/invoke/VarHandle" ∧ (parseMethodDescriptor yJ6_bitCount_0f7a4.desc).map (fun d => d.parameters.length) = some 1 := by decide +kernel
theorem iw_X8_exceptions_X8 : ∀ w ∈ u_ws RX8 TX8 4, w ∈ wsX8_exceptions := fun _ h => List.mem_cons_of_mem _ (List.mem_append_right _ h)
set_option maxHeartbeats 4000000 in
set_option maxRecDepth 100000 in
theorem c_X8_exceptions (l : Launch) (D : va_G) (k : Nat → ClassId) (b : Nat → Nat) (qr : Nat → Nat) (sr : Nat → Nat → Int32) (qc : Nat → Nat) (sc : Nat → Nat → Int32) (qt : Nat → Nat) (st : Nat → Nat → Int32) (sz : Nat) : MetI l D k b yX8_exceptions wsX8_exceptions ({ frames := 1, cells := 0, slots := 0, locals := 20 } : Room) [(qr 0, .inr (6, [.ref (qc 0), .ref (qr 1), .int (sr 0 2), .int (sr 0 3)])), (qr 1, .inl (k 0, 5, .inl (sr 1))), (qc 0, .inr (1, [.ref (qt 0), .int (sc 0 1), .int (sc 0 2)])), (qt 0, .inr (8, [.ref (qt 1), .int (st 0 1)])), (qt 1, .inl (k 2, 64, .inl (st 1)))] sz [.ref (qr 0)] (fun (r : Int32) (u : Unit) => True) (fun u => [(qr 0, .inr (6, [.ref (qc 0), .ref (qr 1), .int (sr 0 2), .int (sr 0 3)])), (qr 1, .inl (k 0, 5, .inl (sr 1))), (qc 0, .inr (1, [.ref (qt 0), .int (sc 0 1), .int (sc 0 2)])), (qt 0, .inr (8, [.ref (qt 1), .int (st 0 1)])), (qt 1, .inl (k 2, 64, .inl (st 1)))]) := by
  refine g_enter (cc := cX8_exceptions) (maxL := 1) (ret := (some .int)) (by decide) rfl (Nat.le_of_ble_eq_true rfl) ?_
  intro p e s m below meth c A hsz hAe cx hr hP hD hS ls hl
  rw [hAe]
  refine g_q (fun Q hQ => ?_)
  have hx := cx.1.1
  have hb := cx.1.2.1
  have hl : lv_has ls 1 [(0, .ref (qr 0))] := hl
  obtain ⟨H, eH⟩ : ∃ H : Heap, H = s.heap := ⟨_, rfl⟩
  obtain ⟨locs, el⟩ : ∃ L : List Loc, L = [] := ⟨_, rfl⟩
  have hP : va_P D vwCl [(qr 0, .inr (6, [.ref (qc 0), .ref (qr 1), .int (sr 0 2), .int (sr 0 3)])), (qr 1, .inl (k 0, 5, .inl (sr 1))), (qc 0, .inr (1, [.ref (qt 0), .int (sc 0 1), .int (sc 0 2)])), (qt 0, .inr (8, [.ref (qt 1), .int (st 0 1)])), (qt 1, .inl (k 2, 64, .inl (st 1)))] H := by rw [eH]; exact hP
  have hD : va_D A [(qr 0, .inr (6, [.ref (qc 0), .ref (qr 1), .int (sr 0 2), .int (sr 0 3)])), (qr 1, .inl (k 0, 5, .inl (sr 1))), (qc 0, .inr (1, [.ref (qt 0), .int (sc 0 1), .int (sc 0 2)])), (qt 0, .inr (8, [.ref (qt 1), .int (st 0 1)])), (qt 1, .inl (k 2, 64, .inl (st 1)))] := hD
  have hS : va_S A s.heap H locs := by rw [eH, el]; exact hS
  suffices goal : W p l e ({ frames := 1, cells := 0, slots := 0, locals := 20 } : Room) s m ([.ref (qr 0)] : List Value).toArray below meth c H locs 0 0 Q (F0 m 0 ls []) by rw [eH, el] at goal; exact goal
  refine lv_iconst (v := 5) hx hb dX8_exceptions_0 (by decide) ?_
  refine lv_aload_n hx hb dX8_exceptions_1 rfl (lv_at hl 0 rfl) ?_
  refine g_get cx hP iw_X8_exceptions_X8 0 rfl rfl 3 (by decide) rfl fw_X8_exceptions_31 rfl dX8_exceptions_2 ?_
  refine g_ir (g_runS (wc := []) (rest := [.int 5]) cx hP hD hS [] rfl (by decide) [.int (sr 0 3)] (c_J6_bitCount_0f7a4 l D k b H.size (sr 0 3)) gX8_exceptions_J6_bitCount_0f7a4 rfl rfl rfl nd_J6_bitCount_0f7a4 ⟨Nat.le_of_ble_eq_true rfl, Nat.le_of_ble_eq_true rfl⟩ rfl hl.1 rfl (Nat.le_of_ble_eq_true rfl) ⟨Nat.zero_le _, Nat.zero_le _⟩ dX8_exceptions_5) cx.2.2.1 hP hD hS [] rfl rfl (fun r2 H locs hw1 hP hS => ?_)
  have w3 : r2 = J_J6_bitCount_0f7a4 (sr 0 3) := hw1
  clear hw1
  refine lv_isub hx hb dX8_exceptions_8 (lv_topi (fun v4 e4 => ?_))
  rw [hQ]
  exact x_i cx hr () hP hD hS trivial dX8_exceptions_9
