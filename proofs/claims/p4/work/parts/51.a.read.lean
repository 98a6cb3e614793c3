theorem fw_X5_expectOnce_S0_9 : Cond.fieldLink RX5 9 "StillInAugust$HouseReader" "untold" "[I" ∈ wsX5_expectOnce := by decide +kernel
theorem nd_J0_charAt_5068e : yJ0_charAt_5068e.cls = RJ0 ∧ yJ0_charAt_5068e.cls ≠ "java/lang/invoke/MethodHandle" ∧ yJ0_charAt_5068e.cls ≠ "java/lang/invoke/VarHandle" ∧ (parseMethodDescriptor yJ0_charAt_5068e.desc).map (fun d => d.parameters.length) = some 1 := by decide +kernel
theorem nd_J0_length_8abf5 : yJ0_length_8abf5.cls = RJ0 ∧ yJ0_length_8abf5.cls ≠ "java/lang/invoke/MethodHandle" ∧ yJ0_length_8abf5.cls ≠ "java/lang/invoke/VarHandle" ∧ (parseMethodDescriptor yJ0_length_8abf5.desc).map (fun d => d.parameters.length) = some 0 := by decide +kernel
theorem iw_X5_expectOnce_S0_X5 : ∀ w ∈ u_ws RX5 TX5 2, w ∈ wsX5_expectOnce := fun _ h => List.mem_cons_of_mem _ (List.mem_append_right _ h)
set_option maxHeartbeats 4000000 in
set_option maxRecDepth 100000 in
theorem c_X5_expectOnce_S0 (l : Launch) (D : va_G) (k : Nat → ClassId) (b : Nat → Nat) (qr : Nat → Nat) (sr : Nat → Nat → Int32) (qc : Nat → Nat) (sc : Nat → Nat → Int32) (qt : Nat → Nat) (st : Nat → Nat → Int32) (sz : Nat) (p0 : Int32) (u_a : ∀ j, 0 ≤ (sr 1 j).toInt ∧ (sr 1 j).toInt ≤ 31) (u_3 : 0 ≤ (sr 1 3).toInt ∧ (sr 1 3).toInt ≤ 7) (u_16 : 0 ≤ (sr 1 16).toInt ∧ (sr 1 16).toInt ≤ 7) (hp0 : -1 ≤ p0.toInt ∧ p0.toInt ≤ 2) : MetV l D k b yX5_expectOnce wsX5_expectOnce ({ frames := 4, cells := 0, slots := 0, locals := 85 } : Room) [(qr 0, .inr (3, [.ref (qc 0), .ref (qr 1)])), (qr 1, .inl (k 0, 26, .inl (sr 1))), (qc 0, .inr (1, [.ref (qt 0), .int (sc 0 1), .int (sc 0 2)])), (qt 0, .inr (8, [.ref (qt 1), .int (st 0 1)])), (qt 1, .inl (k 2, 64, .inl (st 1)))] sz [.ref (qr 0), .ref (b 10), .int p0] (fun (u : (Nat → Int32)) => (∀ j, 0 ≤ (u j).toInt ∧ (u j).toInt ≤ 31) ∧ (0 ≤ (u 3).toInt ∧ (u 3).toInt ≤ 7) ∧ (0 ≤ (u 16).toInt ∧ (u 16).toInt ≤ 7) ∧ (u = J_X5_expectOnce_S0 sr sc st p0)) (fun u => [(qr 0, .inr (3, [.ref (qc 0), .ref (qr 1)])), (qr 1, .inl (k 0, 26, .inl u)), (qc 0, .inr (1, [.ref (qt 0), .int (sc 0 1), .int (sc 0 2)])), (qt 0, .inr (8, [.ref (qt 1), .int (st 0 1)])), (qt 1, .inl (k 2, 64, .inl (st 1)))]) := by
  refine g_enter (cc := cX5_expectOnce) (maxL := 4) (ret := none) (by decide) rfl (Nat.le_of_ble_eq_true rfl) ?_
  intro p e s m below meth c A hsz hAe cx hr hP hD hS ls hl
  rw [hAe]
  refine g_q (fun Q hQ => ?_)
  have hx := cx.1.1
  have hb := cx.1.2.1
  have bp0 := i_rng p0
  have hl : lv_has ls 4 [(0, .ref (qr 0)), (1, .ref (b 10)), (2, .int p0)] := hl
  obtain ⟨H, eH⟩ : ∃ H : Heap, H = s.heap := ⟨_, rfl⟩
  obtain ⟨locs, el⟩ : ∃ L : List Loc, L = [] := ⟨_, rfl⟩
  have hP : va_P D vwCl [(qr 0, .inr (3, [.ref (qc 0), .ref (qr 1)])), (qr 1, .inl (k 0, 26, .inl (sr 1))), (qc 0, .inr (1, [.ref (qt 0), .int (sc 0 1), .int (sc 0 2)])), (qt 0, .inr (8, [.ref (qt 1), .int (st 0 1)])), (qt 1, .inl (k 2, 64, .inl (st 1)))] H := by rw [eH]; exact hP
  have hD : va_D A [(qr 0, .inr (3, [.ref (qc 0), .ref (qr 1)])), (qr 1, .inl (k 0, 26, .inl (sr 1))), (qc 0, .inr (1, [.ref (qt 0), .int (sc 0 1), .int (sc 0 2)])), (qt 0, .inr (8, [.ref (qt 1), .int (st 0 1)])), (qt 1, .inl (k 2, 64, .inl (st 1)))] := hD
  have hS : va_S A s.heap H locs := by rw [eH, el]; exact hS
  suffices goal : W p l e ({ frames := 4, cells := 0, slots := 0, locals := 85 } : Room) s m ([.ref (qr 0), .ref (b 10), .int p0] : List Value).toArray below meth c H locs 0 0 Q (F0 m 0 ls []) by rw [eH, el] at goal; exact goal
  refine lv_iconst (v := 0) hx hb dX5_expectOnce_0 (by decide) ?_
  refine lv_istore_n (lv' := [(3, .int 0), (0, .ref (qr 0)), (1, .ref (b 10)), (2, .int p0)]) hx hb dX5_expectOnce_1 rfl hl (by decide) rfl (fun ls hl => ?_)
  have hL2 : ∀ (n22 : Nat) (v20 : Int32) (g21 : Nat → Int32) (H : Heap) (locs : List Loc) (ls : Array Slot), 7 - v20.toInt < (n22 : Int) → (0 ≤ v20.toInt ∧ v20.toInt ≤ 7) → (0 ≤ (g21 3).toInt ∧ (g21 3).toInt ≤ 7) → (0 ≤ (g21 16).toInt ∧ (g21 16).toInt ≤ 7) → (eoF (J_X2_figures 0 p0) ((zBYT.getD 0 []).drop (Int.toNat v20.toInt)) g21 = eoF (J_X2_figures 0 p0) (zBYT.getD 0 []) (sr 1)) → (∀ j, 0 ≤ (g21 j).toInt ∧ (g21 j).toInt ≤ 31) → va_P D vwCl [(qr 0, .inr (3, [.ref (qc 0), .ref (qr 1)])), (qr 1, .inl (k 0, 26, .inl g21)), (qc 0, .inr (1, [.ref (qt 0), .int (sc 0 1), .int (sc 0 2)])), (qt 0, .inr (8, [.ref (qt 1), .int (st 0 1)])), (qt 1, .inl (k 2, 64, .inl (st 1)))] H → va_D A [(qr 0, .inr (3, [.ref (qc 0), .ref (qr 1)])), (qr 1, .inl (k 0, 26, .inl g21)), (qc 0, .inr (1, [.ref (qt 0), .int (sc 0 1), .int (sc 0 2)])), (qt 0, .inr (8, [.ref (qt 1), .int (st 0 1)])), (qt 1, .inl (k 2, 64, .inl (st 1)))] → va_S A s.heap H locs → lv_has ls 4 [(3, .int v20), (0, .ref (qr 0)), (1, .ref (b 10)), (2, .int p0)] → W p l e ({ frames := 4, cells := 0, slots := 0, locals := 85 } : Room) s m ([.ref (qr 0), .ref (b 10), .int p0] : List Value).toArray below meth c H locs 0 0 Q (F0 m 2 ls []) := by
    intro n22
    induction n22 with
    | zero => intro v20 g21 H locs ls hmn22 bv20 u3 u16 qE ag21 hP hD hS hl; exact absurd hmn22 (by omega)
    | succ n22 ih2 =>
      intro v20 g21 H locs ls hmn22 bv20 u3 u16 qE ag21 hP hD hS hl
      refine lv_iload_n hx hb dX5_expectOnce_2 rfl (lv_at hl 0 rfl) ?_
      refine lv_aload_n hx hb dX5_expectOnce_3 rfl (lv_at hl 2 rfl) ?_
      refine g_ir (g_runK (rest := [.int v20]) cx hP hD hS (i := 0) (Nat.le_of_ble_eq_true rfl) [] (c_J0_length_8abf5_S0 l D k b H.size) gX5_expectOnce_J0_length_8abf5 rfl rfl rfl nd_J0_length_8abf5 ⟨Nat.le_of_ble_eq_true rfl, Nat.le_of_ble_eq_true rfl⟩ rfl hl.1 rfl (Nat.le_of_ble_eq_true rfl) ⟨Nat.zero_le _, Nat.zero_le _⟩ dX5_expectOnce_4) cx.2.2.1 hP hD hS [] rfl rfl (fun r24 H locs hw23 hP hS => ?_)
      have w25 : r24.toInt = 7 := hw23
      clear hw23
      refine lv_icmp_ge (tgt := 34) hx hb dX5_expectOnce_7 (by decide) (fun c26 => ?_) (fun c26 => ?_)
      · have f26 : r24.toInt ≤ v20.toInt := f_le rfl rfl c26
        rw [hQ]
        exact x_v cx hr g21 hP hD hS ⟨ag21, (show 0 ≤ (g21 3).toInt ∧ (g21 3).toInt ≤ 7 from by omega), (show 0 ≤ (g21 16).toInt ∧ (g21 16).toInt ≤ 7 from by omega), (show g21 = J_X5_expectOnce_S0 sr sc st p0 from eo_end (by show 7 ≤ _; omega) qE)⟩ dX5_expectOnce_34
      · have f26 : v20.toInt < r24.toInt := f_nle rfl rfl c26
        refine lv_aload_n hx hb dX5_expectOnce_10 rfl (lv_at hl 1 rfl) ?_
        refine g_get cx hP iw_X5_expectOnce_S0_X5 0 rfl rfl 1 (by decide) rfl fw_X5_expectOnce_S0_9 rfl dX5_expectOnce_11 ?_
        refine lv_aload_n hx hb dX5_expectOnce_14 rfl (lv_at hl 2 rfl) ?_
        refine lv_iload_n hx hb dX5_expectOnce_15 rfl (lv_at hl 0 rfl) ?_
        refine g_ir (g_runK (rest := [.ref (qr 1)]) cx hP hD hS (i := 0) (Nat.le_of_ble_eq_true rfl) [.int v20] (c_J0_charAt_5068e_S0 l D k b H.size v20 (show 0 ≤ v20.toInt ∧ v20.toInt ≤ 6 from by first | decide | omega)) gX5_expectOnce_J0_charAt_5068e rfl rfl rfl nd_J0_charAt_5068e ⟨Nat.le_of_ble_eq_true rfl, Nat.le_of_ble_eq_true rfl⟩ rfl hl.1 rfl (Nat.le_of_ble_eq_true rfl) ⟨Nat.zero_le _, Nat.zero_le _⟩ dX5_expectOnce_16) cx.2.2.1 hP hD hS [] rfl rfl (fun r28 H locs hw27 hP hS => ?_)
        replace hw27 : (65 ≤ r28.toInt ∧ r28.toInt ≤ 90) ∧ (¬ 0 = 1 ∨ r28.toInt = 87 ∨ r28.toInt = 79) ∧ (r28 = (zBYT.getD 0 []).getD (Int.toNat v20.toInt) 0) := hw27
        obtain ⟨w29, w30, w31⟩ := hw27
        have cw := w30
        have hcx_ := w31
        refine lv_bipush (v := 65) hx hb dX5_expectOnce_19 (by decide) ?_
        refine lv_isub hx hb dX5_expectOnce_21 (lv_topi (fun v32 e32 => ?_))
        have t32 : v32.toInt = r28.toInt - 65 := by rw [e32]; exact i_sub rfl (by decide) (by omega) (by omega)
        have hd_ := e32
        refine lv_iconst (v := 0) hx hb dX5_expectOnce_22 (by decide) ?_
        refine lv_iload_n hx hb dX5_expectOnce_23 rfl (lv_at hl 3 rfl) ?_
        have hlit33 : (0 : Int32).toInt = 0 := by decide
        refine g_ir (g_runS (wc := []) (rest := [.int v32, .ref (qr 1)]) cx hP hD hS [] rfl (by decide) [.int 0, .int p0] (c_X2_figures l D k b H.size 0 p0) gX5_expectOnce_X2_figures rfl rfl rfl nd_X2_figures ⟨Nat.le_of_ble_eq_true rfl, Nat.le_of_ble_eq_true rfl⟩ rfl hl.1 rfl (Nat.le_of_ble_eq_true rfl) ⟨Nat.zero_le _, Nat.zero_le _⟩ dX5_expectOnce_24) cx.2.2.1 hP hD hS [] rfl rfl (fun r35 H locs hw34 hP hS => ?_)
        have w36 : r35 = J_X2_figures (0 : Int32) p0 := hw34
        clear hw34
        have zr35 := fig_t w36 ⟨by omega, by omega⟩
        have hm_ := w36
        have hn37 : vp_in v32 26 := f_in (a := v32.toInt) rfl (by omega) (by omega)
        refine va_iast hx hb cx.2.1 hP hD hS 1 0 rfl rfl hn37 dX5_expectOnce_27 (fun H locs hP hD hS => ?_)
        obtain ⟨g38, eg38⟩ : ∃ g : Nat → Int32, g = upd g21 (v32).toNatClampNeg r35 := ⟨_, rfl⟩
        rw [← eg38] at hP hD
        have hP : va_P D vwCl [(qr 0, .inr (3, [.ref (qc 0), .ref (qr 1)])), (qr 1, .inl (k 0, 26, .inl g38)), (qc 0, .inr (1, [.ref (qt 0), .int (sc 0 1), .int (sc 0 2)])), (qt 0, .inr (8, [.ref (qt 1), .int (st 0 1)])), (qt 1, .inl (k 2, 64, .inl (st 1)))] H := hP
        have hD : va_D A [(qr 0, .inr (3, [.ref (qc 0), .ref (qr 1)])), (qr 1, .inl (k 0, 26, .inl g38)), (qc 0, .inr (1, [.ref (qt 0), .int (sc 0 1), .int (sc 0 2)])), (qt 0, .inr (8, [.ref (qt 1), .int (st 0 1)])), (qt 1, .inl (k 2, 64, .inl (st 1)))] := hD
        have ag38 : ∀ j, 0 ≤ (g38 j).toInt ∧ (g38 j).toInt ≤ 31 := by rw [eg38]; exact upd_all ag21 ⟨by first | decide | omega, by first | decide | omega⟩
        have s39 := updI eg38 rfl (show 0 ≤ v32.toInt from by omega) 3
        have s40 := updI eg38 rfl (show 0 ≤ v32.toInt from by omega) 16
        have hg_ := eg38
        rw [hm_] at hg_
        obtain ⟨v41, e41⟩ : ∃ z : Int32, z = v20 + 1 := ⟨_, rfl⟩
        refine lv_iinc (v := v41) (lv' := [(3, .int v41), (0, .ref (qr 0)), (1, .ref (b 10)), (2, .int p0)]) hx hb dX5_expectOnce_28 hl (k := 0) rfl (by rw [e41]; rfl) (by decide) rfl (fun ls hl => ?_)
        have t41 : v41.toInt = v20.toInt + 1 := by rw [e41]; exact i_add rfl (by decide) (by omega) (by omega)
        refine lv_goto (tgt := 2) hx hb dX5_expectOnce_31 (by decide) ?_
        exact ih2 v41 g38 _ _ _ (by omega) (by first | decide | omega) (by first | decide | omega) (by first | decide | omega) (eo_go (by show _ < 7; omega) (by omega) hcx_ hd_ hg_ qE) ag38 hP hD hS (lv_sub hl [0, 1, 2, 3] rfl)
  have hlit42 : (0 : Int32).toInt = 0 := by decide
  exact hL2 (Int.toNat (7 - 0) + 1) 0 (sr 1) _ _ _ (by omega) (by first | decide | omega) (by first | decide | omega) (by first | decide | omega) rfl u_a hP hD hS (lv_sub hl [0, 1, 2, 3] rfl)
theorem fw_X5_expectOnce_S1_9 : Cond.fieldLink RX5 9 "StillInAugust$HouseReader" "untold" "[I" ∈ wsX5_expectOnce := by decide +kernel
theorem iw_X5_expectOnce_S1_X5 : ∀ w ∈ u_ws RX5 TX5 2, w ∈ wsX5_expectOnce := fun _ h => List.mem_cons_of_mem _ (List.mem_append_right _ h)
set_option maxHeartbeats 4000000 in
set_option maxRecDepth 100000 in
theorem c_X5_expectOnce_S1 (l : Launch) (D : va_G) (k : Nat → ClassId) (b : Nat → Nat) (qr : Nat → Nat) (sr : Nat → Nat → Int32) (qc : Nat → Nat) (sc : Nat → Nat → Int32) (qt : Nat → Nat) (st : Nat → Nat → Int32) (sz : Nat) (p0 : Int32) (u_a : ∀ j, 0 ≤ (sr 1 j).toInt ∧ (sr 1 j).toInt ≤ 31) (u_3 : 0 ≤ (sr 1 3).toInt ∧ (sr 1 3).toInt ≤ 7) (u_16 : 0 ≤ (sr 1 16).toInt ∧ (sr 1 16).toInt ≤ 7) (hp0 : -1 ≤ p0.toInt ∧ p0.toInt ≤ 4) : MetV l D k b yX5_expectOnce wsX5_expectOnce ({ frames := 4, cells := 0, slots := 0, locals := 85 } : Room) [(qr 0, .inr (3, [.ref (qc 0), .ref (qr 1)])), (qr 1, .inl (k 0, 26, .inl (sr 1))), (qc 0, .inr (1, [.ref (qt 0), .int (sc 0 1), .int (sc 0 2)])), (qt 0, .inr (8, [.ref (qt 1), .int (st 0 1)])), (qt 1, .inl (k 2, 64, .inl (st 1)))] sz [.ref (qr 0), .ref (b 11), .int p0] (fun (u : (Nat → Int32)) => (∀ j, 0 ≤ (u j).toInt ∧ (u j).toInt ≤ 31) ∧ (0 ≤ (u 3).toInt ∧ (u 3).toInt ≤ 7) ∧ (0 ≤ (u 16).toInt ∧ (u 16).toInt ≤ 7) ∧ (u = J_X5_expectOnce_S1 sr sc st p0)) (fun u => [(qr 0, .inr (3, [.ref (qc 0), .ref (qr 1)])), (qr 1, .inl (k 0, 26, .inl u)), (qc 0, .inr (1, [.ref (qt 0), .int (sc 0 1), .int (sc 0 2)])), (qt 0, .inr (8, [.ref (qt 1), .int (st 0 1)])), (qt 1, .inl (k 2, 64, .inl (st 1)))]) := by
  refine g_enter (cc := cX5_expectOnce) (maxL := 4) (ret := none) (by decide) rfl (Nat.le_of_ble_eq_true rfl) ?_
  intro p e s m below meth c A hsz hAe cx hr hP hD hS ls hl
  rw [hAe]
  refine g_q (fun Q hQ => ?_)
  have hx := cx.1.1
  have hb := cx.1.2.1
  have bp0 := i_rng p0
  have hl : lv_has ls 4 [(0, .ref (qr 0)), (1, .ref (b 11)), (2, .int p0)] := hl
  obtain ⟨H, eH⟩ : ∃ H : Heap, H = s.heap := ⟨_, rfl⟩
  obtain ⟨locs, el⟩ : ∃ L : List Loc, L = [] := ⟨_, rfl⟩
  have hP : va_P D vwCl [(qr 0, .inr (3, [.ref (qc 0), .ref (qr 1)])), (qr 1, .inl (k 0, 26, .inl (sr 1))), (qc 0, .inr (1, [.ref (qt 0), .int (sc 0 1), .int (sc 0 2)])), (qt 0, .inr (8, [.ref (qt 1), .int (st 0 1)])), (qt 1, .inl (k 2, 64, .inl (st 1)))] H := by rw [eH]; exact hP
  have hD : va_D A [(qr 0, .inr (3, [.ref (qc 0), .ref (qr 1)])), (qr 1, .inl (k 0, 26, .inl (sr 1))), (qc 0, .inr (1, [.ref (qt 0), .int (sc 0 1), .int (sc 0 2)])), (qt 0, .inr (8, [.ref (qt 1), .int (st 0 1)])), (qt 1, .inl (k 2, 64, .inl (st 1)))] := hD
  have hS : va_S A s.heap H locs := by rw [eH, el]; exact hS
  suffices goal : W p l e ({ frames := 4, cells := 0, slots := 0, locals := 85 } : Room) s m ([.ref (qr 0), .ref (b 11), .int p0] : List Value).toArray below meth c H locs 0 0 Q (F0 m 0 ls []) by rw [eH, el] at goal; exact goal
  refine lv_iconst (v := 0) hx hb dX5_expectOnce_0 (by decide) ?_
  refine lv_istore_n (lv' := [(3, .int 0), (0, .ref (qr 0)), (1, .ref (b 11)), (2, .int p0)]) hx hb dX5_expectOnce_1 rfl hl (by decide) rfl (fun ls hl => ?_)
  have hL2 : ∀ (n22 : Nat) (v20 : Int32) (g21 : Nat → Int32) (H : Heap) (locs : List Loc) (ls : Array Slot), 2 - v20.toInt < (n22 : Int) → (0 ≤ v20.toInt ∧ v20.toInt ≤ 2) → (0 ≤ (g21 3).toInt ∧ (g21 3).toInt ≤ 7) → (0 ≤ (g21 16).toInt ∧ (g21 16).toInt ≤ 7) → (eoF (J_X2_figures 0 p0) ((zBYT.getD 1 []).drop (Int.toNat v20.toInt)) g21 = eoF (J_X2_figures 0 p0) (zBYT.getD 1 []) (sr 1)) → (∀ j, 0 ≤ (g21 j).toInt ∧ (g21 j).toInt ≤ 31) → va_P D vwCl [(qr 0, .inr (3, [.ref (qc 0), .ref (qr 1)])), (qr 1, .inl (k 0, 26, .inl g21)), (qc 0, .inr (1, [.ref (qt 0), .int (sc 0 1), .int (sc 0 2)])), (qt 0, .inr (8, [.ref (qt 1), .int (st 0 1)])), (qt 1, .inl (k 2, 64, .inl (st 1)))] H → va_D A [(qr 0, .inr (3, [.ref (qc 0), .ref (qr 1)])), (qr 1, .inl (k 0, 26, .inl g21)), (qc 0, .inr (1, [.ref (qt 0), .int (sc 0 1), .int (sc 0 2)])), (qt 0, .inr (8, [.ref (qt 1), .int (st 0 1)])), (qt 1, .inl (k 2, 64, .inl (st 1)))] → va_S A s.heap H locs → lv_has ls 4 [(3, .int v20), (0, .ref (qr 0)), (1, .ref (b 11)), (2, .int p0)] → W p l e ({ frames := 4, cells := 0, slots := 0, locals := 85 } : Room) s m ([.ref (qr 0), .ref (b 11), .int p0] : List Value).toArray below meth c H locs 0 0 Q (F0 m 2 ls []) := by
    intro n22
    induction n22 with
    | zero => intro v20 g21 H locs ls hmn22 bv20 u3 u16 qE ag21 hP hD hS hl; exact absurd hmn22 (by omega)
    | succ n22 ih2 =>
      intro v20 g21 H locs ls hmn22 bv20 u3 u16 qE ag21 hP hD hS hl
      refine lv_iload_n hx hb dX5_expectOnce_2 rfl (lv_at hl 0 rfl) ?_
      refine lv_aload_n hx hb dX5_expectOnce_3 rfl (lv_at hl 2 rfl) ?_
      refine g_ir (g_runK (rest := [.int v20]) cx hP hD hS (i := 1) (Nat.le_of_ble_eq_true rfl) [] (c_J0_length_8abf5_S1 l D k b H.size) gX5_expectOnce_J0_length_8abf5 rfl rfl rfl nd_J0_length_8abf5 ⟨Nat.le_of_ble_eq_true rfl, Nat.le_of_ble_eq_true rfl⟩ rfl hl.1 rfl (Nat.le_of_ble_eq_true rfl) ⟨Nat.zero_le _, Nat.zero_le _⟩ dX5_expectOnce_4) cx.2.2.1 hP hD hS [] rfl rfl (fun r24 H locs hw23 hP hS => ?_)
      have w25 : r24.toInt = 2 := hw23
      clear hw23
      refine lv_icmp_ge (tgt := 34) hx hb dX5_expectOnce_7 (by decide) (fun c26 => ?_) (fun c26 => ?_)
      · have f26 : r24.toInt ≤ v20.toInt := f_le rfl rfl c26
        rw [hQ]
        exact x_v cx hr g21 hP hD hS ⟨ag21, (show 0 ≤ (g21 3).toInt ∧ (g21 3).toInt ≤ 7 from by omega), (show 0 ≤ (g21 16).toInt ∧ (g21 16).toInt ≤ 7 from by omega), (show g21 = J_X5_expectOnce_S1 sr sc st p0 from eo_end (by show 2 ≤ _; omega) qE)⟩ dX5_expectOnce_34
      · have f26 : v20.toInt < r24.toInt := f_nle rfl rfl c26
        refine lv_aload_n hx hb dX5_expectOnce_10 rfl (lv_at hl 1 rfl) ?_
        refine g_get cx hP iw_X5_expectOnce_S1_X5 0 rfl rfl 1 (by decide) rfl fw_X5_expectOnce_S1_9 rfl dX5_expectOnce_11 ?_
        refine lv_aload_n hx hb dX5_expectOnce_14 rfl (lv_at hl 2 rfl) ?_
        refine lv_iload_n hx hb dX5_expectOnce_15 rfl (lv_at hl 0 rfl) ?_
        refine g_ir (g_runK (rest := [.ref (qr 1)]) cx hP hD hS (i := 1) (Nat.le_of_ble_eq_true rfl) [.int v20] (c_J0_charAt_5068e_S1 l D k b H.size v20 (show 0 ≤ v20.toInt ∧ v20.toInt ≤ 1 from by first | decide | omega)) gX5_expectOnce_J0_charAt_5068e rfl rfl rfl nd_J0_charAt_5068e ⟨Nat.le_of_ble_eq_true rfl, Nat.le_of_ble_eq_true rfl⟩ rfl hl.1 rfl (Nat.le_of_ble_eq_true rfl) ⟨Nat.zero_le _, Nat.zero_le _⟩ dX5_expectOnce_16) cx.2.2.1 hP hD hS [] rfl rfl (fun r28 H locs hw27 hP hS => ?_)
        replace hw27 : (65 ≤ r28.toInt ∧ r28.toInt ≤ 90) ∧ (¬ 1 = 1 ∨ r28.toInt = 87 ∨ r28.toInt = 79) ∧ (r28 = (zBYT.getD 1 []).getD (Int.toNat v20.toInt) 0) := hw27
        obtain ⟨w29, w30, w31⟩ := hw27
        have cw := w30
        have hcx_ := w31
        refine lv_bipush (v := 65) hx hb dX5_expectOnce_19 (by decide) ?_
        refine lv_isub hx hb dX5_expectOnce_21 (lv_topi (fun v32 e32 => ?_))
        have t32 : v32.toInt = r28.toInt - 65 := by rw [e32]; exact i_sub rfl (by decide) (by omega) (by omega)
        have hd_ := e32
        refine lv_iconst (v := 0) hx hb dX5_expectOnce_22 (by decide) ?_
        refine lv_iload_n hx hb dX5_expectOnce_23 rfl (lv_at hl 3 rfl) ?_
        have hlit33 : (0 : Int32).toInt = 0 := by decide
        refine g_ir (g_runS (wc := []) (rest := [.int v32, .ref (qr 1)]) cx hP hD hS [] rfl (by decide) [.int 0, .int p0] (c_X2_figures l D k b H.size 0 p0) gX5_expectOnce_X2_figures rfl rfl rfl nd_X2_figures ⟨Nat.le_of_ble_eq_true rfl, Nat.le_of_ble_eq_true rfl⟩ rfl hl.1 rfl (Nat.le_of_ble_eq_true rfl) ⟨Nat.zero_le _, Nat.zero_le _⟩ dX5_expectOnce_24) cx.2.2.1 hP hD hS [] rfl rfl (fun r35 H locs hw34 hP hS => ?_)
        have w36 : r35 = J_X2_figures (0 : Int32) p0 := hw34
        clear hw34
        have zr35 := fig_t w36 ⟨by omega, by omega⟩
        have hm_ := w36
        have hn37 : vp_in v32 26 := f_in (a := v32.toInt) rfl (by omega) (by omega)
        refine va_iast hx hb cx.2.1 hP hD hS 1 0 rfl rfl hn37 dX5_expectOnce_27 (fun H locs hP hD hS => ?_)
        obtain ⟨g38, eg38⟩ : ∃ g : Nat → Int32, g = upd g21 (v32).toNatClampNeg r35 := ⟨_, rfl⟩
        rw [← eg38] at hP hD
        have hP : va_P D vwCl [(qr 0, .inr (3, [.ref (qc 0), .ref (qr 1)])), (qr 1, .inl (k 0, 26, .inl g38)), (qc 0, .inr (1, [.ref (qt 0), .int (sc 0 1), .int (sc 0 2)])), (qt 0, .inr (8, [.ref (qt 1), .int (st 0 1)])), (qt 1, .inl (k 2, 64, .inl (st 1)))] H := hP
        have hD : va_D A [(qr 0, .inr (3, [.ref (qc 0), .ref (qr 1)])), (qr 1, .inl (k 0, 26, .inl g38)), (qc 0, .inr (1, [.ref (qt 0), .int (sc 0 1), .int (sc 0 2)])), (qt 0, .inr (8, [.ref (qt 1), .int (st 0 1)])), (qt 1, .inl (k 2, 64, .inl (st 1)))] := hD
        have ag38 : ∀ j, 0 ≤ (g38 j).toInt ∧ (g38 j).toInt ≤ 31 := by rw [eg38]; exact upd_all ag21 ⟨by first | decide | omega, by first | decide | omega⟩
        have s39 := updI eg38 rfl (show 0 ≤ v32.toInt from by omega) 3
        have s40 := updI eg38 rfl (show 0 ≤ v32.toInt from by omega) 16
        have hg_ := eg38
        rw [hm_] at hg_
        obtain ⟨v41, e41⟩ : ∃ z : Int32, z = v20 + 1 := ⟨_, rfl⟩
        refine lv_iinc (v := v41) (lv' := [(3, .int v41), (0, .ref (qr 0)), (1, .ref (b 11)), (2, .int p0)]) hx hb dX5_expectOnce_28 hl (k := 0) rfl (by rw [e41]; rfl) (by decide) rfl (fun ls hl => ?_)
        have t41 : v41.toInt = v20.toInt + 1 := by rw [e41]; exact i_add rfl (by decide) (by omega) (by omega)
        refine lv_goto (tgt := 2) hx hb dX5_expectOnce_31 (by decide) ?_
        exact ih2 v41 g38 _ _ _ (by omega) (by first | decide | omega) (by first | decide | omega) (by first | decide | omega) (eo_go (by show _ < 2; omega) (by omega) hcx_ hd_ hg_ qE) ag38 hP hD hS (lv_sub hl [0, 1, 2, 3] rfl)
  have hlit42 : (0 : Int32).toInt = 0 := by decide
  exact hL2 (Int.toNat (2 - 0) + 1) 0 (sr 1) _ _ _ (by omega) (by first | decide | omega) (by first | decide | omega) (by first | decide | omega) rfl u_a hP hD hS (lv_sub hl [0, 1, 2, 3] rfl)
theorem fw_X5_expectOnce_S2_9 : Cond.fieldLink RX5 9 "StillInAugust$HouseReader" "untold" "[I" ∈ wsX5_expectOnce := by decide +kernel
theorem iw_X5_expectOnce_S2_X5 : ∀ w ∈ u_ws RX5 TX5 2, w ∈ wsX5_expectOnce := fun _ h => List.mem_cons_of_mem _ (List.mem_append_right _ h)
set_option maxHeartbeats 4000000 in
set_option maxRecDepth 100000 in
theorem c_X5_expectOnce_S2 (l : Launch) (D : va_G) (k : Nat → ClassId) (b : Nat → Nat) (qr : Nat → Nat) (sr : Nat → Nat → Int32) (qc : Nat → Nat) (sc : Nat → Nat → Int32) (qt : Nat → Nat) (st : Nat → Nat → Int32) (sz : Nat) (p0 : Int32) (u_a : ∀ j, 0 ≤ (sr 1 j).toInt ∧ (sr 1 j).toInt ≤ 31) (u_3 : 0 ≤ (sr 1 3).toInt ∧ (sr 1 3).toInt ≤ 7) (u_16 : 0 ≤ (sr 1 16).toInt ∧ (sr 1 16).toInt ≤ 7) (hp0 : -1 ≤ p0.toInt ∧ p0.toInt ≤ 2) : MetV l D k b yX5_expectOnce wsX5_expectOnce ({ frames := 4, cells := 0, slots := 0, locals := 85 } : Room) [(qr 0, .inr (3, [.ref (qc 0), .ref (qr 1)])), (qr 1, .inl (k 0, 26, .inl (sr 1))), (qc 0, .inr (1, [.ref (qt 0), .int (sc 0 1), .int (sc 0 2)])), (qt 0, .inr (8, [.ref (qt 1), .int (st 0 1)])), (qt 1, .inl (k 2, 64, .inl (st 1)))] sz [.ref (qr 0), .ref (b 12), .int p0] (fun (u : (Nat → Int32)) => (∀ j, 0 ≤ (u j).toInt ∧ (u j).toInt ≤ 31) ∧ (0 ≤ (u 3).toInt ∧ (u 3).toInt ≤ 7) ∧ (0 ≤ (u 16).toInt ∧ (u 16).toInt ≤ 7) ∧ (u = J_X5_expectOnce_S2 sr sc st p0)) (fun u => [(qr 0, .inr (3, [.ref (qc 0), .ref (qr 1)])), (qr 1, .inl (k 0, 26, .inl u)), (qc 0, .inr (1, [.ref (qt 0), .int (sc 0 1), .int (sc 0 2)])), (qt 0, .inr (8, [.ref (qt 1), .int (st 0 1)])), (qt 1, .inl (k 2, 64, .inl (st 1)))]) := by
  refine g_enter (cc := cX5_expectOnce) (maxL := 4) (ret := none) (by decide) rfl (Nat.le_of_ble_eq_true rfl) ?_
  intro p e s m below meth c A hsz hAe cx hr hP hD hS ls hl
  rw [hAe]
  refine g_q (fun Q hQ => ?_)
  have hx := cx.1.1
  have hb := cx.1.2.1
  have bp0 := i_rng p0
  have hl : lv_has ls 4 [(0, .ref (qr 0)), (1, .ref (b 12)), (2, .int p0)] := hl
  obtain ⟨H, eH⟩ : ∃ H : Heap, H = s.heap := ⟨_, rfl⟩
  obtain ⟨locs, el⟩ : ∃ L : List Loc, L = [] := ⟨_, rfl⟩
  have hP : va_P D vwCl [(qr 0, .inr (3, [.ref (qc 0), .ref (qr 1)])), (qr 1, .inl (k 0, 26, .inl (sr 1))), (qc 0, .inr (1, [.ref (qt 0), .int (sc 0 1), .int (sc 0 2)])), (qt 0, .inr (8, [.ref (qt 1), .int (st 0 1)])), (qt 1, .inl (k 2, 64, .inl (st 1)))] H := by rw [eH]; exact hP
  have hD : va_D A [(qr 0, .inr (3, [.ref (qc 0), .ref (qr 1)])), (qr 1, .inl (k 0, 26, .inl (sr 1))), (qc 0, .inr (1, [.ref (qt 0), .int (sc 0 1), .int (sc 0 2)])), (qt 0, .inr (8, [.ref (qt 1), .int (st 0 1)])), (qt 1, .inl (k 2, 64, .inl (st 1)))] := hD
  have hS : va_S A s.heap H locs := by rw [eH, el]; exact hS
  suffices goal : W p l e ({ frames := 4, cells := 0, slots := 0, locals := 85 } : Room) s m ([.ref (qr 0), .ref (b 12), .int p0] : List Value).toArray below meth c H locs 0 0 Q (F0 m 0 ls []) by rw [eH, el] at goal; exact goal
  refine lv_iconst (v := 0) hx hb dX5_expectOnce_0 (by decide) ?_
  refine lv_istore_n (lv' := [(3, .int 0), (0, .ref (qr 0)), (1, .ref (b 12)), (2, .int p0)]) hx hb dX5_expectOnce_1 rfl hl (by decide) rfl (fun ls hl => ?_)
  have hL2 : ∀ (n22 : Nat) (v20 : Int32) (g21 : Nat → Int32) (H : Heap) (locs : List Loc) (ls : Array Slot), 2 - v20.toInt < (n22 : Int) → (0 ≤ v20.toInt ∧ v20.toInt ≤ 2) → (0 ≤ (g21 3).toInt ∧ (g21 3).toInt ≤ 7) → (0 ≤ (g21 16).toInt ∧ (g21 16).toInt ≤ 7) → (eoF (J_X2_figures 0 p0) ((zBYT.getD 2 []).drop (Int.toNat v20.toInt)) g21 = eoF (J_X2_figures 0 p0) (zBYT.getD 2 []) (sr 1)) → (∀ j, 0 ≤ (g21 j).toInt ∧ (g21 j).toInt ≤ 31) → va_P D vwCl [(qr 0, .inr (3, [.ref (qc 0), .ref (qr 1)])), (qr 1, .inl (k 0, 26, .inl g21)), (qc 0, .inr (1, [.ref (qt 0), .int (sc 0 1), .int (sc 0 2)])), (qt 0, .inr (8, [.ref (qt 1), .int (st 0 1)])), (qt 1, .inl (k 2, 64, .inl (st 1)))] H → va_D A [(qr 0, .inr (3, [.ref (qc 0), .ref (qr 1)])), (qr 1, .inl (k 0, 26, .inl g21)), (qc 0, .inr (1, [.ref (qt 0), .int (sc 0 1), .int (sc 0 2)])), (qt 0, .inr (8, [.ref (qt 1), .int (st 0 1)])), (qt 1, .inl (k 2, 64, .inl (st 1)))] → va_S A s.heap H locs → lv_has ls 4 [(3, .int v20), (0, .ref (qr 0)), (1, .ref (b 12)), (2, .int p0)] → W p l e ({ frames := 4, cells := 0, slots := 0, locals := 85 } : Room) s m ([.ref (qr 0), .ref (b 12), .int p0] : List Value).toArray below meth c H locs 0 0 Q (F0 m 2 ls []) := by
    intro n22
    induction n22 with
    | zero => intro v20 g21 H locs ls hmn22 bv20 u3 u16 qE ag21 hP hD hS hl; exact absurd hmn22 (by omega)
    | succ n22 ih2 =>
      intro v20 g21 H locs ls hmn22 bv20 u3 u16 qE ag21 hP hD hS hl
      refine lv_iload_n hx hb dX5_expectOnce_2 rfl (lv_at hl 0 rfl) ?_
      refine lv_aload_n hx hb dX5_expectOnce_3 rfl (lv_at hl 2 rfl) ?_
      refine g_ir (g_runK (rest := [.int v20]) cx hP hD hS (i := 2) (Nat.le_of_ble_eq_true rfl) [] (c_J0_length_8abf5_S2 l D k b H.size) gX5_expectOnce_J0_length_8abf5 rfl rfl rfl nd_J0_length_8abf5 ⟨Nat.le_of_ble_eq_true rfl, Nat.le_of_ble_eq_true rfl⟩ rfl hl.1 rfl (Nat.le_of_ble_eq_true rfl) ⟨Nat.zero_le _, Nat.zero_le _⟩ dX5_expectOnce_4) cx.2.2.1 hP hD hS [] rfl rfl (fun r24 H locs hw23 hP hS => ?_)
      have w25 : r24.toInt = 2 := hw23
      clear hw23
      refine lv_icmp_ge (tgt := 34) hx hb dX5_expectOnce_7 (by decide) (fun c26 => ?_) (fun c26 => ?_)
      · have f26 : r24.toInt ≤ v20.toInt := f_le rfl rfl c26
        rw [hQ]
        exact x_v cx hr g21 hP hD hS ⟨ag21, (show 0 ≤ (g21 3).toInt ∧ (g21 3).toInt ≤ 7 from by omega), (show 0 ≤ (g21 16).toInt ∧ (g21 16).toInt ≤ 7 from by omega), (show g21 = J_X5_expectOnce_S2 sr sc st p0 from eo_end (by show 2 ≤ _; omega) qE)⟩ dX5_expectOnce_34
      · have f26 : v20.toInt < r24.toInt := f_nle rfl rfl c26
        refine lv_aload_n hx hb dX5_expectOnce_10 rfl (lv_at hl 1 rfl) ?_
        refine g_get cx hP iw_X5_expectOnce_S2_X5 0 rfl rfl 1 (by decide) rfl fw_X5_expectOnce_S2_9 rfl dX5_expectOnce_11 ?_
        refine lv_aload_n hx hb dX5_expectOnce_14 rfl (lv_at hl 2 rfl) ?_
        refine lv_iload_n hx hb dX5_expectOnce_15 rfl (lv_at hl 0 rfl) ?_
        refine g_ir (g_runK (rest := [.ref (qr 1)]) cx hP hD hS (i := 2) (Nat.le_of_ble_eq_true rfl) [.int v20] (c_J0_charAt_5068e_S2 l D k b H.size v20 (show 0 ≤ v20.toInt ∧ v20.toInt ≤ 1 from by first | decide | omega)) gX5_expectOnce_J0_charAt_5068e rfl rfl rfl nd_J0_charAt_5068e ⟨Nat.le_of_ble_eq_true rfl, Nat.le_of_ble_eq_true rfl⟩ rfl hl.1 rfl (Nat.le_of_ble_eq_true rfl) ⟨Nat.zero_le _, Nat.zero_le _⟩ dX5_expectOnce_16) cx.2.2.1 hP hD hS [] rfl rfl (fun r28 H locs hw27 hP hS => ?_)
        replace hw27 : (65 ≤ r28.toInt ∧ r28.toInt ≤ 90) ∧ (¬ 2 = 1 ∨ r28.toInt = 87 ∨ r28.toInt = 79) ∧ (r28 = (zBYT.getD 2 []).getD (Int.toNat v20.toInt) 0) := hw27
        obtain ⟨w29, w30, w31⟩ := hw27
        have cw := w30
        have hcx_ := w31
        refine lv_bipush (v := 65) hx hb dX5_expectOnce_19 (by decide) ?_
        refine lv_isub hx hb dX5_expectOnce_21 (lv_topi (fun v32 e32 => ?_))
        have t32 : v32.toInt = r28.toInt - 65 := by rw [e32]; exact i_sub rfl (by decide) (by omega) (by omega)
        have hd_ := e32
        refine lv_iconst (v := 0) hx hb dX5_expectOnce_22 (by decide) ?_
        refine lv_iload_n hx hb dX5_expectOnce_23 rfl (lv_at hl 3 rfl) ?_
        have hlit33 : (0 : Int32).toInt = 0 := by decide
        refine g_ir (g_runS (wc := []) (rest := [.int v32, .ref (qr 1)]) cx hP hD hS [] rfl (by decide) [.int 0, .int p0] (c_X2_figures l D k b H.size 0 p0) gX5_expectOnce_X2_figures rfl rfl rfl nd_X2_figures ⟨Nat.le_of_ble_eq_true rfl, Nat.le_of_ble_eq_true rfl⟩ rfl hl.1 rfl (Nat.le_of_ble_eq_true rfl) ⟨Nat.zero_le _, Nat.zero_le _⟩ dX5_expectOnce_24) cx.2.2.1 hP hD hS [] rfl rfl (fun r35 H locs hw34 hP hS => ?_)
        have w36 : r35 = J_X2_figures (0 : Int32) p0 := hw34
        clear hw34
        have zr35 := fig_t w36 ⟨by omega, by omega⟩
        have hm_ := w36
        have hn37 : vp_in v32 26 := f_in (a := v32.toInt) rfl (by omega) (by omega)
        refine va_iast hx hb cx.2.1 hP hD hS 1 0 rfl rfl hn37 dX5_expectOnce_27 (fun H locs hP hD hS => ?_)
        obtain ⟨g38, eg38⟩ : ∃ g : Nat → Int32, g = upd g21 (v32).toNatClampNeg r35 := ⟨_, rfl⟩
        rw [← eg38] at hP hD
        have hP : va_P D vwCl [(qr 0, .inr (3, [.ref (qc 0), .ref (qr 1)])), (qr 1, .inl (k 0, 26, .inl g38)), (qc 0, .inr (1, [.ref (qt 0), .int (sc 0 1), .int (sc 0 2)])), (qt 0, .inr (8, [.ref (qt 1), .int (st 0 1)])), (qt 1, .inl (k 2, 64, .inl (st 1)))] H := hP
        have hD : va_D A [(qr 0, .inr (3, [.ref (qc 0), .ref (qr 1)])), (qr 1, .inl (k 0, 26, .inl g38)), (qc 0, .inr (1, [.ref (qt 0), .int (sc 0 1), .int (sc 0 2)])), (qt 0, .inr (8, [.ref (qt 1), .int (st 0 1)])), (qt 1, .inl (k 2, 64, .inl (st 1)))] := hD
        have ag38 : ∀ j, 0 ≤ (g38 j).toInt ∧ (g38 j).toInt ≤ 31 := by rw [eg38]; exact upd_all ag21 ⟨by first | decide | omega, by first | decide | omega⟩
        have s39 := updI eg38 rfl (show 0 ≤ v32.toInt from by omega) 3
        have s40 := updI eg38 rfl (show 0 ≤ v32.toInt from by omega) 16
        have hg_ := eg38
        rw [hm_] at hg_
        obtain ⟨v41, e41⟩ : ∃ z : Int32, z = v20 + 1 := ⟨_, rfl⟩
        refine lv_iinc (v := v41) (lv' := [(3, .int v41), (0, .ref (qr 0)), (1, .ref (b 12)), (2, .int p0)]) hx hb dX5_expectOnce_28 hl (k := 0) rfl (by rw [e41]; rfl) (by decide) rfl (fun ls hl => ?_)
        have t41 : v41.toInt = v20.toInt + 1 := by rw [e41]; exact i_add rfl (by decide) (by omega) (by omega)
        refine lv_goto (tgt := 2) hx hb dX5_expectOnce_31 (by decide) ?_
        exact ih2 v41 g38 _ _ _ (by omega) (by first | decide | omega) (by first | decide | omega) (by first | decide | omega) (eo_go (by show _ < 2; omega) (by omega) hcx_ hd_ hg_ qE) ag38 hP hD hS (lv_sub hl [0, 1, 2, 3] rfl)
  have hlit42 : (0 : Int32).toInt = 0 := by decide
  exact hL2 (Int.toNat (2 - 0) + 1) 0 (sr 1) _ _ _ (by omega) (by first | decide | omega) (by first | decide | omega) (by first | decide | omega) rfl u_a hP hD hS (lv_sub hl [0, 1, 2, 3] rfl)
theorem nd_X5_expectOnce : yX5_expectOnce.cls = RX5 ∧ yX5_expectOnce.cls ≠ "java/lang/invoke/MethodHandle" ∧ yX5_expectOnce.cls ≠ "java/lang/invoke/VarHandle" ∧ (parseMethodDescriptor yX5_expectOnce.desc).map (fun d => d.parameters.length) = some 2 := by decide +kernel
def J_X5_expectParts (sr : Nat → Nat → Int32) (sc : Nat → Nat → Int32) (st : Nat → Nat → Int32) (p0 : Int32) : (Nat → Int32) := let y9 := J_X5_expectOnce_S0 sr sc st 0; let y19 := J_X5_expectOnce_S1 (up2 sr 1 y9) sc st (p0 - (1 : Int32)); let y29 := J_X5_expectOnce_S2 (up2 sr 1 y19) sc st 2; y29
set_option maxHeartbeats 4000000 in
set_option maxRecDepth 100000 in
theorem c_X5_expectParts (l : Launch) (D : va_G) (k : Nat → ClassId) (b : Nat → Nat) (qr : Nat → Nat) (sr : Nat → Nat → Int32) (qc : Nat → Nat) (sc : Nat → Nat → Int32) (qt : Nat → Nat) (st : Nat → Nat → Int32) (sz : Nat) (p0 : Int32) (u_a : ∀ j, 0 ≤ (sr 1 j).toInt ∧ (sr 1 j).toInt ≤ 31) (u_3 : 0 ≤ (sr 1 3).toInt ∧ (sr 1 3).toInt ≤ 7) (u_16 : 0 ≤ (sr 1 16).toInt ∧ (sr 1 16).toInt ≤ 7) (hp0 : 0 ≤ p0.toInt ∧ p0.toInt ≤ 5) : MetV l D k b yX5_expectParts wsX5_expectParts ({ frames := 5, cells := 0, slots := 0, locals := 108 } : Room) [(qr 0, .inr (3, [.ref (qc 0), .ref (qr 1)])), (qr 1, .inl (k 0, 26, .inl (sr 1))), (qc 0, .inr (1, [.ref (qt 0), .int (sc 0 1), .int (sc 0 2)])), (qt 0, .inr (8, [.ref (qt 1), .int (st 0 1)])), (qt 1, .inl (k 2, 64, .inl (st 1)))] sz [.ref (qr 0), .int p0] (fun (u : (Nat → Int32)) => (∀ j, 0 ≤ (u j).toInt ∧ (u j).toInt ≤ 31) ∧ (0 ≤ (u 3).toInt ∧ (u 3).toInt ≤ 7) ∧ (0 ≤ (u 16).toInt ∧ (u 16).toInt ≤ 7) ∧ (u = J_X5_expectParts sr sc st p0)) (fun u => [(qr 0, .inr (3, [.ref (qc 0), .ref (qr 1)])), (qr 1, .inl (k 0, 26, .inl u)), (qc 0, .inr (1, [.ref (qt 0), .int (sc 0 1), .int (sc 0 2)])), (qt 0, .inr (8, [.ref (qt 1), .int (st 0 1)])), (qt 1, .inl (k 2, 64, .inl (st 1)))]) := by
  refine g_enter (cc := cX5_expectParts) (maxL := 2) (ret := none) (by decide) rfl (Nat.le_of_ble_eq_true rfl) ?_
  intro p e s m below meth c A hsz hAe cx hr hP hD hS ls hl
  rw [hAe]
  refine g_q (fun Q hQ => ?_)
  have hx := cx.1.1
  have hb := cx.1.2.1
  have bp0 := i_rng p0
  have hl : lv_has ls 2 [(0, .ref (qr 0)), (1, .int p0)] := hl
  obtain ⟨H, eH⟩ : ∃ H : Heap, H = s.heap := ⟨_, rfl⟩
  obtain ⟨locs, el⟩ : ∃ L : List Loc, L = [] := ⟨_, rfl⟩
  have hP : va_P D vwCl [(qr 0, .inr (3, [.ref (qc 0), .ref (qr 1)])), (qr 1, .inl (k 0, 26, .inl (sr 1))), (qc 0, .inr (1, [.ref (qt 0), .int (sc 0 1), .int (sc 0 2)])), (qt 0, .inr (8, [.ref (qt 1), .int (st 0 1)])), (qt 1, .inl (k 2, 64, .inl (st 1)))] H := by rw [eH]; exact hP
  have hD : va_D A [(qr 0, .inr (3, [.ref (qc 0), .ref (qr 1)])), (qr 1, .inl (k 0, 26, .inl (sr 1))), (qc 0, .inr (1, [.ref (qt 0), .int (sc 0 1), .int (sc 0 2)])), (qt 0, .inr (8, [.ref (qt 1), .int (st 0 1)])), (qt 1, .inl (k 2, 64, .inl (st 1)))] := hD
  have hS : va_S A s.heap H locs := by rw [eH, el]; exact hS
  suffices goal : W p l e ({ frames := 5, cells := 0, slots := 0, locals := 108 } : Room) s m ([.ref (qr 0), .int p0] : List Value).toArray below meth c H locs 0 0 Q (F0 m 0 ls []) by rw [eH, el] at goal; exact goal
  refine lv_aload_n hx hb dX5_expectParts_0 rfl (lv_at hl 0 rfl) ?_
  refine va_ldcS hx hb cx.1.2.2.2.1 cx.2.2.2.2.2.2.2.2.2.2.2.1 dX5_expectParts_1 ?_
  refine lv_iconst (v := 0) hx hb dX5_expectParts_3 (by decide) ?_
  have hlit1 : (0 : Int32).toInt = 0 := by decide
  refine g_vF (w1 := fun (u : (Nat → Int32)) => [(qr 0, .inr (3, [.ref (qc 0), .ref (qr 1)])), (qr 1, .inl (k 0, 26, .inl u)), (qc 0, .inr (1, [.ref (qt 0), .int (sc 0 1), .int (sc 0 2)])), (qt 0, .inr (8, [.ref (qt 1), .int (st 0 1)])), (qt 1, .inl (k 2, 64, .inl (st 1)))]) (g_runVF (ws := [(qr 0, .inr (3, [.ref (qc 0), .ref (qr 1)])), (qr 1, .inl (k 0, 26, .inl (sr 1))), (qc 0, .inr (1, [.ref (qt 0), .int (sc 0 1), .int (sc 0 2)])), (qt 0, .inr (8, [.ref (qt 1), .int (st 0 1)])), (qt 1, .inl (k 2, 64, .inl (st 1)))]) (rest := []) cx hP hD hS [.ref (b 10), .int 0] (c_X5_expectOnce_S0 l D k b qr sr qc sc qt st H.size 0 u_a (show 0 ≤ ((sr 1) 3).toInt ∧ ((sr 1) 3).toInt ≤ 7 from by first | decide | omega) (show 0 ≤ ((sr 1) 16).toInt ∧ ((sr 1) 16).toInt ≤ 7 from by first | decide | omega) (show -1 ≤ (0 : Int32).toInt ∧ (0 : Int32).toInt ≤ 2 from by first | decide | omega)) gX5_expectParts_X5_expectOnce rfl rfl rfl nd_X5_expectOnce ⟨Nat.le_of_ble_eq_true rfl, Nat.le_of_ble_eq_true rfl⟩ (ci := 3) (q0 := 0) rfl rfl rfl hl.1 rfl (Nat.le_of_ble_eq_true rfl) ⟨Nat.zero_le _, Nat.zero_le _⟩ dX5_expectParts_4) cx.2.2.1 hD hS (fun u3 H locs hw2 hP hD hS => ?_)
  obtain ⟨m4, rfl⟩ : ∃ z, z = u3 := ⟨_, rfl⟩
  have hP : va_P D vwCl [(qr 0, .inr (3, [.ref (qc 0), .ref (qr 1)])), (qr 1, .inl (k 0, 26, .inl m4)), (qc 0, .inr (1, [.ref (qt 0), .int (sc 0 1), .int (sc 0 2)])), (qt 0, .inr (8, [.ref (qt 1), .int (st 0 1)])), (qt 1, .inl (k 2, 64, .inl (st 1)))] H := hP
  have hD : va_D A [(qr 0, .inr (3, [.ref (qc 0), .ref (qr 1)])), (qr 1, .inl (k 0, 26, .inl m4)), (qc 0, .inr (1, [.ref (qt 0), .int (sc 0 1), .int (sc 0 2)])), (qt 0, .inr (8, [.ref (qt 1), .int (st 0 1)])), (qt 1, .inl (k 2, 64, .inl (st 1)))] := hD
  replace hw2 : (∀ j, 0 ≤ (m4 j).toInt ∧ (m4 j).toInt ≤ 31) ∧ (0 ≤ (m4 3).toInt ∧ (m4 3).toInt ≤ 7) ∧ (0 ≤ (m4 16).toInt ∧ (m4 16).toInt ≤ 7) ∧ (m4 = J_X5_expectOnce_S0 sr sc st (0 : Int32)) := hw2
  obtain ⟨w5, w6, w7, w8⟩ := hw2
  have k10 : m4 = (J_X5_expectOnce_S0 sr sc st (0 : Int32)) := congrArg (fun z => z) w8
  refine lv_aload_n hx hb dX5_expectParts_7 rfl (lv_at hl 0 rfl) ?_
  refine va_ldcS hx hb cx.1.2.2.2.1 cx.2.2.2.2.2.2.2.2.2.2.2.2.1 dX5_expectParts_8 ?_
  refine lv_iload_n hx hb dX5_expectParts_10 rfl (lv_at hl 1 rfl) ?_
  refine lv_iconst (v := 1) hx hb dX5_expectParts_11 (by decide) ?_
  refine lv_isub hx hb dX5_expectParts_12 (lv_topi (fun v11 e11 => ?_))
  have t11 : v11.toInt = p0.toInt - 1 := by rw [e11]; exact i_sub rfl (by decide) (by omega) (by omega)
  refine g_vF (w1 := fun (u : (Nat → Int32)) => [(qr 0, .inr (3, [.ref (qc 0), .ref (qr 1)])), (qr 1, .inl (k 0, 26, .inl u)), (qc 0, .inr (1, [.ref (qt 0), .int (sc 0 1), .int (sc 0 2)])), (qt 0, .inr (8, [.ref (qt 1), .int (st 0 1)])), (qt 1, .inl (k 2, 64, .inl (st 1)))]) (g_runVF (ws := [(qr 0, .inr (3, [.ref (qc 0), .ref (qr 1)])), (qr 1, .inl (k 0, 26, .inl m4)), (qc 0, .inr (1, [.ref (qt 0), .int (sc 0 1), .int (sc 0 2)])), (qt 0, .inr (8, [.ref (qt 1), .int (st 0 1)])), (qt 1, .inl (k 2, 64, .inl (st 1)))]) (rest := []) cx hP hD hS [.ref (b 11), .int v11] (c_X5_expectOnce_S1 l D k b qr (up2 sr 1 m4) qc sc qt st H.size v11 w5 (show 0 ≤ (m4 3).toInt ∧ (m4 3).toInt ≤ 7 from by first | decide | omega) (show 0 ≤ (m4 16).toInt ∧ (m4 16).toInt ≤ 7 from by first | decide | omega) (show -1 ≤ v11.toInt ∧ v11.toInt ≤ 4 from by first | decide | omega)) gX5_expectParts_X5_expectOnce rfl rfl rfl nd_X5_expectOnce ⟨Nat.le_of_ble_eq_true rfl, Nat.le_of_ble_eq_true rfl⟩ (ci := 3) (q0 := 0) rfl rfl rfl hl.1 rfl (Nat.le_of_ble_eq_true rfl) ⟨Nat.zero_le _, Nat.zero_le _⟩ dX5_expectParts_13) cx.2.2.1 hD hS (fun u13 H locs hw12 hP hD hS => ?_)
  obtain ⟨m14, rfl⟩ : ∃ z, z = u13 := ⟨_, rfl⟩
  have hP : va_P D vwCl [(qr 0, .inr (3, [.ref (qc 0), .ref (qr 1)])), (qr 1, .inl (k 0, 26, .inl m14)), (qc 0, .inr (1, [.ref (qt 0), .int (sc 0 1), .int (sc 0 2)])), (qt 0, .inr (8, [.ref (qt 1), .int (st 0 1)])), (qt 1, .inl (k 2, 64, .inl (st 1)))] H := hP
  have hD : va_D A [(qr 0, .inr (3, [.ref (qc 0), .ref (qr 1)])), (qr 1, .inl (k 0, 26, .inl m14)), (qc 0, .inr (1, [.ref (qt 0), .int (sc 0 1), .int (sc 0 2)])), (qt 0, .inr (8, [.ref (qt 1), .int (st 0 1)])), (qt 1, .inl (k 2, 64, .inl (st 1)))] := hD
  replace hw12 : (∀ j, 0 ≤ (m14 j).toInt ∧ (m14 j).toInt ≤ 31) ∧ (0 ≤ (m14 3).toInt ∧ (m14 3).toInt ≤ 7) ∧ (0 ≤ (m14 16).toInt ∧ (m14 16).toInt ≤ 7) ∧ (m14 = J_X5_expectOnce_S1 (up2 sr 1 m4) sc st v11) := hw12
  obtain ⟨w15, w16, w17, w18⟩ := hw12
  have k20 : m14 = (J_X5_expectOnce_S1 (up2 sr 1 m4) sc st v11) := congrArg (fun z => z) w18
  refine lv_aload_n hx hb dX5_expectParts_16 rfl (lv_at hl 0 rfl) ?_
  refine va_ldcS hx hb cx.1.2.2.2.1 cx.2.2.2.2.2.2.2.2.2.2.2.2.2 dX5_expectParts_17 ?_
  refine lv_iconst (v := 2) hx hb dX5_expectParts_19 (by decide) ?_
  have hlit21 : (2 : Int32).toInt = 2 := by decide
  refine g_vF (w1 := fun (u : (Nat → Int32)) => [(qr 0, .inr (3, [.ref (qc 0), .ref (qr 1)])), (qr 1, .inl (k 0, 26, .inl u)), (qc 0, .inr (1, [.ref (qt 0), .int (sc 0 1), .int (sc 0 2)])), (qt 0, .inr (8, [.ref (qt 1), .int (st 0 1)])), (qt 1, .inl (k 2, 64, .inl (st 1)))]) (g_runVF (ws := [(qr 0, .inr (3, [.ref (qc 0), .ref (qr 1)])), (qr 1, .inl (k 0, 26, .inl m14)), (qc 0, .inr (1, [.ref (qt 0), .int (sc 0 1), .int (sc 0 2)])), (qt 0, .inr (8, [.ref (qt 1), .int (st 0 1)])), (qt 1, .inl (k 2, 64, .inl (st 1)))]) (rest := []) cx hP hD hS [.ref (b 12), .int 2] (c_X5_expectOnce_S2 l D k b qr (up2 sr 1 m14) qc sc qt st H.size 2 w15 (show 0 ≤ (m14 3).toInt ∧ (m14 3).toInt ≤ 7 from by first | decide | omega) (show 0 ≤ (m14 16).toInt ∧ (m14 16).toInt ≤ 7 from by first | decide | omega) (show -1 ≤ (2 : Int32).toInt ∧ (2 : Int32).toInt ≤ 2 from by first | decide | omega)) gX5_expectParts_X5_expectOnce rfl rfl rfl nd_X5_expectOnce ⟨Nat.le_of_ble_eq_true rfl, Nat.le_of_ble_eq_true rfl⟩ (ci := 3) (q0 := 0) rfl rfl rfl hl.1 rfl (Nat.le_of_ble_eq_true rfl) ⟨Nat.zero_le _, Nat.zero_le _⟩ dX5_expectParts_20) cx.2.2.1 hD hS (fun u23 H locs hw22 hP hD hS => ?_)
  obtain ⟨m24, rfl⟩ : ∃ z, z = u23 := ⟨_, rfl⟩
  have hP : va_P D vwCl [(qr 0, .inr (3, [.ref (qc 0), .ref (qr 1)])), (qr 1, .inl (k 0, 26, .inl m24)), (qc 0, .inr (1, [.ref (qt 0), .int (sc 0 1), .int (sc 0 2)])), (qt 0, .inr (8, [.ref (qt 1), .int (st 0 1)])), (qt 1, .inl (k 2, 64, .inl (st 1)))] H := hP
  have hD : va_D A [(qr 0, .inr (3, [.ref (qc 0), .ref (qr 1)])), (qr 1, .inl (k 0, 26, .inl m24)), (qc 0, .inr (1, [.ref (qt 0), .int (sc 0 1), .int (sc 0 2)])), (qt 0, .inr (8, [.ref (qt 1), .int (st 0 1)])), (qt 1, .inl (k 2, 64, .inl (st 1)))] := hD
  replace hw22 : (∀ j, 0 ≤ (m24 j).toInt ∧ (m24 j).toInt ≤ 31) ∧ (0 ≤ (m24 3).toInt ∧ (m24 3).toInt ≤ 7) ∧ (0 ≤ (m24 16).toInt ∧ (m24 16).toInt ≤ 7) ∧ (m24 = J_X5_expectOnce_S2 (up2 sr 1 m14) sc st (2 : Int32)) := hw22
  obtain ⟨w25, w26, w27, w28⟩ := hw22
  have k30 : m24 = (J_X5_expectOnce_S2 (up2 sr 1 m14) sc st (2 : Int32)) := congrArg (fun z => z) w28
  rw [hQ]
  exact x_v cx hr m24 hP hD hS ⟨w25, (show 0 ≤ (m24 3).toInt ∧ (m24 3).toInt ≤ 7 from by omega), (show 0 ≤ (m24 16).toInt ∧ (m24 16).toInt ≤ 7 from by omega), (show m24 = J_X5_expectParts sr sc st p0 from by subst k10 e11 k20 k30; rfl)⟩ dX5_expectParts_23
theorem fw_X5_readWeeks_20 : Cond.fieldLink RX5 20 "StillInAugust$HouseReader" "cursor" "LStillInAugust$Cursor;" ∈ wsX5_readWeeks := by decide +kernel
theorem fw_X5_readWeeks_66 : Cond.fieldLink RX5 66 "StillInAugust$House" "weeks" "I" ∈ wsX5_readWeeks := by decide +kernel
theorem nd_X2_figure : yX2_figure.cls = RX2 ∧ yX2_figure.cls ≠ "java/lang/invoke/MethodHandle" ∧ yX2_figure.cls ≠ "java/lang/invoke/VarHandle" ∧ (parseMethodDescriptor yX2_figure.desc).map (fun d => d.parameters.length) = some 1 := by decide +kernel
theorem nd_X5_expectParts : yX5_expectParts.cls = RX5 ∧ yX5_expectParts.cls ≠ "java/lang/invoke/MethodHandle" ∧ yX5_expectParts.cls ≠ "java/lang/invoke/VarHandle" ∧ (parseMethodDescriptor yX5_expectParts.desc).map (fun d => d.parameters.length) = some 1 := by decide +kernel
theorem iw_X5_readWeeks_X4 : ∀ w ∈ u_ws RX4 TX4 14, w ∈ wsX5_readWeeks := fun _ h => List.mem_cons_of_mem _ (List.mem_append_left _ (List.mem_append_left _ (List.mem_append_right _ h)))
theorem iw_X5_readWeeks_X5 : ∀ w ∈ u_ws RX5 TX5 2, w ∈ wsX5_readWeeks := fun _ h => List.mem_cons_of_mem _ (List.mem_append_left _ (List.mem_append_left _ (List.mem_append_left _ (List.mem_append_right _ h))))
def J_X5_readWeeks (sr : Nat → Nat → Int32) (sc : Nat → Nat → Int32) (st : Nat → Nat → Int32) (sh : Nat → Nat → Int32) : Int32 × Int32 × (Nat → Int32) × Int32 := let y5 := J_X2_here sc st; if y5 = 78 then let y12 := J_X2_step sc st; let y29 := J_X2_figure (up2 sc 0 (upd (sc 0) 1 y12)) st (J_X2_figures 1 5); if (y29.1) = (-9) then ((y29.2.1), (y29.2.2), (sr 1), (sh 0 0)) else let y41 := J_X5_expectParts sr (up2 sc 0 (upd (upd (sc 0) 1 (y29.2.1)) 2 (y29.2.2))) st (y29.1); ((y29.2.1), (y29.2.2), y41, (y29.1)) else let y47 := J_X2_stop sc st; ((sc 0 1), y47, (sr 1), (sh 0 0))
set_option maxHeartbeats 4000000 in
set_option maxRecDepth 100000 in
theorem c_X5_readWeeks (l : Launch) (D : va_G) (k : Nat → ClassId) (b : Nat → Nat) (qr : Nat → Nat) (sr : Nat → Nat → Int32) (qc : Nat → Nat) (sc : Nat → Nat → Int32) (qt : Nat → Nat) (st : Nat → Nat → Int32) (qh : Nat → Nat) (sh : Nat → Nat → Int32) (sz : Nat) (h_len : 0 ≤ (st 0 1).toInt ∧ (st 0 1).toInt ≤ 64) (u_a : ∀ j, 0 ≤ (sr 1 j).toInt ∧ (sr 1 j).toInt ≤ 31) (u_3 : 0 ≤ (sr 1 3).toInt ∧ (sr 1 3).toInt ≤ 7) (u_16 : 0 ≤ (sr 1 16).toInt ∧ (sr 1 16).toInt ≤ 7) (h_wk : 0 ≤ (sh 0 0).toInt ∧ (sh 0 0).toInt ≤ 5) : MetV l D k b yX5_readWeeks wsX5_readWeeks ({ frames := 6, cells := 0, slots := 0, locals := 129 } : Room) [(qr 0, .inr (3, [.ref (qc 0), .ref (qr 1)])), (qr 1, .inl (k 0, 26, .inl (sr 1))), (qc 0, .inr (1, [.ref (qt 0), .int (sc 0 1), .int (sc 0 2)])), (qt 0, .inr (8, [.ref (qt 1), .int (st 0 1)])), (qt 1, .inl (k 2, 64, .inl (st 1))), (qh 0, .inr (2, [.int (sh 0 0), .int (sh 0 1), .ref (qh 1), .ref (qh 2), .ref (qh 3), .ref (qh 4), .int (sh 0 6), .int (sh 0 7), .int (sh 0 8), .int (sh 0 9), .int (sh 0 10), .int (sh 0 11), .int (sh 0 12), .ref (qh 5)])), (qh 1, .inl (k 0, 5, .inl (sh 1))), (qh 2, .inl (k 0, 5, .inl (sh 2))), (qh 3, .inl (k 0, 3, .inl (sh 3))), (qh 4, .inl (k 0, 3, .inl (sh 4))), (qh 5, .inl (k 0, 525, .inl (sh 5)))] sz [.ref (qr 0), .ref (qh 0)] (fun (u : Int32 × Int32 × (Nat → Int32) × Int32) => (∀ j, 0 ≤ ((u.2.2.1) j).toInt ∧ ((u.2.2.1) j).toInt ≤ 31) ∧ (0 ≤ ((u.2.2.1) 3).toInt ∧ ((u.2.2.1) 3).toInt ≤ 7) ∧ (0 ≤ ((u.2.2.1) 16).toInt ∧ ((u.2.2.1) 16).toInt ≤ 7) ∧ (0 ≤ (u.2.2.2).toInt ∧ (u.2.2.2).toInt ≤ 5) ∧ (((u.1), (u.2.1), (u.2.2.1), (u.2.2.2)) = J_X5_readWeeks sr sc st sh)) (fun u => [(qr 0, .inr (3, [.ref (qc 0), .ref (qr 1)])), (qr 1, .inl (k 0, 26, .inl (u.2.2.1))), (qc 0, .inr (1, [.ref (qt 0), .int (u.1), .int (u.2.1)])), (qt 0, .inr (8, [.ref (qt 1), .int (st 0 1)])), (qt 1, .inl (k 2, 64, .inl (st 1))), (qh 0, .inr (2, [.int (u.2.2.2), .int (sh 0 1), .ref (qh 1), .ref (qh 2), .ref (qh 3), .ref (qh 4), .int (sh 0 6), .int (sh 0 7), .int (sh 0 8), .int (sh 0 9), .int (sh 0 10), .int (sh 0 11), .int (sh 0 12), .ref (qh 5)])), (qh 1, .inl (k 0, 5, .inl (sh 1))), (qh 2, .inl (k 0, 5, .inl (sh 2))), (qh 3, .inl (k 0, 3, .inl (sh 3))), (qh 4, .inl (k 0, 3, .inl (sh 4))), (qh 5, .inl (k 0, 525, .inl (sh 5)))]) := by
  refine g_enter (cc := cX5_readWeeks) (maxL := 3) (ret := none) (by decide) rfl (Nat.le_of_ble_eq_true rfl) ?_
  intro p e s m below meth c A hsz hAe cx hr hP hD hS ls hl
  rw [hAe]
  refine g_q (fun Q hQ => ?_)
  have hx := cx.1.1
  have hb := cx.1.2.1
  have hl : lv_has ls 3 [(0, .ref (qr 0)), (1, .ref (qh 0))] := hl
  obtain ⟨H, eH⟩ : ∃ H : Heap, H = s.heap := ⟨_, rfl⟩
  obtain ⟨locs, el⟩ : ∃ L : List Loc, L = [] := ⟨_, rfl⟩
  have hP : va_P D vwCl [(qr 0, .inr (3, [.ref (qc 0), .ref (qr 1)])), (qr 1, .inl (k 0, 26, .inl (sr 1))), (qc 0, .inr (1, [.ref (qt 0), .int (sc 0 1), .int (sc 0 2)])), (qt 0, .inr (8, [.ref (qt 1), .int (st 0 1)])), (qt 1, .inl (k 2, 64, .inl (st 1))), (qh 0, .inr (2, [.int (sh 0 0), .int (sh 0 1), .ref (qh 1), .ref (qh 2), .ref (qh 3), .ref (qh 4), .int (sh 0 6), .int (sh 0 7), .int (sh 0 8), .int (sh 0 9), .int (sh 0 10), .int (sh 0 11), .int (sh 0 12), .ref (qh 5)])), (qh 1, .inl (k 0, 5, .inl (sh 1))), (qh 2, .inl (k 0, 5, .inl (sh 2))), (qh 3, .inl (k 0, 3, .inl (sh 3))), (qh 4, .inl (k 0, 3, .inl (sh 4))), (qh 5, .inl (k 0, 525, .inl (sh 5)))] H := by rw [eH]; exact hP
  have hD : va_D A [(qr 0, .inr (3, [.ref (qc 0), .ref (qr 1)])), (qr 1, .inl (k 0, 26, .inl (sr 1))), (qc 0, .inr (1, [.ref (qt 0), .int (sc 0 1), .int (sc 0 2)])), (qt 0, .inr (8, [.ref (qt 1), .int (st 0 1)])), (qt 1, .inl (k 2, 64, .inl (st 1))), (qh 0, .inr (2, [.int (sh 0 0), .int (sh 0 1), .ref (qh 1), .ref (qh 2), .ref (qh 3), .ref (qh 4), .int (sh 0 6), .int (sh 0 7), .int (sh 0 8), .int (sh 0 9), .int (sh 0 10), .int (sh 0 11), .int (sh 0 12), .ref (qh 5)])), (qh 1, .inl (k 0, 5, .inl (sh 1))), (qh 2, .inl (k 0, 5, .inl (sh 2))), (qh 3, .inl (k 0, 3, .inl (sh 3))), (qh 4, .inl (k 0, 3, .inl (sh 4))), (qh 5, .inl (k 0, 525, .inl (sh 5)))] := hD
  have hS : va_S A s.heap H locs := by rw [eH, el]; exact hS
  suffices goal : W p l e ({ frames := 6, cells := 0, slots := 0, locals := 129 } : Room) s m ([.ref (qr 0), .ref (qh 0)] : List Value).toArray below meth c H locs 0 0 Q (F0 m 0 ls []) by rw [eH, el] at goal; exact goal
  refine lv_aload_n hx hb dX5_readWeeks_0 rfl (lv_at hl 0 rfl) ?_
  refine g_get cx hP iw_X5_readWeeks_X5 0 rfl rfl 0 (by decide) rfl fw_X5_readWeeks_20 rfl dX5_readWeeks_1 ?_
  refine g_ir (g_runV (wc := [(qc 0, .inr (1, [.ref (qt 0), .int (sc 0 1), .int (sc 0 2)])), (qt 0, .inr (8, [.ref (qt 1), .int (st 0 1)])), (qt 1, .inl (k 2, 64, .inl (st 1)))]) (rest := []) cx hP hD hS [2, 3, 4] rfl (by decide) [] (c_X2_here l D k b qc sc qt st H.size (show 0 ≤ (st 0 1).toInt ∧ (st 0 1).toInt ≤ 64 from by first | decide | omega)) gX5_readWeeks_X2_here rfl rfl rfl nd_X2_here ⟨Nat.le_of_ble_eq_true rfl, Nat.le_of_ble_eq_true rfl⟩ (ci := 1) (q0 := 0) rfl rfl rfl hl.1 rfl (Nat.le_of_ble_eq_true rfl) ⟨Nat.zero_le _, Nat.zero_le _⟩ dX5_readWeeks_4) cx.2.2.1 hP hD hS [2, 3, 4] rfl rfl (fun r2 H locs hw1 hP hS => ?_)
  replace hw1 : (-9 ≤ r2.toInt ∧ r2.toInt ≤ 255) ∧ (r2 = J_X2_here sc st) := hw1
  obtain ⟨w3, w4⟩ := hw1
  have k6 : r2 = (J_X2_here sc st) := congrArg (fun z => z) w4
  refine lv_bipush (v := 78) hx hb dX5_readWeeks_7 (by decide) ?_
  refine lv_icmp_eq (tgt := 20) hx hb dX5_readWeeks_9 (by decide) (fun c7 => ?_) (fun c7 => ?_)
  · have f7 : r2.toInt = 78 := f_eq rfl (by decide) c7
    refine lv_aload_n hx hb dX5_readWeeks_20 rfl (lv_at hl 0 rfl) ?_
    refine g_get cx hP iw_X5_readWeeks_X5 0 rfl rfl 0 (by decide) rfl fw_X5_readWeeks_20 rfl dX5_readWeeks_21 ?_
    refine g_v (w1 := fun (u : Int32) => [(qc 0, .inr (1, [.ref (qt 0), .int u, .int (sc 0 2)])), (qt 0, .inr (8, [.ref (qt 1), .int (st 0 1)])), (qt 1, .inl (k 2, 64, .inl (st 1)))]) (g_runV (wc := [(qc 0, .inr (1, [.ref (qt 0), .int (sc 0 1), .int (sc 0 2)])), (qt 0, .inr (8, [.ref (qt 1), .int (st 0 1)])), (qt 1, .inl (k 2, 64, .inl (st 1)))]) (rest := []) cx hP hD hS [2, 3, 4] rfl (by decide) [] (c_X2_step l D k b qc sc qt st H.size) gX5_readWeeks_X2_step rfl rfl rfl nd_X2_step ⟨Nat.le_of_ble_eq_true rfl, Nat.le_of_ble_eq_true rfl⟩ (ci := 1) (q0 := 0) rfl rfl rfl hl.1 rfl (Nat.le_of_ble_eq_true rfl) ⟨Nat.zero_le _, Nat.zero_le _⟩ dX5_readWeeks_24) cx.2.2.1 hP hD hS [2, 3, 4] rfl (fun _ => rfl) (fun u9 H locs hw8 hP hD hS => ?_)
    obtain ⟨m10, rfl⟩ : ∃ z, z = u9 := ⟨_, rfl⟩
    have hP : va_P D vwCl [(qr 0, .inr (3, [.ref (qc 0), .ref (qr 1)])), (qr 1, .inl (k 0, 26, .inl (sr 1))), (qc 0, .inr (1, [.ref (qt 0), .int m10, .int (sc 0 2)])), (qt 0, .inr (8, [.ref (qt 1), .int (st 0 1)])), (qt 1, .inl (k 2, 64, .inl (st 1))), (qh 0, .inr (2, [.int (sh 0 0), .int (sh 0 1), .ref (qh 1), .ref (qh 2), .ref (qh 3), .ref (qh 4), .int (sh 0 6), .int (sh 0 7), .int (sh 0 8), .int (sh 0 9), .int (sh 0 10), .int (sh 0 11), .int (sh 0 12), .ref (qh 5)])), (qh 1, .inl (k 0, 5, .inl (sh 1))), (qh 2, .inl (k 0, 5, .inl (sh 2))), (qh 3, .inl (k 0, 3, .inl (sh 3))), (qh 4, .inl (k 0, 3, .inl (sh 4))), (qh 5, .inl (k 0, 525, .inl (sh 5)))] H := hP
    have hD : va_D A [(qr 0, .inr (3, [.ref (qc 0), .ref (qr 1)])), (qr 1, .inl (k 0, 26, .inl (sr 1))), (qc 0, .inr (1, [.ref (qt 0), .int m10, .int (sc 0 2)])), (qt 0, .inr (8, [.ref (qt 1), .int (st 0 1)])), (qt 1, .inl (k 2, 64, .inl (st 1))), (qh 0, .inr (2, [.int (sh 0 0), .int (sh 0 1), .ref (qh 1), .ref (qh 2), .ref (qh 3), .ref (qh 4), .int (sh 0 6), .int (sh 0 7), .int (sh 0 8), .int (sh 0 9), .int (sh 0 10), .int (sh 0 11), .int (sh 0 12), .ref (qh 5)])), (qh 1, .inl (k 0, 5, .inl (sh 1))), (qh 2, .inl (k 0, 5, .inl (sh 2))), (qh 3, .inl (k 0, 3, .inl (sh 3))), (qh 4, .inl (k 0, 3, .inl (sh 4))), (qh 5, .inl (k 0, 525, .inl (sh 5)))] := hD
    have w11 : m10 = J_X2_step sc st := hw8
    clear hw8
    have k13 : m10 = (J_X2_step sc st) := congrArg (fun z => z) w11
    refine lv_aload_n hx hb dX5_readWeeks_27 rfl (lv_at hl 0 rfl) ?_
    refine g_get cx hP iw_X5_readWeeks_X5 0 rfl rfl 0 (by decide) rfl fw_X5_readWeeks_20 rfl dX5_readWeeks_28 ?_
    refine lv_iconst (v := 1) hx hb dX5_readWeeks_31 (by decide) ?_
    refine lv_iconst (v := 5) hx hb dX5_readWeeks_32 (by decide) ?_
    have hlit14 : (1 : Int32).toInt = 1 := by decide
    have hlit15 : (5 : Int32).toInt = 5 := by decide
    refine g_ir (g_runS (wc := []) (rest := [.ref (qc 0)]) cx hP hD hS [] rfl (by decide) [.int 1, .int 5] (c_X2_figures l D k b H.size 1 5) gX5_readWeeks_X2_figures rfl rfl rfl nd_X2_figures ⟨Nat.le_of_ble_eq_true rfl, Nat.le_of_ble_eq_true rfl⟩ rfl hl.1 rfl (Nat.le_of_ble_eq_true rfl) ⟨Nat.zero_le _, Nat.zero_le _⟩ dX5_readWeeks_33) cx.2.2.1 hP hD hS [] rfl rfl (fun r17 H locs hw16 hP hS => ?_)
    have w18 : r17 = J_X2_figures (1 : Int32) (5 : Int32) := hw16
    clear hw16
    have zr17 : r17.toInt = 62 := by rw [w18]; decide
    refine g_i (w1 := fun (u : Int32 × Int32) => [(qc 0, .inr (1, [.ref (qt 0), .int (u.1), .int (u.2)])), (qt 0, .inr (8, [.ref (qt 1), .int (st 0 1)])), (qt 1, .inl (k 2, 64, .inl (st 1)))]) (g_runV (wc := [(qc 0, .inr (1, [.ref (qt 0), .int m10, .int (sc 0 2)])), (qt 0, .inr (8, [.ref (qt 1), .int (st 0 1)])), (qt 1, .inl (k 2, 64, .inl (st 1)))]) (rest := []) cx hP hD hS [2, 3, 4] rfl (by decide) [.int r17] (c_X2_figure l D k b qc (up2 sc 0 (upd (sc 0) 1 m10)) qt st H.size r17 (show 0 ≤ (st 0 1).toInt ∧ (st 0 1).toInt ≤ 64 from by first | decide | omega)) gX5_readWeeks_X2_figure rfl rfl rfl nd_X2_figure ⟨Nat.le_of_ble_eq_true rfl, Nat.le_of_ble_eq_true rfl⟩ (ci := 1) (q0 := 0) rfl rfl rfl hl.1 rfl (Nat.le_of_ble_eq_true rfl) ⟨Nat.zero_le _, Nat.zero_le _⟩ dX5_readWeeks_36) cx.2.2.1 hP hD hS [2, 3, 4] rfl (fun _ => rfl) (fun r21 u20 H locs hw19 hP hD hS => ?_)
    obtain ⟨m22, m23⟩ := u20
    have hP : va_P D vwCl [(qr 0, .inr (3, [.ref (qc 0), .ref (qr 1)])), (qr 1, .inl (k 0, 26, .inl (sr 1))), (qc 0, .inr (1, [.ref (qt 0), .int m22, .int m23])), (qt 0, .inr (8, [.ref (qt 1), .int (st 0 1)])), (qt 1, .inl (k 2, 64, .inl (st 1))), (qh 0, .inr (2, [.int (sh 0 0), .int (sh 0 1), .ref (qh 1), .ref (qh 2), .ref (qh 3), .ref (qh 4), .int (sh 0 6), .int (sh 0 7), .int (sh 0 8), .int (sh 0 9), .int (sh 0 10), .int (sh 0 11), .int (sh 0 12), .ref (qh 5)])), (qh 1, .inl (k 0, 5, .inl (sh 1))), (qh 2, .inl (k 0, 5, .inl (sh 2))), (qh 3, .inl (k 0, 3, .inl (sh 3))), (qh 4, .inl (k 0, 3, .inl (sh 4))), (qh 5, .inl (k 0, 525, .inl (sh 5)))] H := hP
    have hD : va_D A [(qr 0, .inr (3, [.ref (qc 0), .ref (qr 1)])), (qr 1, .inl (k 0, 26, .inl (sr 1))), (qc 0, .inr (1, [.ref (qt 0), .int m22, .int m23])), (qt 0, .inr (8, [.ref (qt 1), .int (st 0 1)])), (qt 1, .inl (k 2, 64, .inl (st 1))), (qh 0, .inr (2, [.int (sh 0 0), .int (sh 0 1), .ref (qh 1), .ref (qh 2), .ref (qh 3), .ref (qh 4), .int (sh 0 6), .int (sh 0 7), .int (sh 0 8), .int (sh 0 9), .int (sh 0 10), .int (sh 0 11), .int (sh 0 12), .ref (qh 5)])), (qh 1, .inl (k 0, 5, .inl (sh 1))), (qh 2, .inl (k 0, 5, .inl (sh 2))), (qh 3, .inl (k 0, 3, .inl (sh 3))), (qh 4, .inl (k 0, 3, .inl (sh 4))), (qh 5, .inl (k 0, 525, .inl (sh 5)))] := hD
    replace hw19 : (r21.toInt = -9 ∨ (0 ≤ r21.toInt ∧ r21.toInt ≤ 9)) ∧ (Imp (0 ≤ r17.toInt ∧ r17.toInt ≤ 63) (r21.toInt ≤ 5)) ∧ (Imp (0 ≤ r17.toInt ∧ r17.toInt ≤ 31) (r21.toInt ≤ 4)) ∧ (Imp (0 ≤ r17.toInt ∧ r17.toInt ≤ 7) (r21.toInt ≤ 2)) ∧ ((r21, m22, m23) = J_X2_figure (up2 sc 0 (upd (sc 0) 1 m10)) st r17) := hw19
    obtain ⟨w24, w25, w26, w27, w28⟩ := hw19
    have k30 : r21 = ((J_X2_figure (up2 sc 0 (upd (sc 0) 1 m10)) st r17).1) := congrArg (fun z => (z.1)) w28
    have k31 : m22 = ((J_X2_figure (up2 sc 0 (upd (sc 0) 1 m10)) st r17).2.1) := congrArg (fun z => (z.2.1)) w28
    have k32 : m23 = ((J_X2_figure (up2 sc 0 (upd (sc 0) 1 m10)) st r17).2.2) := congrArg (fun z => (z.2.2)) w28
    have xr21 : r21.toInt ≤ 5 := w25 ⟨by omega, by omega⟩
    refine lv_istore_n (lv' := [(2, .int r21), (0, .ref (qr 0)), (1, .ref (qh 0))]) hx hb dX5_readWeeks_39 rfl hl (by decide) rfl (fun ls hl => ?_)
    refine lv_iload_n hx hb dX5_readWeeks_40 rfl (lv_at hl 0 rfl) ?_
    refine lv_bipush (v := (-9)) hx hb dX5_readWeeks_41 (by decide) ?_
    refine lv_icmp_ne (tgt := 47) hx hb dX5_readWeeks_43 (by decide) (fun c33 => ?_) (fun c33 => ?_)
    · have f33 : ¬ r21.toInt = (-9) := f_ne rfl (by decide) c33
      refine lv_aload_n hx hb dX5_readWeeks_47 rfl (lv_at hl 2 rfl) ?_
      refine lv_iload_n hx hb dX5_readWeeks_48 rfl (lv_at hl 0 rfl) ?_
      refine g_pt cx hP hD hS iw_X5_readWeeks_X4 tyX4 tyX4_ok nmX4 5 rfl rfl 0 (by decide) rfl fw_X5_readWeeks_66 (ty := .int) rfl rfl rfl (Nat.le_of_ble_eq_true rfl) dX5_readWeeks_49 (fun H locs hP hD hS => ?_)
      have hP : va_P D vwCl [(qr 0, .inr (3, [.ref (qc 0), .ref (qr 1)])), (qr 1, .inl (k 0, 26, .inl (sr 1))), (qc 0, .inr (1, [.ref (qt 0), .int m22, .int m23])), (qt 0, .inr (8, [.ref (qt 1), .int (st 0 1)])), (qt 1, .inl (k 2, 64, .inl (st 1))), (qh 0, .inr (2, [.int r21, .int (sh 0 1), .ref (qh 1), .ref (qh 2), .ref (qh 3), .ref (qh 4), .int (sh 0 6), .int (sh 0 7), .int (sh 0 8), .int (sh 0 9), .int (sh 0 10), .int (sh 0 11), .int (sh 0 12), .ref (qh 5)])), (qh 1, .inl (k 0, 5, .inl (sh 1))), (qh 2, .inl (k 0, 5, .inl (sh 2))), (qh 3, .inl (k 0, 3, .inl (sh 3))), (qh 4, .inl (k 0, 3, .inl (sh 4))), (qh 5, .inl (k 0, 525, .inl (sh 5)))] H := hP
      have hD : va_D A [(qr 0, .inr (3, [.ref (qc 0), .ref (qr 1)])), (qr 1, .inl (k 0, 26, .inl (sr 1))), (qc 0, .inr (1, [.ref (qt 0), .int m22, .int m23])), (qt 0, .inr (8, [.ref (qt 1), .int (st 0 1)])), (qt 1, .inl (k 2, 64, .inl (st 1))), (qh 0, .inr (2, [.int r21, .int (sh 0 1), .ref (qh 1), .ref (qh 2), .ref (qh 3), .ref (qh 4), .int (sh 0 6), .int (sh 0 7), .int (sh 0 8), .int (sh 0 9), .int (sh 0 10), .int (sh 0 11), .int (sh 0 12), .ref (qh 5)])), (qh 1, .inl (k 0, 5, .inl (sh 1))), (qh 2, .inl (k 0, 5, .inl (sh 2))), (qh 3, .inl (k 0, 3, .inl (sh 3))), (qh 4, .inl (k 0, 3, .inl (sh 4))), (qh 5, .inl (k 0, 525, .inl (sh 5)))] := hD
      refine lv_aload_n hx hb dX5_readWeeks_52 rfl (lv_at hl 1 rfl) ?_
      refine lv_iload_n hx hb dX5_readWeeks_53 rfl (lv_at hl 0 rfl) ?_
      refine g_v (w1 := fun (u : (Nat → Int32)) => [(qr 0, .inr (3, [.ref (qc 0), .ref (qr 1)])), (qr 1, .inl (k 0, 26, .inl u)), (qc 0, .inr (1, [.ref (qt 0), .int m22, .int m23])), (qt 0, .inr (8, [.ref (qt 1), .int (st 0 1)])), (qt 1, .inl (k 2, 64, .inl (st 1)))]) (g_runV (wc := [(qr 0, .inr (3, [.ref (qc 0), .ref (qr 1)])), (qr 1, .inl (k 0, 26, .inl (sr 1))), (qc 0, .inr (1, [.ref (qt 0), .int m22, .int m23])), (qt 0, .inr (8, [.ref (qt 1), .int (st 0 1)])), (qt 1, .inl (k 2, 64, .inl (st 1)))]) (rest := []) cx hP hD hS [0, 1, 2, 3, 4] rfl (by decide) [.int r21] (c_X5_expectParts l D k b qr sr qc (up2 sc 0 (upd (upd (sc 0) 1 m22) 2 m23)) qt st H.size r21 u_a (show 0 ≤ ((sr 1) 3).toInt ∧ ((sr 1) 3).toInt ≤ 7 from by first | decide | omega) (show 0 ≤ ((sr 1) 16).toInt ∧ ((sr 1) 16).toInt ≤ 7 from by first | decide | omega) (show 0 ≤ r21.toInt ∧ r21.toInt ≤ 5 from by first | decide | omega)) gX5_readWeeks_X5_expectParts rfl rfl rfl nd_X5_expectParts ⟨Nat.le_of_ble_eq_true rfl, Nat.le_of_ble_eq_true rfl⟩ (ci := 3) (q0 := 0) rfl rfl rfl hl.1 rfl (Nat.le_of_ble_eq_true rfl) ⟨Nat.zero_le _, Nat.zero_le _⟩ dX5_readWeeks_54) cx.2.2.1 hP hD hS [0, 1, 2, 3, 4] rfl (fun _ => rfl) (fun u35 H locs hw34 hP hD hS => ?_)
      obtain ⟨m36, rfl⟩ : ∃ z, z = u35 := ⟨_, rfl⟩
      have hP : va_P D vwCl [(qr 0, .inr (3, [.ref (qc 0), .ref (qr 1)])), (qr 1, .inl (k 0, 26, .inl m36)), (qc 0, .inr (1, [.ref (qt 0), .int m22, .int m23])), (qt 0, .inr (8, [.ref (qt 1), .int (st 0 1)])), (qt 1, .inl (k 2, 64, .inl (st 1))), (qh 0, .inr (2, [.int r21, .int (sh 0 1), .ref (qh 1), .ref (qh 2), .ref (qh 3), .ref (qh 4), .int (sh 0 6), .int (sh 0 7), .int (sh 0 8), .int (sh 0 9), .int (sh 0 10), .int (sh 0 11), .int (sh 0 12), .ref (qh 5)])), (qh 1, .inl (k 0, 5, .inl (sh 1))), (qh 2, .inl (k 0, 5, .inl (sh 2))), (qh 3, .inl (k 0, 3, .inl (sh 3))), (qh 4, .inl (k 0, 3, .inl (sh 4))), (qh 5, .inl (k 0, 525, .inl (sh 5)))] H := hP
      have hD : va_D A [(qr 0, .inr (3, [.ref (qc 0), .ref (qr 1)])), (qr 1, .inl (k 0, 26, .inl m36)), (qc 0, .inr (1, [.ref (qt 0), .int m22, .int m23])), (qt 0, .inr (8, [.ref (qt 1), .int (st 0 1)])), (qt 1, .inl (k 2, 64, .inl (st 1))), (qh 0, .inr (2, [.int r21, .int (sh 0 1), .ref (qh 1), .ref (qh 2), .ref (qh 3), .ref (qh 4), .int (sh 0 6), .int (sh 0 7), .int (sh 0 8), .int (sh 0 9), .int (sh 0 10), .int (sh 0 11), .int (sh 0 12), .ref (qh 5)])), (qh 1, .inl (k 0, 5, .inl (sh 1))), (qh 2, .inl (k 0, 5, .inl (sh 2))), (qh 3, .inl (k 0, 3, .inl (sh 3))), (qh 4, .inl (k 0, 3, .inl (sh 4))), (qh 5, .inl (k 0, 525, .inl (sh 5)))] := hD
      replace hw34 : (∀ j, 0 ≤ (m36 j).toInt ∧ (m36 j).toInt ≤ 31) ∧ (0 ≤ (m36 3).toInt ∧ (m36 3).toInt ≤ 7) ∧ (0 ≤ (m36 16).toInt ∧ (m36 16).toInt ≤ 7) ∧ (m36 = J_X5_expectParts sr (up2 sc 0 (upd (upd (sc 0) 1 m22) 2 m23)) st r21) := hw34
      obtain ⟨w37, w38, w39, w40⟩ := hw34
      have k42 : m36 = (J_X5_expectParts sr (up2 sc 0 (upd (upd (sc 0) 1 m22) 2 m23)) st r21) := congrArg (fun z => z) w40
      rw [hQ]
      exact x_v cx hr (m22, m23, m36, r21) hP hD hS ⟨w37, (show 0 ≤ (m36 3).toInt ∧ (m36 3).toInt ≤ 7 from by omega), (show 0 ≤ (m36 16).toInt ∧ (m36 16).toInt ≤ 7 from by omega), (show 0 ≤ r21.toInt ∧ r21.toInt ≤ 5 from by omega), (show (m22, m23, m36, r21) = J_X5_readWeeks sr sc st sh from by subst k6 k13 w18 k30 k31 k32 k42; first | (refine Eq.symm ?_; refine Eq.trans (if_pos c7) ?_; refine Eq.trans (if_neg c33) ?_; rfl) | (unfold J_X5_readWeeks; try dsimp only; rw [if_pos c7, if_neg c33]))⟩ dX5_readWeeks_57
    · have f33 : r21.toInt = (-9) := f_eq rfl (by decide) c33
      rw [hQ]
      exact x_v cx hr (m22, m23, (sr 1), (sh 0 0)) hP hD hS ⟨u_a, (show 0 ≤ ((sr 1) 3).toInt ∧ ((sr 1) 3).toInt ≤ 7 from by omega), (show 0 ≤ ((sr 1) 16).toInt ∧ ((sr 1) 16).toInt ≤ 7 from by omega), (show 0 ≤ (sh 0 0).toInt ∧ (sh 0 0).toInt ≤ 5 from by omega), (show (m22, m23, (sr 1), (sh 0 0)) = J_X5_readWeeks sr sc st sh from by subst k6 k13 w18 k30 k31 k32; first | (refine Eq.symm ?_; refine Eq.trans (if_pos c7) ?_; refine Eq.trans (if_pos c33) ?_; rfl) | (unfold J_X5_readWeeks; try dsimp only; rw [if_pos c7, if_pos c33]))⟩ dX5_readWeeks_46
  · have f7 : ¬ r2.toInt = 78 := f_ne rfl (by decide) c7
    refine lv_aload_n hx hb dX5_readWeeks_12 rfl (lv_at hl 0 rfl) ?_
    refine g_get cx hP iw_X5_readWeeks_X5 0 rfl rfl 0 (by decide) rfl fw_X5_readWeeks_20 rfl dX5_readWeeks_13 ?_
    refine g_v (w1 := fun (u : Int32) => [(qc 0, .inr (1, [.ref (qt 0), .int (sc 0 1), .int u])), (qt 0, .inr (8, [.ref (qt 1), .int (st 0 1)])), (qt 1, .inl (k 2, 64, .inl (st 1)))]) (g_runV (wc := [(qc 0, .inr (1, [.ref (qt 0), .int (sc 0 1), .int (sc 0 2)])), (qt 0, .inr (8, [.ref (qt 1), .int (st 0 1)])), (qt 1, .inl (k 2, 64, .inl (st 1)))]) (rest := []) cx hP hD hS [2, 3, 4] rfl (by decide) [] (c_X2_stop l D k b qc sc qt st H.size) gX5_readWeeks_X2_stop rfl rfl rfl nd_X2_stop ⟨Nat.le_of_ble_eq_true rfl, Nat.le_of_ble_eq_true rfl⟩ (ci := 1) (q0 := 0) rfl rfl rfl hl.1 rfl (Nat.le_of_ble_eq_true rfl) ⟨Nat.zero_le _, Nat.zero_le _⟩ dX5_readWeeks_16) cx.2.2.1 hP hD hS [2, 3, 4] rfl (fun _ => rfl) (fun u44 H locs hw43 hP hD hS => ?_)
    obtain ⟨m45, rfl⟩ : ∃ z, z = u44 := ⟨_, rfl⟩
    have hP : va_P D vwCl [(qr 0, .inr (3, [.ref (qc 0), .ref (qr 1)])), (qr 1, .inl (k 0, 26, .inl (sr 1))), (qc 0, .inr (1, [.ref (qt 0), .int (sc 0 1), .int m45])), (qt 0, .inr (8, [.ref (qt 1), .int (st 0 1)])), (qt 1, .inl (k 2, 64, .inl (st 1))), (qh 0, .inr (2, [.int (sh 0 0), .int (sh 0 1), .ref (qh 1), .ref (qh 2), .ref (qh 3), .ref (qh 4), .int (sh 0 6), .int (sh 0 7), .int (sh 0 8), .int (sh 0 9), .int (sh 0 10), .int (sh 0 11), .int (sh 0 12), .ref (qh 5)])), (qh 1, .inl (k 0, 5, .inl (sh 1))), (qh 2, .inl (k 0, 5, .inl (sh 2))), (qh 3, .inl (k 0, 3, .inl (sh 3))), (qh 4, .inl (k 0, 3, .inl (sh 4))), (qh 5, .inl (k 0, 525, .inl (sh 5)))] H := hP
    have hD : va_D A [(qr 0, .inr (3, [.ref (qc 0), .ref (qr 1)])), (qr 1, .inl (k 0, 26, .inl (sr 1))), (qc 0, .inr (1, [.ref (qt 0), .int (sc 0 1), .int m45])), (qt 0, .inr (8, [.ref (qt 1), .int (st 0 1)])), (qt 1, .inl (k 2, 64, .inl (st 1))), (qh 0, .inr (2, [.int (sh 0 0), .int (sh 0 1), .ref (qh 1), .ref (qh 2), .ref (qh 3), .ref (qh 4), .int (sh 0 6), .int (sh 0 7), .int (sh 0 8), .int (sh 0 9), .int (sh 0 10), .int (sh 0 11), .int (sh 0 12), .ref (qh 5)])), (qh 1, .inl (k 0, 5, .inl (sh 1))), (qh 2, .inl (k 0, 5, .inl (sh 2))), (qh 3, .inl (k 0, 3, .inl (sh 3))), (qh 4, .inl (k 0, 3, .inl (sh 4))), (qh 5, .inl (k 0, 525, .inl (sh 5)))] := hD
    have w46 : m45 = J_X2_stop sc st := hw43
    clear hw43
    have k48 : m45 = (J_X2_stop sc st) := congrArg (fun z => z) w46
    rw [hQ]
    exact x_v cx hr ((sc 0 1), m45, (sr 1), (sh 0 0)) hP hD hS ⟨u_a, (show 0 ≤ ((sr 1) 3).toInt ∧ ((sr 1) 3).toInt ≤ 7 from by omega), (show 0 ≤ ((sr 1) 16).toInt ∧ ((sr 1) 16).toInt ≤ 7 from by omega), (show 0 ≤ (sh 0 0).toInt ∧ (sh 0 0).toInt ≤ 5 from by omega), (show ((sc 0 1), m45, (sr 1), (sh 0 0)) = J_X5_readWeeks sr sc st sh from by subst k6 k48; first | (refine Eq.symm ?_; refine Eq.trans (if_neg c7) ?_; rfl) | (unfold J_X5_readWeeks; try dsimp only; rw [if_neg c7]))⟩ dX5_readWeeks_19
theorem fw_X5_readPart_20 : Cond.fieldLink RX5 20 "StillInAugust$HouseReader" "cursor" "LStillInAugust$Cursor;" ∈ wsX5_readPart := by decide +kernel
theorem fw_X5_readPart_9 : Cond.fieldLink RX5 9 "StillInAugust$HouseReader" "untold" "[I" ∈ wsX5_readPart := by decide +kernel
theorem nd_X4_put : yX4_put.cls = RX4 ∧ yX4_put.cls ≠ "java/lang/invoke/MethodHandle" ∧ yX4_put.cls ≠ "java/lang/invoke/VarHandle" ∧ (parseMethodDescriptor yX4_put.desc).map (fun d => d.parameters.length) = some 4 := by decide +kernel
theorem nd_X5_firstFigures : yX5_firstFigures.cls ≠ "java/lang/invoke/MethodHandle" ∧ yX5_firstFigures.cls ≠ "java/lang/invoke/VarHandle" ∧ (parseMethodDescriptor yX5_firstFigures.desc).map (fun d => d.parameters.length) = some 1 := by decide +kernel
theorem nd_X5_hasSecond : yX5_hasSecond.cls ≠ "java/lang/invoke/MethodHandle" ∧ yX5_hasSecond.cls ≠ "java/lang/invoke/VarHandle" ∧ (parseMethodDescriptor yX5_hasSecond.desc).map (fun d => d.parameters.length) = some 1 := by decide +kernel
theorem nd_X5_secondFigures : yX5_secondFigures.cls ≠ "java/lang/invoke/MethodHandle" ∧ yX5_secondFigures.cls ≠ "java/lang/invoke/VarHandle" ∧ (parseMethodDescriptor yX5_secondFigures.desc).map (fun d => d.parameters.length) = some 1 := by decide +kernel
theorem nd_X5_tellsWhich : yX5_tellsWhich.cls ≠ "java/lang/invoke/MethodHandle" ∧ yX5_tellsWhich.cls ≠ "java/lang/invoke/VarHandle" ∧ (parseMethodDescriptor yX5_tellsWhich.desc).map (fun d => d.parameters.length) = some 1 := by decide +kernel
theorem iw_X5_readPart_X5 : ∀ w ∈ u_ws RX5 TX5 2, w ∈ wsX5_readPart := fun _ h => List.mem_cons_of_mem _ (List.mem_append_left _ (List.mem_append_left _ (List.mem_append_left _ (List.mem_append_right _ h))))
def J_X5_readPart (sr : Nat → Nat → Int32) (sc : Nat → Nat → Int32) (st : Nat → Nat → Int32) (sh : Nat → Nat → Int32) : Int32 × Int32 × (Nat → Int32) × Int32 × (Nat → Int32) × (Nat → Int32) × (Nat → Int32) × (Nat → Int32) × Int32 × Int32 × Int32 × Int32 × Int32 × Int32 × Int32 := let y5 := J_X2_here sc st; if y5 < 65 then let y12 := J_X2_stop sc st; ((sc 0 1), y12, (sr 1), (sh 0 1), (sh 1), (sh 2), (sh 3), (sh 4), (sh 0 6), (sh 0 7), (sh 0 8), (sh 0 9), (sh 0 10), (sh 0 11), (sh 0 12)) else if 90 < y5 then let y19 := J_X2_stop sc st; ((sc 0 1), y19, (sr 1), (sh 0 1), (sh 1), (sh 2), (sh 3), (sh 4), (sh 0 6), (sh 0 7), (sh 0 8), (sh 0 9), (sh 0 10), (sh 0 11), (sh 0 12)) else if ((sr 1) ((y5 - (65 : Int32))).toNatClampNeg) = 0 then let y298 := J_X2_stop sc st; ((sc 0 1), y298, (sr 1), (sh 0 1), (sh 1), (sh 2), (sh 3), (sh 4), (sh 0 6), (sh 0 7), (sh 0 8), (sh 0 9), (sh 0 10), (sh 0 11), (sh 0 12)) else let y29 := J_X2_step sc st; if (J_X5_tellsWhich y5) = 0 then let y61 := J_X2_figure (up2 sc 0 (upd (sc 0) 1 y29)) st (J_X5_firstFigures y5); if (y61.1) = (-9) then ((y61.2.1), (y61.2.2), (upd (sr 1) ((y5 - (65 : Int32))).toNatClampNeg ((((sr 1) ((y5 - (65 : Int32))).toNatClampNeg) &&& (((1 : Int32) <<< ((0 : Int32) &&& 31)) ^^^ ((-1) : Int32))))), (sh 0 1), (sh 1), (sh 2), (sh 3), (sh 4), (sh 0 6), (sh 0 7), (sh 0 8), (sh 0 9), (sh 0 10), (sh 0 11), (sh 0 12)) else if (J_X5_hasSecond y5) = 0 then let y92 := J_X4_put sh y5 0 (y61.1) 0; ((y61.2.1), (y61.2.2), (upd (sr 1) ((y5 - (65 : Int32))).toNatClampNeg ((((sr 1) ((y5 - (65 : Int32))).toNatClampNeg) &&& (((1 : Int32) <<< ((0 : Int32) &&& 31)) ^^^ ((-1) : Int32))))), (y92.1), (y92.2.1), (y92.2.2.1), (y92.2.2.2.1), (y92.2.2.2.2.1), (y92.2.2.2.2.2.1), (y92.2.2.2.2.2.2.1), (y92.2.2.2.2.2.2.2.1), (y92.2.2.2.2.2.2.2.2.1), (y92.2.2.2.2.2.2.2.2.2.1), (y92.2.2.2.2.2.2.2.2.2.2.1), (y92.2.2.2.2.2.2.2.2.2.2.2)) else let y118 := J_X2_figure (up2 sc 0 (upd (upd (sc 0) 1 (y61.2.1)) 2 (y61.2.2))) st (J_X5_secondFigures y5); if (y118.1) = (-9) then ((y118.2.1), (y118.2.2), (upd (sr 1) ((y5 - (65 : Int32))).toNatClampNeg ((((sr 1) ((y5 - (65 : Int32))).toNatClampNeg) &&& (((1 : Int32) <<< ((0 : Int32) &&& 31)) ^^^ ((-1) : Int32))))), (sh 0 1), (sh 1), (sh 2), (sh 3), (sh 4), (sh 0 6), (sh 0 7), (sh 0 8), (sh 0 9), (sh 0 10), (sh 0 11), (sh 0 12)) else let y143 := J_X4_put sh y5 0 (y61.1) (y118.1); ((y118.2.1), (y118.2.2), (upd (sr 1) ((y5 - (65 : Int32))).toNatClampNeg ((((sr 1) ((y5 - (65 : Int32))).toNatClampNeg) &&& (((1 : Int32) <<< ((0 : Int32) &&& 31)) ^^^ ((-1) : Int32))))), (y143.1), (y143.2.1), (y143.2.2.1), (y143.2.2.2.1), (y143.2.2.2.2.1), (y143.2.2.2.2.2.1), (y143.2.2.2.2.2.2.1), (y143.2.2.2.2.2.2.2.1), (y143.2.2.2.2.2.2.2.2.1), (y143.2.2.2.2.2.2.2.2.2.1), (y143.2.2.2.2.2.2.2.2.2.2.1), (y143.2.2.2.2.2.2.2.2.2.2.2)) else let y171 := J_X2_figure (up2 sc 0 (upd (sc 0) 1 y29)) st (((sr 1) ((y5 - (65 : Int32))).toNatClampNeg)); if (y171.1) = (-9) then ((y171.2.1), (y171.2.2), (sr 1), (sh 0 1), (sh 1), (sh 2), (sh 3), (sh 4), (sh 0 6), (sh 0 7), (sh 0 8), (sh 0 9), (sh 0 10), (sh 0 11), (sh 0 12)) else let y201 := J_X2_figure (up2 sc 0 (upd (upd (sc 0) 1 (y171.2.1)) 2 (y171.2.2))) st (J_X5_firstFigures y5); if (y201.1) = (-9) then ((y201.2.1), (y201.2.2), (upd (sr 1) ((y5 - (65 : Int32))).toNatClampNeg ((((sr 1) ((y5 - (65 : Int32))).toNatClampNeg) &&& (((1 : Int32) <<< ((y171.1) &&& 31)) ^^^ ((-1) : Int32))))), (sh 0 1), (sh 1), (sh 2), (sh 3), (sh 4), (sh 0 6), (sh 0 7), (sh 0 8), (sh 0 9), (sh 0 10), (sh 0 11), (sh 0 12)) else if (J_X5_hasSecond y5) = 0 then let y231 := J_X4_put sh y5 (y171.1) (y201.1) 0; ((y201.2.1), (y201.2.2), (upd (sr 1) ((y5 - (65 : Int32))).toNatClampNeg ((((sr 1) ((y5 - (65 : Int32))).toNatClampNeg) &&& (((1 : Int32) <<< ((y171.1) &&& 31)) ^^^ ((-1) : Int32))))), (y231.1), (y231.2.1), (y231.2.2.1), (y231.2.2.2.1), (y231.2.2.2.2.1), (y231.2.2.2.2.2.1), (y231.2.2.2.2.2.2.1), (y231.2.2.2.2.2.2.2.1), (y231.2.2.2.2.2.2.2.2.1), (y231.2.2.2.2.2.2.2.2.2.1), (y231.2.2.2.2.2.2.2.2.2.2.1), (y231.2.2.2.2.2.2.2.2.2.2.2)) else let y257 := J_X2_figure (up2 sc 0 (upd (upd (sc 0) 1 (y201.2.1)) 2 (y201.2.2))) st (J_X5_secondFigures y5); if (y257.1) = (-9) then ((y257.2.1), (y257.2.2), (upd (sr 1) ((y5 - (65 : Int32))).toNatClampNeg ((((sr 1) ((y5 - (65 : Int32))).toNatClampNeg) &&& (((1 : Int32) <<< ((y171.1) &&& 31)) ^^^ ((-1) : Int32))))), (sh 0 1), (sh 1), (sh 2), (sh 3), (sh 4), (sh 0 6), (sh 0 7), (sh 0 8), (sh 0 9), (sh 0 10), (sh 0 11), (sh 0 12)) else let y281 := J_X4_put sh y5 (y171.1) (y201.1) (y257.1); ((y257.2.1), (y257.2.2), (upd (sr 1) ((y5 - (65 : Int32))).toNatClampNeg ((((sr 1) ((y5 - (65 : Int32))).toNatClampNeg) &&& (((1 : Int32) <<< ((y171.1) &&& 31)) ^^^ ((-1) : Int32))))), (y281.1), (y281.2.1), (y281.2.2.1), (y281.2.2.2.1), (y281.2.2.2.2.1), (y281.2.2.2.2.2.1), (y281.2.2.2.2.2.2.1), (y281.2.2.2.2.2.2.2.1), (y281.2.2.2.2.2.2.2.2.1), (y281.2.2.2.2.2.2.2.2.2.1), (y281.2.2.2.2.2.2.2.2.2.2.1), (y281.2.2.2.2.2.2.2.2.2.2.2))
set_option maxHeartbeats 4000000 in
set_option maxRecDepth 100000 in
theorem c_X5_readPart (l : Launch) (D : va_G) (k : Nat → ClassId) (b : Nat → Nat) (qr : Nat → Nat) (sr : Nat → Nat → Int32) (qc : Nat → Nat) (sc : Nat → Nat → Int32) (qt : Nat → Nat) (st : Nat → Nat → Int32) (qh : Nat → Nat) (sh : Nat → Nat → Int32) (sz : Nat) (h_len : 0 ≤ (st 0 1).toInt ∧ (st 0 1).toInt ≤ 64) (u_a : ∀ j, 0 ≤ (sr 1 j).toInt ∧ (sr 1 j).toInt ≤ 31) (u_3 : 0 ≤ (sr 1 3).toInt ∧ (sr 1 3).toInt ≤ 7) (u_16 : 0 ≤ (sr 1 16).toInt ∧ (sr 1 16).toInt ≤ 7) (h_wk : 0 ≤ (sh 0 0).toInt ∧ (sh 0 0).toInt ≤ 5) (h_hk : 0 ≤ (sh 0 1).toInt ∧ (sh 0 1).toInt ≤ 4) (h_fl : 0 ≤ (sh 0 12).toInt ∧ (sh 0 12).toInt ≤ 5) (h_of : ∀ j, 0 ≤ (sh 2 j).toInt ∧ (sh 2 j).toInt ≤ 4) (h_go : ∀ j, 0 ≤ (sh 3 j).toInt ∧ (sh 3 j).toInt ≤ 5) : MetV l D k b yX5_readPart wsX5_readPart ({ frames := 3, cells := 0, slots := 0, locals := 63 } : Room) [(qr 0, .inr (3, [.ref (qc 0), .ref (qr 1)])), (qr 1, .inl (k 0, 26, .inl (sr 1))), (qc 0, .inr (1, [.ref (qt 0), .int (sc 0 1), .int (sc 0 2)])), (qt 0, .inr (8, [.ref (qt 1), .int (st 0 1)])), (qt 1, .inl (k 2, 64, .inl (st 1))), (qh 0, .inr (2, [.int (sh 0 0), .int (sh 0 1), .ref (qh 1), .ref (qh 2), .ref (qh 3), .ref (qh 4), .int (sh 0 6), .int (sh 0 7), .int (sh 0 8), .int (sh 0 9), .int (sh 0 10), .int (sh 0 11), .int (sh 0 12), .ref (qh 5)])), (qh 1, .inl (k 0, 5, .inl (sh 1))), (qh 2, .inl (k 0, 5, .inl (sh 2))), (qh 3, .inl (k 0, 3, .inl (sh 3))), (qh 4, .inl (k 0, 3, .inl (sh 4))), (qh 5, .inl (k 0, 525, .inl (sh 5)))] sz [.ref (qr 0), .ref (qh 0)] (fun (u : Int32 × Int32 × (Nat → Int32) × Int32 × (Nat → Int32) × (Nat → Int32) × (Nat → Int32) × (Nat → Int32) × Int32 × Int32 × Int32 × Int32 × Int32 × Int32 × Int32) => (∀ j, 0 ≤ ((u.2.2.1) j).toInt ∧ ((u.2.2.1) j).toInt ≤ 31) ∧ (0 ≤ ((u.2.2.1) 3).toInt ∧ ((u.2.2.1) 3).toInt ≤ 7) ∧ (0 ≤ ((u.2.2.1) 16).toInt ∧ ((u.2.2.1) 16).toInt ≤ 7) ∧ (0 ≤ (u.2.2.2.1).toInt ∧ (u.2.2.2.1).toInt ≤ 4) ∧ (0 ≤ (u.2.2.2.2.2.2.2.2.2.2.2.2.2.2).toInt ∧ (u.2.2.2.2.2.2.2.2.2.2.2.2.2.2).toInt ≤ 5) ∧ (∀ j, 0 ≤ ((u.2.2.2.2.2.1) j).toInt ∧ ((u.2.2.2.2.2.1) j).toInt ≤ 4) ∧ (∀ j, 0 ≤ ((u.2.2.2.2.2.2.1) j).toInt ∧ ((u.2.2.2.2.2.2.1) j).toInt ≤ 5) ∧ (((u.1), (u.2.1), (u.2.2.1), (u.2.2.2.1), (u.2.2.2.2.1), (u.2.2.2.2.2.1), (u.2.2.2.2.2.2.1), (u.2.2.2.2.2.2.2.1), (u.2.2.2.2.2.2.2.2.1), (u.2.2.2.2.2.2.2.2.2.1), (u.2.2.2.2.2.2.2.2.2.2.1), (u.2.2.2.2.2.2.2.2.2.2.2.1), (u.2.2.2.2.2.2.2.2.2.2.2.2.1), (u.2.2.2.2.2.2.2.2.2.2.2.2.2.1), (u.2.2.2.2.2.2.2.2.2.2.2.2.2.2)) = J_X5_readPart sr sc st sh)) (fun u => [(qr 0, .inr (3, [.ref (qc 0), .ref (qr 1)])), (qr 1, .inl (k 0, 26, .inl (u.2.2.1))), (qc 0, .inr (1, [.ref (qt 0), .int (u.1), .int (u.2.1)])), (qt 0, .inr (8, [.ref (qt 1), .int (st 0 1)])), (qt 1, .inl (k 2, 64, .inl (st 1))), (qh 0, .inr (2, [.int (sh 0 0), .int (u.2.2.2.1), .ref (qh 1), .ref (qh 2), .ref (qh 3), .ref (qh 4), .int (u.2.2.2.2.2.2.2.2.1), .int (u.2.2.2.2.2.2.2.2.2.1), .int (u.2.2.2.2.2.2.2.2.2.2.1), .int (u.2.2.2.2.2.2.2.2.2.2.2.1), .int (u.2.2.2.2.2.2.2.2.2.2.2.2.1), .int (u.2.2.2.2.2.2.2.2.2.2.2.2.2.1), .int (u.2.2.2.2.2.2.2.2.2.2.2.2.2.2), .ref (qh 5)])), (qh 1, .inl (k 0, 5, .inl (u.2.2.2.2.1))), (qh 2, .inl (k 0, 5, .inl (u.2.2.2.2.2.1))), (qh 3, .inl (k 0, 3, .inl (u.2.2.2.2.2.2.1))), (qh 4, .inl (k 0, 3, .inl (u.2.2.2.2.2.2.2.1))), (qh 5, .inl (k 0, 525, .inl (sh 5)))]) := by
  refine g_enter (cc := cX5_readPart) (maxL := 6) (ret := none) (by decide) rfl (Nat.le_of_ble_eq_true rfl) ?_
  intro p e s m below meth c A hsz hAe cx hr hP hD hS ls hl
  rw [hAe]
  refine g_q (fun Q hQ => ?_)
  have hx := cx.1.1
  have hb := cx.1.2.1
  have hl : lv_has ls 6 [(0, .ref (qr 0)), (1, .ref (qh 0))] := hl
  obtain ⟨H, eH⟩ : ∃ H : Heap, H = s.heap := ⟨_, rfl⟩
  obtain ⟨locs, el⟩ : ∃ L : List Loc, L = [] := ⟨_, rfl⟩
  have hP : va_P D vwCl [(qr 0, .inr (3, [.ref (qc 0), .ref (qr 1)])), (qr 1, .inl (k 0, 26, .inl (sr 1))), (qc 0, .inr (1, [.ref (qt 0), .int (sc 0 1), .int (sc 0 2)])), (qt 0, .inr (8, [.ref (qt 1), .int (st 0 1)])), (qt 1, .inl (k 2, 64, .inl (st 1))), (qh 0, .inr (2, [.int (sh 0 0), .int (sh 0 1), .ref (qh 1), .ref (qh 2), .ref (qh 3), .ref (qh 4), .int (sh 0 6), .int (sh 0 7), .int (sh 0 8), .int (sh 0 9), .int (sh 0 10), .int (sh 0 11), .int (sh 0 12), .ref (qh 5)])), (qh 1, .inl (k 0, 5, .inl (sh 1))), (qh 2, .inl (k 0, 5, .inl (sh 2))), (qh 3, .inl (k 0, 3, .inl (sh 3))), (qh 4, .inl (k 0, 3, .inl (sh 4))), (qh 5, .inl (k 0, 525, .inl (sh 5)))] H := by rw [eH]; exact hP
  have hD : va_D A [(qr 0, .inr (3, [.ref (qc 0), .ref (qr 1)])), (qr 1, .inl (k 0, 26, .inl (sr 1))), (qc 0, .inr (1, [.ref (qt 0), .int (sc 0 1), .int (sc 0 2)])), (qt 0, .inr (8, [.ref (qt 1), .int (st 0 1)])), (qt 1, .inl (k 2, 64, .inl (st 1))), (qh 0, .inr (2, [.int (sh 0 0), .int (sh 0 1), .ref (qh 1), .ref (qh 2), .ref (qh 3), .ref (qh 4), .int (sh 0 6), .int (sh 0 7), .int (sh 0 8), .int (sh 0 9), .int (sh 0 10), .int (sh 0 11), .int (sh 0 12), .ref (qh 5)])), (qh 1, .inl (k 0, 5, .inl (sh 1))), (qh 2, .inl (k 0, 5, .inl (sh 2))), (qh 3, .inl (k 0, 3, .inl (sh 3))), (qh 4, .inl (k 0, 3, .inl (sh 4))), (qh 5, .inl (k 0, 525, .inl (sh 5)))] := hD
  have hS : va_S A s.heap H locs := by rw [eH, el]; exact hS
  suffices goal : W p l e ({ frames := 3, cells := 0, slots := 0, locals := 63 } : Room) s m ([.ref (qr 0), .ref (qh 0)] : List Value).toArray below meth c H locs 0 0 Q (F0 m 0 ls []) by rw [eH, el] at goal; exact goal
  refine lv_aload_n hx hb dX5_readPart_0 rfl (lv_at hl 0 rfl) ?_
  refine g_get cx hP iw_X5_readPart_X5 0 rfl rfl 0 (by decide) rfl fw_X5_readPart_20 rfl dX5_readPart_1 ?_
  refine g_ir (g_runV (wc := [(qc 0, .inr (1, [.ref (qt 0), .int (sc 0 1), .int (sc 0 2)])), (qt 0, .inr (8, [.ref (qt 1), .int (st 0 1)])), (qt 1, .inl (k 2, 64, .inl (st 1)))]) (rest := []) cx hP hD hS [2, 3, 4] rfl (by decide) [] (c_X2_here l D k b qc sc qt st H.size (show 0 ≤ (st 0 1).toInt ∧ (st 0 1).toInt ≤ 64 from by first | assumption | decide | omega)) gX5_readPart_X2_here rfl rfl rfl nd_X2_here ⟨Nat.le_of_ble_eq_true rfl, Nat.le_of_ble_eq_true rfl⟩ (ci := 1) (q0 := 0) rfl rfl rfl hl.1 rfl (Nat.le_of_ble_eq_true rfl) ⟨Nat.zero_le _, Nat.zero_le _⟩ dX5_readPart_4) cx.2.2.1 hP hD hS [2, 3, 4] rfl rfl (fun r2 H locs hw1 hP hS => ?_)
  replace hw1 : (-9 ≤ r2.toInt ∧ r2.toInt ≤ 255) ∧ (r2 = J_X2_here sc st) := hw1
  obtain ⟨w3, w4⟩ := hw1
  have k6 : r2 = (J_X2_here sc st) := congrArg (fun z => z) w4
  refine lv_istore_n (lv' := [(2, .int r2), (0, .ref (qr 0)), (1, .ref (qh 0))]) hx hb dX5_readPart_7 rfl hl (by decide) rfl (fun ls hl => ?_)
  refine lv_iload_n hx hb dX5_readPart_8 rfl (lv_at hl 0 rfl) ?_
  refine lv_bipush (v := 65) hx hb dX5_readPart_9 (by decide) ?_
  refine lv_icmp_lt (tgt := 32) hx hb dX5_readPart_11 (by decide) (fun c7 => ?_) (fun c7 => ?_)
  · have f7 : r2.toInt < 65 := f_lt rfl (by decide) c7
    refine lv_aload_n hx hb dX5_readPart_32 rfl (lv_at hl 1 rfl) ?_
    refine g_get cx hP iw_X5_readPart_X5 0 rfl rfl 0 (by decide) rfl fw_X5_readPart_20 rfl dX5_readPart_33 ?_
    refine g_v (w1 := fun (u : Int32) => [(qc 0, .inr (1, [.ref (qt 0), .int (sc 0 1), .int u])), (qt 0, .inr (8, [.ref (qt 1), .int (st 0 1)])), (qt 1, .inl (k 2, 64, .inl (st 1)))]) (g_runV (wc := [(qc 0, .inr (1, [.ref (qt 0), .int (sc 0 1), .int (sc 0 2)])), (qt 0, .inr (8, [.ref (qt 1), .int (st 0 1)])), (qt 1, .inl (k 2, 64, .inl (st 1)))]) (rest := []) cx hP hD hS [2, 3, 4] rfl (by decide) [] (c_X2_stop l D k b qc sc qt st H.size) gX5_readPart_X2_stop rfl rfl rfl nd_X2_stop ⟨Nat.le_of_ble_eq_true rfl, Nat.le_of_ble_eq_true rfl⟩ (ci := 1) (q0 := 0) rfl rfl rfl hl.1 rfl (Nat.le_of_ble_eq_true rfl) ⟨Nat.zero_le _, Nat.zero_le _⟩ dX5_readPart_36) cx.2.2.1 hP hD hS [2, 3, 4] rfl (fun _ => rfl) (fun u9 H locs hw8 hP hD hS => ?_)
    obtain ⟨m10, rfl⟩ : ∃ z, z = u9 := ⟨_, rfl⟩
    have hP : va_P D vwCl [(qr 0, .inr (3, [.ref (qc 0), .ref (qr 1)])), (qr 1, .inl (k 0, 26, .inl (sr 1))), (qc 0, .inr (1, [.ref (qt 0), .int (sc 0 1), .int m10])), (qt 0, .inr (8, [.ref (qt 1), .int (st 0 1)])), (qt 1, .inl (k 2, 64, .inl (st 1))), (qh 0, .inr (2, [.int (sh 0 0), .int (sh 0 1), .ref (qh 1), .ref (qh 2), .ref (qh 3), .ref (qh 4), .int (sh 0 6), .int (sh 0 7), .int (sh 0 8), .int (sh 0 9), .int (sh 0 10), .int (sh 0 11), .int (sh 0 12), .ref (qh 5)])), (qh 1, .inl (k 0, 5, .inl (sh 1))), (qh 2, .inl (k 0, 5, .inl (sh 2))), (qh 3, .inl (k 0, 3, .inl (sh 3))), (qh 4, .inl (k 0, 3, .inl (sh 4))), (qh 5, .inl (k 0, 525, .inl (sh 5)))] H := hP
    have hD : va_D A [(qr 0, .inr (3, [.ref (qc 0), .ref (qr 1)])), (qr 1, .inl (k 0, 26, .inl (sr 1))), (qc 0, .inr (1, [.ref (qt 0), .int (sc 0 1), .int m10])), (qt 0, .inr (8, [.ref (qt 1), .int (st 0 1)])), (qt 1, .inl (k 2, 64, .inl (st 1))), (qh 0, .inr (2, [.int (sh 0 0), .int (sh 0 1), .ref (qh 1), .ref (qh 2), .ref (qh 3), .ref (qh 4), .int (sh 0 6), .int (sh 0 7), .int (sh 0 8), .int (sh 0 9), .int (sh 0 10), .int (sh 0 11), .int (sh 0 12), .ref (qh 5)])), (qh 1, .inl (k 0, 5, .inl (sh 1))), (qh 2, .inl (k 0, 5, .inl (sh 2))), (qh 3, .inl (k 0, 3, .inl (sh 3))), (qh 4, .inl (k 0, 3, .inl (sh 4))), (qh 5, .inl (k 0, 525, .inl (sh 5)))] := hD
    have w11 : m10 = J_X2_stop sc st := hw8
    clear hw8
    have k13 : m10 = (J_X2_stop sc st) := congrArg (fun z => z) w11
    rw [hQ]
    exact x_v cx hr ((sc 0 1), m10, (sr 1), (sh 0 1), (sh 1), (sh 2), (sh 3), (sh 4), (sh 0 6), (sh 0 7), (sh 0 8), (sh 0 9), (sh 0 10), (sh 0 11), (sh 0 12)) hP hD hS ⟨u_a, (show 0 ≤ ((sr 1) 3).toInt ∧ ((sr 1) 3).toInt ≤ 7 from by first | assumption | omega), (show 0 ≤ ((sr 1) 16).toInt ∧ ((sr 1) 16).toInt ≤ 7 from by first | assumption | omega), (show 0 ≤ (sh 0 1).toInt ∧ (sh 0 1).toInt ≤ 4 from by first | assumption | omega), (show 0 ≤ (sh 0 12).toInt ∧ (sh 0 12).toInt ≤ 5 from by first | assumption | omega), h_of, h_go, (show ((sc 0 1), m10, (sr 1), (sh 0 1), (sh 1), (sh 2), (sh 3), (sh 4), (sh 0 6), (sh 0 7), (sh 0 8), (sh 0 9), (sh 0 10), (sh 0 11), (sh 0 12)) = J_X5_readPart sr sc st sh from by subst k6 k13; first | (refine Eq.symm ?_; refine Eq.trans (if_pos c7) ?_; rfl) | (unfold J_X5_readPart; try dsimp only; rw [if_pos c7]))⟩ dX5_readPart_39
  · have f7 : 65 ≤ r2.toInt := f_nlt rfl (by decide) c7
    refine lv_iload_n hx hb dX5_readPart_14 rfl (lv_at hl 0 rfl) ?_
    refine lv_bipush (v := 90) hx hb dX5_readPart_15 (by decide) ?_
    refine lv_icmp_gt (tgt := 32) hx hb dX5_readPart_17 (by decide) (fun c14 => ?_) (fun c14 => ?_)
    · have f14 : 90 < r2.toInt := f_lt (by decide) rfl c14
      refine lv_aload_n hx hb dX5_readPart_32 rfl (lv_at hl 1 rfl) ?_
      refine g_get cx hP iw_X5_readPart_X5 0 rfl rfl 0 (by decide) rfl fw_X5_readPart_20 rfl dX5_readPart_33 ?_
      refine g_v (w1 := fun (u : Int32) => [(qc 0, .inr (1, [.ref (qt 0), .int (sc 0 1), .int u])), (qt 0, .inr (8, [.ref (qt 1), .int (st 0 1)])), (qt 1, .inl (k 2, 64, .inl (st 1)))]) (g_runV (wc := [(qc 0, .inr (1, [.ref (qt 0), .int (sc 0 1), .int (sc 0 2)])), (qt 0, .inr (8, [.ref (qt 1), .int (st 0 1)])), (qt 1, .inl (k 2, 64, .inl (st 1)))]) (rest := []) cx hP hD hS [2, 3, 4] rfl (by decide) [] (c_X2_stop l D k b qc sc qt st H.size) gX5_readPart_X2_stop rfl rfl rfl nd_X2_stop ⟨Nat.le_of_ble_eq_true rfl, Nat.le_of_ble_eq_true rfl⟩ (ci := 1) (q0 := 0) rfl rfl rfl hl.1 rfl (Nat.le_of_ble_eq_true rfl) ⟨Nat.zero_le _, Nat.zero_le _⟩ dX5_readPart_36) cx.2.2.1 hP hD hS [2, 3, 4] rfl (fun _ => rfl) (fun u16 H locs hw15 hP hD hS => ?_)
      obtain ⟨m17, rfl⟩ : ∃ z, z = u16 := ⟨_, rfl⟩
      have hP : va_P D vwCl [(qr 0, .inr (3, [.ref (qc 0), .ref (qr 1)])), (qr 1, .inl (k 0, 26, .inl (sr 1))), (qc 0, .inr (1, [.ref (qt 0), .int (sc 0 1), .int m17])), (qt 0, .inr (8, [.ref (qt 1), .int (st 0 1)])), (qt 1, .inl (k 2, 64, .inl (st 1))), (qh 0, .inr (2, [.int (sh 0 0), .int (sh 0 1), .ref (qh 1), .ref (qh 2), .ref (qh 3), .ref (qh 4), .int (sh 0 6), .int (sh 0 7), .int (sh 0 8), .int (sh 0 9), .int (sh 0 10), .int (sh 0 11), .int (sh 0 12), .ref (qh 5)])), (qh 1, .inl (k 0, 5, .inl (sh 1))), (qh 2, .inl (k 0, 5, .inl (sh 2))), (qh 3, .inl (k 0, 3, .inl (sh 3))), (qh 4, .inl (k 0, 3, .inl (sh 4))), (qh 5, .inl (k 0, 525, .inl (sh 5)))] H := hP
      have hD : va_D A [(qr 0, .inr (3, [.ref (qc 0), .ref (qr 1)])), (qr 1, .inl (k 0, 26, .inl (sr 1))), (qc 0, .inr (1, [.ref (qt 0), .int (sc 0 1), .int m17])), (qt 0, .inr (8, [.ref (qt 1), .int (st 0 1)])), (qt 1, .inl (k 2, 64, .inl (st 1))), (qh 0, .inr (2, [.int (sh 0 0), .int (sh 0 1), .ref (qh 1), .ref (qh 2), .ref (qh 3), .ref (qh 4), .int (sh 0 6), .int (sh 0 7), .int (sh 0 8), .int (sh 0 9), .int (sh 0 10), .int (sh 0 11), .int (sh 0 12), .ref (qh 5)])), (qh 1, .inl (k 0, 5, .inl (sh 1))), (qh 2, .inl (k 0, 5, .inl (sh 2))), (qh 3, .inl (k 0, 3, .inl (sh 3))), (qh 4, .inl (k 0, 3, .inl (sh 4))), (qh 5, .inl (k 0, 525, .inl (sh 5)))] := hD
      have w18 : m17 = J_X2_stop sc st := hw15
      clear hw15
      have k20 : m17 = (J_X2_stop sc st) := congrArg (fun z => z) w18
      rw [hQ]
      exact x_v cx hr ((sc 0 1), m17, (sr 1), (sh 0 1), (sh 1), (sh 2), (sh 3), (sh 4), (sh 0 6), (sh 0 7), (sh 0 8), (sh 0 9), (sh 0 10), (sh 0 11), (sh 0 12)) hP hD hS ⟨u_a, (show 0 ≤ ((sr 1) 3).toInt ∧ ((sr 1) 3).toInt ≤ 7 from by first | assumption | omega), (show 0 ≤ ((sr 1) 16).toInt ∧ ((sr 1) 16).toInt ≤ 7 from by first | assumption | omega), (show 0 ≤ (sh 0 1).toInt ∧ (sh 0 1).toInt ≤ 4 from by first | assumption | omega), (show 0 ≤ (sh 0 12).toInt ∧ (sh 0 12).toInt ≤ 5 from by first | assumption | omega), h_of, h_go, (show ((sc 0 1), m17, (sr 1), (sh 0 1), (sh 1), (sh 2), (sh 3), (sh 4), (sh 0 6), (sh 0 7), (sh 0 8), (sh 0 9), (sh 0 10), (sh 0 11), (sh 0 12)) = J_X5_readPart sr sc st sh from by subst k6 k20; first | (refine Eq.symm ?_; refine Eq.trans (if_neg c7) ?_; refine Eq.trans (if_pos c14) ?_; rfl) | (unfold J_X5_readPart; try dsimp only; rw [if_neg c7, if_pos c14]))⟩ dX5_readPart_39
    · have f14 : r2.toInt ≤ 90 := f_nlt (by decide) rfl c14
      refine lv_aload_n hx hb dX5_readPart_20 rfl (lv_at hl 1 rfl) ?_
      refine g_get cx hP iw_X5_readPart_X5 0 rfl rfl 1 (by decide) rfl fw_X5_readPart_9 rfl dX5_readPart_21 ?_
      refine lv_iload_n hx hb dX5_readPart_24 rfl (lv_at hl 0 rfl) ?_
      refine lv_bipush (v := 65) hx hb dX5_readPart_25 (by decide) ?_
      refine lv_isub hx hb dX5_readPart_27 (lv_topi (fun v21 e21 => ?_))
      have t21 : v21.toInt = r2.toInt - 65 := by rw [e21]; exact i_sub rfl (by decide) (by omega) (by omega)
      have hn22 : vp_in v21 26 := f_in (a := v21.toInt) rfl (by omega) (by omega)
      refine va_iald hx hb cx.2.1 hP 1 0 rfl rfl hn22 dX5_readPart_28 (lv_topi (fun v23 e23 => ?_))
      have t23 : 0 ≤ v23.toInt ∧ v23.toInt ≤ 31 := by rw [e23]; exact u_a _
      refine lv_if_ne (tgt := 40) hx hb dX5_readPart_29 (by decide) (fun c24 => ?_) (fun c24 => ?_)
      · have f24 : ¬ v23.toInt = 0 := f_ne rfl (by decide) c24
        refine lv_aload_n hx hb dX5_readPart_40 rfl (lv_at hl 1 rfl) ?_
        refine g_get cx hP iw_X5_readPart_X5 0 rfl rfl 0 (by decide) rfl fw_X5_readPart_20 rfl dX5_readPart_41 ?_
        refine g_v (w1 := fun (u : Int32) => [(qc 0, .inr (1, [.ref (qt 0), .int u, .int (sc 0 2)])), (qt 0, .inr (8, [.ref (qt 1), .int (st 0 1)])), (qt 1, .inl (k 2, 64, .inl (st 1)))]) (g_runV (wc := [(qc 0, .inr (1, [.ref (qt 0), .int (sc 0 1), .int (sc 0 2)])), (qt 0, .inr (8, [.ref (qt 1), .int (st 0 1)])), (qt 1, .inl (k 2, 64, .inl (st 1)))]) (rest := []) cx hP hD hS [2, 3, 4] rfl (by decide) [] (c_X2_step l D k b qc sc qt st H.size) gX5_readPart_X2_step rfl rfl rfl nd_X2_step ⟨Nat.le_of_ble_eq_true rfl, Nat.le_of_ble_eq_true rfl⟩ (ci := 1) (q0 := 0) rfl rfl rfl hl.1 rfl (Nat.le_of_ble_eq_true rfl) ⟨Nat.zero_le _, Nat.zero_le _⟩ dX5_readPart_44) cx.2.2.1 hP hD hS [2, 3, 4] rfl (fun _ => rfl) (fun u26 H locs hw25 hP hD hS => ?_)
        obtain ⟨m27, rfl⟩ : ∃ z, z = u26 := ⟨_, rfl⟩
        have hP : va_P D vwCl [(qr 0, .inr (3, [.ref (qc 0), .ref (qr 1)])), (qr 1, .inl (k 0, 26, .inl (sr 1))), (qc 0, .inr (1, [.ref (qt 0), .int m27, .int (sc 0 2)])), (qt 0, .inr (8, [.ref (qt 1), .int (st 0 1)])), (qt 1, .inl (k 2, 64, .inl (st 1))), (qh 0, .inr (2, [.int (sh 0 0), .int (sh 0 1), .ref (qh 1), .ref (qh 2), .ref (qh 3), .ref (qh 4), .int (sh 0 6), .int (sh 0 7), .int (sh 0 8), .int (sh 0 9), .int (sh 0 10), .int (sh 0 11), .int (sh 0 12), .ref (qh 5)])), (qh 1, .inl (k 0, 5, .inl (sh 1))), (qh 2, .inl (k 0, 5, .inl (sh 2))), (qh 3, .inl (k 0, 3, .inl (sh 3))), (qh 4, .inl (k 0, 3, .inl (sh 4))), (qh 5, .inl (k 0, 525, .inl (sh 5)))] H := hP
        have hD : va_D A [(qr 0, .inr (3, [.ref (qc 0), .ref (qr 1)])), (qr 1, .inl (k 0, 26, .inl (sr 1))), (qc 0, .inr (1, [.ref (qt 0), .int m27, .int (sc 0 2)])), (qt 0, .inr (8, [.ref (qt 1), .int (st 0 1)])), (qt 1, .inl (k 2, 64, .inl (st 1))), (qh 0, .inr (2, [.int (sh 0 0), .int (sh 0 1), .ref (qh 1), .ref (qh 2), .ref (qh 3), .ref (qh 4), .int (sh 0 6), .int (sh 0 7), .int (sh 0 8), .int (sh 0 9), .int (sh 0 10), .int (sh 0 11), .int (sh 0 12), .ref (qh 5)])), (qh 1, .inl (k 0, 5, .inl (sh 1))), (qh 2, .inl (k 0, 5, .inl (sh 2))), (qh 3, .inl (k 0, 3, .inl (sh 3))), (qh 4, .inl (k 0, 3, .inl (sh 4))), (qh 5, .inl (k 0, 525, .inl (sh 5)))] := hD
        have w28 : m27 = J_X2_step sc st := hw25
        clear hw25
        have k30 : m27 = (J_X2_step sc st) := congrArg (fun z => z) w28
        refine lv_iload_n hx hb dX5_readPart_47 rfl (lv_at hl 0 rfl) ?_
        refine g_ir (g_runS (wc := []) (rest := []) cx hP hD hS [] rfl (by decide) [.int r2] (c_X5_tellsWhich l D k b H.size r2) gX5_readPart_X5_tellsWhich rfl rfl rfl nd_X5_tellsWhich ⟨Nat.le_of_ble_eq_true rfl, Nat.le_of_ble_eq_true rfl⟩ rfl hl.1 rfl (Nat.le_of_ble_eq_true rfl) ⟨Nat.zero_le _, Nat.zero_le _⟩ dX5_readPart_48) cx.2.2.1 hP hD hS [] rfl rfl (fun r32 H locs hw31 hP hS => ?_)
        have w33 : r32 = J_X5_tellsWhich r2 := hw31
        clear hw31
        have zr32 := tells_b w33
        refine lv_if_eq (tgt := 73) hx hb dX5_readPart_51 (by decide) (fun c34 => ?_) (fun c34 => ?_)
        · have f34 : r32.toInt = 0 := f_eq rfl (by decide) c34
          have k34 : ¬ r2.toInt = 87 ∧ ¬ r2.toInt = 79 ∧ ¬ r2.toInt = 81 ∧ ¬ r2.toInt = 68 := tells_f w33 c34
          refine lv_iconst (v := 0) hx hb dX5_readPart_73 (by decide) ?_
          refine lv_istore_n (lv' := [(3, .int 0), (2, .int r2), (0, .ref (qr 0)), (1, .ref (qh 0))]) hx hb dX5_readPart_74 rfl hl (by decide) rfl (fun ls hl => ?_)
          refine lv_iload_n hx hb dX5_readPart_75 rfl (lv_at hl 0 rfl) ?_
          refine lv_bipush (v := (-9)) hx hb dX5_readPart_76 (by decide) ?_
          refine lv_icmp_ne (tgt := 82) hx hb dX5_readPart_78 (by decide) (fun c35 => ?_) (fun c35 => ?_)
          · refine lv_aload_n hx hb dX5_readPart_82 rfl (lv_at hl 2 rfl) ?_
            refine g_get cx hP iw_X5_readPart_X5 0 rfl rfl 1 (by decide) rfl fw_X5_readPart_9 rfl dX5_readPart_83 ?_
            refine lv_iload_n hx hb dX5_readPart_86 rfl (lv_at hl 1 rfl) ?_
            refine lv_bipush (v := 65) hx hb dX5_readPart_87 (by decide) ?_
            refine lv_isub hx hb dX5_readPart_89 (lv_topi (fun v36 e36 => ?_))
            have t36 : v36.toInt = r2.toInt - 65 := by rw [e36]; exact i_sub rfl (by decide) (by omega) (by omega)
            refine lv_dup2_11 hx hb dX5_readPart_90 rfl rfl ?_
            have hn37 : vp_in v36 26 := f_in (a := v36.toInt) rfl (by omega) (by omega)
            refine va_iald hx hb cx.2.1 hP 1 0 rfl rfl hn37 dX5_readPart_91 (lv_topi (fun v38 e38 => ?_))
            have t38 : 0 ≤ v38.toInt ∧ v38.toInt ≤ 31 := by rw [e38]; exact u_a _
            have s39 := ldI e38 rfl (show 0 ≤ v36.toInt from by omega) 3
            have s40 := ldI e38 rfl (show 0 ≤ v36.toInt from by omega) 16
            refine lv_iconst (v := 1) hx hb dX5_readPart_92 (by decide) ?_
            refine lv_iload_n hx hb dX5_readPart_93 rfl (lv_at hl 0 rfl) ?_
            refine lv_ishl hx hb dX5_readPart_94 (lv_topi (fun v41 e41 => ?_))
            refine lv_iconst (v := (-1)) hx hb dX5_readPart_95 (by decide) ?_
            refine lv_ixor hx hb dX5_readPart_96 (lv_topi (fun v42 e42 => ?_))
            refine lv_iand hx hb dX5_readPart_97 (lv_topi (fun v43 e43 => ?_))
            have t43 : 0 ≤ v43.toInt ∧ v43.toInt ≤ v38.toInt := by rw [e43]; exact and_l rfl (by omega)
            have hn44 : vp_in v36 26 := f_in (a := v36.toInt) rfl (by omega) (by omega)
            refine va_iast hx hb cx.2.1 hP hD hS 1 0 rfl rfl hn44 dX5_readPart_98 (fun H locs hP hD hS => ?_)
            obtain ⟨g45, eg45⟩ : ∃ g : Nat → Int32, g = upd (sr 1) (v36).toNatClampNeg v43 := ⟨_, rfl⟩
            rw [← eg45] at hP hD
            have hP : va_P D vwCl [(qr 0, .inr (3, [.ref (qc 0), .ref (qr 1)])), (qr 1, .inl (k 0, 26, .inl g45)), (qc 0, .inr (1, [.ref (qt 0), .int m27, .int (sc 0 2)])), (qt 0, .inr (8, [.ref (qt 1), .int (st 0 1)])), (qt 1, .inl (k 2, 64, .inl (st 1))), (qh 0, .inr (2, [.int (sh 0 0), .int (sh 0 1), .ref (qh 1), .ref (qh 2), .ref (qh 3), .ref (qh 4), .int (sh 0 6), .int (sh 0 7), .int (sh 0 8), .int (sh 0 9), .int (sh 0 10), .int (sh 0 11), .int (sh 0 12), .ref (qh 5)])), (qh 1, .inl (k 0, 5, .inl (sh 1))), (qh 2, .inl (k 0, 5, .inl (sh 2))), (qh 3, .inl (k 0, 3, .inl (sh 3))), (qh 4, .inl (k 0, 3, .inl (sh 4))), (qh 5, .inl (k 0, 525, .inl (sh 5)))] H := hP
            have hD : va_D A [(qr 0, .inr (3, [.ref (qc 0), .ref (qr 1)])), (qr 1, .inl (k 0, 26, .inl g45)), (qc 0, .inr (1, [.ref (qt 0), .int m27, .int (sc 0 2)])), (qt 0, .inr (8, [.ref (qt 1), .int (st 0 1)])), (qt 1, .inl (k 2, 64, .inl (st 1))), (qh 0, .inr (2, [.int (sh 0 0), .int (sh 0 1), .ref (qh 1), .ref (qh 2), .ref (qh 3), .ref (qh 4), .int (sh 0 6), .int (sh 0 7), .int (sh 0 8), .int (sh 0 9), .int (sh 0 10), .int (sh 0 11), .int (sh 0 12), .ref (qh 5)])), (qh 1, .inl (k 0, 5, .inl (sh 1))), (qh 2, .inl (k 0, 5, .inl (sh 2))), (qh 3, .inl (k 0, 3, .inl (sh 3))), (qh 4, .inl (k 0, 3, .inl (sh 4))), (qh 5, .inl (k 0, 525, .inl (sh 5)))] := hD
            have ag45 : ∀ j, 0 ≤ (g45 j).toInt ∧ (g45 j).toInt ≤ 31 := by rw [eg45]; exact upd_all u_a ⟨by first | decide | omega, by first | decide | omega⟩
            have s46 := updI eg45 rfl (show 0 ≤ v36.toInt from by omega) 3
            have s47 := updI eg45 rfl (show 0 ≤ v36.toInt from by omega) 16
            refine lv_aload_n hx hb dX5_readPart_99 rfl (lv_at hl 2 rfl) ?_
            refine g_get cx hP iw_X5_readPart_X5 0 rfl rfl 0 (by decide) rfl fw_X5_readPart_20 rfl dX5_readPart_100 ?_
            refine lv_iload_n hx hb dX5_readPart_103 rfl (lv_at hl 1 rfl) ?_
            refine g_ir (g_runS (wc := []) (rest := [.ref (qc 0)]) cx hP hD hS [] rfl (by decide) [.int r2] (c_X5_firstFigures l D k b H.size r2) gX5_readPart_X5_firstFigures rfl rfl rfl nd_X5_firstFigures ⟨Nat.le_of_ble_eq_true rfl, Nat.le_of_ble_eq_true rfl⟩ rfl hl.1 rfl (Nat.le_of_ble_eq_true rfl) ⟨Nat.zero_le _, Nat.zero_le _⟩ dX5_readPart_104) cx.2.2.1 hP hD hS [] rfl rfl (fun r49 H locs hw48 hP hS => ?_)
            have w50 : r49 = J_X5_firstFigures r2 := hw48
            clear hw48
            have zr49 := ff_t w50
            refine g_i (w1 := fun (u : Int32 × Int32) => [(qc 0, .inr (1, [.ref (qt 0), .int (u.1), .int (u.2)])), (qt 0, .inr (8, [.ref (qt 1), .int (st 0 1)])), (qt 1, .inl (k 2, 64, .inl (st 1)))]) (g_runV (wc := [(qc 0, .inr (1, [.ref (qt 0), .int m27, .int (sc 0 2)])), (qt 0, .inr (8, [.ref (qt 1), .int (st 0 1)])), (qt 1, .inl (k 2, 64, .inl (st 1)))]) (rest := []) cx hP hD hS [2, 3, 4] rfl (by decide) [.int r49] (c_X2_figure l D k b qc (up2 sc 0 (upd (sc 0) 1 m27)) qt st H.size r49 (show 0 ≤ (st 0 1).toInt ∧ (st 0 1).toInt ≤ 64 from by first | assumption | decide | omega)) gX5_readPart_X2_figure rfl rfl rfl nd_X2_figure ⟨Nat.le_of_ble_eq_true rfl, Nat.le_of_ble_eq_true rfl⟩ (ci := 1) (q0 := 0) rfl rfl rfl hl.1 rfl (Nat.le_of_ble_eq_true rfl) ⟨Nat.zero_le _, Nat.zero_le _⟩ dX5_readPart_107) cx.2.2.1 hP hD hS [2, 3, 4] rfl (fun _ => rfl) (fun r53 u52 H locs hw51 hP hD hS => ?_)
            obtain ⟨m54, m55⟩ := u52
            have hP : va_P D vwCl [(qr 0, .inr (3, [.ref (qc 0), .ref (qr 1)])), (qr 1, .inl (k 0, 26, .inl g45)), (qc 0, .inr (1, [.ref (qt 0), .int m54, .int m55])), (qt 0, .inr (8, [.ref (qt 1), .int (st 0 1)])), (qt 1, .inl (k 2, 64, .inl (st 1))), (qh 0, .inr (2, [.int (sh 0 0), .int (sh 0 1), .ref (qh 1), .ref (qh 2), .ref (qh 3), .ref (qh 4), .int (sh 0 6), .int (sh 0 7), .int (sh 0 8), .int (sh 0 9), .int (sh 0 10), .int (sh 0 11), .int (sh 0 12), .ref (qh 5)])), (qh 1, .inl (k 0, 5, .inl (sh 1))), (qh 2, .inl (k 0, 5, .inl (sh 2))), (qh 3, .inl (k 0, 3, .inl (sh 3))), (qh 4, .inl (k 0, 3, .inl (sh 4))), (qh 5, .inl (k 0, 525, .inl (sh 5)))] H := hP
            have hD : va_D A [(qr 0, .inr (3, [.ref (qc 0), .ref (qr 1)])), (qr 1, .inl (k 0, 26, .inl g45)), (qc 0, .inr (1, [.ref (qt 0), .int m54, .int m55])), (qt 0, .inr (8, [.ref (qt 1), .int (st 0 1)])), (qt 1, .inl (k 2, 64, .inl (st 1))), (qh 0, .inr (2, [.int (sh 0 0), .int (sh 0 1), .ref (qh 1), .ref (qh 2), .ref (qh 3), .ref (qh 4), .int (sh 0 6), .int (sh 0 7), .int (sh 0 8), .int (sh 0 9), .int (sh 0 10), .int (sh 0 11), .int (sh 0 12), .ref (qh 5)])), (qh 1, .inl (k 0, 5, .inl (sh 1))), (qh 2, .inl (k 0, 5, .inl (sh 2))), (qh 3, .inl (k 0, 3, .inl (sh 3))), (qh 4, .inl (k 0, 3, .inl (sh 4))), (qh 5, .inl (k 0, 525, .inl (sh 5)))] := hD
            replace hw51 : (r53.toInt = -9 ∨ (0 ≤ r53.toInt ∧ r53.toInt ≤ 9)) ∧ (Imp (0 ≤ r49.toInt ∧ r49.toInt ≤ 63) (r53.toInt ≤ 5)) ∧ (Imp (0 ≤ r49.toInt ∧ r49.toInt ≤ 31) (r53.toInt ≤ 4)) ∧ (Imp (0 ≤ r49.toInt ∧ r49.toInt ≤ 7) (r53.toInt ≤ 2)) ∧ ((r53, m54, m55) = J_X2_figure (up2 sc 0 (upd (sc 0) 1 m27)) st r49) := hw51
            obtain ⟨w56, w57, w58, w59, w60⟩ := hw51
            have k62 : r53 = ((J_X2_figure (up2 sc 0 (upd (sc 0) 1 m27)) st r49).1) := congrArg (fun z => (z.1)) w60
            have k63 : m54 = ((J_X2_figure (up2 sc 0 (upd (sc 0) 1 m27)) st r49).2.1) := congrArg (fun z => (z.2.1)) w60
            have k64 : m55 = ((J_X2_figure (up2 sc 0 (upd (sc 0) 1 m27)) st r49).2.2) := congrArg (fun z => (z.2.2)) w60
            have f4 : Hd (¬ (r2.toInt = 72 ∨ r2.toInt = 79) ∨ r53.toInt ≤ 4) := by by_cases q : (r2.toInt = 72 ∨ r2.toInt = 79); exact Or.inr (w58 ⟨by omega, by omega⟩); exact Or.inl q
            have f5 : Hd (¬ r2.toInt = 81 ∨ r53.toInt ≤ 5) := by by_cases q : r2.toInt = 81; exact Or.inr (w57 ⟨by omega, by omega⟩); exact Or.inl q
            clear zr49
            refine lv_istore (lv' := [(4, .int r53), (3, .int 0), (2, .int r2), (0, .ref (qr 0)), (1, .ref (qh 0))]) hx hb dX5_readPart_110 hl (by decide) rfl (fun ls hl => ?_)
            refine lv_iload hx hb dX5_readPart_112 (lv_at hl 0 rfl) ?_
            refine lv_bipush (v := (-9)) hx hb dX5_readPart_114 (by decide) ?_
            refine lv_icmp_ne (tgt := 120) hx hb dX5_readPart_116 (by decide) (fun c65 => ?_) (fun c65 => ?_)
            · have f65 : ¬ r53.toInt = (-9) := f_ne rfl (by decide) c65
              refine lv_iload_n hx hb dX5_readPart_120 rfl (lv_at hl 2 rfl) ?_
              refine g_ir (g_runS (wc := []) (rest := []) cx hP hD hS [] rfl (by decide) [.int r2] (c_X5_hasSecond l D k b H.size r2) gX5_readPart_X5_hasSecond rfl rfl rfl nd_X5_hasSecond ⟨Nat.le_of_ble_eq_true rfl, Nat.le_of_ble_eq_true rfl⟩ rfl hl.1 rfl (Nat.le_of_ble_eq_true rfl) ⟨Nat.zero_le _, Nat.zero_le _⟩ dX5_readPart_121) cx.2.2.1 hP hD hS [] rfl rfl (fun r67 H locs hw66 hP hS => ?_)
              have w68 : r67 = J_X5_hasSecond r2 := hw66
              clear hw66
              have zr67 := second_b w68
              refine lv_if_eq (tgt := 141) hx hb dX5_readPart_124 (by decide) (fun c69 => ?_) (fun c69 => ?_)
              · have f69 : r67.toInt = 0 := f_eq rfl (by decide) c69
                have k69 : ¬ r2.toInt = 66 := second_f w68 c69
                refine lv_iconst (v := 0) hx hb dX5_readPart_141 (by decide) ?_
                refine lv_istore (lv' := [(5, .int 0), (4, .int r53), (3, .int 0), (2, .int r2), (0, .ref (qr 0)), (1, .ref (qh 0))]) hx hb dX5_readPart_142 hl (by decide) rfl (fun ls hl => ?_)
                refine lv_iload hx hb dX5_readPart_144 (lv_at hl 0 rfl) ?_
                refine lv_bipush (v := (-9)) hx hb dX5_readPart_146 (by decide) ?_
                refine lv_icmp_ne (tgt := 152) hx hb dX5_readPart_148 (by decide) (fun c70 => ?_) (fun c70 => ?_)
                · refine lv_aload_n hx hb dX5_readPart_152 rfl (lv_at hl 5 rfl) ?_
                  refine lv_iload_n hx hb dX5_readPart_153 rfl (lv_at hl 3 rfl) ?_
                  refine lv_iload_n hx hb dX5_readPart_154 rfl (lv_at hl 2 rfl) ?_
                  refine lv_iload hx hb dX5_readPart_155 (lv_at hl 1 rfl) ?_
                  refine lv_iload hx hb dX5_readPart_157 (lv_at hl 0 rfl) ?_
                  have hlit71 : (0 : Int32).toInt = 0 := by decide
                  have hlit72 : (0 : Int32).toInt = 0 := by decide
                  refine g_v (w1 := fun (u : Int32 × (Nat → Int32) × (Nat → Int32) × (Nat → Int32) × (Nat → Int32) × Int32 × Int32 × Int32 × Int32 × Int32 × Int32 × Int32) => [(qh 0, .inr (2, [.int (sh 0 0), .int (u.1), .ref (qh 1), .ref (qh 2), .ref (qh 3), .ref (qh 4), .int (u.2.2.2.2.2.1), .int (u.2.2.2.2.2.2.1), .int (u.2.2.2.2.2.2.2.1), .int (u.2.2.2.2.2.2.2.2.1), .int (u.2.2.2.2.2.2.2.2.2.1), .int (u.2.2.2.2.2.2.2.2.2.2.1), .int (u.2.2.2.2.2.2.2.2.2.2.2), .ref (qh 5)])), (qh 1, .inl (k 0, 5, .inl (u.2.1))), (qh 2, .inl (k 0, 5, .inl (u.2.2.1))), (qh 3, .inl (k 0, 3, .inl (u.2.2.2.1))), (qh 4, .inl (k 0, 3, .inl (u.2.2.2.2.1))), (qh 5, .inl (k 0, 525, .inl (sh 5)))]) (g_runV (wc := [(qh 0, .inr (2, [.int (sh 0 0), .int (sh 0 1), .ref (qh 1), .ref (qh 2), .ref (qh 3), .ref (qh 4), .int (sh 0 6), .int (sh 0 7), .int (sh 0 8), .int (sh 0 9), .int (sh 0 10), .int (sh 0 11), .int (sh 0 12), .ref (qh 5)])), (qh 1, .inl (k 0, 5, .inl (sh 1))), (qh 2, .inl (k 0, 5, .inl (sh 2))), (qh 3, .inl (k 0, 3, .inl (sh 3))), (qh 4, .inl (k 0, 3, .inl (sh 4))), (qh 5, .inl (k 0, 525, .inl (sh 5)))]) (rest := []) cx hP hD hS [5, 6, 7, 8, 9, 10] rfl (by decide) [.int r2, .int 0, .int r53, .int 0] (c_X4_put l D k b qh sh H.size r2 0 r53 0 (show 0 ≤ (sh 0 0).toInt ∧ (sh 0 0).toInt ≤ 5 from by first | assumption | decide | omega) (show 0 ≤ (sh 0 1).toInt ∧ (sh 0 1).toInt ≤ 4 from by first | assumption | decide | omega) (show 0 ≤ (sh 0 12).toInt ∧ (sh 0 12).toInt ≤ 5 from by first | assumption | decide | omega) h_of h_go (by first | exact hd_i wq | exact Or.inr (by decide)) (hd_l f4) (hd_r f4) (hd_i f5) (by first | exact hd_i f6 | exact Or.inr (by decide)) (show 0 ≤ (0 : Int32).toInt ∧ (0 : Int32).toInt ≤ 4 from by first | assumption | decide | omega) (show 0 ≤ r53.toInt ∧ r53.toInt ≤ 9 from by first | assumption | decide | omega) (show 0 ≤ (0 : Int32).toInt ∧ (0 : Int32).toInt ≤ 9 from by first | assumption | decide | omega)) gX5_readPart_X4_put rfl rfl rfl nd_X4_put ⟨Nat.le_of_ble_eq_true rfl, Nat.le_of_ble_eq_true rfl⟩ (ci := 2) (q0 := 0) rfl rfl rfl hl.1 rfl (Nat.le_of_ble_eq_true rfl) ⟨Nat.zero_le _, Nat.zero_le _⟩ dX5_readPart_159) cx.2.2.1 hP hD hS [5, 6, 7, 8, 9, 10] rfl (fun _ => rfl) (fun u74 H locs hw73 hP hD hS => ?_)
                  obtain ⟨m75, m76, m77, m78, m79, m80, m81, m82, m83, m84, m85, m86⟩ := u74
                  have hP : va_P D vwCl [(qr 0, .inr (3, [.ref (qc 0), .ref (qr 1)])), (qr 1, .inl (k 0, 26, .inl g45)), (qc 0, .inr (1, [.ref (qt 0), .int m54, .int m55])), (qt 0, .inr (8, [.ref (qt 1), .int (st 0 1)])), (qt 1, .inl (k 2, 64, .inl (st 1))), (qh 0, .inr (2, [.int (sh 0 0), .int m75, .ref (qh 1), .ref (qh 2), .ref (qh 3), .ref (qh 4), .int m80, .int m81, .int m82, .int m83, .int m84, .int m85, .int m86, .ref (qh 5)])), (qh 1, .inl (k 0, 5, .inl m76)), (qh 2, .inl (k 0, 5, .inl m77)), (qh 3, .inl (k 0, 3, .inl m78)), (qh 4, .inl (k 0, 3, .inl m79)), (qh 5, .inl (k 0, 525, .inl (sh 5)))] H := hP
                  have hD : va_D A [(qr 0, .inr (3, [.ref (qc 0), .ref (qr 1)])), (qr 1, .inl (k 0, 26, .inl g45)), (qc 0, .inr (1, [.ref (qt 0), .int m54, .int m55])), (qt 0, .inr (8, [.ref (qt 1), .int (st 0 1)])), (qt 1, .inl (k 2, 64, .inl (st 1))), (qh 0, .inr (2, [.int (sh 0 0), .int m75, .ref (qh 1), .ref (qh 2), .ref (qh 3), .ref (qh 4), .int m80, .int m81, .int m82, .int m83, .int m84, .int m85, .int m86, .ref (qh 5)])), (qh 1, .inl (k 0, 5, .inl m76)), (qh 2, .inl (k 0, 5, .inl m77)), (qh 3, .inl (k 0, 3, .inl m78)), (qh 4, .inl (k 0, 3, .inl m79)), (qh 5, .inl (k 0, 525, .inl (sh 5)))] := hD
                  replace hw73 : (0 ≤ m75.toInt ∧ m75.toInt ≤ 4) ∧ (0 ≤ m86.toInt ∧ m86.toInt ≤ 5) ∧ (∀ j, 0 ≤ (m77 j).toInt ∧ (m77 j).toInt ≤ 4) ∧ (∀ j, 0 ≤ (m78 j).toInt ∧ (m78 j).toInt ≤ 5) ∧ ((m75, m76, m77, m78, m79, m80, m81, m82, m83, m84, m85, m86) = J_X4_put sh r2 (0 : Int32) r53 (0 : Int32)) := hw73
                  obtain ⟨w87, w88, w89, w90, w91⟩ := hw73
                  have k93 : m75 = ((J_X4_put sh r2 (0 : Int32) r53 (0 : Int32)).1) := congrArg (fun z => (z.1)) w91
                  have k94 : m76 = ((J_X4_put sh r2 (0 : Int32) r53 (0 : Int32)).2.1) := congrArg (fun z => (z.2.1)) w91
                  have k95 : m77 = ((J_X4_put sh r2 (0 : Int32) r53 (0 : Int32)).2.2.1) := congrArg (fun z => (z.2.2.1)) w91
                  have k96 : m78 = ((J_X4_put sh r2 (0 : Int32) r53 (0 : Int32)).2.2.2.1) := congrArg (fun z => (z.2.2.2.1)) w91
                  have k97 : m79 = ((J_X4_put sh r2 (0 : Int32) r53 (0 : Int32)).2.2.2.2.1) := congrArg (fun z => (z.2.2.2.2.1)) w91
                  have k98 : m80 = ((J_X4_put sh r2 (0 : Int32) r53 (0 : Int32)).2.2.2.2.2.1) := congrArg (fun z => (z.2.2.2.2.2.1)) w91
                  have k99 : m81 = ((J_X4_put sh r2 (0 : Int32) r53 (0 : Int32)).2.2.2.2.2.2.1) := congrArg (fun z => (z.2.2.2.2.2.2.1)) w91
                  have k100 : m82 = ((J_X4_put sh r2 (0 : Int32) r53 (0 : Int32)).2.2.2.2.2.2.2.1) := congrArg (fun z => (z.2.2.2.2.2.2.2.1)) w91
                  have k101 : m83 = ((J_X4_put sh r2 (0 : Int32) r53 (0 : Int32)).2.2.2.2.2.2.2.2.1) := congrArg (fun z => (z.2.2.2.2.2.2.2.2.1)) w91
                  have k102 : m84 = ((J_X4_put sh r2 (0 : Int32) r53 (0 : Int32)).2.2.2.2.2.2.2.2.2.1) := congrArg (fun z => (z.2.2.2.2.2.2.2.2.2.1)) w91
                  have k103 : m85 = ((J_X4_put sh r2 (0 : Int32) r53 (0 : Int32)).2.2.2.2.2.2.2.2.2.2.1) := congrArg (fun z => (z.2.2.2.2.2.2.2.2.2.2.1)) w91
                  have k104 : m86 = ((J_X4_put sh r2 (0 : Int32) r53 (0 : Int32)).2.2.2.2.2.2.2.2.2.2.2) := congrArg (fun z => (z.2.2.2.2.2.2.2.2.2.2.2)) w91
                  rw [hQ]
                  exact x_v cx hr (m54, m55, g45, m75, m76, m77, m78, m79, m80, m81, m82, m83, m84, m85, m86) hP hD hS ⟨ag45, (show 0 ≤ (g45 3).toInt ∧ (g45 3).toInt ≤ 7 from by first | assumption | omega), (show 0 ≤ (g45 16).toInt ∧ (g45 16).toInt ≤ 7 from by first | assumption | omega), (show 0 ≤ m75.toInt ∧ m75.toInt ≤ 4 from by first | assumption | omega), (show 0 ≤ m86.toInt ∧ m86.toInt ≤ 5 from by first | assumption | omega), w89, w90, (show (m54, m55, g45, m75, m76, m77, m78, m79, m80, m81, m82, m83, m84, m85, m86) = J_X5_readPart sr sc st sh from by subst k6 e21 e23 k30 w33 e36 e38 e41 e42 e43 eg45 w50 k62 k63 k64 w68 k93 k94 k95 k96 k97 k98 k99 k100 k101 k102 k103 k104; first | (refine Eq.symm ?_; refine Eq.trans (if_neg c7) ?_; refine Eq.trans (if_neg c14) ?_; refine Eq.trans (if_neg c24) ?_; refine Eq.trans (if_pos c34) ?_; refine Eq.trans (if_neg c65) ?_; refine Eq.trans (if_pos c69) ?_; rfl) | (unfold J_X5_readPart; try dsimp only; rw [if_neg c7, if_neg c14, if_neg c24, if_pos c34, if_neg c65, if_pos c69]))⟩ dX5_readPart_162
                · exact absurd c70 (by decide)
              · have f69 : ¬ r67.toInt = 0 := f_ne rfl (by decide) c69
                refine lv_aload_n hx hb dX5_readPart_127 rfl (lv_at hl 3 rfl) ?_
                refine g_get cx hP iw_X5_readPart_X5 0 rfl rfl 0 (by decide) rfl fw_X5_readPart_20 rfl dX5_readPart_128 ?_
                refine lv_iload_n hx hb dX5_readPart_131 rfl (lv_at hl 2 rfl) ?_
                refine g_ir (g_runS (wc := []) (rest := [.ref (qc 0)]) cx hP hD hS [] rfl (by decide) [.int r2] (c_X5_secondFigures l D k b H.size r2) gX5_readPart_X5_secondFigures rfl rfl rfl nd_X5_secondFigures ⟨Nat.le_of_ble_eq_true rfl, Nat.le_of_ble_eq_true rfl⟩ rfl hl.1 rfl (Nat.le_of_ble_eq_true rfl) ⟨Nat.zero_le _, Nat.zero_le _⟩ dX5_readPart_132) cx.2.2.1 hP hD hS [] rfl rfl (fun r106 H locs hw105 hP hS => ?_)
                have w107 : r106 = J_X5_secondFigures r2 := hw105
                clear hw105
                have zr106 := sf_t w107
                refine g_i (w1 := fun (u : Int32 × Int32) => [(qc 0, .inr (1, [.ref (qt 0), .int (u.1), .int (u.2)])), (qt 0, .inr (8, [.ref (qt 1), .int (st 0 1)])), (qt 1, .inl (k 2, 64, .inl (st 1)))]) (g_runV (wc := [(qc 0, .inr (1, [.ref (qt 0), .int m54, .int m55])), (qt 0, .inr (8, [.ref (qt 1), .int (st 0 1)])), (qt 1, .inl (k 2, 64, .inl (st 1)))]) (rest := []) cx hP hD hS [2, 3, 4] rfl (by decide) [.int r106] (c_X2_figure l D k b qc (up2 sc 0 (upd (upd (sc 0) 1 m54) 2 m55)) qt st H.size r106 (show 0 ≤ (st 0 1).toInt ∧ (st 0 1).toInt ≤ 64 from by first | assumption | decide | omega)) gX5_readPart_X2_figure rfl rfl rfl nd_X2_figure ⟨Nat.le_of_ble_eq_true rfl, Nat.le_of_ble_eq_true rfl⟩ (ci := 1) (q0 := 0) rfl rfl rfl hl.1 rfl (Nat.le_of_ble_eq_true rfl) ⟨Nat.zero_le _, Nat.zero_le _⟩ dX5_readPart_135) cx.2.2.1 hP hD hS [2, 3, 4] rfl (fun _ => rfl) (fun r110 u109 H locs hw108 hP hD hS => ?_)
                obtain ⟨m111, m112⟩ := u109
                have hP : va_P D vwCl [(qr 0, .inr (3, [.ref (qc 0), .ref (qr 1)])), (qr 1, .inl (k 0, 26, .inl g45)), (qc 0, .inr (1, [.ref (qt 0), .int m111, .int m112])), (qt 0, .inr (8, [.ref (qt 1), .int (st 0 1)])), (qt 1, .inl (k 2, 64, .inl (st 1))), (qh 0, .inr (2, [.int (sh 0 0), .int (sh 0 1), .ref (qh 1), .ref (qh 2), .ref (qh 3), .ref (qh 4), .int (sh 0 6), .int (sh 0 7), .int (sh 0 8), .int (sh 0 9), .int (sh 0 10), .int (sh 0 11), .int (sh 0 12), .ref (qh 5)])), (qh 1, .inl (k 0, 5, .inl (sh 1))), (qh 2, .inl (k 0, 5, .inl (sh 2))), (qh 3, .inl (k 0, 3, .inl (sh 3))), (qh 4, .inl (k 0, 3, .inl (sh 4))), (qh 5, .inl (k 0, 525, .inl (sh 5)))] H := hP
                have hD : va_D A [(qr 0, .inr (3, [.ref (qc 0), .ref (qr 1)])), (qr 1, .inl (k 0, 26, .inl g45)), (qc 0, .inr (1, [.ref (qt 0), .int m111, .int m112])), (qt 0, .inr (8, [.ref (qt 1), .int (st 0 1)])), (qt 1, .inl (k 2, 64, .inl (st 1))), (qh 0, .inr (2, [.int (sh 0 0), .int (sh 0 1), .ref (qh 1), .ref (qh 2), .ref (qh 3), .ref (qh 4), .int (sh 0 6), .int (sh 0 7), .int (sh 0 8), .int (sh 0 9), .int (sh 0 10), .int (sh 0 11), .int (sh 0 12), .ref (qh 5)])), (qh 1, .inl (k 0, 5, .inl (sh 1))), (qh 2, .inl (k 0, 5, .inl (sh 2))), (qh 3, .inl (k 0, 3, .inl (sh 3))), (qh 4, .inl (k 0, 3, .inl (sh 4))), (qh 5, .inl (k 0, 525, .inl (sh 5)))] := hD
                replace hw108 : (r110.toInt = -9 ∨ (0 ≤ r110.toInt ∧ r110.toInt ≤ 9)) ∧ (Imp (0 ≤ r106.toInt ∧ r106.toInt ≤ 63) (r110.toInt ≤ 5)) ∧ (Imp (0 ≤ r106.toInt ∧ r106.toInt ≤ 31) (r110.toInt ≤ 4)) ∧ (Imp (0 ≤ r106.toInt ∧ r106.toInt ≤ 7) (r110.toInt ≤ 2)) ∧ ((r110, m111, m112) = J_X2_figure (up2 sc 0 (upd (upd (sc 0) 1 m54) 2 m55)) st r106) := hw108
                obtain ⟨w113, w114, w115, w116, w117⟩ := hw108
                have k119 : r110 = ((J_X2_figure (up2 sc 0 (upd (upd (sc 0) 1 m54) 2 m55)) st r106).1) := congrArg (fun z => (z.1)) w117
                have k120 : m111 = ((J_X2_figure (up2 sc 0 (upd (upd (sc 0) 1 m54) 2 m55)) st r106).2.1) := congrArg (fun z => (z.2.1)) w117
                have k121 : m112 = ((J_X2_figure (up2 sc 0 (upd (upd (sc 0) 1 m54) 2 m55)) st r106).2.2) := congrArg (fun z => (z.2.2)) w117
                have f6 : Hd (¬ r2.toInt = 66 ∨ r110.toInt ≤ 5) := by by_cases q : r2.toInt = 66; exact Or.inr (w114 ⟨by omega, by omega⟩); exact Or.inl q
                clear zr106
                refine lv_goto (tgt := 142) hx hb dX5_readPart_138 (by decide) ?_
                refine lv_istore (lv' := [(5, .int r110), (4, .int r53), (3, .int 0), (2, .int r2), (0, .ref (qr 0)), (1, .ref (qh 0))]) hx hb dX5_readPart_142 hl (by decide) rfl (fun ls hl => ?_)
                refine lv_iload hx hb dX5_readPart_144 (lv_at hl 0 rfl) ?_
                refine lv_bipush (v := (-9)) hx hb dX5_readPart_146 (by decide) ?_
                refine lv_icmp_ne (tgt := 152) hx hb dX5_readPart_148 (by decide) (fun c122 => ?_) (fun c122 => ?_)
                · have f122 : ¬ r110.toInt = (-9) := f_ne rfl (by decide) c122
                  refine lv_aload_n hx hb dX5_readPart_152 rfl (lv_at hl 5 rfl) ?_
                  refine lv_iload_n hx hb dX5_readPart_153 rfl (lv_at hl 3 rfl) ?_
                  refine lv_iload_n hx hb dX5_readPart_154 rfl (lv_at hl 2 rfl) ?_
                  refine lv_iload hx hb dX5_readPart_155 (lv_at hl 1 rfl) ?_
                  refine lv_iload hx hb dX5_readPart_157 (lv_at hl 0 rfl) ?_
                  have hlit123 : (0 : Int32).toInt = 0 := by decide
                  refine g_v (w1 := fun (u : Int32 × (Nat → Int32) × (Nat → Int32) × (Nat → Int32) × (Nat → Int32) × Int32 × Int32 × Int32 × Int32 × Int32 × Int32 × Int32) => [(qh 0, .inr (2, [.int (sh 0 0), .int (u.1), .ref (qh 1), .ref (qh 2), .ref (qh 3), .ref (qh 4), .int (u.2.2.2.2.2.1), .int (u.2.2.2.2.2.2.1), .int (u.2.2.2.2.2.2.2.1), .int (u.2.2.2.2.2.2.2.2.1), .int (u.2.2.2.2.2.2.2.2.2.1), .int (u.2.2.2.2.2.2.2.2.2.2.1), .int (u.2.2.2.2.2.2.2.2.2.2.2), .ref (qh 5)])), (qh 1, .inl (k 0, 5, .inl (u.2.1))), (qh 2, .inl (k 0, 5, .inl (u.2.2.1))), (qh 3, .inl (k 0, 3, .inl (u.2.2.2.1))), (qh 4, .inl (k 0, 3, .inl (u.2.2.2.2.1))), (qh 5, .inl (k 0, 525, .inl (sh 5)))]) (g_runV (wc := [(qh 0, .inr (2, [.int (sh 0 0), .int (sh 0 1), .ref (qh 1), .ref (qh 2), .ref (qh 3), .ref (qh 4), .int (sh 0 6), .int (sh 0 7), .int (sh 0 8), .int (sh 0 9), .int (sh 0 10), .int (sh 0 11), .int (sh 0 12), .ref (qh 5)])), (qh 1, .inl (k 0, 5, .inl (sh 1))), (qh 2, .inl (k 0, 5, .inl (sh 2))), (qh 3, .inl (k 0, 3, .inl (sh 3))), (qh 4, .inl (k 0, 3, .inl (sh 4))), (qh 5, .inl (k 0, 525, .inl (sh 5)))]) (rest := []) cx hP hD hS [5, 6, 7, 8, 9, 10] rfl (by decide) [.int r2, .int 0, .int r53, .int r110] (c_X4_put l D k b qh sh H.size r2 0 r53 r110 (show 0 ≤ (sh 0 0).toInt ∧ (sh 0 0).toInt ≤ 5 from by first | assumption | decide | omega) (show 0 ≤ (sh 0 1).toInt ∧ (sh 0 1).toInt ≤ 4 from by first | assumption | decide | omega) (show 0 ≤ (sh 0 12).toInt ∧ (sh 0 12).toInt ≤ 5 from by first | assumption | decide | omega) h_of h_go (by first | exact hd_i wq | exact Or.inr (by decide)) (hd_l f4) (hd_r f4) (hd_i f5) (by first | exact hd_i f6 | exact Or.inr (by decide)) (show 0 ≤ (0 : Int32).toInt ∧ (0 : Int32).toInt ≤ 4 from by first | assumption | decide | omega) (show 0 ≤ r53.toInt ∧ r53.toInt ≤ 9 from by first | assumption | decide | omega) (show 0 ≤ r110.toInt ∧ r110.toInt ≤ 9 from by first | assumption | decide | omega)) gX5_readPart_X4_put rfl rfl rfl nd_X4_put ⟨Nat.le_of_ble_eq_true rfl, Nat.le_of_ble_eq_true rfl⟩ (ci := 2) (q0 := 0) rfl rfl rfl hl.1 rfl (Nat.le_of_ble_eq_true rfl) ⟨Nat.zero_le _, Nat.zero_le _⟩ dX5_readPart_159) cx.2.2.1 hP hD hS [5, 6, 7, 8, 9, 10] rfl (fun _ => rfl) (fun u125 H locs hw124 hP hD hS => ?_)
                  obtain ⟨m126, m127, m128, m129, m130, m131, m132, m133, m134, m135, m136, m137⟩ := u125
                  have hP : va_P D vwCl [(qr 0, .inr (3, [.ref (qc 0), .ref (qr 1)])), (qr 1, .inl (k 0, 26, .inl g45)), (qc 0, .inr (1, [.ref (qt 0), .int m111, .int m112])), (qt 0, .inr (8, [.ref (qt 1), .int (st 0 1)])), (qt 1, .inl (k 2, 64, .inl (st 1))), (qh 0, .inr (2, [.int (sh 0 0), .int m126, .ref (qh 1), .ref (qh 2), .ref (qh 3), .ref (qh 4), .int m131, .int m132, .int m133, .int m134, .int m135, .int m136, .int m137, .ref (qh 5)])), (qh 1, .inl (k 0, 5, .inl m127)), (qh 2, .inl (k 0, 5, .inl m128)), (qh 3, .inl (k 0, 3, .inl m129)), (qh 4, .inl (k 0, 3, .inl m130)), (qh 5, .inl (k 0, 525, .inl (sh 5)))] H := hP
                  have hD : va_D A [(qr 0, .inr (3, [.ref (qc 0), .ref (qr 1)])), (qr 1, .inl (k 0, 26, .inl g45)), (qc 0, .inr (1, [.ref (qt 0), .int m111, .int m112])), (qt 0, .inr (8, [.ref (qt 1), .int (st 0 1)])), (qt 1, .inl (k 2, 64, .inl (st 1))), (qh 0, .inr (2, [.int (sh 0 0), .int m126, .ref (qh 1), .ref (qh 2), .ref (qh 3), .ref (qh 4), .int m131, .int m132, .int m133, .int m134, .int m135, .int m136, .int m137, .ref (qh 5)])), (qh 1, .inl (k 0, 5, .inl m127)), (qh 2, .inl (k 0, 5, .inl m128)), (qh 3, .inl (k 0, 3, .inl m129)), (qh 4, .inl (k 0, 3, .inl m130)), (qh 5, .inl (k 0, 525, .inl (sh 5)))] := hD
                  replace hw124 : (0 ≤ m126.toInt ∧ m126.toInt ≤ 4) ∧ (0 ≤ m137.toInt ∧ m137.toInt ≤ 5) ∧ (∀ j, 0 ≤ (m128 j).toInt ∧ (m128 j).toInt ≤ 4) ∧ (∀ j, 0 ≤ (m129 j).toInt ∧ (m129 j).toInt ≤ 5) ∧ ((m126, m127, m128, m129, m130, m131, m132, m133, m134, m135, m136, m137) = J_X4_put sh r2 (0 : Int32) r53 r110) := hw124
                  obtain ⟨w138, w139, w140, w141, w142⟩ := hw124
                  have k144 : m126 = ((J_X4_put sh r2 (0 : Int32) r53 r110).1) := congrArg (fun z => (z.1)) w142
                  have k145 : m127 = ((J_X4_put sh r2 (0 : Int32) r53 r110).2.1) := congrArg (fun z => (z.2.1)) w142
                  have k146 : m128 = ((J_X4_put sh r2 (0 : Int32) r53 r110).2.2.1) := congrArg (fun z => (z.2.2.1)) w142
                  have k147 : m129 = ((J_X4_put sh r2 (0 : Int32) r53 r110).2.2.2.1) := congrArg (fun z => (z.2.2.2.1)) w142
                  have k148 : m130 = ((J_X4_put sh r2 (0 : Int32) r53 r110).2.2.2.2.1) := congrArg (fun z => (z.2.2.2.2.1)) w142
                  have k149 : m131 = ((J_X4_put sh r2 (0 : Int32) r53 r110).2.2.2.2.2.1) := congrArg (fun z => (z.2.2.2.2.2.1)) w142
                  have k150 : m132 = ((J_X4_put sh r2 (0 : Int32) r53 r110).2.2.2.2.2.2.1) := congrArg (fun z => (z.2.2.2.2.2.2.1)) w142
                  have k151 : m133 = ((J_X4_put sh r2 (0 : Int32) r53 r110).2.2.2.2.2.2.2.1) := congrArg (fun z => (z.2.2.2.2.2.2.2.1)) w142
                  have k152 : m134 = ((J_X4_put sh r2 (0 : Int32) r53 r110).2.2.2.2.2.2.2.2.1) := congrArg (fun z => (z.2.2.2.2.2.2.2.2.1)) w142
                  have k153 : m135 = ((J_X4_put sh r2 (0 : Int32) r53 r110).2.2.2.2.2.2.2.2.2.1) := congrArg (fun z => (z.2.2.2.2.2.2.2.2.2.1)) w142
                  have k154 : m136 = ((J_X4_put sh r2 (0 : Int32) r53 r110).2.2.2.2.2.2.2.2.2.2.1) := congrArg (fun z => (z.2.2.2.2.2.2.2.2.2.2.1)) w142
                  have k155 : m137 = ((J_X4_put sh r2 (0 : Int32) r53 r110).2.2.2.2.2.2.2.2.2.2.2) := congrArg (fun z => (z.2.2.2.2.2.2.2.2.2.2.2)) w142
                  rw [hQ]
                  exact x_v cx hr (m111, m112, g45, m126, m127, m128, m129, m130, m131, m132, m133, m134, m135, m136, m137) hP hD hS ⟨ag45, (show 0 ≤ (g45 3).toInt ∧ (g45 3).toInt ≤ 7 from by first | assumption | omega), (show 0 ≤ (g45 16).toInt ∧ (g45 16).toInt ≤ 7 from by first | assumption | omega), (show 0 ≤ m126.toInt ∧ m126.toInt ≤ 4 from by first | assumption | omega), (show 0 ≤ m137.toInt ∧ m137.toInt ≤ 5 from by first | assumption | omega), w140, w141, (show (m111, m112, g45, m126, m127, m128, m129, m130, m131, m132, m133, m134, m135, m136, m137) = J_X5_readPart sr sc st sh from by subst k6 e21 e23 k30 w33 e36 e38 e41 e42 e43 eg45 w50 k62 k63 k64 w68 w107 k119 k120 k121 k144 k145 k146 k147 k148 k149 k150 k151 k152 k153 k154 k155; first | (refine Eq.symm ?_; refine Eq.trans (if_neg c7) ?_; refine Eq.trans (if_neg c14) ?_; refine Eq.trans (if_neg c24) ?_; refine Eq.trans (if_pos c34) ?_; refine Eq.trans (if_neg c65) ?_; refine Eq.trans (if_neg c69) ?_; refine Eq.trans (if_neg c122) ?_; rfl) | (unfold J_X5_readPart; try dsimp only; rw [if_neg c7, if_neg c14, if_neg c24, if_pos c34, if_neg c65, if_neg c69, if_neg c122]))⟩ dX5_readPart_162
                · have f122 : r110.toInt = (-9) := f_eq rfl (by decide) c122
                  rw [hQ]
                  exact x_v cx hr (m111, m112, g45, (sh 0 1), (sh 1), (sh 2), (sh 3), (sh 4), (sh 0 6), (sh 0 7), (sh 0 8), (sh 0 9), (sh 0 10), (sh 0 11), (sh 0 12)) hP hD hS ⟨ag45, (show 0 ≤ (g45 3).toInt ∧ (g45 3).toInt ≤ 7 from by first | assumption | omega), (show 0 ≤ (g45 16).toInt ∧ (g45 16).toInt ≤ 7 from by first | assumption | omega), (show 0 ≤ (sh 0 1).toInt ∧ (sh 0 1).toInt ≤ 4 from by first | assumption | omega), (show 0 ≤ (sh 0 12).toInt ∧ (sh 0 12).toInt ≤ 5 from by first | assumption | omega), h_of, h_go, (show (m111, m112, g45, (sh 0 1), (sh 1), (sh 2), (sh 3), (sh 4), (sh 0 6), (sh 0 7), (sh 0 8), (sh 0 9), (sh 0 10), (sh 0 11), (sh 0 12)) = J_X5_readPart sr sc st sh from by subst k6 e21 e23 k30 w33 e36 e38 e41 e42 e43 eg45 w50 k62 k63 k64 w68 w107 k119 k120 k121; first | (refine Eq.symm ?_; refine Eq.trans (if_neg c7) ?_; refine Eq.trans (if_neg c14) ?_; refine Eq.trans (if_neg c24) ?_; refine Eq.trans (if_pos c34) ?_; refine Eq.trans (if_neg c65) ?_; refine Eq.trans (if_neg c69) ?_; refine Eq.trans (if_pos c122) ?_; rfl) | (unfold J_X5_readPart; try dsimp only; rw [if_neg c7, if_neg c14, if_neg c24, if_pos c34, if_neg c65, if_neg c69, if_pos c122]))⟩ dX5_readPart_151
            · have f65 : r53.toInt = (-9) := f_eq rfl (by decide) c65
              rw [hQ]
              exact x_v cx hr (m54, m55, g45, (sh 0 1), (sh 1), (sh 2), (sh 3), (sh 4), (sh 0 6), (sh 0 7), (sh 0 8), (sh 0 9), (sh 0 10), (sh 0 11), (sh 0 12)) hP hD hS ⟨ag45, (show 0 ≤ (g45 3).toInt ∧ (g45 3).toInt ≤ 7 from by first | assumption | omega), (show 0 ≤ (g45 16).toInt ∧ (g45 16).toInt ≤ 7 from by first | assumption | omega), (show 0 ≤ (sh 0 1).toInt ∧ (sh 0 1).toInt ≤ 4 from by first | assumption | omega), (show 0 ≤ (sh 0 12).toInt ∧ (sh 0 12).toInt ≤ 5 from by first | assumption | omega), h_of, h_go, (show (m54, m55, g45, (sh 0 1), (sh 1), (sh 2), (sh 3), (sh 4), (sh 0 6), (sh 0 7), (sh 0 8), (sh 0 9), (sh 0 10), (sh 0 11), (sh 0 12)) = J_X5_readPart sr sc st sh from by subst k6 e21 e23 k30 w33 e36 e38 e41 e42 e43 eg45 w50 k62 k63 k64; first | (refine Eq.symm ?_; refine Eq.trans (if_neg c7) ?_; refine Eq.trans (if_neg c14) ?_; refine Eq.trans (if_neg c24) ?_; refine Eq.trans (if_pos c34) ?_; refine Eq.trans (if_pos c65) ?_; rfl) | (unfold J_X5_readPart; try dsimp only; rw [if_neg c7, if_neg c14, if_neg c24, if_pos c34, if_pos c65]))⟩ dX5_readPart_119
          · exact absurd c35 (by decide)
        · have f34 : ¬ r32.toInt = 0 := f_ne rfl (by decide) c34
          refine lv_aload_n hx hb dX5_readPart_54 rfl (lv_at hl 1 rfl) ?_
          refine g_get cx hP iw_X5_readPart_X5 0 rfl rfl 0 (by decide) rfl fw_X5_readPart_20 rfl dX5_readPart_55 ?_
          refine lv_aload_n hx hb dX5_readPart_58 rfl (lv_at hl 1 rfl) ?_
          refine g_get cx hP iw_X5_readPart_X5 0 rfl rfl 1 (by decide) rfl fw_X5_readPart_9 rfl dX5_readPart_59 ?_
          refine lv_iload_n hx hb dX5_readPart_62 rfl (lv_at hl 0 rfl) ?_
          refine lv_bipush (v := 65) hx hb dX5_readPart_63 (by decide) ?_
          refine lv_isub hx hb dX5_readPart_65 (lv_topi (fun v156 e156 => ?_))
          have t156 : v156.toInt = r2.toInt - 65 := by rw [e156]; exact i_sub rfl (by decide) (by omega) (by omega)
          have hn157 : vp_in v156 26 := f_in (a := v156.toInt) rfl (by omega) (by omega)
          refine va_iald hx hb cx.2.1 hP 1 0 rfl rfl hn157 dX5_readPart_66 (lv_topi (fun v158 e158 => ?_))
          have t158 : 0 ≤ v158.toInt ∧ v158.toInt ≤ 31 := by rw [e158]; exact u_a _
          have s159 := ldI e158 rfl (show 0 ≤ v156.toInt from by omega) 3
          have s160 := ldI e158 rfl (show 0 ≤ v156.toInt from by omega) 16
          refine g_i (w1 := fun (u : Int32 × Int32) => [(qc 0, .inr (1, [.ref (qt 0), .int (u.1), .int (u.2)])), (qt 0, .inr (8, [.ref (qt 1), .int (st 0 1)])), (qt 1, .inl (k 2, 64, .inl (st 1)))]) (g_runV (wc := [(qc 0, .inr (1, [.ref (qt 0), .int m27, .int (sc 0 2)])), (qt 0, .inr (8, [.ref (qt 1), .int (st 0 1)])), (qt 1, .inl (k 2, 64, .inl (st 1)))]) (rest := []) cx hP hD hS [2, 3, 4] rfl (by decide) [.int v158] (c_X2_figure l D k b qc (up2 sc 0 (upd (sc 0) 1 m27)) qt st H.size v158 (show 0 ≤ (st 0 1).toInt ∧ (st 0 1).toInt ≤ 64 from by first | assumption | decide | omega)) gX5_readPart_X2_figure rfl rfl rfl nd_X2_figure ⟨Nat.le_of_ble_eq_true rfl, Nat.le_of_ble_eq_true rfl⟩ (ci := 1) (q0 := 0) rfl rfl rfl hl.1 rfl (Nat.le_of_ble_eq_true rfl) ⟨Nat.zero_le _, Nat.zero_le _⟩ dX5_readPart_67) cx.2.2.1 hP hD hS [2, 3, 4] rfl (fun _ => rfl) (fun r163 u162 H locs hw161 hP hD hS => ?_)
          obtain ⟨m164, m165⟩ := u162
          have hP : va_P D vwCl [(qr 0, .inr (3, [.ref (qc 0), .ref (qr 1)])), (qr 1, .inl (k 0, 26, .inl (sr 1))), (qc 0, .inr (1, [.ref (qt 0), .int m164, .int m165])), (qt 0, .inr (8, [.ref (qt 1), .int (st 0 1)])), (qt 1, .inl (k 2, 64, .inl (st 1))), (qh 0, .inr (2, [.int (sh 0 0), .int (sh 0 1), .ref (qh 1), .ref (qh 2), .ref (qh 3), .ref (qh 4), .int (sh 0 6), .int (sh 0 7), .int (sh 0 8), .int (sh 0 9), .int (sh 0 10), .int (sh 0 11), .int (sh 0 12), .ref (qh 5)])), (qh 1, .inl (k 0, 5, .inl (sh 1))), (qh 2, .inl (k 0, 5, .inl (sh 2))), (qh 3, .inl (k 0, 3, .inl (sh 3))), (qh 4, .inl (k 0, 3, .inl (sh 4))), (qh 5, .inl (k 0, 525, .inl (sh 5)))] H := hP
          have hD : va_D A [(qr 0, .inr (3, [.ref (qc 0), .ref (qr 1)])), (qr 1, .inl (k 0, 26, .inl (sr 1))), (qc 0, .inr (1, [.ref (qt 0), .int m164, .int m165])), (qt 0, .inr (8, [.ref (qt 1), .int (st 0 1)])), (qt 1, .inl (k 2, 64, .inl (st 1))), (qh 0, .inr (2, [.int (sh 0 0), .int (sh 0 1), .ref (qh 1), .ref (qh 2), .ref (qh 3), .ref (qh 4), .int (sh 0 6), .int (sh 0 7), .int (sh 0 8), .int (sh 0 9), .int (sh 0 10), .int (sh 0 11), .int (sh 0 12), .ref (qh 5)])), (qh 1, .inl (k 0, 5, .inl (sh 1))), (qh 2, .inl (k 0, 5, .inl (sh 2))), (qh 3, .inl (k 0, 3, .inl (sh 3))), (qh 4, .inl (k 0, 3, .inl (sh 4))), (qh 5, .inl (k 0, 525, .inl (sh 5)))] := hD
          replace hw161 : (r163.toInt = -9 ∨ (0 ≤ r163.toInt ∧ r163.toInt ≤ 9)) ∧ (Imp (0 ≤ v158.toInt ∧ v158.toInt ≤ 63) (r163.toInt ≤ 5)) ∧ (Imp (0 ≤ v158.toInt ∧ v158.toInt ≤ 31) (r163.toInt ≤ 4)) ∧ (Imp (0 ≤ v158.toInt ∧ v158.toInt ≤ 7) (r163.toInt ≤ 2)) ∧ ((r163, m164, m165) = J_X2_figure (up2 sc 0 (upd (sc 0) 1 m27)) st v158) := hw161
          obtain ⟨w166, w167, w168, w169, w170⟩ := hw161
          have k172 : r163 = ((J_X2_figure (up2 sc 0 (upd (sc 0) 1 m27)) st v158).1) := congrArg (fun z => (z.1)) w170
          have k173 : m164 = ((J_X2_figure (up2 sc 0 (upd (sc 0) 1 m27)) st v158).2.1) := congrArg (fun z => (z.2.1)) w170
          have k174 : m165 = ((J_X2_figure (up2 sc 0 (upd (sc 0) 1 m27)) st v158).2.2) := congrArg (fun z => (z.2.2)) w170
          have xr163 : r163.toInt ≤ 4 := w168 ⟨by omega, by omega⟩
          have wq : Hd (¬ (r2.toInt = 81 ∨ r2.toInt = 68) ∨ r163.toInt ≤ 2) := by by_cases q : (r2.toInt = 81 ∨ r2.toInt = 68); exact Or.inr (w169 ⟨by omega, by omega⟩); exact Or.inl q
          refine lv_goto (tgt := 74) hx hb dX5_readPart_70 (by decide) ?_
          refine lv_istore_n (lv' := [(3, .int r163), (2, .int r2), (0, .ref (qr 0)), (1, .ref (qh 0))]) hx hb dX5_readPart_74 rfl hl (by decide) rfl (fun ls hl => ?_)
          refine lv_iload_n hx hb dX5_readPart_75 rfl (lv_at hl 0 rfl) ?_
          refine lv_bipush (v := (-9)) hx hb dX5_readPart_76 (by decide) ?_
          refine lv_icmp_ne (tgt := 82) hx hb dX5_readPart_78 (by decide) (fun c175 => ?_) (fun c175 => ?_)
          · have f175 : ¬ r163.toInt = (-9) := f_ne rfl (by decide) c175
            refine lv_aload_n hx hb dX5_readPart_82 rfl (lv_at hl 2 rfl) ?_
            refine g_get cx hP iw_X5_readPart_X5 0 rfl rfl 1 (by decide) rfl fw_X5_readPart_9 rfl dX5_readPart_83 ?_
            refine lv_iload_n hx hb dX5_readPart_86 rfl (lv_at hl 1 rfl) ?_
            refine lv_bipush (v := 65) hx hb dX5_readPart_87 (by decide) ?_
            refine lv_isub hx hb dX5_readPart_89 (lv_topi (fun v176 e176 => ?_))
            have t176 : v176.toInt = r2.toInt - 65 := by rw [e176]; exact i_sub rfl (by decide) (by omega) (by omega)
            refine lv_dup2_11 hx hb dX5_readPart_90 rfl rfl ?_
            have hn177 : vp_in v176 26 := f_in (a := v176.toInt) rfl (by omega) (by omega)
            refine va_iald hx hb cx.2.1 hP 1 0 rfl rfl hn177 dX5_readPart_91 (lv_topi (fun v178 e178 => ?_))
            have t178 : 0 ≤ v178.toInt ∧ v178.toInt ≤ 31 := by rw [e178]; exact u_a _
            have s179 := ldI e178 rfl (show 0 ≤ v176.toInt from by omega) 3
            have s180 := ldI e178 rfl (show 0 ≤ v176.toInt from by omega) 16
            refine lv_iconst (v := 1) hx hb dX5_readPart_92 (by decide) ?_
            refine lv_iload_n hx hb dX5_readPart_93 rfl (lv_at hl 0 rfl) ?_
            refine lv_ishl hx hb dX5_readPart_94 (lv_topi (fun v181 e181 => ?_))
            refine lv_iconst (v := (-1)) hx hb dX5_readPart_95 (by decide) ?_
            refine lv_ixor hx hb dX5_readPart_96 (lv_topi (fun v182 e182 => ?_))
            refine lv_iand hx hb dX5_readPart_97 (lv_topi (fun v183 e183 => ?_))
            have t183 : 0 ≤ v183.toInt ∧ v183.toInt ≤ v178.toInt := by rw [e183]; exact and_l rfl (by omega)
            have hn184 : vp_in v176 26 := f_in (a := v176.toInt) rfl (by omega) (by omega)
            refine va_iast hx hb cx.2.1 hP hD hS 1 0 rfl rfl hn184 dX5_readPart_98 (fun H locs hP hD hS => ?_)
            obtain ⟨g185, eg185⟩ : ∃ g : Nat → Int32, g = upd (sr 1) (v176).toNatClampNeg v183 := ⟨_, rfl⟩
            rw [← eg185] at hP hD
            have hP : va_P D vwCl [(qr 0, .inr (3, [.ref (qc 0), .ref (qr 1)])), (qr 1, .inl (k 0, 26, .inl g185)), (qc 0, .inr (1, [.ref (qt 0), .int m164, .int m165])), (qt 0, .inr (8, [.ref (qt 1), .int (st 0 1)])), (qt 1, .inl (k 2, 64, .inl (st 1))), (qh 0, .inr (2, [.int (sh 0 0), .int (sh 0 1), .ref (qh 1), .ref (qh 2), .ref (qh 3), .ref (qh 4), .int (sh 0 6), .int (sh 0 7), .int (sh 0 8), .int (sh 0 9), .int (sh 0 10), .int (sh 0 11), .int (sh 0 12), .ref (qh 5)])), (qh 1, .inl (k 0, 5, .inl (sh 1))), (qh 2, .inl (k 0, 5, .inl (sh 2))), (qh 3, .inl (k 0, 3, .inl (sh 3))), (qh 4, .inl (k 0, 3, .inl (sh 4))), (qh 5, .inl (k 0, 525, .inl (sh 5)))] H := hP
            have hD : va_D A [(qr 0, .inr (3, [.ref (qc 0), .ref (qr 1)])), (qr 1, .inl (k 0, 26, .inl g185)), (qc 0, .inr (1, [.ref (qt 0), .int m164, .int m165])), (qt 0, .inr (8, [.ref (qt 1), .int (st 0 1)])), (qt 1, .inl (k 2, 64, .inl (st 1))), (qh 0, .inr (2, [.int (sh 0 0), .int (sh 0 1), .ref (qh 1), .ref (qh 2), .ref (qh 3), .ref (qh 4), .int (sh 0 6), .int (sh 0 7), .int (sh 0 8), .int (sh 0 9), .int (sh 0 10), .int (sh 0 11), .int (sh 0 12), .ref (qh 5)])), (qh 1, .inl (k 0, 5, .inl (sh 1))), (qh 2, .inl (k 0, 5, .inl (sh 2))), (qh 3, .inl (k 0, 3, .inl (sh 3))), (qh 4, .inl (k 0, 3, .inl (sh 4))), (qh 5, .inl (k 0, 525, .inl (sh 5)))] := hD
            have ag185 : ∀ j, 0 ≤ (g185 j).toInt ∧ (g185 j).toInt ≤ 31 := by rw [eg185]; exact upd_all u_a ⟨by first | decide | omega, by first | decide | omega⟩
            have s186 := updI eg185 rfl (show 0 ≤ v176.toInt from by omega) 3
            have s187 := updI eg185 rfl (show 0 ≤ v176.toInt from by omega) 16
            refine lv_aload_n hx hb dX5_readPart_99 rfl (lv_at hl 2 rfl) ?_
            refine g_get cx hP iw_X5_readPart_X5 0 rfl rfl 0 (by decide) rfl fw_X5_readPart_20 rfl dX5_readPart_100 ?_
            refine lv_iload_n hx hb dX5_readPart_103 rfl (lv_at hl 1 rfl) ?_
            refine g_ir (g_runS (wc := []) (rest := [.ref (qc 0)]) cx hP hD hS [] rfl (by decide) [.int r2] (c_X5_firstFigures l D k b H.size r2) gX5_readPart_X5_firstFigures rfl rfl rfl nd_X5_firstFigures ⟨Nat.le_of_ble_eq_true rfl, Nat.le_of_ble_eq_true rfl⟩ rfl hl.1 rfl (Nat.le_of_ble_eq_true rfl) ⟨Nat.zero_le _, Nat.zero_le _⟩ dX5_readPart_104) cx.2.2.1 hP hD hS [] rfl rfl (fun r189 H locs hw188 hP hS => ?_)
            have w190 : r189 = J_X5_firstFigures r2 := hw188
            clear hw188
            have zr189 := ff_t w190
            refine g_i (w1 := fun (u : Int32 × Int32) => [(qc 0, .inr (1, [.ref (qt 0), .int (u.1), .int (u.2)])), (qt 0, .inr (8, [.ref (qt 1), .int (st 0 1)])), (qt 1, .inl (k 2, 64, .inl (st 1)))]) (g_runV (wc := [(qc 0, .inr (1, [.ref (qt 0), .int m164, .int m165])), (qt 0, .inr (8, [.ref (qt 1), .int (st 0 1)])), (qt 1, .inl (k 2, 64, .inl (st 1)))]) (rest := []) cx hP hD hS [2, 3, 4] rfl (by decide) [.int r189] (c_X2_figure l D k b qc (up2 sc 0 (upd (upd (sc 0) 1 m164) 2 m165)) qt st H.size r189 (show 0 ≤ (st 0 1).toInt ∧ (st 0 1).toInt ≤ 64 from by first | assumption | decide | omega)) gX5_readPart_X2_figure rfl rfl rfl nd_X2_figure ⟨Nat.le_of_ble_eq_true rfl, Nat.le_of_ble_eq_true rfl⟩ (ci := 1) (q0 := 0) rfl rfl rfl hl.1 rfl (Nat.le_of_ble_eq_true rfl) ⟨Nat.zero_le _, Nat.zero_le _⟩ dX5_readPart_107) cx.2.2.1 hP hD hS [2, 3, 4] rfl (fun _ => rfl) (fun r193 u192 H locs hw191 hP hD hS => ?_)
            obtain ⟨m194, m195⟩ := u192
            have hP : va_P D vwCl [(qr 0, .inr (3, [.ref (qc 0), .ref (qr 1)])), (qr 1, .inl (k 0, 26, .inl g185)), (qc 0, .inr (1, [.ref (qt 0), .int m194, .int m195])), (qt 0, .inr (8, [.ref (qt 1), .int (st 0 1)])), (qt 1, .inl (k 2, 64, .inl (st 1))), (qh 0, .inr (2, [.int (sh 0 0), .int (sh 0 1), .ref (qh 1), .ref (qh 2), .ref (qh 3), .ref (qh 4), .int (sh 0 6), .int (sh 0 7), .int (sh 0 8), .int (sh 0 9), .int (sh 0 10), .int (sh 0 11), .int (sh 0 12), .ref (qh 5)])), (qh 1, .inl (k 0, 5, .inl (sh 1))), (qh 2, .inl (k 0, 5, .inl (sh 2))), (qh 3, .inl (k 0, 3, .inl (sh 3))), (qh 4, .inl (k 0, 3, .inl (sh 4))), (qh 5, .inl (k 0, 525, .inl (sh 5)))] H := hP
            have hD : va_D A [(qr 0, .inr (3, [.ref (qc 0), .ref (qr 1)])), (qr 1, .inl (k 0, 26, .inl g185)), (qc 0, .inr (1, [.ref (qt 0), .int m194, .int m195])), (qt 0, .inr (8, [.ref (qt 1), .int (st 0 1)])), (qt 1, .inl (k 2, 64, .inl (st 1))), (qh 0, .inr (2, [.int (sh 0 0), .int (sh 0 1), .ref (qh 1), .ref (qh 2), .ref (qh 3), .ref (qh 4), .int (sh 0 6), .int (sh 0 7), .int (sh 0 8), .int (sh 0 9), .int (sh 0 10), .int (sh 0 11), .int (sh 0 12), .ref (qh 5)])), (qh 1, .inl (k 0, 5, .inl (sh 1))), (qh 2, .inl (k 0, 5, .inl (sh 2))), (qh 3, .inl (k 0, 3, .inl (sh 3))), (qh 4, .inl (k 0, 3, .inl (sh 4))), (qh 5, .inl (k 0, 525, .inl (sh 5)))] := hD
            replace hw191 : (r193.toInt = -9 ∨ (0 ≤ r193.toInt ∧ r193.toInt ≤ 9)) ∧ (Imp (0 ≤ r189.toInt ∧ r189.toInt ≤ 63) (r193.toInt ≤ 5)) ∧ (Imp (0 ≤ r189.toInt ∧ r189.toInt ≤ 31) (r193.toInt ≤ 4)) ∧ (Imp (0 ≤ r189.toInt ∧ r189.toInt ≤ 7) (r193.toInt ≤ 2)) ∧ ((r193, m194, m195) = J_X2_figure (up2 sc 0 (upd (upd (sc 0) 1 m164) 2 m165)) st r189) := hw191
            obtain ⟨w196, w197, w198, w199, w200⟩ := hw191
            have k202 : r193 = ((J_X2_figure (up2 sc 0 (upd (upd (sc 0) 1 m164) 2 m165)) st r189).1) := congrArg (fun z => (z.1)) w200
            have k203 : m194 = ((J_X2_figure (up2 sc 0 (upd (upd (sc 0) 1 m164) 2 m165)) st r189).2.1) := congrArg (fun z => (z.2.1)) w200
            have k204 : m195 = ((J_X2_figure (up2 sc 0 (upd (upd (sc 0) 1 m164) 2 m165)) st r189).2.2) := congrArg (fun z => (z.2.2)) w200
            have f4 : Hd (¬ (r2.toInt = 72 ∨ r2.toInt = 79) ∨ r193.toInt ≤ 4) := by by_cases q : (r2.toInt = 72 ∨ r2.toInt = 79); exact Or.inr (w198 ⟨by omega, by omega⟩); exact Or.inl q
            have f5 : Hd (¬ r2.toInt = 81 ∨ r193.toInt ≤ 5) := by by_cases q : r2.toInt = 81; exact Or.inr (w197 ⟨by omega, by omega⟩); exact Or.inl q
            clear zr189
            refine lv_istore (lv' := [(4, .int r193), (3, .int r163), (2, .int r2), (0, .ref (qr 0)), (1, .ref (qh 0))]) hx hb dX5_readPart_110 hl (by decide) rfl (fun ls hl => ?_)
            refine lv_iload hx hb dX5_readPart_112 (lv_at hl 0 rfl) ?_
            refine lv_bipush (v := (-9)) hx hb dX5_readPart_114 (by decide) ?_
            refine lv_icmp_ne (tgt := 120) hx hb dX5_readPart_116 (by decide) (fun c205 => ?_) (fun c205 => ?_)
            · have f205 : ¬ r193.toInt = (-9) := f_ne rfl (by decide) c205
              refine lv_iload_n hx hb dX5_readPart_120 rfl (lv_at hl 2 rfl) ?_
              refine g_ir (g_runS (wc := []) (rest := []) cx hP hD hS [] rfl (by decide) [.int r2] (c_X5_hasSecond l D k b H.size r2) gX5_readPart_X5_hasSecond rfl rfl rfl nd_X5_hasSecond ⟨Nat.le_of_ble_eq_true rfl, Nat.le_of_ble_eq_true rfl⟩ rfl hl.1 rfl (Nat.le_of_ble_eq_true rfl) ⟨Nat.zero_le _, Nat.zero_le _⟩ dX5_readPart_121) cx.2.2.1 hP hD hS [] rfl rfl (fun r207 H locs hw206 hP hS => ?_)
              have w208 : r207 = J_X5_hasSecond r2 := hw206
              clear hw206
              have zr207 := second_b w208
              refine lv_if_eq (tgt := 141) hx hb dX5_readPart_124 (by decide) (fun c209 => ?_) (fun c209 => ?_)
              · have f209 : r207.toInt = 0 := f_eq rfl (by decide) c209
                have k209 : ¬ r2.toInt = 66 := second_f w208 c209
                refine lv_iconst (v := 0) hx hb dX5_readPart_141 (by decide) ?_
                refine lv_istore (lv' := [(5, .int 0), (4, .int r193), (3, .int r163), (2, .int r2), (0, .ref (qr 0)), (1, .ref (qh 0))]) hx hb dX5_readPart_142 hl (by decide) rfl (fun ls hl => ?_)
                refine lv_iload hx hb dX5_readPart_144 (lv_at hl 0 rfl) ?_
                refine lv_bipush (v := (-9)) hx hb dX5_readPart_146 (by decide) ?_
                refine lv_icmp_ne (tgt := 152) hx hb dX5_readPart_148 (by decide) (fun c210 => ?_) (fun c210 => ?_)
                · refine lv_aload_n hx hb dX5_readPart_152 rfl (lv_at hl 5 rfl) ?_
                  refine lv_iload_n hx hb dX5_readPart_153 rfl (lv_at hl 3 rfl) ?_
                  refine lv_iload_n hx hb dX5_readPart_154 rfl (lv_at hl 2 rfl) ?_
                  refine lv_iload hx hb dX5_readPart_155 (lv_at hl 1 rfl) ?_
                  refine lv_iload hx hb dX5_readPart_157 (lv_at hl 0 rfl) ?_
                  have hlit211 : (0 : Int32).toInt = 0 := by decide
                  refine g_v (w1 := fun (u : Int32 × (Nat → Int32) × (Nat → Int32) × (Nat → Int32) × (Nat → Int32) × Int32 × Int32 × Int32 × Int32 × Int32 × Int32 × Int32) => [(qh 0, .inr (2, [.int (sh 0 0), .int (u.1), .ref (qh 1), .ref (qh 2), .ref (qh 3), .ref (qh 4), .int (u.2.2.2.2.2.1), .int (u.2.2.2.2.2.2.1), .int (u.2.2.2.2.2.2.2.1), .int (u.2.2.2.2.2.2.2.2.1), .int (u.2.2.2.2.2.2.2.2.2.1), .int (u.2.2.2.2.2.2.2.2.2.2.1), .int (u.2.2.2.2.2.2.2.2.2.2.2), .ref (qh 5)])), (qh 1, .inl (k 0, 5, .inl (u.2.1))), (qh 2, .inl (k 0, 5, .inl (u.2.2.1))), (qh 3, .inl (k 0, 3, .inl (u.2.2.2.1))), (qh 4, .inl (k 0, 3, .inl (u.2.2.2.2.1))), (qh 5, .inl (k 0, 525, .inl (sh 5)))]) (g_runV (wc := [(qh 0, .inr (2, [.int (sh 0 0), .int (sh 0 1), .ref (qh 1), .ref (qh 2), .ref (qh 3), .ref (qh 4), .int (sh 0 6), .int (sh 0 7), .int (sh 0 8), .int (sh 0 9), .int (sh 0 10), .int (sh 0 11), .int (sh 0 12), .ref (qh 5)])), (qh 1, .inl (k 0, 5, .inl (sh 1))), (qh 2, .inl (k 0, 5, .inl (sh 2))), (qh 3, .inl (k 0, 3, .inl (sh 3))), (qh 4, .inl (k 0, 3, .inl (sh 4))), (qh 5, .inl (k 0, 525, .inl (sh 5)))]) (rest := []) cx hP hD hS [5, 6, 7, 8, 9, 10] rfl (by decide) [.int r2, .int r163, .int r193, .int 0] (c_X4_put l D k b qh sh H.size r2 r163 r193 0 (show 0 ≤ (sh 0 0).toInt ∧ (sh 0 0).toInt ≤ 5 from by first | assumption | decide | omega) (show 0 ≤ (sh 0 1).toInt ∧ (sh 0 1).toInt ≤ 4 from by first | assumption | decide | omega) (show 0 ≤ (sh 0 12).toInt ∧ (sh 0 12).toInt ≤ 5 from by first | assumption | decide | omega) h_of h_go (by first | exact hd_i wq | exact Or.inr (by decide)) (hd_l f4) (hd_r f4) (hd_i f5) (by first | exact hd_i f6 | exact Or.inr (by decide)) (show 0 ≤ r163.toInt ∧ r163.toInt ≤ 4 from by first | assumption | decide | omega) (show 0 ≤ r193.toInt ∧ r193.toInt ≤ 9 from by first | assumption | decide | omega) (show 0 ≤ (0 : Int32).toInt ∧ (0 : Int32).toInt ≤ 9 from by first | assumption | decide | omega)) gX5_readPart_X4_put rfl rfl rfl nd_X4_put ⟨Nat.le_of_ble_eq_true rfl, Nat.le_of_ble_eq_true rfl⟩ (ci := 2) (q0 := 0) rfl rfl rfl hl.1 rfl (Nat.le_of_ble_eq_true rfl) ⟨Nat.zero_le _, Nat.zero_le _⟩ dX5_readPart_159) cx.2.2.1 hP hD hS [5, 6, 7, 8, 9, 10] rfl (fun _ => rfl) (fun u213 H locs hw212 hP hD hS => ?_)
                  obtain ⟨m214, m215, m216, m217, m218, m219, m220, m221, m222, m223, m224, m225⟩ := u213
                  have hP : va_P D vwCl [(qr 0, .inr (3, [.ref (qc 0), .ref (qr 1)])), (qr 1, .inl (k 0, 26, .inl g185)), (qc 0, .inr (1, [.ref (qt 0), .int m194, .int m195])), (qt 0, .inr (8, [.ref (qt 1), .int (st 0 1)])), (qt 1, .inl (k 2, 64, .inl (st 1))), (qh 0, .inr (2, [.int (sh 0 0), .int m214, .ref (qh 1), .ref (qh 2), .ref (qh 3), .ref (qh 4), .int m219, .int m220, .int m221, .int m222, .int m223, .int m224, .int m225, .ref (qh 5)])), (qh 1, .inl (k 0, 5, .inl m215)), (qh 2, .inl (k 0, 5, .inl m216)), (qh 3, .inl (k 0, 3, .inl m217)), (qh 4, .inl (k 0, 3, .inl m218)), (qh 5, .inl (k 0, 525, .inl (sh 5)))] H := hP
                  have hD : va_D A [(qr 0, .inr (3, [.ref (qc 0), .ref (qr 1)])), (qr 1, .inl (k 0, 26, .inl g185)), (qc 0, .inr (1, [.ref (qt 0), .int m194, .int m195])), (qt 0, .inr (8, [.ref (qt 1), .int (st 0 1)])), (qt 1, .inl (k 2, 64, .inl (st 1))), (qh 0, .inr (2, [.int (sh 0 0), .int m214, .ref (qh 1), .ref (qh 2), .ref (qh 3), .ref (qh 4), .int m219, .int m220, .int m221, .int m222, .int m223, .int m224, .int m225, .ref (qh 5)])), (qh 1, .inl (k 0, 5, .inl m215)), (qh 2, .inl (k 0, 5, .inl m216)), (qh 3, .inl (k 0, 3, .inl m217)), (qh 4, .inl (k 0, 3, .inl m218)), (qh 5, .inl (k 0, 525, .inl (sh 5)))] := hD
                  replace hw212 : (0 ≤ m214.toInt ∧ m214.toInt ≤ 4) ∧ (0 ≤ m225.toInt ∧ m225.toInt ≤ 5) ∧ (∀ j, 0 ≤ (m216 j).toInt ∧ (m216 j).toInt ≤ 4) ∧ (∀ j, 0 ≤ (m217 j).toInt ∧ (m217 j).toInt ≤ 5) ∧ ((m214, m215, m216, m217, m218, m219, m220, m221, m222, m223, m224, m225) = J_X4_put sh r2 r163 r193 (0 : Int32)) := hw212
                  obtain ⟨w226, w227, w228, w229, w230⟩ := hw212
                  have k232 : m214 = ((J_X4_put sh r2 r163 r193 (0 : Int32)).1) := congrArg (fun z => (z.1)) w230
                  have k233 : m215 = ((J_X4_put sh r2 r163 r193 (0 : Int32)).2.1) := congrArg (fun z => (z.2.1)) w230
                  have k234 : m216 = ((J_X4_put sh r2 r163 r193 (0 : Int32)).2.2.1) := congrArg (fun z => (z.2.2.1)) w230
                  have k235 : m217 = ((J_X4_put sh r2 r163 r193 (0 : Int32)).2.2.2.1) := congrArg (fun z => (z.2.2.2.1)) w230
                  have k236 : m218 = ((J_X4_put sh r2 r163 r193 (0 : Int32)).2.2.2.2.1) := congrArg (fun z => (z.2.2.2.2.1)) w230
                  have k237 : m219 = ((J_X4_put sh r2 r163 r193 (0 : Int32)).2.2.2.2.2.1) := congrArg (fun z => (z.2.2.2.2.2.1)) w230
                  have k238 : m220 = ((J_X4_put sh r2 r163 r193 (0 : Int32)).2.2.2.2.2.2.1) := congrArg (fun z => (z.2.2.2.2.2.2.1)) w230
                  have k239 : m221 = ((J_X4_put sh r2 r163 r193 (0 : Int32)).2.2.2.2.2.2.2.1) := congrArg (fun z => (z.2.2.2.2.2.2.2.1)) w230
                  have k240 : m222 = ((J_X4_put sh r2 r163 r193 (0 : Int32)).2.2.2.2.2.2.2.2.1) := congrArg (fun z => (z.2.2.2.2.2.2.2.2.1)) w230
                  have k241 : m223 = ((J_X4_put sh r2 r163 r193 (0 : Int32)).2.2.2.2.2.2.2.2.2.1) := congrArg (fun z => (z.2.2.2.2.2.2.2.2.2.1)) w230
                  have k242 : m224 = ((J_X4_put sh r2 r163 r193 (0 : Int32)).2.2.2.2.2.2.2.2.2.2.1) := congrArg (fun z => (z.2.2.2.2.2.2.2.2.2.2.1)) w230
                  have k243 : m225 = ((J_X4_put sh r2 r163 r193 (0 : Int32)).2.2.2.2.2.2.2.2.2.2.2) := congrArg (fun z => (z.2.2.2.2.2.2.2.2.2.2.2)) w230
                  rw [hQ]
                  exact x_v cx hr (m194, m195, g185, m214, m215, m216, m217, m218, m219, m220, m221, m222, m223, m224, m225) hP hD hS ⟨ag185, (show 0 ≤ (g185 3).toInt ∧ (g185 3).toInt ≤ 7 from by first | assumption | omega), (show 0 ≤ (g185 16).toInt ∧ (g185 16).toInt ≤ 7 from by first | assumption | omega), (show 0 ≤ m214.toInt ∧ m214.toInt ≤ 4 from by first | assumption | omega), (show 0 ≤ m225.toInt ∧ m225.toInt ≤ 5 from by first | assumption | omega), w228, w229, (show (m194, m195, g185, m214, m215, m216, m217, m218, m219, m220, m221, m222, m223, m224, m225) = J_X5_readPart sr sc st sh from by subst k6 e21 e23 k30 w33 e156 e158 k172 k173 k174 e176 e178 e181 e182 e183 eg185 w190 k202 k203 k204 w208 k232 k233 k234 k235 k236 k237 k238 k239 k240 k241 k242 k243; first | (refine Eq.symm ?_; refine Eq.trans (if_neg c7) ?_; refine Eq.trans (if_neg c14) ?_; refine Eq.trans (if_neg c24) ?_; refine Eq.trans (if_neg c34) ?_; refine Eq.trans (if_neg c175) ?_; refine Eq.trans (if_neg c205) ?_; refine Eq.trans (if_pos c209) ?_; rfl) | (unfold J_X5_readPart; try dsimp only; rw [if_neg c7, if_neg c14, if_neg c24, if_neg c34, if_neg c175, if_neg c205, if_pos c209]))⟩ dX5_readPart_162
                · exact absurd c210 (by decide)
              · have f209 : ¬ r207.toInt = 0 := f_ne rfl (by decide) c209
                refine lv_aload_n hx hb dX5_readPart_127 rfl (lv_at hl 3 rfl) ?_
                refine g_get cx hP iw_X5_readPart_X5 0 rfl rfl 0 (by decide) rfl fw_X5_readPart_20 rfl dX5_readPart_128 ?_
                refine lv_iload_n hx hb dX5_readPart_131 rfl (lv_at hl 2 rfl) ?_
                refine g_ir (g_runS (wc := []) (rest := [.ref (qc 0)]) cx hP hD hS [] rfl (by decide) [.int r2] (c_X5_secondFigures l D k b H.size r2) gX5_readPart_X5_secondFigures rfl rfl rfl nd_X5_secondFigures ⟨Nat.le_of_ble_eq_true rfl, Nat.le_of_ble_eq_true rfl⟩ rfl hl.1 rfl (Nat.le_of_ble_eq_true rfl) ⟨Nat.zero_le _, Nat.zero_le _⟩ dX5_readPart_132) cx.2.2.1 hP hD hS [] rfl rfl (fun r245 H locs hw244 hP hS => ?_)
                have w246 : r245 = J_X5_secondFigures r2 := hw244
                clear hw244
                have zr245 := sf_t w246
                refine g_i (w1 := fun (u : Int32 × Int32) => [(qc 0, .inr (1, [.ref (qt 0), .int (u.1), .int (u.2)])), (qt 0, .inr (8, [.ref (qt 1), .int (st 0 1)])), (qt 1, .inl (k 2, 64, .inl (st 1)))]) (g_runV (wc := [(qc 0, .inr (1, [.ref (qt 0), .int m194, .int m195])), (qt 0, .inr (8, [.ref (qt 1), .int (st 0 1)])), (qt 1, .inl (k 2, 64, .inl (st 1)))]) (rest := []) cx hP hD hS [2, 3, 4] rfl (by decide) [.int r245] (c_X2_figure l D k b qc (up2 sc 0 (upd (upd (sc 0) 1 m194) 2 m195)) qt st H.size r245 (show 0 ≤ (st 0 1).toInt ∧ (st 0 1).toInt ≤ 64 from by first | assumption | decide | omega)) gX5_readPart_X2_figure rfl rfl rfl nd_X2_figure ⟨Nat.le_of_ble_eq_true rfl, Nat.le_of_ble_eq_true rfl⟩ (ci := 1) (q0 := 0) rfl rfl rfl hl.1 rfl (Nat.le_of_ble_eq_true rfl) ⟨Nat.zero_le _, Nat.zero_le _⟩ dX5_readPart_135) cx.2.2.1 hP hD hS [2, 3, 4] rfl (fun _ => rfl) (fun r249 u248 H locs hw247 hP hD hS => ?_)
                obtain ⟨m250, m251⟩ := u248
                have hP : va_P D vwCl [(qr 0, .inr (3, [.ref (qc 0), .ref (qr 1)])), (qr 1, .inl (k 0, 26, .inl g185)), (qc 0, .inr (1, [.ref (qt 0), .int m250, .int m251])), (qt 0, .inr (8, [.ref (qt 1), .int (st 0 1)])), (qt 1, .inl (k 2, 64, .inl (st 1))), (qh 0, .inr (2, [.int (sh 0 0), .int (sh 0 1), .ref (qh 1), .ref (qh 2), .ref (qh 3), .ref (qh 4), .int (sh 0 6), .int (sh 0 7), .int (sh 0 8), .int (sh 0 9), .int (sh 0 10), .int (sh 0 11), .int (sh 0 12), .ref (qh 5)])), (qh 1, .inl (k 0, 5, .inl (sh 1))), (qh 2, .inl (k 0, 5, .inl (sh 2))), (qh 3, .inl (k 0, 3, .inl (sh 3))), (qh 4, .inl (k 0, 3, .inl (sh 4))), (qh 5, .inl (k 0, 525, .inl (sh 5)))] H := hP
                have hD : va_D A [(qr 0, .inr (3, [.ref (qc 0), .ref (qr 1)])), (qr 1, .inl (k 0, 26, .inl g185)), (qc 0, .inr (1, [.ref (qt 0), .int m250, .int m251])), (qt 0, .inr (8, [.ref (qt 1), .int (st 0 1)])), (qt 1, .inl (k 2, 64, .inl (st 1))), (qh 0, .inr (2, [.int (sh 0 0), .int (sh 0 1), .ref (qh 1), .ref (qh 2), .ref (qh 3), .ref (qh 4), .int (sh 0 6), .int (sh 0 7), .int (sh 0 8), .int (sh 0 9), .int (sh 0 10), .int (sh 0 11), .int (sh 0 12), .ref (qh 5)])), (qh 1, .inl (k 0, 5, .inl (sh 1))), (qh 2, .inl (k 0, 5, .inl (sh 2))), (qh 3, .inl (k 0, 3, .inl (sh 3))), (qh 4, .inl (k 0, 3, .inl (sh 4))), (qh 5, .inl (k 0, 525, .inl (sh 5)))] := hD
                replace hw247 : (r249.toInt = -9 ∨ (0 ≤ r249.toInt ∧ r249.toInt ≤ 9)) ∧ (Imp (0 ≤ r245.toInt ∧ r245.toInt ≤ 63) (r249.toInt ≤ 5)) ∧ (Imp (0 ≤ r245.toInt ∧ r245.toInt ≤ 31) (r249.toInt ≤ 4)) ∧ (Imp (0 ≤ r245.toInt ∧ r245.toInt ≤ 7) (r249.toInt ≤ 2)) ∧ ((r249, m250, m251) = J_X2_figure (up2 sc 0 (upd (upd (sc 0) 1 m194) 2 m195)) st r245) := hw247
                obtain ⟨w252, w253, w254, w255, w256⟩ := hw247
                have k258 : r249 = ((J_X2_figure (up2 sc 0 (upd (upd (sc 0) 1 m194) 2 m195)) st r245).1) := congrArg (fun z => (z.1)) w256
                have k259 : m250 = ((J_X2_figure (up2 sc 0 (upd (upd (sc 0) 1 m194) 2 m195)) st r245).2.1) := congrArg (fun z => (z.2.1)) w256
                have k260 : m251 = ((J_X2_figure (up2 sc 0 (upd (upd (sc 0) 1 m194) 2 m195)) st r245).2.2) := congrArg (fun z => (z.2.2)) w256
                have f6 : Hd (¬ r2.toInt = 66 ∨ r249.toInt ≤ 5) := by by_cases q : r2.toInt = 66; exact Or.inr (w253 ⟨by omega, by omega⟩); exact Or.inl q
                clear zr245
                refine lv_goto (tgt := 142) hx hb dX5_readPart_138 (by decide) ?_
                refine lv_istore (lv' := [(5, .int r249), (4, .int r193), (3, .int r163), (2, .int r2), (0, .ref (qr 0)), (1, .ref (qh 0))]) hx hb dX5_readPart_142 hl (by decide) rfl (fun ls hl => ?_)
                refine lv_iload hx hb dX5_readPart_144 (lv_at hl 0 rfl) ?_
                refine lv_bipush (v := (-9)) hx hb dX5_readPart_146 (by decide) ?_
                refine lv_icmp_ne (tgt := 152) hx hb dX5_readPart_148 (by decide) (fun c261 => ?_) (fun c261 => ?_)
                · have f261 : ¬ r249.toInt = (-9) := f_ne rfl (by decide) c261
                  refine lv_aload_n hx hb dX5_readPart_152 rfl (lv_at hl 5 rfl) ?_
                  refine lv_iload_n hx hb dX5_readPart_153 rfl (lv_at hl 3 rfl) ?_
                  refine lv_iload_n hx hb dX5_readPart_154 rfl (lv_at hl 2 rfl) ?_
                  refine lv_iload hx hb dX5_readPart_155 (lv_at hl 1 rfl) ?_
                  refine lv_iload hx hb dX5_readPart_157 (lv_at hl 0 rfl) ?_
                  refine g_v (w1 := fun (u : Int32 × (Nat → Int32) × (Nat → Int32) × (Nat → Int32) × (Nat → Int32) × Int32 × Int32 × Int32 × Int32 × Int32 × Int32 × Int32) => [(qh 0, .inr (2, [.int (sh 0 0), .int (u.1), .ref (qh 1), .ref (qh 2), .ref (qh 3), .ref (qh 4), .int (u.2.2.2.2.2.1), .int (u.2.2.2.2.2.2.1), .int (u.2.2.2.2.2.2.2.1), .int (u.2.2.2.2.2.2.2.2.1), .int (u.2.2.2.2.2.2.2.2.2.1), .int (u.2.2.2.2.2.2.2.2.2.2.1), .int (u.2.2.2.2.2.2.2.2.2.2.2), .ref (qh 5)])), (qh 1, .inl (k 0, 5, .inl (u.2.1))), (qh 2, .inl (k 0, 5, .inl (u.2.2.1))), (qh 3, .inl (k 0, 3, .inl (u.2.2.2.1))), (qh 4, .inl (k 0, 3, .inl (u.2.2.2.2.1))), (qh 5, .inl (k 0, 525, .inl (sh 5)))]) (g_runV (wc := [(qh 0, .inr (2, [.int (sh 0 0), .int (sh 0 1), .ref (qh 1), .ref (qh 2), .ref (qh 3), .ref (qh 4), .int (sh 0 6), .int (sh 0 7), .int (sh 0 8), .int (sh 0 9), .int (sh 0 10), .int (sh 0 11), .int (sh 0 12), .ref (qh 5)])), (qh 1, .inl (k 0, 5, .inl (sh 1))), (qh 2, .inl (k 0, 5, .inl (sh 2))), (qh 3, .inl (k 0, 3, .inl (sh 3))), (qh 4, .inl (k 0, 3, .inl (sh 4))), (qh 5, .inl (k 0, 525, .inl (sh 5)))]) (rest := []) cx hP hD hS [5, 6, 7, 8, 9, 10] rfl (by decide) [.int r2, .int r163, .int r193, .int r249] (c_X4_put l D k b qh sh H.size r2 r163 r193 r249 (show 0 ≤ (sh 0 0).toInt ∧ (sh 0 0).toInt ≤ 5 from by first | assumption | decide | omega) (show 0 ≤ (sh 0 1).toInt ∧ (sh 0 1).toInt ≤ 4 from by first | assumption | decide | omega) (show 0 ≤ (sh 0 12).toInt ∧ (sh 0 12).toInt ≤ 5 from by first | assumption | decide | omega) h_of h_go (by first | exact hd_i wq | exact Or.inr (by decide)) (hd_l f4) (hd_r f4) (hd_i f5) (by first | exact hd_i f6 | exact Or.inr (by decide)) (show 0 ≤ r163.toInt ∧ r163.toInt ≤ 4 from by first | assumption | decide | omega) (show 0 ≤ r193.toInt ∧ r193.toInt ≤ 9 from by first | assumption | decide | omega) (show 0 ≤ r249.toInt ∧ r249.toInt ≤ 9 from by first | assumption | decide | omega)) gX5_readPart_X4_put rfl rfl rfl nd_X4_put ⟨Nat.le_of_ble_eq_true rfl, Nat.le_of_ble_eq_true rfl⟩ (ci := 2) (q0 := 0) rfl rfl rfl hl.1 rfl (Nat.le_of_ble_eq_true rfl) ⟨Nat.zero_le _, Nat.zero_le _⟩ dX5_readPart_159) cx.2.2.1 hP hD hS [5, 6, 7, 8, 9, 10] rfl (fun _ => rfl) (fun u263 H locs hw262 hP hD hS => ?_)
                  obtain ⟨m264, m265, m266, m267, m268, m269, m270, m271, m272, m273, m274, m275⟩ := u263
                  have hP : va_P D vwCl [(qr 0, .inr (3, [.ref (qc 0), .ref (qr 1)])), (qr 1, .inl (k 0, 26, .inl g185)), (qc 0, .inr (1, [.ref (qt 0), .int m250, .int m251])), (qt 0, .inr (8, [.ref (qt 1), .int (st 0 1)])), (qt 1, .inl (k 2, 64, .inl (st 1))), (qh 0, .inr (2, [.int (sh 0 0), .int m264, .ref (qh 1), .ref (qh 2), .ref (qh 3), .ref (qh 4), .int m269, .int m270, .int m271, .int m272, .int m273, .int m274, .int m275, .ref (qh 5)])), (qh 1, .inl (k 0, 5, .inl m265)), (qh 2, .inl (k 0, 5, .inl m266)), (qh 3, .inl (k 0, 3, .inl m267)), (qh 4, .inl (k 0, 3, .inl m268)), (qh 5, .inl (k 0, 525, .inl (sh 5)))] H := hP
                  have hD : va_D A [(qr 0, .inr (3, [.ref (qc 0), .ref (qr 1)])), (qr 1, .inl (k 0, 26, .inl g185)), (qc 0, .inr (1, [.ref (qt 0), .int m250, .int m251])), (qt 0, .inr (8, [.ref (qt 1), .int (st 0 1)])), (qt 1, .inl (k 2, 64, .inl (st 1))), (qh 0, .inr (2, [.int (sh 0 0), .int m264, .ref (qh 1), .ref (qh 2), .ref (qh 3), .ref (qh 4), .int m269, .int m270, .int m271, .int m272, .int m273, .int m274, .int m275, .ref (qh 5)])), (qh 1, .inl (k 0, 5, .inl m265)), (qh 2, .inl (k 0, 5, .inl m266)), (qh 3, .inl (k 0, 3, .inl m267)), (qh 4, .inl (k 0, 3, .inl m268)), (qh 5, .inl (k 0, 525, .inl (sh 5)))] := hD
                  replace hw262 : (0 ≤ m264.toInt ∧ m264.toInt ≤ 4) ∧ (0 ≤ m275.toInt ∧ m275.toInt ≤ 5) ∧ (∀ j, 0 ≤ (m266 j).toInt ∧ (m266 j).toInt ≤ 4) ∧ (∀ j, 0 ≤ (m267 j).toInt ∧ (m267 j).toInt ≤ 5) ∧ ((m264, m265, m266, m267, m268, m269, m270, m271, m272, m273, m274, m275) = J_X4_put sh r2 r163 r193 r249) := hw262
                  obtain ⟨w276, w277, w278, w279, w280⟩ := hw262
                  have k282 : m264 = ((J_X4_put sh r2 r163 r193 r249).1) := congrArg (fun z => (z.1)) w280
                  have k283 : m265 = ((J_X4_put sh r2 r163 r193 r249).2.1) := congrArg (fun z => (z.2.1)) w280
                  have k284 : m266 = ((J_X4_put sh r2 r163 r193 r249).2.2.1) := congrArg (fun z => (z.2.2.1)) w280
                  have k285 : m267 = ((J_X4_put sh r2 r163 r193 r249).2.2.2.1) := congrArg (fun z => (z.2.2.2.1)) w280
                  have k286 : m268 = ((J_X4_put sh r2 r163 r193 r249).2.2.2.2.1) := congrArg (fun z => (z.2.2.2.2.1)) w280
                  have k287 : m269 = ((J_X4_put sh r2 r163 r193 r249).2.2.2.2.2.1) := congrArg (fun z => (z.2.2.2.2.2.1)) w280
                  have k288 : m270 = ((J_X4_put sh r2 r163 r193 r249).2.2.2.2.2.2.1) := congrArg (fun z => (z.2.2.2.2.2.2.1)) w280
                  have k289 : m271 = ((J_X4_put sh r2 r163 r193 r249).2.2.2.2.2.2.2.1) := congrArg (fun z => (z.2.2.2.2.2.2.2.1)) w280
                  have k290 : m272 = ((J_X4_put sh r2 r163 r193 r249).2.2.2.2.2.2.2.2.1) := congrArg (fun z => (z.2.2.2.2.2.2.2.2.1)) w280
                  have k291 : m273 = ((J_X4_put sh r2 r163 r193 r249).2.2.2.2.2.2.2.2.2.1) := congrArg (fun z => (z.2.2.2.2.2.2.2.2.2.1)) w280
                  have k292 : m274 = ((J_X4_put sh r2 r163 r193 r249).2.2.2.2.2.2.2.2.2.2.1) := congrArg (fun z => (z.2.2.2.2.2.2.2.2.2.2.1)) w280
                  have k293 : m275 = ((J_X4_put sh r2 r163 r193 r249).2.2.2.2.2.2.2.2.2.2.2) := congrArg (fun z => (z.2.2.2.2.2.2.2.2.2.2.2)) w280
                  rw [hQ]
                  exact x_v cx hr (m250, m251, g185, m264, m265, m266, m267, m268, m269, m270, m271, m272, m273, m274, m275) hP hD hS ⟨ag185, (show 0 ≤ (g185 3).toInt ∧ (g185 3).toInt ≤ 7 from by first | assumption | omega), (show 0 ≤ (g185 16).toInt ∧ (g185 16).toInt ≤ 7 from by first | assumption | omega), (show 0 ≤ m264.toInt ∧ m264.toInt ≤ 4 from by first | assumption | omega), (show 0 ≤ m275.toInt ∧ m275.toInt ≤ 5 from by first | assumption | omega), w278, w279, (show (m250, m251, g185, m264, m265, m266, m267, m268, m269, m270, m271, m272, m273, m274, m275) = J_X5_readPart sr sc st sh from by subst k6 e21 e23 k30 w33 e156 e158 k172 k173 k174 e176 e178 e181 e182 e183 eg185 w190 k202 k203 k204 w208 w246 k258 k259 k260 k282 k283 k284 k285 k286 k287 k288 k289 k290 k291 k292 k293; first | (refine Eq.symm ?_; refine Eq.trans (if_neg c7) ?_; refine Eq.trans (if_neg c14) ?_; refine Eq.trans (if_neg c24) ?_; refine Eq.trans (if_neg c34) ?_; refine Eq.trans (if_neg c175) ?_; refine Eq.trans (if_neg c205) ?_; refine Eq.trans (if_neg c209) ?_; refine Eq.trans (if_neg c261) ?_; rfl) | (unfold J_X5_readPart; try dsimp only; rw [if_neg c7, if_neg c14, if_neg c24, if_neg c34, if_neg c175, if_neg c205, if_neg c209, if_neg c261]))⟩ dX5_readPart_162
                · have f261 : r249.toInt = (-9) := f_eq rfl (by decide) c261
                  rw [hQ]
                  exact x_v cx hr (m250, m251, g185, (sh 0 1), (sh 1), (sh 2), (sh 3), (sh 4), (sh 0 6), (sh 0 7), (sh 0 8), (sh 0 9), (sh 0 10), (sh 0 11), (sh 0 12)) hP hD hS ⟨ag185, (show 0 ≤ (g185 3).toInt ∧ (g185 3).toInt ≤ 7 from by first | assumption | omega), (show 0 ≤ (g185 16).toInt ∧ (g185 16).toInt ≤ 7 from by first | assumption | omega), (show 0 ≤ (sh 0 1).toInt ∧ (sh 0 1).toInt ≤ 4 from by first | assumption | omega), (show 0 ≤ (sh 0 12).toInt ∧ (sh 0 12).toInt ≤ 5 from by first | assumption | omega), h_of, h_go, (show (m250, m251, g185, (sh 0 1), (sh 1), (sh 2), (sh 3), (sh 4), (sh 0 6), (sh 0 7), (sh 0 8), (sh 0 9), (sh 0 10), (sh 0 11), (sh 0 12)) = J_X5_readPart sr sc st sh from by subst k6 e21 e23 k30 w33 e156 e158 k172 k173 k174 e176 e178 e181 e182 e183 eg185 w190 k202 k203 k204 w208 w246 k258 k259 k260; first | (refine Eq.symm ?_; refine Eq.trans (if_neg c7) ?_; refine Eq.trans (if_neg c14) ?_; refine Eq.trans (if_neg c24) ?_; refine Eq.trans (if_neg c34) ?_; refine Eq.trans (if_neg c175) ?_; refine Eq.trans (if_neg c205) ?_; refine Eq.trans (if_neg c209) ?_; refine Eq.trans (if_pos c261) ?_; rfl) | (unfold J_X5_readPart; try dsimp only; rw [if_neg c7, if_neg c14, if_neg c24, if_neg c34, if_neg c175, if_neg c205, if_neg c209, if_pos c261]))⟩ dX5_readPart_151
            · have f205 : r193.toInt = (-9) := f_eq rfl (by decide) c205
              rw [hQ]
              exact x_v cx hr (m194, m195, g185, (sh 0 1), (sh 1), (sh 2), (sh 3), (sh 4), (sh 0 6), (sh 0 7), (sh 0 8), (sh 0 9), (sh 0 10), (sh 0 11), (sh 0 12)) hP hD hS ⟨ag185, (show 0 ≤ (g185 3).toInt ∧ (g185 3).toInt ≤ 7 from by first | assumption | omega), (show 0 ≤ (g185 16).toInt ∧ (g185 16).toInt ≤ 7 from by first | assumption | omega), (show 0 ≤ (sh 0 1).toInt ∧ (sh 0 1).toInt ≤ 4 from by first | assumption | omega), (show 0 ≤ (sh 0 12).toInt ∧ (sh 0 12).toInt ≤ 5 from by first | assumption | omega), h_of, h_go, (show (m194, m195, g185, (sh 0 1), (sh 1), (sh 2), (sh 3), (sh 4), (sh 0 6), (sh 0 7), (sh 0 8), (sh 0 9), (sh 0 10), (sh 0 11), (sh 0 12)) = J_X5_readPart sr sc st sh from by subst k6 e21 e23 k30 w33 e156 e158 k172 k173 k174 e176 e178 e181 e182 e183 eg185 w190 k202 k203 k204; first | (refine Eq.symm ?_; refine Eq.trans (if_neg c7) ?_; refine Eq.trans (if_neg c14) ?_; refine Eq.trans (if_neg c24) ?_; refine Eq.trans (if_neg c34) ?_; refine Eq.trans (if_neg c175) ?_; refine Eq.trans (if_pos c205) ?_; rfl) | (unfold J_X5_readPart; try dsimp only; rw [if_neg c7, if_neg c14, if_neg c24, if_neg c34, if_neg c175, if_pos c205]))⟩ dX5_readPart_119
          · have f175 : r163.toInt = (-9) := f_eq rfl (by decide) c175
            rw [hQ]
            exact x_v cx hr (m164, m165, (sr 1), (sh 0 1), (sh 1), (sh 2), (sh 3), (sh 4), (sh 0 6), (sh 0 7), (sh 0 8), (sh 0 9), (sh 0 10), (sh 0 11), (sh 0 12)) hP hD hS ⟨u_a, (show 0 ≤ ((sr 1) 3).toInt ∧ ((sr 1) 3).toInt ≤ 7 from by first | assumption | omega), (show 0 ≤ ((sr 1) 16).toInt ∧ ((sr 1) 16).toInt ≤ 7 from by first | assumption | omega), (show 0 ≤ (sh 0 1).toInt ∧ (sh 0 1).toInt ≤ 4 from by first | assumption | omega), (show 0 ≤ (sh 0 12).toInt ∧ (sh 0 12).toInt ≤ 5 from by first | assumption | omega), h_of, h_go, (show (m164, m165, (sr 1), (sh 0 1), (sh 1), (sh 2), (sh 3), (sh 4), (sh 0 6), (sh 0 7), (sh 0 8), (sh 0 9), (sh 0 10), (sh 0 11), (sh 0 12)) = J_X5_readPart sr sc st sh from by subst k6 e21 e23 k30 w33 e156 e158 k172 k173 k174; first | (refine Eq.symm ?_; refine Eq.trans (if_neg c7) ?_; refine Eq.trans (if_neg c14) ?_; refine Eq.trans (if_neg c24) ?_; refine Eq.trans (if_neg c34) ?_; refine Eq.trans (if_pos c175) ?_; rfl) | (unfold J_X5_readPart; try dsimp only; rw [if_neg c7, if_neg c14, if_neg c24, if_neg c34, if_pos c175]))⟩ dX5_readPart_81
      · have f24 : v23.toInt = 0 := f_eq rfl (by decide) c24
        refine lv_aload_n hx hb dX5_readPart_32 rfl (lv_at hl 1 rfl) ?_
        refine g_get cx hP iw_X5_readPart_X5 0 rfl rfl 0 (by decide) rfl fw_X5_readPart_20 rfl dX5_readPart_33 ?_
        refine g_v (w1 := fun (u : Int32) => [(qc 0, .inr (1, [.ref (qt 0), .int (sc 0 1), .int u])), (qt 0, .inr (8, [.ref (qt 1), .int (st 0 1)])), (qt 1, .inl (k 2, 64, .inl (st 1)))]) (g_runV (wc := [(qc 0, .inr (1, [.ref (qt 0), .int (sc 0 1), .int (sc 0 2)])), (qt 0, .inr (8, [.ref (qt 1), .int (st 0 1)])), (qt 1, .inl (k 2, 64, .inl (st 1)))]) (rest := []) cx hP hD hS [2, 3, 4] rfl (by decide) [] (c_X2_stop l D k b qc sc qt st H.size) gX5_readPart_X2_stop rfl rfl rfl nd_X2_stop ⟨Nat.le_of_ble_eq_true rfl, Nat.le_of_ble_eq_true rfl⟩ (ci := 1) (q0 := 0) rfl rfl rfl hl.1 rfl (Nat.le_of_ble_eq_true rfl) ⟨Nat.zero_le _, Nat.zero_le _⟩ dX5_readPart_36) cx.2.2.1 hP hD hS [2, 3, 4] rfl (fun _ => rfl) (fun u295 H locs hw294 hP hD hS => ?_)
        obtain ⟨m296, rfl⟩ : ∃ z, z = u295 := ⟨_, rfl⟩
        have hP : va_P D vwCl [(qr 0, .inr (3, [.ref (qc 0), .ref (qr 1)])), (qr 1, .inl (k 0, 26, .inl (sr 1))), (qc 0, .inr (1, [.ref (qt 0), .int (sc 0 1), .int m296])), (qt 0, .inr (8, [.ref (qt 1), .int (st 0 1)])), (qt 1, .inl (k 2, 64, .inl (st 1))), (qh 0, .inr (2, [.int (sh 0 0), .int (sh 0 1), .ref (qh 1), .ref (qh 2), .ref (qh 3), .ref (qh 4), .int (sh 0 6), .int (sh 0 7), .int (sh 0 8), .int (sh 0 9), .int (sh 0 10), .int (sh 0 11), .int (sh 0 12), .ref (qh 5)])), (qh 1, .inl (k 0, 5, .inl (sh 1))), (qh 2, .inl (k 0, 5, .inl (sh 2))), (qh 3, .inl (k 0, 3, .inl (sh 3))), (qh 4, .inl (k 0, 3, .inl (sh 4))), (qh 5, .inl (k 0, 525, .inl (sh 5)))] H := hP
        have hD : va_D A [(qr 0, .inr (3, [.ref (qc 0), .ref (qr 1)])), (qr 1, .inl (k 0, 26, .inl (sr 1))), (qc 0, .inr (1, [.ref (qt 0), .int (sc 0 1), .int m296])), (qt 0, .inr (8, [.ref (qt 1), .int (st 0 1)])), (qt 1, .inl (k 2, 64, .inl (st 1))), (qh 0, .inr (2, [.int (sh 0 0), .int (sh 0 1), .ref (qh 1), .ref (qh 2), .ref (qh 3), .ref (qh 4), .int (sh 0 6), .int (sh 0 7), .int (sh 0 8), .int (sh 0 9), .int (sh 0 10), .int (sh 0 11), .int (sh 0 12), .ref (qh 5)])), (qh 1, .inl (k 0, 5, .inl (sh 1))), (qh 2, .inl (k 0, 5, .inl (sh 2))), (qh 3, .inl (k 0, 3, .inl (sh 3))), (qh 4, .inl (k 0, 3, .inl (sh 4))), (qh 5, .inl (k 0, 525, .inl (sh 5)))] := hD
        have w297 : m296 = J_X2_stop sc st := hw294
        clear hw294
        have k299 : m296 = (J_X2_stop sc st) := congrArg (fun z => z) w297
        rw [hQ]
        exact x_v cx hr ((sc 0 1), m296, (sr 1), (sh 0 1), (sh 1), (sh 2), (sh 3), (sh 4), (sh 0 6), (sh 0 7), (sh 0 8), (sh 0 9), (sh 0 10), (sh 0 11), (sh 0 12)) hP hD hS ⟨u_a, (show 0 ≤ ((sr 1) 3).toInt ∧ ((sr 1) 3).toInt ≤ 7 from by first | assumption | omega), (show 0 ≤ ((sr 1) 16).toInt ∧ ((sr 1) 16).toInt ≤ 7 from by first | assumption | omega), (show 0 ≤ (sh 0 1).toInt ∧ (sh 0 1).toInt ≤ 4 from by first | assumption | omega), (show 0 ≤ (sh 0 12).toInt ∧ (sh 0 12).toInt ≤ 5 from by first | assumption | omega), h_of, h_go, (show ((sc 0 1), m296, (sr 1), (sh 0 1), (sh 1), (sh 2), (sh 3), (sh 4), (sh 0 6), (sh 0 7), (sh 0 8), (sh 0 9), (sh 0 10), (sh 0 11), (sh 0 12)) = J_X5_readPart sr sc st sh from by subst k6 e21 e23 k299; first | (refine Eq.symm ?_; refine Eq.trans (if_neg c7) ?_; refine Eq.trans (if_neg c14) ?_; refine Eq.trans (if_pos c24) ?_; rfl) | (unfold J_X5_readPart; try dsimp only; rw [if_neg c7, if_neg c14, if_pos c24]))⟩ dX5_readPart_39
theorem fw_X8_readException_20 : Cond.fieldLink RX8 20 "StillInAugust$RuleReader" "cursor" "LStillInAugust$Cursor;" ∈ wsX8_readException := by decide +kernel
theorem fw_X8_readException_31 : Cond.fieldLink RX8 31 "StillInAugust$RuleReader" "untoldWeeks" "I" ∈ wsX8_readException := by decide +kernel
theorem fw_X8_readException_9 : Cond.fieldLink RX8 9 "StillInAugust$RuleReader" "exceptLevel" "[I" ∈ wsX8_readException := by decide +kernel
theorem iw_X8_readException_X8 : ∀ w ∈ u_ws RX8 TX8 4, w ∈ wsX8_readException := fun _ h => List.mem_cons_of_mem _ (List.mem_append_left _ (List.mem_append_left _ (List.mem_append_right _ h)))
def J_X8_readException (sr : Nat → Nat → Int32) (sc : Nat → Nat → Int32) (st : Nat → Nat → Int32) : Int32 × Int32 × Int32 × (Nat → Int32) := let y11 := J_X2_figure sc st (sr 0 3); if (y11.1) = (-9) then ((y11.2.1), (y11.2.2), (sr 0 3), (sr 1)) else let y31 := J_X2_figure (up2 sc 0 (upd (upd (sc 0) 1 (y11.2.1)) 2 (y11.2.2))) st (J_X2_figures 0 4); if (y31.1) = (-9) then ((y31.2.1), (y31.2.2), (sr 0 3), (sr 1)) else ((y31.2.1), (y31.2.2), ((sr 0 3) &&& (((1 : Int32) <<< ((y11.1) &&& 31)) ^^^ ((-1) : Int32))), (upd (sr 1) ((y11.1)).toNatClampNeg (y31.1)))
set_option maxHeartbeats 4000000 in
set_option maxRecDepth 100000 in
theorem c_X8_readException (l : Launch) (D : va_G) (k : Nat → ClassId) (b : Nat → Nat) (qr : Nat → Nat) (sr : Nat → Nat → Int32) (qc : Nat → Nat) (sc : Nat → Nat → Int32) (qt : Nat → Nat) (st : Nat → Nat → Int32) (sz : Nat) (h_len : 0 ≤ (st 0 1).toInt ∧ (st 0 1).toInt ≤ 64) (u_w : 0 ≤ (sr 0 3).toInt ∧ (sr 0 3).toInt ≤ 31) : MetV l D k b yX8_readException wsX8_readException ({ frames := 3, cells := 0, slots := 0, locals := 63 } : Room) [(qr 0, .inr (6, [.ref (qc 0), .ref (qr 1), .int (sr 0 2), .int (sr 0 3)])), (qr 1, .inl (k 0, 5, .inl (sr 1))), (qc 0, .inr (1, [.ref (qt 0), .int (sc 0 1), .int (sc 0 2)])), (qt 0, .inr (8, [.ref (qt 1), .int (st 0 1)])), (qt 1, .inl (k 2, 64, .inl (st 1)))] sz [.ref (qr 0)] (fun (u : Int32 × Int32 × Int32 × (Nat → Int32)) => (0 ≤ (u.2.2.1).toInt ∧ (u.2.2.1).toInt ≤ 31) ∧ (((u.1), (u.2.1), (u.2.2.1), (u.2.2.2)) = J_X8_readException sr sc st)) (fun u => [(qr 0, .inr (6, [.ref (qc 0), .ref (qr 1), .int (sr 0 2), .int (u.2.2.1)])), (qr 1, .inl (k 0, 5, .inl (u.2.2.2))), (qc 0, .inr (1, [.ref (qt 0), .int (u.1), .int (u.2.1)])), (qt 0, .inr (8, [.ref (qt 1), .int (st 0 1)])), (qt 1, .inl (k 2, 64, .inl (st 1)))]) := by
  refine g_enter (cc := cX8_readException) (maxL := 3) (ret := none) (by decide) rfl (Nat.le_of_ble_eq_true rfl) ?_
  intro p e s m below meth c A hsz hAe cx hr hP hD hS ls hl
  rw [hAe]
  refine g_q (fun Q hQ => ?_)
  have hx := cx.1.1
  have hb := cx.1.2.1
  have hl : lv_has ls 3 [(0, .ref (qr 0))] := hl
  obtain ⟨H, eH⟩ : ∃ H : Heap, H = s.heap := ⟨_, rfl⟩
  obtain ⟨locs, el⟩ : ∃ L : List Loc, L = [] := ⟨_, rfl⟩
  have hP : va_P D vwCl [(qr 0, .inr (6, [.ref (qc 0), .ref (qr 1), .int (sr 0 2), .int (sr 0 3)])), (qr 1, .inl (k 0, 5, .inl (sr 1))), (qc 0, .inr (1, [.ref (qt 0), .int (sc 0 1), .int (sc 0 2)])), (qt 0, .inr (8, [.ref (qt 1), .int (st 0 1)])), (qt 1, .inl (k 2, 64, .inl (st 1)))] H := by rw [eH]; exact hP
  have hD : va_D A [(qr 0, .inr (6, [.ref (qc 0), .ref (qr 1), .int (sr 0 2), .int (sr 0 3)])), (qr 1, .inl (k 0, 5, .inl (sr 1))), (qc 0, .inr (1, [.ref (qt 0), .int (sc 0 1), .int (sc 0 2)])), (qt 0, .inr (8, [.ref (qt 1), .int (st 0 1)])), (qt 1, .inl (k 2, 64, .inl (st 1)))] := hD
  have hS : va_S A s.heap H locs := by rw [eH, el]; exact hS
  suffices goal : W p l e ({ frames := 3, cells := 0, slots := 0, locals := 63 } : Room) s m ([.ref (qr 0)] : List Value).toArray below meth c H locs 0 0 Q (F0 m 0 ls []) by rw [eH, el] at goal; exact goal
  refine lv_aload_n hx hb dX8_readException_0 rfl (lv_at hl 0 rfl) ?_
  refine g_get cx hP iw_X8_readException_X8 0 rfl rfl 0 (by decide) rfl fw_X8_readException_20 rfl dX8_readException_1 ?_
  refine lv_aload_n hx hb dX8_readException_4 rfl (lv_at hl 0 rfl) ?_
  refine g_get cx hP iw_X8_readException_X8 0 rfl rfl 3 (by decide) rfl fw_X8_readException_31 rfl dX8_readException_5 ?_
  refine g_i (w1 := fun (u : Int32 × Int32) => [(qc 0, .inr (1, [.ref (qt 0), .int (u.1), .int (u.2)])), (qt 0, .inr (8, [.ref (qt 1), .int (st 0 1)])), (qt 1, .inl (k 2, 64, .inl (st 1)))]) (g_runV (wc := [(qc 0, .inr (1, [.ref (qt 0), .int (sc 0 1), .int (sc 0 2)])), (qt 0, .inr (8, [.ref (qt 1), .int (st 0 1)])), (qt 1, .inl (k 2, 64, .inl (st 1)))]) (rest := []) cx hP hD hS [2, 3, 4] rfl (by decide) [.int (sr 0 3)] (c_X2_figure l D k b qc sc qt st H.size (sr 0 3) (show 0 ≤ (st 0 1).toInt ∧ (st 0 1).toInt ≤ 64 from by first | decide | omega)) gX8_readException_X2_figure rfl rfl rfl nd_X2_figure ⟨Nat.le_of_ble_eq_true rfl, Nat.le_of_ble_eq_true rfl⟩ (ci := 1) (q0 := 0) rfl rfl rfl hl.1 rfl (Nat.le_of_ble_eq_true rfl) ⟨Nat.zero_le _, Nat.zero_le _⟩ dX8_readException_8) cx.2.2.1 hP hD hS [2, 3, 4] rfl (fun _ => rfl) (fun r3 u2 H locs hw1 hP hD hS => ?_)
  obtain ⟨m4, m5⟩ := u2
  have hP : va_P D vwCl [(qr 0, .inr (6, [.ref (qc 0), .ref (qr 1), .int (sr 0 2), .int (sr 0 3)])), (qr 1, .inl (k 0, 5, .inl (sr 1))), (qc 0, .inr (1, [.ref (qt 0), .int m4, .int m5])), (qt 0, .inr (8, [.ref (qt 1), .int (st 0 1)])), (qt 1, .inl (k 2, 64, .inl (st 1)))] H := hP
  have hD : va_D A [(qr 0, .inr (6, [.ref (qc 0), .ref (qr 1), .int (sr 0 2), .int (sr 0 3)])), (qr 1, .inl (k 0, 5, .inl (sr 1))), (qc 0, .inr (1, [.ref (qt 0), .int m4, .int m5])), (qt 0, .inr (8, [.ref (qt 1), .int (st 0 1)])), (qt 1, .inl (k 2, 64, .inl (st 1)))] := hD
  replace hw1 : (r3.toInt = -9 ∨ (0 ≤ r3.toInt ∧ r3.toInt ≤ 9)) ∧ (Imp (0 ≤ (sr 0 3).toInt ∧ (sr 0 3).toInt ≤ 63) (r3.toInt ≤ 5)) ∧ (Imp (0 ≤ (sr 0 3).toInt ∧ (sr 0 3).toInt ≤ 31) (r3.toInt ≤ 4)) ∧ (Imp (0 ≤ (sr 0 3).toInt ∧ (sr 0 3).toInt ≤ 7) (r3.toInt ≤ 2)) ∧ ((r3, m4, m5) = J_X2_figure sc st (sr 0 3)) := hw1
  obtain ⟨w6, w7, w8, w9, w10⟩ := hw1
  have k12 : r3 = ((J_X2_figure sc st (sr 0 3)).1) := congrArg (fun z => (z.1)) w10
  have k13 : m4 = ((J_X2_figure sc st (sr 0 3)).2.1) := congrArg (fun z => (z.2.1)) w10
  have k14 : m5 = ((J_X2_figure sc st (sr 0 3)).2.2) := congrArg (fun z => (z.2.2)) w10
  have xr3 : r3.toInt ≤ 4 := w8 ⟨by omega, by omega⟩
  refine lv_istore_n (lv' := [(1, .int r3), (0, .ref (qr 0))]) hx hb dX8_readException_11 rfl hl (by decide) rfl (fun ls hl => ?_)
  refine lv_iload_n hx hb dX8_readException_12 rfl (lv_at hl 0 rfl) ?_
  refine lv_bipush (v := (-9)) hx hb dX8_readException_13 (by decide) ?_
  refine lv_icmp_ne (tgt := 19) hx hb dX8_readException_15 (by decide) (fun c15 => ?_) (fun c15 => ?_)
  · have f15 : ¬ r3.toInt = (-9) := f_ne rfl (by decide) c15
    refine lv_aload_n hx hb dX8_readException_19 rfl (lv_at hl 1 rfl) ?_
    refine g_get cx hP iw_X8_readException_X8 0 rfl rfl 0 (by decide) rfl fw_X8_readException_20 rfl dX8_readException_20 ?_
    refine lv_iconst (v := 0) hx hb dX8_readException_23 (by decide) ?_
    refine lv_iconst (v := 4) hx hb dX8_readException_24 (by decide) ?_
    have hlit16 : (0 : Int32).toInt = 0 := by decide
    have hlit17 : (4 : Int32).toInt = 4 := by decide
    refine g_ir (g_runS (wc := []) (rest := [.ref (qc 0)]) cx hP hD hS [] rfl (by decide) [.int 0, .int 4] (c_X2_figures l D k b H.size 0 4) gX8_readException_X2_figures rfl rfl rfl nd_X2_figures ⟨Nat.le_of_ble_eq_true rfl, Nat.le_of_ble_eq_true rfl⟩ rfl hl.1 rfl (Nat.le_of_ble_eq_true rfl) ⟨Nat.zero_le _, Nat.zero_le _⟩ dX8_readException_25) cx.2.2.1 hP hD hS [] rfl rfl (fun r19 H locs hw18 hP hS => ?_)
    have w20 : r19 = J_X2_figures (0 : Int32) (4 : Int32) := hw18
    clear hw18
    have zr19 : r19.toInt = 31 := by rw [w20]; decide
    refine g_i (w1 := fun (u : Int32 × Int32) => [(qc 0, .inr (1, [.ref (qt 0), .int (u.1), .int (u.2)])), (qt 0, .inr (8, [.ref (qt 1), .int (st 0 1)])), (qt 1, .inl (k 2, 64, .inl (st 1)))]) (g_runV (wc := [(qc 0, .inr (1, [.ref (qt 0), .int m4, .int m5])), (qt 0, .inr (8, [.ref (qt 1), .int (st 0 1)])), (qt 1, .inl (k 2, 64, .inl (st 1)))]) (rest := []) cx hP hD hS [2, 3, 4] rfl (by decide) [.int r19] (c_X2_figure l D k b qc (up2 sc 0 (upd (upd (sc 0) 1 m4) 2 m5)) qt st H.size r19 (show 0 ≤ (st 0 1).toInt ∧ (st 0 1).toInt ≤ 64 from by first | decide | omega)) gX8_readException_X2_figure rfl rfl rfl nd_X2_figure ⟨Nat.le_of_ble_eq_true rfl, Nat.le_of_ble_eq_true rfl⟩ (ci := 1) (q0 := 0) rfl rfl rfl hl.1 rfl (Nat.le_of_ble_eq_true rfl) ⟨Nat.zero_le _, Nat.zero_le _⟩ dX8_readException_28) cx.2.2.1 hP hD hS [2, 3, 4] rfl (fun _ => rfl) (fun r23 u22 H locs hw21 hP hD hS => ?_)
    obtain ⟨m24, m25⟩ := u22
    have hP : va_P D vwCl [(qr 0, .inr (6, [.ref (qc 0), .ref (qr 1), .int (sr 0 2), .int (sr 0 3)])), (qr 1, .inl (k 0, 5, .inl (sr 1))), (qc 0, .inr (1, [.ref (qt 0), .int m24, .int m25])), (qt 0, .inr (8, [.ref (qt 1), .int (st 0 1)])), (qt 1, .inl (k 2, 64, .inl (st 1)))] H := hP
    have hD : va_D A [(qr 0, .inr (6, [.ref (qc 0), .ref (qr 1), .int (sr 0 2), .int (sr 0 3)])), (qr 1, .inl (k 0, 5, .inl (sr 1))), (qc 0, .inr (1, [.ref (qt 0), .int m24, .int m25])), (qt 0, .inr (8, [.ref (qt 1), .int (st 0 1)])), (qt 1, .inl (k 2, 64, .inl (st 1)))] := hD
    replace hw21 : (r23.toInt = -9 ∨ (0 ≤ r23.toInt ∧ r23.toInt ≤ 9)) ∧ (Imp (0 ≤ r19.toInt ∧ r19.toInt ≤ 63) (r23.toInt ≤ 5)) ∧ (Imp (0 ≤ r19.toInt ∧ r19.toInt ≤ 31) (r23.toInt ≤ 4)) ∧ (Imp (0 ≤ r19.toInt ∧ r19.toInt ≤ 7) (r23.toInt ≤ 2)) ∧ ((r23, m24, m25) = J_X2_figure (up2 sc 0 (upd (upd (sc 0) 1 m4) 2 m5)) st r19) := hw21
    obtain ⟨w26, w27, w28, w29, w30⟩ := hw21
    have k32 : r23 = ((J_X2_figure (up2 sc 0 (upd (upd (sc 0) 1 m4) 2 m5)) st r19).1) := congrArg (fun z => (z.1)) w30
    have k33 : m24 = ((J_X2_figure (up2 sc 0 (upd (upd (sc 0) 1 m4) 2 m5)) st r19).2.1) := congrArg (fun z => (z.2.1)) w30
    have k34 : m25 = ((J_X2_figure (up2 sc 0 (upd (upd (sc 0) 1 m4) 2 m5)) st r19).2.2) := congrArg (fun z => (z.2.2)) w30
    have xr23 : r23.toInt ≤ 4 := w28 ⟨by omega, by omega⟩
    refine lv_istore_n (lv' := [(2, .int r23), (1, .int r3), (0, .ref (qr 0))]) hx hb dX8_readException_31 rfl hl (by decide) rfl (fun ls hl => ?_)
    refine lv_iload_n hx hb dX8_readException_32 rfl (lv_at hl 0 rfl) ?_
    refine lv_bipush (v := (-9)) hx hb dX8_readException_33 (by decide) ?_
    refine lv_icmp_ne (tgt := 39) hx hb dX8_readException_35 (by decide) (fun c35 => ?_) (fun c35 => ?_)
    · have f35 : ¬ r23.toInt = (-9) := f_ne rfl (by decide) c35
      refine lv_aload_n hx hb dX8_readException_39 rfl (lv_at hl 2 rfl) ?_
      refine lv_dup hx hb dX8_readException_40 rfl ?_
      refine g_get cx hP iw_X8_readException_X8 0 rfl rfl 3 (by decide) rfl fw_X8_readException_31 rfl dX8_readException_41 ?_
      refine lv_iconst (v := 1) hx hb dX8_readException_44 (by decide) ?_
      refine lv_iload_n hx hb dX8_readException_45 rfl (lv_at hl 1 rfl) ?_
      refine lv_ishl hx hb dX8_readException_46 (lv_topi (fun v36 e36 => ?_))
      refine lv_iconst (v := (-1)) hx hb dX8_readException_47 (by decide) ?_
      refine lv_ixor hx hb dX8_readException_48 (lv_topi (fun v37 e37 => ?_))
      refine lv_iand hx hb dX8_readException_49 (lv_topi (fun v38 e38 => ?_))
      have t38 : 0 ≤ v38.toInt ∧ v38.toInt ≤ (sr 0 3).toInt := by rw [e38]; exact and_l rfl (by omega)
      refine g_pt cx hP hD hS iw_X8_readException_X8 tyX8 tyX8_ok nmX8 0 rfl rfl 3 (by decide) rfl fw_X8_readException_31 (ty := .int) rfl rfl rfl (Nat.le_of_ble_eq_true rfl) dX8_readException_50 (fun H locs hP hD hS => ?_)
      have hP : va_P D vwCl [(qr 0, .inr (6, [.ref (qc 0), .ref (qr 1), .int (sr 0 2), .int v38])), (qr 1, .inl (k 0, 5, .inl (sr 1))), (qc 0, .inr (1, [.ref (qt 0), .int m24, .int m25])), (qt 0, .inr (8, [.ref (qt 1), .int (st 0 1)])), (qt 1, .inl (k 2, 64, .inl (st 1)))] H := hP
      have hD : va_D A [(qr 0, .inr (6, [.ref (qc 0), .ref (qr 1), .int (sr 0 2), .int v38])), (qr 1, .inl (k 0, 5, .inl (sr 1))), (qc 0, .inr (1, [.ref (qt 0), .int m24, .int m25])), (qt 0, .inr (8, [.ref (qt 1), .int (st 0 1)])), (qt 1, .inl (k 2, 64, .inl (st 1)))] := hD
      refine lv_aload_n hx hb dX8_readException_53 rfl (lv_at hl 2 rfl) ?_
      refine g_get cx hP iw_X8_readException_X8 0 rfl rfl 1 (by decide) rfl fw_X8_readException_9 rfl dX8_readException_54 ?_
      refine lv_iload_n hx hb dX8_readException_57 rfl (lv_at hl 1 rfl) ?_
      refine lv_iload_n hx hb dX8_readException_58 rfl (lv_at hl 0 rfl) ?_
      have hn39 : vp_in r3 5 := f_in (a := r3.toInt) rfl (by omega) (by omega)
      refine va_iast hx hb cx.2.1 hP hD hS 1 0 rfl rfl hn39 dX8_readException_59 (fun H locs hP hD hS => ?_)
      obtain ⟨g40, eg40⟩ : ∃ g : Nat → Int32, g = upd (sr 1) (r3).toNatClampNeg r23 := ⟨_, rfl⟩
      rw [← eg40] at hP hD
      have hP : va_P D vwCl [(qr 0, .inr (6, [.ref (qc 0), .ref (qr 1), .int (sr 0 2), .int v38])), (qr 1, .inl (k 0, 5, .inl g40)), (qc 0, .inr (1, [.ref (qt 0), .int m24, .int m25])), (qt 0, .inr (8, [.ref (qt 1), .int (st 0 1)])), (qt 1, .inl (k 2, 64, .inl (st 1)))] H := hP
      have hD : va_D A [(qr 0, .inr (6, [.ref (qc 0), .ref (qr 1), .int (sr 0 2), .int v38])), (qr 1, .inl (k 0, 5, .inl g40)), (qc 0, .inr (1, [.ref (qt 0), .int m24, .int m25])), (qt 0, .inr (8, [.ref (qt 1), .int (st 0 1)])), (qt 1, .inl (k 2, 64, .inl (st 1)))] := hD
      rw [hQ]
      exact x_v cx hr (m24, m25, v38, g40) hP hD hS ⟨(show 0 ≤ v38.toInt ∧ v38.toInt ≤ 31 from by omega), (show (m24, m25, v38, g40) = J_X8_readException sr sc st from by subst k12 k13 k14 w20 k32 k33 k34 e36 e37 e38 eg40; first | (refine Eq.symm ?_; refine Eq.trans (if_neg c15) ?_; refine Eq.trans (if_neg c35) ?_; rfl) | (unfold J_X8_readException; try dsimp only; rw [if_neg c15, if_neg c35]))⟩ dX8_readException_60
    · have f35 : r23.toInt = (-9) := f_eq rfl (by decide) c35
      rw [hQ]
      exact x_v cx hr (m24, m25, (sr 0 3), (sr 1)) hP hD hS ⟨(show 0 ≤ (sr 0 3).toInt ∧ (sr 0 3).toInt ≤ 31 from by omega), (show (m24, m25, (sr 0 3), (sr 1)) = J_X8_readException sr sc st from by subst k12 k13 k14 w20 k32 k33 k34; first | (refine Eq.symm ?_; refine Eq.trans (if_neg c15) ?_; refine Eq.trans (if_pos c35) ?_; rfl) | (unfold J_X8_readException; try dsimp only; rw [if_neg c15, if_pos c35]))⟩ dX8_readException_38
  · have f15 : r3.toInt = (-9) := f_eq rfl (by decide) c15
    rw [hQ]
    exact x_v cx hr (m4, m5, (sr 0 3), (sr 1)) hP hD hS ⟨(show 0 ≤ (sr 0 3).toInt ∧ (sr 0 3).toInt ≤ 31 from by omega), (show (m4, m5, (sr 0 3), (sr 1)) = J_X8_readException sr sc st from by subst k12 k13 k14; first | (refine Eq.symm ?_; refine Eq.trans (if_pos c15) ?_; rfl) | (unfold J_X8_readException; try dsimp only; rw [if_pos c15]))⟩ dX8_readException_18
theorem fw_X8_readEnd_20 : Cond.fieldLink RX8 20 "StillInAugust$RuleReader" "cursor" "LStillInAugust$Cursor;" ∈ wsX8_readEnd := by decide +kernel
theorem fw_X8_readEnd_62 : Cond.fieldLink RX8 62 "StillInAugust$RuleReader" "otherLevel" "I" ∈ wsX8_readEnd := by decide +kernel
theorem nd_X2_hasMore : yX2_hasMore.cls = RX2 ∧ yX2_hasMore.cls ≠ "java/lang/invoke/MethodHandle" ∧ yX2_hasMore.cls ≠ "java/lang/invoke/VarHandle" ∧ (parseMethodDescriptor yX2_hasMore.desc).map (fun d => d.parameters.length) = some 0 := by decide +kernel
theorem nd_X2_stoppedAt : yX2_stoppedAt.cls = RX2 ∧ yX2_stoppedAt.cls ≠ "java/lang/invoke/MethodHandle" ∧ yX2_stoppedAt.cls ≠ "java/lang/invoke/VarHandle" ∧ (parseMethodDescriptor yX2_stoppedAt.desc).map (fun d => d.parameters.length) = some 0 := by decide +kernel
theorem iw_X8_readEnd_X8 : ∀ w ∈ u_ws RX8 TX8 4, w ∈ wsX8_readEnd := fun _ h => List.mem_cons_of_mem _ (List.mem_append_left _ (List.mem_append_left _ (List.mem_append_right _ h)))
def J_X8_readEnd (sr : Nat → Nat → Int32) (sc : Nat → Nat → Int32) (st : Nat → Nat → Int32) : Int32 × Int32 × Int32 := let y4 := J_X2_stoppedAt sc st; if y4 = (-9) then let y11 := J_X2_here sc st; if y11 = 76 then let y18 := J_X2_step sc st; let y35 := J_X2_figure (up2 sc 0 (upd (sc 0) 1 y18)) st (J_X2_figures 0 4); if (y35.1) = (-9) then ((y35.2.1), (y35.2.2), (sr 0 2)) else let y44 := J_X2_hasMore (up2 sc 0 (upd (upd (sc 0) 1 (y35.2.1)) 2 (y35.2.2))) st; if y44 = 0 then ((y35.2.1), (y35.2.2), (y35.1)) else let y51 := J_X2_stop (up2 sc 0 (upd (upd (sc 0) 1 (y35.2.1)) 2 (y35.2.2))) st; ((y35.2.1), y51, (y35.1)) else let y57 := J_X2_stop sc st; ((sc 0 1), y57, (sr 0 2)) else ((sc 0 1), (sc 0 2), (sr 0 2))
set_option maxHeartbeats 4000000 in
set_option maxRecDepth 100000 in
theorem c_X8_readEnd (l : Launch) (D : va_G) (k : Nat → ClassId) (b : Nat → Nat) (qr : Nat → Nat) (sr : Nat → Nat → Int32) (qc : Nat → Nat) (sc : Nat → Nat → Int32) (qt : Nat → Nat) (st : Nat → Nat → Int32) (sz : Nat) (h_len : 0 ≤ (st 0 1).toInt ∧ (st 0 1).toInt ≤ 64) : MetV l D k b yX8_readEnd wsX8_readEnd ({ frames := 3, cells := 0, slots := 0, locals := 63 } : Room) [(qr 0, .inr (6, [.ref (qc 0), .ref (qr 1), .int (sr 0 2), .int (sr 0 3)])), (qr 1, .inl (k 0, 5, .inl (sr 1))), (qc 0, .inr (1, [.ref (qt 0), .int (sc 0 1), .int (sc 0 2)])), (qt 0, .inr (8, [.ref (qt 1), .int (st 0 1)])), (qt 1, .inl (k 2, 64, .inl (st 1)))] sz [.ref (qr 0)] (fun (u : Int32 × Int32 × Int32) => ((u.1), (u.2.1), (u.2.2)) = J_X8_readEnd sr sc st) (fun u => [(qr 0, .inr (6, [.ref (qc 0), .ref (qr 1), .int (u.2.2), .int (sr 0 3)])), (qr 1, .inl (k 0, 5, .inl (sr 1))), (qc 0, .inr (1, [.ref (qt 0), .int (u.1), .int (u.2.1)])), (qt 0, .inr (8, [.ref (qt 1), .int (st 0 1)])), (qt 1, .inl (k 2, 64, .inl (st 1)))]) := by
  refine g_enter (cc := cX8_readEnd) (maxL := 2) (ret := none) (by decide) rfl (Nat.le_of_ble_eq_true rfl) ?_
  intro p e s m below meth c A hsz hAe cx hr hP hD hS ls hl
  rw [hAe]
  refine g_q (fun Q hQ => ?_)
  have hx := cx.1.1
  have hb := cx.1.2.1
  have hl : lv_has ls 2 [(0, .ref (qr 0))] := hl
  obtain ⟨H, eH⟩ : ∃ H : Heap, H = s.heap := ⟨_, rfl⟩
  obtain ⟨locs, el⟩ : ∃ L : List Loc, L = [] := ⟨_, rfl⟩
  have hP : va_P D vwCl [(qr 0, .inr (6, [.ref (qc 0), .ref (qr 1), .int (sr 0 2), .int (sr 0 3)])), (qr 1, .inl (k 0, 5, .inl (sr 1))), (qc 0, .inr (1, [.ref (qt 0), .int (sc 0 1), .int (sc 0 2)])), (qt 0, .inr (8, [.ref (qt 1), .int (st 0 1)])), (qt 1, .inl (k 2, 64, .inl (st 1)))] H := by rw [eH]; exact hP
  have hD : va_D A [(qr 0, .inr (6, [.ref (qc 0), .ref (qr 1), .int (sr 0 2), .int (sr 0 3)])), (qr 1, .inl (k 0, 5, .inl (sr 1))), (qc 0, .inr (1, [.ref (qt 0), .int (sc 0 1), .int (sc 0 2)])), (qt 0, .inr (8, [.ref (qt 1), .int (st 0 1)])), (qt 1, .inl (k 2, 64, .inl (st 1)))] := hD
  have hS : va_S A s.heap H locs := by rw [eH, el]; exact hS
  suffices goal : W p l e ({ frames := 3, cells := 0, slots := 0, locals := 63 } : Room) s m ([.ref (qr 0)] : List Value).toArray below meth c H locs 0 0 Q (F0 m 0 ls []) by rw [eH, el] at goal; exact goal
  refine lv_aload_n hx hb dX8_readEnd_0 rfl (lv_at hl 0 rfl) ?_
  refine g_get cx hP iw_X8_readEnd_X8 0 rfl rfl 0 (by decide) rfl fw_X8_readEnd_20 rfl dX8_readEnd_1 ?_
  refine g_ir (g_runV (wc := [(qc 0, .inr (1, [.ref (qt 0), .int (sc 0 1), .int (sc 0 2)])), (qt 0, .inr (8, [.ref (qt 1), .int (st 0 1)])), (qt 1, .inl (k 2, 64, .inl (st 1)))]) (rest := []) cx hP hD hS [2, 3, 4] rfl (by decide) [] (c_X2_stoppedAt l D k b qc sc qt st H.size) gX8_readEnd_X2_stoppedAt rfl rfl rfl nd_X2_stoppedAt ⟨Nat.le_of_ble_eq_true rfl, Nat.le_of_ble_eq_true rfl⟩ (ci := 1) (q0 := 0) rfl rfl rfl hl.1 rfl (Nat.le_of_ble_eq_true rfl) ⟨Nat.zero_le _, Nat.zero_le _⟩ dX8_readEnd_4) cx.2.2.1 hP hD hS [2, 3, 4] rfl rfl (fun r2 H locs hw1 hP hS => ?_)
  have w3 : r2 = J_X2_stoppedAt sc st := hw1
  clear hw1
  have k5 : r2 = (J_X2_stoppedAt sc st) := congrArg (fun z => z) w3
  refine lv_bipush (v := (-9)) hx hb dX8_readEnd_7 (by decide) ?_
  refine lv_icmp_eq (tgt := 13) hx hb dX8_readEnd_9 (by decide) (fun c6 => ?_) (fun c6 => ?_)
  · have f6 : r2.toInt = (-9) := f_eq rfl (by decide) c6
    refine lv_aload_n hx hb dX8_readEnd_13 rfl (lv_at hl 0 rfl) ?_
    refine g_get cx hP iw_X8_readEnd_X8 0 rfl rfl 0 (by decide) rfl fw_X8_readEnd_20 rfl dX8_readEnd_14 ?_
    refine g_ir (g_runV (wc := [(qc 0, .inr (1, [.ref (qt 0), .int (sc 0 1), .int (sc 0 2)])), (qt 0, .inr (8, [.ref (qt 1), .int (st 0 1)])), (qt 1, .inl (k 2, 64, .inl (st 1)))]) (rest := []) cx hP hD hS [2, 3, 4] rfl (by decide) [] (c_X2_here l D k b qc sc qt st H.size (show 0 ≤ (st 0 1).toInt ∧ (st 0 1).toInt ≤ 64 from by first | decide | omega)) gX8_readEnd_X2_here rfl rfl rfl nd_X2_here ⟨Nat.le_of_ble_eq_true rfl, Nat.le_of_ble_eq_true rfl⟩ (ci := 1) (q0 := 0) rfl rfl rfl hl.1 rfl (Nat.le_of_ble_eq_true rfl) ⟨Nat.zero_le _, Nat.zero_le _⟩ dX8_readEnd_17) cx.2.2.1 hP hD hS [2, 3, 4] rfl rfl (fun r8 H locs hw7 hP hS => ?_)
    replace hw7 : (-9 ≤ r8.toInt ∧ r8.toInt ≤ 255) ∧ (r8 = J_X2_here sc st) := hw7
    obtain ⟨w9, w10⟩ := hw7
    have k12 : r8 = (J_X2_here sc st) := congrArg (fun z => z) w10
    refine lv_bipush (v := 76) hx hb dX8_readEnd_20 (by decide) ?_
    refine lv_icmp_eq (tgt := 33) hx hb dX8_readEnd_22 (by decide) (fun c13 => ?_) (fun c13 => ?_)
    · have f13 : r8.toInt = 76 := f_eq rfl (by decide) c13
      refine lv_aload_n hx hb dX8_readEnd_33 rfl (lv_at hl 0 rfl) ?_
      refine g_get cx hP iw_X8_readEnd_X8 0 rfl rfl 0 (by decide) rfl fw_X8_readEnd_20 rfl dX8_readEnd_34 ?_
      refine g_v (w1 := fun (u : Int32) => [(qc 0, .inr (1, [.ref (qt 0), .int u, .int (sc 0 2)])), (qt 0, .inr (8, [.ref (qt 1), .int (st 0 1)])), (qt 1, .inl (k 2, 64, .inl (st 1)))]) (g_runV (wc := [(qc 0, .inr (1, [.ref (qt 0), .int (sc 0 1), .int (sc 0 2)])), (qt 0, .inr (8, [.ref (qt 1), .int (st 0 1)])), (qt 1, .inl (k 2, 64, .inl (st 1)))]) (rest := []) cx hP hD hS [2, 3, 4] rfl (by decide) [] (c_X2_step l D k b qc sc qt st H.size) gX8_readEnd_X2_step rfl rfl rfl nd_X2_step ⟨Nat.le_of_ble_eq_true rfl, Nat.le_of_ble_eq_true rfl⟩ (ci := 1) (q0 := 0) rfl rfl rfl hl.1 rfl (Nat.le_of_ble_eq_true rfl) ⟨Nat.zero_le _, Nat.zero_le _⟩ dX8_readEnd_37) cx.2.2.1 hP hD hS [2, 3, 4] rfl (fun _ => rfl) (fun u15 H locs hw14 hP hD hS => ?_)
      obtain ⟨m16, rfl⟩ : ∃ z, z = u15 := ⟨_, rfl⟩
      have hP : va_P D vwCl [(qr 0, .inr (6, [.ref (qc 0), .ref (qr 1), .int (sr 0 2), .int (sr 0 3)])), (qr 1, .inl (k 0, 5, .inl (sr 1))), (qc 0, .inr (1, [.ref (qt 0), .int m16, .int (sc 0 2)])), (qt 0, .inr (8, [.ref (qt 1), .int (st 0 1)])), (qt 1, .inl (k 2, 64, .inl (st 1)))] H := hP
      have hD : va_D A [(qr 0, .inr (6, [.ref (qc 0), .ref (qr 1), .int (sr 0 2), .int (sr 0 3)])), (qr 1, .inl (k 0, 5, .inl (sr 1))), (qc 0, .inr (1, [.ref (qt 0), .int m16, .int (sc 0 2)])), (qt 0, .inr (8, [.ref (qt 1), .int (st 0 1)])), (qt 1, .inl (k 2, 64, .inl (st 1)))] := hD
      have w17 : m16 = J_X2_step sc st := hw14
      clear hw14
      have k19 : m16 = (J_X2_step sc st) := congrArg (fun z => z) w17
      refine lv_aload_n hx hb dX8_readEnd_40 rfl (lv_at hl 0 rfl) ?_
      refine g_get cx hP iw_X8_readEnd_X8 0 rfl rfl 0 (by decide) rfl fw_X8_readEnd_20 rfl dX8_readEnd_41 ?_
      refine lv_iconst (v := 0) hx hb dX8_readEnd_44 (by decide) ?_
      refine lv_iconst (v := 4) hx hb dX8_readEnd_45 (by decide) ?_
      have hlit20 : (0 : Int32).toInt = 0 := by decide
      have hlit21 : (4 : Int32).toInt = 4 := by decide
      refine g_ir (g_runS (wc := []) (rest := [.ref (qc 0)]) cx hP hD hS [] rfl (by decide) [.int 0, .int 4] (c_X2_figures l D k b H.size 0 4) gX8_readEnd_X2_figures rfl rfl rfl nd_X2_figures ⟨Nat.le_of_ble_eq_true rfl, Nat.le_of_ble_eq_true rfl⟩ rfl hl.1 rfl (Nat.le_of_ble_eq_true rfl) ⟨Nat.zero_le _, Nat.zero_le _⟩ dX8_readEnd_46) cx.2.2.1 hP hD hS [] rfl rfl (fun r23 H locs hw22 hP hS => ?_)
      have w24 : r23 = J_X2_figures (0 : Int32) (4 : Int32) := hw22
      clear hw22
      have zr23 : r23.toInt = 31 := by rw [w24]; decide
      refine g_i (w1 := fun (u : Int32 × Int32) => [(qc 0, .inr (1, [.ref (qt 0), .int (u.1), .int (u.2)])), (qt 0, .inr (8, [.ref (qt 1), .int (st 0 1)])), (qt 1, .inl (k 2, 64, .inl (st 1)))]) (g_runV (wc := [(qc 0, .inr (1, [.ref (qt 0), .int m16, .int (sc 0 2)])), (qt 0, .inr (8, [.ref (qt 1), .int (st 0 1)])), (qt 1, .inl (k 2, 64, .inl (st 1)))]) (rest := []) cx hP hD hS [2, 3, 4] rfl (by decide) [.int r23] (c_X2_figure l D k b qc (up2 sc 0 (upd (sc 0) 1 m16)) qt st H.size r23 (show 0 ≤ (st 0 1).toInt ∧ (st 0 1).toInt ≤ 64 from by first | decide | omega)) gX8_readEnd_X2_figure rfl rfl rfl nd_X2_figure ⟨Nat.le_of_ble_eq_true rfl, Nat.le_of_ble_eq_true rfl⟩ (ci := 1) (q0 := 0) rfl rfl rfl hl.1 rfl (Nat.le_of_ble_eq_true rfl) ⟨Nat.zero_le _, Nat.zero_le _⟩ dX8_readEnd_49) cx.2.2.1 hP hD hS [2, 3, 4] rfl (fun _ => rfl) (fun r27 u26 H locs hw25 hP hD hS => ?_)
      obtain ⟨m28, m29⟩ := u26
      have hP : va_P D vwCl [(qr 0, .inr (6, [.ref (qc 0), .ref (qr 1), .int (sr 0 2), .int (sr 0 3)])), (qr 1, .inl (k 0, 5, .inl (sr 1))), (qc 0, .inr (1, [.ref (qt 0), .int m28, .int m29])), (qt 0, .inr (8, [.ref (qt 1), .int (st 0 1)])), (qt 1, .inl (k 2, 64, .inl (st 1)))] H := hP
      have hD : va_D A [(qr 0, .inr (6, [.ref (qc 0), .ref (qr 1), .int (sr 0 2), .int (sr 0 3)])), (qr 1, .inl (k 0, 5, .inl (sr 1))), (qc 0, .inr (1, [.ref (qt 0), .int m28, .int m29])), (qt 0, .inr (8, [.ref (qt 1), .int (st 0 1)])), (qt 1, .inl (k 2, 64, .inl (st 1)))] := hD
      replace hw25 : (r27.toInt = -9 ∨ (0 ≤ r27.toInt ∧ r27.toInt ≤ 9)) ∧ (Imp (0 ≤ r23.toInt ∧ r23.toInt ≤ 63) (r27.toInt ≤ 5)) ∧ (Imp (0 ≤ r23.toInt ∧ r23.toInt ≤ 31) (r27.toInt ≤ 4)) ∧ (Imp (0 ≤ r23.toInt ∧ r23.toInt ≤ 7) (r27.toInt ≤ 2)) ∧ ((r27, m28, m29) = J_X2_figure (up2 sc 0 (upd (sc 0) 1 m16)) st r23) := hw25
      obtain ⟨w30, w31, w32, w33, w34⟩ := hw25
      have k36 : r27 = ((J_X2_figure (up2 sc 0 (upd (sc 0) 1 m16)) st r23).1) := congrArg (fun z => (z.1)) w34
      have k37 : m28 = ((J_X2_figure (up2 sc 0 (upd (sc 0) 1 m16)) st r23).2.1) := congrArg (fun z => (z.2.1)) w34
      have k38 : m29 = ((J_X2_figure (up2 sc 0 (upd (sc 0) 1 m16)) st r23).2.2) := congrArg (fun z => (z.2.2)) w34
      have xr27 : r27.toInt ≤ 4 := w32 ⟨by omega, by omega⟩
      refine lv_istore_n (lv' := [(1, .int r27), (0, .ref (qr 0))]) hx hb dX8_readEnd_52 rfl hl (by decide) rfl (fun ls hl => ?_)
      refine lv_iload_n hx hb dX8_readEnd_53 rfl (lv_at hl 0 rfl) ?_
      refine lv_bipush (v := (-9)) hx hb dX8_readEnd_54 (by decide) ?_
      refine lv_icmp_ne (tgt := 60) hx hb dX8_readEnd_56 (by decide) (fun c39 => ?_) (fun c39 => ?_)
      · have f39 : ¬ r27.toInt = (-9) := f_ne rfl (by decide) c39
        refine lv_aload_n hx hb dX8_readEnd_60 rfl (lv_at hl 1 rfl) ?_
        refine lv_iload_n hx hb dX8_readEnd_61 rfl (lv_at hl 0 rfl) ?_
        refine g_pt cx hP hD hS iw_X8_readEnd_X8 tyX8 tyX8_ok nmX8 0 rfl rfl 2 (by decide) rfl fw_X8_readEnd_62 (ty := .int) rfl rfl rfl (Nat.le_of_ble_eq_true rfl) dX8_readEnd_62 (fun H locs hP hD hS => ?_)
        have hP : va_P D vwCl [(qr 0, .inr (6, [.ref (qc 0), .ref (qr 1), .int r27, .int (sr 0 3)])), (qr 1, .inl (k 0, 5, .inl (sr 1))), (qc 0, .inr (1, [.ref (qt 0), .int m28, .int m29])), (qt 0, .inr (8, [.ref (qt 1), .int (st 0 1)])), (qt 1, .inl (k 2, 64, .inl (st 1)))] H := hP
        have hD : va_D A [(qr 0, .inr (6, [.ref (qc 0), .ref (qr 1), .int r27, .int (sr 0 3)])), (qr 1, .inl (k 0, 5, .inl (sr 1))), (qc 0, .inr (1, [.ref (qt 0), .int m28, .int m29])), (qt 0, .inr (8, [.ref (qt 1), .int (st 0 1)])), (qt 1, .inl (k 2, 64, .inl (st 1)))] := hD
        refine lv_aload_n hx hb dX8_readEnd_65 rfl (lv_at hl 1 rfl) ?_
        refine g_get cx hP iw_X8_readEnd_X8 0 rfl rfl 0 (by decide) rfl fw_X8_readEnd_20 rfl dX8_readEnd_66 ?_
        refine g_ir (g_runV (wc := [(qc 0, .inr (1, [.ref (qt 0), .int m28, .int m29])), (qt 0, .inr (8, [.ref (qt 1), .int (st 0 1)])), (qt 1, .inl (k 2, 64, .inl (st 1)))]) (rest := []) cx hP hD hS [2, 3, 4] rfl (by decide) [] (c_X2_hasMore l D k b qc (up2 sc 0 (upd (upd (sc 0) 1 m28) 2 m29)) qt st H.size) gX8_readEnd_X2_hasMore rfl rfl rfl nd_X2_hasMore ⟨Nat.le_of_ble_eq_true rfl, Nat.le_of_ble_eq_true rfl⟩ (ci := 1) (q0 := 0) rfl rfl rfl hl.1 rfl (Nat.le_of_ble_eq_true rfl) ⟨Nat.zero_le _, Nat.zero_le _⟩ dX8_readEnd_69) cx.2.2.1 hP hD hS [2, 3, 4] rfl rfl (fun r41 H locs hw40 hP hS => ?_)
        replace hw40 : (0 ≤ r41.toInt ∧ r41.toInt ≤ 1) ∧ (r41 = J_X2_hasMore (up2 sc 0 (upd (upd (sc 0) 1 m28) 2 m29)) st) := hw40
        obtain ⟨w42, w43⟩ := hw40
        have k45 : r41 = (J_X2_hasMore (up2 sc 0 (upd (upd (sc 0) 1 m28) 2 m29)) st) := congrArg (fun z => z) w43
        refine lv_if_eq (tgt := 82) hx hb dX8_readEnd_72 (by decide) (fun c46 => ?_) (fun c46 => ?_)
        · have f46 : r41.toInt = 0 := f_eq rfl (by decide) c46
          rw [hQ]
          exact x_v cx hr (m28, m29, r27) hP hD hS (show (m28, m29, r27) = J_X8_readEnd sr sc st from by subst k5 k12 k19 w24 k36 k37 k38 k45; first | (refine Eq.symm ?_; refine Eq.trans (if_pos c6) ?_; refine Eq.trans (if_pos c13) ?_; refine Eq.trans (if_neg c39) ?_; refine Eq.trans (if_pos c46) ?_; rfl) | (unfold J_X8_readEnd; try dsimp only; rw [if_pos c6, if_pos c13, if_neg c39, if_pos c46])) dX8_readEnd_82
        · have f46 : ¬ r41.toInt = 0 := f_ne rfl (by decide) c46
          refine lv_aload_n hx hb dX8_readEnd_75 rfl (lv_at hl 1 rfl) ?_
          refine g_get cx hP iw_X8_readEnd_X8 0 rfl rfl 0 (by decide) rfl fw_X8_readEnd_20 rfl dX8_readEnd_76 ?_
          refine g_v (w1 := fun (u : Int32) => [(qc 0, .inr (1, [.ref (qt 0), .int m28, .int u])), (qt 0, .inr (8, [.ref (qt 1), .int (st 0 1)])), (qt 1, .inl (k 2, 64, .inl (st 1)))]) (g_runV (wc := [(qc 0, .inr (1, [.ref (qt 0), .int m28, .int m29])), (qt 0, .inr (8, [.ref (qt 1), .int (st 0 1)])), (qt 1, .inl (k 2, 64, .inl (st 1)))]) (rest := []) cx hP hD hS [2, 3, 4] rfl (by decide) [] (c_X2_stop l D k b qc (up2 sc 0 (upd (upd (sc 0) 1 m28) 2 m29)) qt st H.size) gX8_readEnd_X2_stop rfl rfl rfl nd_X2_stop ⟨Nat.le_of_ble_eq_true rfl, Nat.le_of_ble_eq_true rfl⟩ (ci := 1) (q0 := 0) rfl rfl rfl hl.1 rfl (Nat.le_of_ble_eq_true rfl) ⟨Nat.zero_le _, Nat.zero_le _⟩ dX8_readEnd_79) cx.2.2.1 hP hD hS [2, 3, 4] rfl (fun _ => rfl) (fun u48 H locs hw47 hP hD hS => ?_)
          obtain ⟨m49, rfl⟩ : ∃ z, z = u48 := ⟨_, rfl⟩
          have hP : va_P D vwCl [(qr 0, .inr (6, [.ref (qc 0), .ref (qr 1), .int r27, .int (sr 0 3)])), (qr 1, .inl (k 0, 5, .inl (sr 1))), (qc 0, .inr (1, [.ref (qt 0), .int m28, .int m49])), (qt 0, .inr (8, [.ref (qt 1), .int (st 0 1)])), (qt 1, .inl (k 2, 64, .inl (st 1)))] H := hP
          have hD : va_D A [(qr 0, .inr (6, [.ref (qc 0), .ref (qr 1), .int r27, .int (sr 0 3)])), (qr 1, .inl (k 0, 5, .inl (sr 1))), (qc 0, .inr (1, [.ref (qt 0), .int m28, .int m49])), (qt 0, .inr (8, [.ref (qt 1), .int (st 0 1)])), (qt 1, .inl (k 2, 64, .inl (st 1)))] := hD
          have w50 : m49 = J_X2_stop (up2 sc 0 (upd (upd (sc 0) 1 m28) 2 m29)) st := hw47
          clear hw47
          have k52 : m49 = (J_X2_stop (up2 sc 0 (upd (upd (sc 0) 1 m28) 2 m29)) st) := congrArg (fun z => z) w50
          rw [hQ]
          exact x_v cx hr (m28, m49, r27) hP hD hS (show (m28, m49, r27) = J_X8_readEnd sr sc st from by subst k5 k12 k19 w24 k36 k37 k38 k45 k52; first | (refine Eq.symm ?_; refine Eq.trans (if_pos c6) ?_; refine Eq.trans (if_pos c13) ?_; refine Eq.trans (if_neg c39) ?_; refine Eq.trans (if_neg c46) ?_; rfl) | (unfold J_X8_readEnd; try dsimp only; rw [if_pos c6, if_pos c13, if_neg c39, if_neg c46])) dX8_readEnd_82
      · have f39 : r27.toInt = (-9) := f_eq rfl (by decide) c39
        rw [hQ]
        exact x_v cx hr (m28, m29, (sr 0 2)) hP hD hS (show (m28, m29, (sr 0 2)) = J_X8_readEnd sr sc st from by subst k5 k12 k19 w24 k36 k37 k38; first | (refine Eq.symm ?_; refine Eq.trans (if_pos c6) ?_; refine Eq.trans (if_pos c13) ?_; refine Eq.trans (if_pos c39) ?_; rfl) | (unfold J_X8_readEnd; try dsimp only; rw [if_pos c6, if_pos c13, if_pos c39])) dX8_readEnd_59
    · have f13 : ¬ r8.toInt = 76 := f_ne rfl (by decide) c13
      refine lv_aload_n hx hb dX8_readEnd_25 rfl (lv_at hl 0 rfl) ?_
      refine g_get cx hP iw_X8_readEnd_X8 0 rfl rfl 0 (by decide) rfl fw_X8_readEnd_20 rfl dX8_readEnd_26 ?_
      refine g_v (w1 := fun (u : Int32) => [(qc 0, .inr (1, [.ref (qt 0), .int (sc 0 1), .int u])), (qt 0, .inr (8, [.ref (qt 1), .int (st 0 1)])), (qt 1, .inl (k 2, 64, .inl (st 1)))]) (g_runV (wc := [(qc 0, .inr (1, [.ref (qt 0), .int (sc 0 1), .int (sc 0 2)])), (qt 0, .inr (8, [.ref (qt 1), .int (st 0 1)])), (qt 1, .inl (k 2, 64, .inl (st 1)))]) (rest := []) cx hP hD hS [2, 3, 4] rfl (by decide) [] (c_X2_stop l D k b qc sc qt st H.size) gX8_readEnd_X2_stop rfl rfl rfl nd_X2_stop ⟨Nat.le_of_ble_eq_true rfl, Nat.le_of_ble_eq_true rfl⟩ (ci := 1) (q0 := 0) rfl rfl rfl hl.1 rfl (Nat.le_of_ble_eq_true rfl) ⟨Nat.zero_le _, Nat.zero_le _⟩ dX8_readEnd_29) cx.2.2.1 hP hD hS [2, 3, 4] rfl (fun _ => rfl) (fun u54 H locs hw53 hP hD hS => ?_)
      obtain ⟨m55, rfl⟩ : ∃ z, z = u54 := ⟨_, rfl⟩
      have hP : va_P D vwCl [(qr 0, .inr (6, [.ref (qc 0), .ref (qr 1), .int (sr 0 2), .int (sr 0 3)])), (qr 1, .inl (k 0, 5, .inl (sr 1))), (qc 0, .inr (1, [.ref (qt 0), .int (sc 0 1), .int m55])), (qt 0, .inr (8, [.ref (qt 1), .int (st 0 1)])), (qt 1, .inl (k 2, 64, .inl (st 1)))] H := hP
      have hD : va_D A [(qr 0, .inr (6, [.ref (qc 0), .ref (qr 1), .int (sr 0 2), .int (sr 0 3)])), (qr 1, .inl (k 0, 5, .inl (sr 1))), (qc 0, .inr (1, [.ref (qt 0), .int (sc 0 1), .int m55])), (qt 0, .inr (8, [.ref (qt 1), .int (st 0 1)])), (qt 1, .inl (k 2, 64, .inl (st 1)))] := hD
      have w56 : m55 = J_X2_stop sc st := hw53
      clear hw53
      have k58 : m55 = (J_X2_stop sc st) := congrArg (fun z => z) w56
      rw [hQ]
      exact x_v cx hr ((sc 0 1), m55, (sr 0 2)) hP hD hS (show ((sc 0 1), m55, (sr 0 2)) = J_X8_readEnd sr sc st from by subst k5 k12 k58; first | (refine Eq.symm ?_; refine Eq.trans (if_pos c6) ?_; refine Eq.trans (if_neg c13) ?_; rfl) | (unfold J_X8_readEnd; try dsimp only; rw [if_pos c6, if_neg c13])) dX8_readEnd_32
  · have f6 : ¬ r2.toInt = (-9) := f_ne rfl (by decide) c6
    rw [hQ]
    exact x_v cx hr ((sc 0 1), (sc 0 2), (sr 0 2)) hP hD hS (show ((sc 0 1), (sc 0 2), (sr 0 2)) = J_X8_readEnd sr sc st from by subst k5; first | (refine Eq.symm ?_; refine Eq.trans (if_neg c6) ?_; rfl) | (unfold J_X8_readEnd; try dsimp only; rw [if_neg c6])) dX8_readEnd_12
