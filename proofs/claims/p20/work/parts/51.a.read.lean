theorem fw_X5_expectOnce_S0_9 : Cond.fieldLink RX5 9 "StillInAugust$HouseReader" "untold" "[I" ∈ wsX5_expectOnce := by decide +kernel
theorem nd_J0_charAt_5068e : yJ0_charAt_5068e.cls = RJ0 ∧ yJ0_charAt_5068e.cls ≠ "java/lang/invoke/MethodHandle" ∧ yJ0_charAt_5068e.cls ≠ "java/lang/invoke/VarHandle" ∧ (parseMethodDescriptor yJ0_charAt_5068e.desc).map (fun d => d.parameters.length) = some 1 := by decide +kernel
theorem nd_J0_length_8abf5 : yJ0_length_8abf5.cls = RJ0 ∧ yJ0_length_8abf5.cls ≠ "java/lang/invoke/MethodHandle" ∧ yJ0_length_8abf5.cls ≠ "java/lang/invoke/VarHandle" ∧ (parseMethodDescriptor yJ0_length_8abf5.desc).map (fun d => d.parameters.length) = some 0 := by decide +kernel
theorem iw_X5_expectOnce_S0_X5 : ∀ w ∈ u_ws RX5 TX5 2, w ∈ wsX5_expectOnce := fun _ h => List.mem_cons_of_mem _ (List.mem_append_right _ h)
set_option maxHeartbeats 4000000 in
set_option maxRecDepth 100000 in
theorem c_X5_expectOnce_S0 (l : Launch) (D : va_G) (k : Nat → ClassId) (b : Nat → Nat) (qr : Nat → Nat) (sr : Nat → Nat → Int32) (qc : Nat → Nat) (sc : Nat → Nat → Int32) (qt : Nat → Nat) (st : Nat → Nat → Int32) (sz : Nat) (p0 : Int32) (u_a : ∀ j, 0 ≤ (sr 1 j).toInt ∧ (sr 1 j).toInt ≤ 31) (u_3 : 0 ≤ (sr 1 3).toInt ∧ (sr 1 3).toInt ≤ 7) (u_16 : 0 ≤ (sr 1 16).toInt ∧ (sr 1 16).toInt ≤ 7) (hp0 : -1 ≤ p0.toInt ∧ p0.toInt ≤ 2) : MetV l D k b yX5_expectOnce wsX5_expectOnce ({ frames := 4, cells := 0, slots := 0, locals := 85 } : Room) [cell59_ qr qc, cell5_ k qr sr, cell58_ qc qt sc, cell49_ qt st, cell27_ k qt st] sz [.ref (qr 0), .ref (b 10), .int p0] (fun (u : (Nat → Int32)) => (∀ j, 0 ≤ (u j).toInt ∧ (u j).toInt ≤ 31) ∧ (0 ≤ (u 3).toInt ∧ (u 3).toInt ≤ 7) ∧ (0 ≤ (u 16).toInt ∧ (u 16).toInt ≤ 7) ∧ (u = J_X5_expectOnce_S0 sr sc st p0)) (fun u => [cell59_ qr qc, (qr 1, .inl (k 0, 26, .inl u)), cell58_ qc qt sc, cell49_ qt st, cell27_ k qt st]) := by
  refine g_enter (cc := cX5_expectOnce) (maxL := 4) (ret := none) (by decide) rfl (Nat.le_of_ble_eq_true rfl) ?_
  intro p e s m below meth c A hsz hAe cx hr hP hD hS ls hl
  rw [hAe]
  refine g_q (fun Q hQ => ?_)
  have hx := cx.1.1
  have hb := cx.1.2.1
  have bp0 := i_rng p0
  have hl : lv_has ls 4 [(0, .ref (qr 0)), (1, .ref (b 10)), (2, .int p0)] := hl
  obtain ⟨H, eH⟩ : ∃ H : Heap, H = s.heap := ⟨_, rfl⟩
  obtain ⟨locs, el⟩ : ∃ L : List Loc, L = [] := ⟨_, rfl⟩
  have hP : va_P D vwCl [cell59_ qr qc, cell5_ k qr sr, cell58_ qc qt sc, cell49_ qt st, cell27_ k qt st] H := by rw [eH]; exact hP
  have hD : va_D A [cell59_ qr qc, cell5_ k qr sr, cell58_ qc qt sc, cell49_ qt st, cell27_ k qt st] := hD
  have hS : va_S A s.heap H locs := by rw [eH, el]; exact hS
  suffices goal : W p l e ({ frames := 4, cells := 0, slots := 0, locals := 85 } : Room) s m ([.ref (qr 0), .ref (b 10), .int p0] : List Value).toArray below meth c H locs 0 0 Q (F0 m 0 ls []) by rw [eH, el] at goal; exact goal
  refine lv_iconst (v := 0) hx hb dX5_expectOnce_0 (by decide) ?_
  refine lv_istore_n (lv' := [(3, .int 0), (0, .ref (qr 0)), (1, .ref (b 10)), (2, .int p0)]) hx hb dX5_expectOnce_1 rfl hl (by decide) rfl (fun ls hl => ?_)
  have hL2 : ∀ (n22 : Nat) (v20 : Int32) (g21 : Nat → Int32) (H : Heap) (locs : List Loc) (ls : Array Slot), 7 - v20.toInt < (n22 : Int) → (0 ≤ v20.toInt ∧ v20.toInt ≤ 7) → (0 ≤ (g21 3).toInt ∧ (g21 3).toInt ≤ 7) → (0 ≤ (g21 16).toInt ∧ (g21 16).toInt ≤ 7) → (eoF (J_X2_figures 0 p0) ((zBYT.getD 0 []).drop (Int.toNat v20.toInt)) g21 = eoF (J_X2_figures 0 p0) (zBYT.getD 0 []) (sr 1)) → (∀ j, 0 ≤ (g21 j).toInt ∧ (g21 j).toInt ≤ 31) → va_P D vwCl [cell59_ qr qc, (qr 1, .inl (k 0, 26, .inl g21)), cell58_ qc qt sc, cell49_ qt st, cell27_ k qt st] H → va_D A [cell59_ qr qc, (qr 1, .inl (k 0, 26, .inl g21)), cell58_ qc qt sc, cell49_ qt st, cell27_ k qt st] → va_S A s.heap H locs → lv_has ls 4 [(3, .int v20), (0, .ref (qr 0)), (1, .ref (b 10)), (2, .int p0)] → W p l e ({ frames := 4, cells := 0, slots := 0, locals := 85 } : Room) s m ([.ref (qr 0), .ref (b 10), .int p0] : List Value).toArray below meth c H locs 0 0 Q (F0 m 2 ls []) := by
    intro n22
    induction n22 with
    | zero => intro v20 g21 H locs ls hmn22 bv20 u3 u16 qE ag21 hP hD hS hl; exact absurd hmn22 (by omega)
    | succ n22 ih2 =>
      intro v20 g21 H locs ls hmn22 bv20 u3 u16 qE ag21 hP hD hS hl
      refine lv_iload_n hx hb dX5_expectOnce_2 rfl (lv_at hl 0 rfl) ?_
      refine lv_aload_n hx hb dX5_expectOnce_3 rfl (lv_at hl 2 rfl) ?_
      refine g_ir (g_runK (rest := [.int v20]) cx hP hD hS (i := 0) (Nat.le_of_ble_eq_true rfl) [] (c_J0_length_8abf5_S0 l D k b H.size) gX5_expectOnce_J0_length_8abf5 rfl rfl rfl nd_J0_length_8abf5 ⟨Nat.le_of_ble_eq_true rfl, Nat.le_of_ble_eq_true rfl⟩ rfl hl.1 rfl (Nat.le_of_ble_eq_true rfl) ⟨Nat.zero_le _, Nat.zero_le _⟩ dX5_expectOnce_4) cx.2.2.1 hP hD hS [] rfl rfl (fun r24 H locs hw23 hP hS => ?_)
      have w25 : r24.toInt = 7 := hw23
      clear hw23
      refine lv_icmp_ge (tgt := 34) hx hb dX5_expectOnce_7 (by decide) (fun c26 => ?_) (fun c26 => ?_)
      · have f26 : r24.toInt ≤ v20.toInt := f_le rfl rfl c26
        rw [hQ]
        exact x_v cx hr g21 hP hD hS ⟨ag21, (show 0 ≤ (g21 3).toInt ∧ (g21 3).toInt ≤ 7 from by omega), (show 0 ≤ (g21 16).toInt ∧ (g21 16).toInt ≤ 7 from by omega), (show g21 = J_X5_expectOnce_S0 sr sc st p0 from eo_end (by show 7 ≤ _; omega) qE)⟩ dX5_expectOnce_34
      · have f26 : v20.toInt < r24.toInt := f_nle rfl rfl c26
        refine lv_aload_n hx hb dX5_expectOnce_10 rfl (lv_at hl 1 rfl) ?_
        refine g_get cx hP iw_X5_expectOnce_S0_X5 0 rfl rfl 1 (by decide) rfl fw_X5_expectOnce_S0_9 rfl dX5_expectOnce_11 ?_
        refine lv_aload_n hx hb dX5_expectOnce_14 rfl (lv_at hl 2 rfl) ?_
        refine lv_iload_n hx hb dX5_expectOnce_15 rfl (lv_at hl 0 rfl) ?_
        refine g_ir (g_runK (rest := [.ref (qr 1)]) cx hP hD hS (i := 0) (Nat.le_of_ble_eq_true rfl) [.int v20] (c_J0_charAt_5068e_S0 l D k b H.size v20 (show 0 ≤ v20.toInt ∧ v20.toInt ≤ 6 from by first | decide | omega)) gX5_expectOnce_J0_charAt_5068e rfl rfl rfl nd_J0_charAt_5068e ⟨Nat.le_of_ble_eq_true rfl, Nat.le_of_ble_eq_true rfl⟩ rfl hl.1 rfl (Nat.le_of_ble_eq_true rfl) ⟨Nat.zero_le _, Nat.zero_le _⟩ dX5_expectOnce_16) cx.2.2.1 hP hD hS [] rfl rfl (fun r28 H locs hw27 hP hS => ?_)
        replace hw27 : (65 ≤ r28.toInt ∧ r28.toInt ≤ 90) ∧ (¬ 0 = 1 ∨ r28.toInt = 87 ∨ r28.toInt = 79) ∧ (r28 = (zBYT.getD 0 []).getD (Int.toNat v20.toInt) 0) := hw27
        obtain ⟨w29, w30, w31⟩ := hw27
        have cw := w30
        have hcx_ := w31
        refine lv_bipush (v := 65) hx hb dX5_expectOnce_19 (by decide) ?_
        refine lv_isub hx hb dX5_expectOnce_21 (lv_topi (fun v32 e32 => ?_))
        have t32 : v32.toInt = r28.toInt - 65 := by rw [e32]; exact i_sub rfl (by decide) (by omega) (by omega)
        have hd_ := e32
        refine lv_iconst (v := 0) hx hb dX5_expectOnce_22 (by decide) ?_
        refine lv_iload_n hx hb dX5_expectOnce_23 rfl (lv_at hl 3 rfl) ?_
        have hlit33 : (0 : Int32).toInt = 0 := by decide
        refine g_ir (g_runS (wc := []) (rest := [.int v32, .ref (qr 1)]) cx hP hD hS [] rfl (by decide) [.int 0, .int p0] (c_X2_figures l D k b H.size 0 p0) gX5_expectOnce_X2_figures rfl rfl rfl nd_X2_figures ⟨Nat.le_of_ble_eq_true rfl, Nat.le_of_ble_eq_true rfl⟩ rfl hl.1 rfl (Nat.le_of_ble_eq_true rfl) ⟨Nat.zero_le _, Nat.zero_le _⟩ dX5_expectOnce_24) cx.2.2.1 hP hD hS [] rfl rfl (fun r35 H locs hw34 hP hS => ?_)
        have w36 : r35 = J_X2_figures (0 : Int32) p0 := hw34
        clear hw34
        have zr35 := fig_t w36 ⟨by omega, by omega⟩
        have hm_ := w36
        have hn37 : vp_in v32 26 := f_in (a := v32.toInt) rfl (by omega) (by omega)
        refine va_iast hx hb cx.2.1 hP hD hS 1 0 rfl rfl hn37 dX5_expectOnce_27 (fun H locs hP hD hS => ?_)
        obtain ⟨g38, eg38⟩ : ∃ g : Nat → Int32, g = upd g21 (v32).toNatClampNeg r35 := ⟨_, rfl⟩
        rw [← eg38] at hP hD
        have hP : va_P D vwCl [cell59_ qr qc, (qr 1, .inl (k 0, 26, .inl g38)), cell58_ qc qt sc, cell49_ qt st, cell27_ k qt st] H := hP
        have hD : va_D A [cell59_ qr qc, (qr 1, .inl (k 0, 26, .inl g38)), cell58_ qc qt sc, cell49_ qt st, cell27_ k qt st] := hD
        have ag38 : ∀ j, 0 ≤ (g38 j).toInt ∧ (g38 j).toInt ≤ 31 := by rw [eg38]; exact upd_all ag21 ⟨by first | decide | omega, by first | decide | omega⟩
        have s39 := updI eg38 rfl (show 0 ≤ v32.toInt from by omega) 3
        have s40 := updI eg38 rfl (show 0 ≤ v32.toInt from by omega) 16
        have hg_ := eg38
        rw [hm_] at hg_
        obtain ⟨v41, e41⟩ : ∃ z : Int32, z = v20 + 1 := ⟨_, rfl⟩
        refine lv_iinc (v := v41) (lv' := [(3, .int v41), (0, .ref (qr 0)), (1, .ref (b 10)), (2, .int p0)]) hx hb dX5_expectOnce_28 hl (k := 0) rfl (by rw [e41]; rfl) (by decide) rfl (fun ls hl => ?_)
        have t41 : v41.toInt = v20.toInt + 1 := by rw [e41]; exact i_add rfl (by decide) (by omega) (by omega)
        refine lv_goto (tgt := 2) hx hb dX5_expectOnce_31 (by decide) ?_
        exact ih2 v41 g38 _ _ _ (by omega) (by first | decide | omega) (by first | decide | omega) (by first | decide | omega) (eo_go (by show _ < 7; omega) (by omega) hcx_ hd_ hg_ qE) ag38 hP hD hS (lv_sub hl [0, 1, 2, 3] rfl)
  have hlit42 : (0 : Int32).toInt = 0 := by decide
  exact hL2 (Int.toNat (7 - 0) + 1) 0 (sr 1) _ _ _ (by omega) (by first | decide | omega) (by first | decide | omega) (by first | decide | omega) rfl u_a hP hD hS (lv_sub hl [0, 1, 2, 3] rfl)
theorem fw_X5_expectOnce_S1_9 : Cond.fieldLink RX5 9 "StillInAugust$HouseReader" "untold" "[I" ∈ wsX5_expectOnce := by decide +kernel
theorem iw_X5_expectOnce_S1_X5 : ∀ w ∈ u_ws RX5 TX5 2, w ∈ wsX5_expectOnce := fun _ h => List.mem_cons_of_mem _ (List.mem_append_right _ h)
set_option maxHeartbeats 4000000 in
set_option maxRecDepth 100000 in
theorem c_X5_expectOnce_S1 (l : Launch) (D : va_G) (k : Nat → ClassId) (b : Nat → Nat) (qr : Nat → Nat) (sr : Nat → Nat → Int32) (qc : Nat → Nat) (sc : Nat → Nat → Int32) (qt : Nat → Nat) (st : Nat → Nat → Int32) (sz : Nat) (p0 : Int32) (u_a : ∀ j, 0 ≤ (sr 1 j).toInt ∧ (sr 1 j).toInt ≤ 31) (u_3 : 0 ≤ (sr 1 3).toInt ∧ (sr 1 3).toInt ≤ 7) (u_16 : 0 ≤ (sr 1 16).toInt ∧ (sr 1 16).toInt ≤ 7) (hp0 : -1 ≤ p0.toInt ∧ p0.toInt ≤ 4) : MetV l D k b yX5_expectOnce wsX5_expectOnce ({ frames := 4, cells := 0, slots := 0, locals := 85 } : Room) [cell59_ qr qc, cell5_ k qr sr, cell58_ qc qt sc, cell49_ qt st, cell27_ k qt st] sz [.ref (qr 0), .ref (b 11), .int p0] (fun (u : (Nat → Int32)) => (∀ j, 0 ≤ (u j).toInt ∧ (u j).toInt ≤ 31) ∧ (0 ≤ (u 3).toInt ∧ (u 3).toInt ≤ 7) ∧ (0 ≤ (u 16).toInt ∧ (u 16).toInt ≤ 7) ∧ (u = J_X5_expectOnce_S1 sr sc st p0)) (fun u => [cell59_ qr qc, (qr 1, .inl (k 0, 26, .inl u)), cell58_ qc qt sc, cell49_ qt st, cell27_ k qt st]) := by
  refine g_enter (cc := cX5_expectOnce) (maxL := 4) (ret := none) (by decide) rfl (Nat.le_of_ble_eq_true rfl) ?_
  intro p e s m below meth c A hsz hAe cx hr hP hD hS ls hl
  rw [hAe]
  refine g_q (fun Q hQ => ?_)
  have hx := cx.1.1
  have hb := cx.1.2.1
  have bp0 := i_rng p0
  have hl : lv_has ls 4 [(0, .ref (qr 0)), (1, .ref (b 11)), (2, .int p0)] := hl
  obtain ⟨H, eH⟩ : ∃ H : Heap, H = s.heap := ⟨_, rfl⟩
  obtain ⟨locs, el⟩ : ∃ L : List Loc, L = [] := ⟨_, rfl⟩
  have hP : va_P D vwCl [cell59_ qr qc, cell5_ k qr sr, cell58_ qc qt sc, cell49_ qt st, cell27_ k qt st] H := by rw [eH]; exact hP
  have hD : va_D A [cell59_ qr qc, cell5_ k qr sr, cell58_ qc qt sc, cell49_ qt st, cell27_ k qt st] := hD
  have hS : va_S A s.heap H locs := by rw [eH, el]; exact hS
  suffices goal : W p l e ({ frames := 4, cells := 0, slots := 0, locals := 85 } : Room) s m ([.ref (qr 0), .ref (b 11), .int p0] : List Value).toArray below meth c H locs 0 0 Q (F0 m 0 ls []) by rw [eH, el] at goal; exact goal
  refine lv_iconst (v := 0) hx hb dX5_expectOnce_0 (by decide) ?_
  refine lv_istore_n (lv' := [(3, .int 0), (0, .ref (qr 0)), (1, .ref (b 11)), (2, .int p0)]) hx hb dX5_expectOnce_1 rfl hl (by decide) rfl (fun ls hl => ?_)
  have hL2 : ∀ (n22 : Nat) (v20 : Int32) (g21 : Nat → Int32) (H : Heap) (locs : List Loc) (ls : Array Slot), 2 - v20.toInt < (n22 : Int) → (0 ≤ v20.toInt ∧ v20.toInt ≤ 2) → (0 ≤ (g21 3).toInt ∧ (g21 3).toInt ≤ 7) → (0 ≤ (g21 16).toInt ∧ (g21 16).toInt ≤ 7) → (eoF (J_X2_figures 0 p0) ((zBYT.getD 1 []).drop (Int.toNat v20.toInt)) g21 = eoF (J_X2_figures 0 p0) (zBYT.getD 1 []) (sr 1)) → (∀ j, 0 ≤ (g21 j).toInt ∧ (g21 j).toInt ≤ 31) → va_P D vwCl [cell59_ qr qc, (qr 1, .inl (k 0, 26, .inl g21)), cell58_ qc qt sc, cell49_ qt st, cell27_ k qt st] H → va_D A [cell59_ qr qc, (qr 1, .inl (k 0, 26, .inl g21)), cell58_ qc qt sc, cell49_ qt st, cell27_ k qt st] → va_S A s.heap H locs → lv_has ls 4 [(3, .int v20), (0, .ref (qr 0)), (1, .ref (b 11)), (2, .int p0)] → W p l e ({ frames := 4, cells := 0, slots := 0, locals := 85 } : Room) s m ([.ref (qr 0), .ref (b 11), .int p0] : List Value).toArray below meth c H locs 0 0 Q (F0 m 2 ls []) := by
    intro n22
    induction n22 with
    | zero => intro v20 g21 H locs ls hmn22 bv20 u3 u16 qE ag21 hP hD hS hl; exact absurd hmn22 (by omega)
    | succ n22 ih2 =>
      intro v20 g21 H locs ls hmn22 bv20 u3 u16 qE ag21 hP hD hS hl
      refine lv_iload_n hx hb dX5_expectOnce_2 rfl (lv_at hl 0 rfl) ?_
      refine lv_aload_n hx hb dX5_expectOnce_3 rfl (lv_at hl 2 rfl) ?_
      refine g_ir (g_runK (rest := [.int v20]) cx hP hD hS (i := 1) (Nat.le_of_ble_eq_true rfl) [] (c_J0_length_8abf5_S1 l D k b H.size) gX5_expectOnce_J0_length_8abf5 rfl rfl rfl nd_J0_length_8abf5 ⟨Nat.le_of_ble_eq_true rfl, Nat.le_of_ble_eq_true rfl⟩ rfl hl.1 rfl (Nat.le_of_ble_eq_true rfl) ⟨Nat.zero_le _, Nat.zero_le _⟩ dX5_expectOnce_4) cx.2.2.1 hP hD hS [] rfl rfl (fun r24 H locs hw23 hP hS => ?_)
      have w25 : r24.toInt = 2 := hw23
      clear hw23
      refine lv_icmp_ge (tgt := 34) hx hb dX5_expectOnce_7 (by decide) (fun c26 => ?_) (fun c26 => ?_)
      · have f26 : r24.toInt ≤ v20.toInt := f_le rfl rfl c26
        rw [hQ]
        exact x_v cx hr g21 hP hD hS ⟨ag21, (show 0 ≤ (g21 3).toInt ∧ (g21 3).toInt ≤ 7 from by omega), (show 0 ≤ (g21 16).toInt ∧ (g21 16).toInt ≤ 7 from by omega), (show g21 = J_X5_expectOnce_S1 sr sc st p0 from eo_end (by show 2 ≤ _; omega) qE)⟩ dX5_expectOnce_34
      · have f26 : v20.toInt < r24.toInt := f_nle rfl rfl c26
        refine lv_aload_n hx hb dX5_expectOnce_10 rfl (lv_at hl 1 rfl) ?_
        refine g_get cx hP iw_X5_expectOnce_S1_X5 0 rfl rfl 1 (by decide) rfl fw_X5_expectOnce_S1_9 rfl dX5_expectOnce_11 ?_
        refine lv_aload_n hx hb dX5_expectOnce_14 rfl (lv_at hl 2 rfl) ?_
        refine lv_iload_n hx hb dX5_expectOnce_15 rfl (lv_at hl 0 rfl) ?_
        refine g_ir (g_runK (rest := [.ref (qr 1)]) cx hP hD hS (i := 1) (Nat.le_of_ble_eq_true rfl) [.int v20] (c_J0_charAt_5068e_S1 l D k b H.size v20 (show 0 ≤ v20.toInt ∧ v20.toInt ≤ 1 from by first | decide | omega)) gX5_expectOnce_J0_charAt_5068e rfl rfl rfl nd_J0_charAt_5068e ⟨Nat.le_of_ble_eq_true rfl, Nat.le_of_ble_eq_true rfl⟩ rfl hl.1 rfl (Nat.le_of_ble_eq_true rfl) ⟨Nat.zero_le _, Nat.zero_le _⟩ dX5_expectOnce_16) cx.2.2.1 hP hD hS [] rfl rfl (fun r28 H locs hw27 hP hS => ?_)
        replace hw27 : (65 ≤ r28.toInt ∧ r28.toInt ≤ 90) ∧ (¬ 1 = 1 ∨ r28.toInt = 87 ∨ r28.toInt = 79) ∧ (r28 = (zBYT.getD 1 []).getD (Int.toNat v20.toInt) 0) := hw27
        obtain ⟨w29, w30, w31⟩ := hw27
        have cw := w30
        have hcx_ := w31
        refine lv_bipush (v := 65) hx hb dX5_expectOnce_19 (by decide) ?_
        refine lv_isub hx hb dX5_expectOnce_21 (lv_topi (fun v32 e32 => ?_))
        have t32 : v32.toInt = r28.toInt - 65 := by rw [e32]; exact i_sub rfl (by decide) (by omega) (by omega)
        have hd_ := e32
        refine lv_iconst (v := 0) hx hb dX5_expectOnce_22 (by decide) ?_
        refine lv_iload_n hx hb dX5_expectOnce_23 rfl (lv_at hl 3 rfl) ?_
        have hlit33 : (0 : Int32).toInt = 0 := by decide
        refine g_ir (g_runS (wc := []) (rest := [.int v32, .ref (qr 1)]) cx hP hD hS [] rfl (by decide) [.int 0, .int p0] (c_X2_figures l D k b H.size 0 p0) gX5_expectOnce_X2_figures rfl rfl rfl nd_X2_figures ⟨Nat.le_of_ble_eq_true rfl, Nat.le_of_ble_eq_true rfl⟩ rfl hl.1 rfl (Nat.le_of_ble_eq_true rfl) ⟨Nat.zero_le _, Nat.zero_le _⟩ dX5_expectOnce_24) cx.2.2.1 hP hD hS [] rfl rfl (fun r35 H locs hw34 hP hS => ?_)
        have w36 : r35 = J_X2_figures (0 : Int32) p0 := hw34
        clear hw34
        have zr35 := fig_t w36 ⟨by omega, by omega⟩
        have hm_ := w36
        have hn37 : vp_in v32 26 := f_in (a := v32.toInt) rfl (by omega) (by omega)
        refine va_iast hx hb cx.2.1 hP hD hS 1 0 rfl rfl hn37 dX5_expectOnce_27 (fun H locs hP hD hS => ?_)
        obtain ⟨g38, eg38⟩ : ∃ g : Nat → Int32, g = upd g21 (v32).toNatClampNeg r35 := ⟨_, rfl⟩
        rw [← eg38] at hP hD
        have hP : va_P D vwCl [cell59_ qr qc, (qr 1, .inl (k 0, 26, .inl g38)), cell58_ qc qt sc, cell49_ qt st, cell27_ k qt st] H := hP
        have hD : va_D A [cell59_ qr qc, (qr 1, .inl (k 0, 26, .inl g38)), cell58_ qc qt sc, cell49_ qt st, cell27_ k qt st] := hD
        have ag38 : ∀ j, 0 ≤ (g38 j).toInt ∧ (g38 j).toInt ≤ 31 := by rw [eg38]; exact upd_all ag21 ⟨by first | decide | omega, by first | decide | omega⟩
        have s39 := updI eg38 rfl (show 0 ≤ v32.toInt from by omega) 3
        have s40 := updI eg38 rfl (show 0 ≤ v32.toInt from by omega) 16
        have hg_ := eg38
        rw [hm_] at hg_
        obtain ⟨v41, e41⟩ : ∃ z : Int32, z = v20 + 1 := ⟨_, rfl⟩
        refine lv_iinc (v := v41) (lv' := [(3, .int v41), (0, .ref (qr 0)), (1, .ref (b 11)), (2, .int p0)]) hx hb dX5_expectOnce_28 hl (k := 0) rfl (by rw [e41]; rfl) (by decide) rfl (fun ls hl => ?_)
        have t41 : v41.toInt = v20.toInt + 1 := by rw [e41]; exact i_add rfl (by decide) (by omega) (by omega)
        refine lv_goto (tgt := 2) hx hb dX5_expectOnce_31 (by decide) ?_
        exact ih2 v41 g38 _ _ _ (by omega) (by first | decide | omega) (by first | decide | omega) (by first | decide | omega) (eo_go (by show _ < 2; omega) (by omega) hcx_ hd_ hg_ qE) ag38 hP hD hS (lv_sub hl [0, 1, 2, 3] rfl)
  have hlit42 : (0 : Int32).toInt = 0 := by decide
  exact hL2 (Int.toNat (2 - 0) + 1) 0 (sr 1) _ _ _ (by omega) (by first | decide | omega) (by first | decide | omega) (by first | decide | omega) rfl u_a hP hD hS (lv_sub hl [0, 1, 2, 3] rfl)
theorem fw_X5_expectOnce_S2_9 : Cond.fieldLink RX5 9 "StillInAugust$HouseReader" "untold" "[I" ∈ wsX5_expectOnce := by decide +kernel
theorem iw_X5_expectOnce_S2_X5 : ∀ w ∈ u_ws RX5 TX5 2, w ∈ wsX5_expectOnce := fun _ h => List.mem_cons_of_mem _ (List.mem_append_right _ h)
set_option maxHeartbeats 4000000 in
set_option maxRecDepth 100000 in
theorem c_X5_expectOnce_S2 (l : Launch) (D : va_G) (k : Nat → ClassId) (b : Nat → Nat) (qr : Nat → Nat) (sr : Nat → Nat → Int32) (qc : Nat → Nat) (sc : Nat → Nat → Int32) (qt : Nat → Nat) (st : Nat → Nat → Int32) (sz : Nat) (p0 : Int32) (u_a : ∀ j, 0 ≤ (sr 1 j).toInt ∧ (sr 1 j).toInt ≤ 31) (u_3 : 0 ≤ (sr 1 3).toInt ∧ (sr 1 3).toInt ≤ 7) (u_16 : 0 ≤ (sr 1 16).toInt ∧ (sr 1 16).toInt ≤ 7) (hp0 : -1 ≤ p0.toInt ∧ p0.toInt ≤ 2) : MetV l D k b yX5_expectOnce wsX5_expectOnce ({ frames := 4, cells := 0, slots := 0, locals := 85 } : Room) [cell59_ qr qc, cell5_ k qr sr, cell58_ qc qt sc, cell49_ qt st, cell27_ k qt st] sz [.ref (qr 0), .ref (b 12), .int p0] (fun (u : (Nat → Int32)) => (∀ j, 0 ≤ (u j).toInt ∧ (u j).toInt ≤ 31) ∧ (0 ≤ (u 3).toInt ∧ (u 3).toInt ≤ 7) ∧ (0 ≤ (u 16).toInt ∧ (u 16).toInt ≤ 7) ∧ (u = J_X5_expectOnce_S2 sr sc st p0)) (fun u => [cell59_ qr qc, (qr 1, .inl (k 0, 26, .inl u)), cell58_ qc qt sc, cell49_ qt st, cell27_ k qt st]) := by
  refine g_enter (cc := cX5_expectOnce) (maxL := 4) (ret := none) (by decide) rfl (Nat.le_of_ble_eq_true rfl) ?_
  intro p e s m below meth c A hsz hAe cx hr hP hD hS ls hl
  rw [hAe]
  refine g_q (fun Q hQ => ?_)
  have hx := cx.1.1
  have hb := cx.1.2.1
  have bp0 := i_rng p0
  have hl : lv_has ls 4 [(0, .ref (qr 0)), (1, .ref (b 12)), (2, .int p0)] := hl
  obtain ⟨H, eH⟩ : ∃ H : Heap, H = s.heap := ⟨_, rfl⟩
  obtain ⟨locs, el⟩ : ∃ L : List Loc, L = [] := ⟨_, rfl⟩
  have hP : va_P D vwCl [cell59_ qr qc, cell5_ k qr sr, cell58_ qc qt sc, cell49_ qt st, cell27_ k qt st] H := by rw [eH]; exact hP
  have hD : va_D A [cell59_ qr qc, cell5_ k qr sr, cell58_ qc qt sc, cell49_ qt st, cell27_ k qt st] := hD
  have hS : va_S A s.heap H locs := by rw [eH, el]; exact hS
  suffices goal : W p l e ({ frames := 4, cells := 0, slots := 0, locals := 85 } : Room) s m ([.ref (qr 0), .ref (b 12), .int p0] : List Value).toArray below meth c H locs 0 0 Q (F0 m 0 ls []) by rw [eH, el] at goal; exact goal
  refine lv_iconst (v := 0) hx hb dX5_expectOnce_0 (by decide) ?_
  refine lv_istore_n (lv' := [(3, .int 0), (0, .ref (qr 0)), (1, .ref (b 12)), (2, .int p0)]) hx hb dX5_expectOnce_1 rfl hl (by decide) rfl (fun ls hl => ?_)
  have hL2 : ∀ (n22 : Nat) (v20 : Int32) (g21 : Nat → Int32) (H : Heap) (locs : List Loc) (ls : Array Slot), 2 - v20.toInt < (n22 : Int) → (0 ≤ v20.toInt ∧ v20.toInt ≤ 2) → (0 ≤ (g21 3).toInt ∧ (g21 3).toInt ≤ 7) → (0 ≤ (g21 16).toInt ∧ (g21 16).toInt ≤ 7) → (eoF (J_X2_figures 0 p0) ((zBYT.getD 2 []).drop (Int.toNat v20.toInt)) g21 = eoF (J_X2_figures 0 p0) (zBYT.getD 2 []) (sr 1)) → (∀ j, 0 ≤ (g21 j).toInt ∧ (g21 j).toInt ≤ 31) → va_P D vwCl [cell59_ qr qc, (qr 1, .inl (k 0, 26, .inl g21)), cell58_ qc qt sc, cell49_ qt st, cell27_ k qt st] H → va_D A [cell59_ qr qc, (qr 1, .inl (k 0, 26, .inl g21)), cell58_ qc qt sc, cell49_ qt st, cell27_ k qt st] → va_S A s.heap H locs → lv_has ls 4 [(3, .int v20), (0, .ref (qr 0)), (1, .ref (b 12)), (2, .int p0)] → W p l e ({ frames := 4, cells := 0, slots := 0, locals := 85 } : Room) s m ([.ref (qr 0), .ref (b 12), .int p0] : List Value).toArray below meth c H locs 0 0 Q (F0 m 2 ls []) := by
    intro n22
    induction n22 with
    | zero => intro v20 g21 H locs ls hmn22 bv20 u3 u16 qE ag21 hP hD hS hl; exact absurd hmn22 (by omega)
    | succ n22 ih2 =>
      intro v20 g21 H locs ls hmn22 bv20 u3 u16 qE ag21 hP hD hS hl
      refine lv_iload_n hx hb dX5_expectOnce_2 rfl (lv_at hl 0 rfl) ?_
      refine lv_aload_n hx hb dX5_expectOnce_3 rfl (lv_at hl 2 rfl) ?_
      refine g_ir (g_runK (rest := [.int v20]) cx hP hD hS (i := 2) (Nat.le_of_ble_eq_true rfl) [] (c_J0_length_8abf5_S2 l D k b H.size) gX5_expectOnce_J0_length_8abf5 rfl rfl rfl nd_J0_length_8abf5 ⟨Nat.le_of_ble_eq_true rfl, Nat.le_of_ble_eq_true rfl⟩ rfl hl.1 rfl (Nat.le_of_ble_eq_true rfl) ⟨Nat.zero_le _, Nat.zero_le _⟩ dX5_expectOnce_4) cx.2.2.1 hP hD hS [] rfl rfl (fun r24 H locs hw23 hP hS => ?_)
      have w25 : r24.toInt = 2 := hw23
      clear hw23
      refine lv_icmp_ge (tgt := 34) hx hb dX5_expectOnce_7 (by decide) (fun c26 => ?_) (fun c26 => ?_)
      · have f26 : r24.toInt ≤ v20.toInt := f_le rfl rfl c26
        rw [hQ]
        exact x_v cx hr g21 hP hD hS ⟨ag21, (show 0 ≤ (g21 3).toInt ∧ (g21 3).toInt ≤ 7 from by omega), (show 0 ≤ (g21 16).toInt ∧ (g21 16).toInt ≤ 7 from by omega), (show g21 = J_X5_expectOnce_S2 sr sc st p0 from eo_end (by show 2 ≤ _; omega) qE)⟩ dX5_expectOnce_34
      · have f26 : v20.toInt < r24.toInt := f_nle rfl rfl c26
        refine lv_aload_n hx hb dX5_expectOnce_10 rfl (lv_at hl 1 rfl) ?_
        refine g_get cx hP iw_X5_expectOnce_S2_X5 0 rfl rfl 1 (by decide) rfl fw_X5_expectOnce_S2_9 rfl dX5_expectOnce_11 ?_
        refine lv_aload_n hx hb dX5_expectOnce_14 rfl (lv_at hl 2 rfl) ?_
        refine lv_iload_n hx hb dX5_expectOnce_15 rfl (lv_at hl 0 rfl) ?_
        refine g_ir (g_runK (rest := [.ref (qr 1)]) cx hP hD hS (i := 2) (Nat.le_of_ble_eq_true rfl) [.int v20] (c_J0_charAt_5068e_S2 l D k b H.size v20 (show 0 ≤ v20.toInt ∧ v20.toInt ≤ 1 from by first | decide | omega)) gX5_expectOnce_J0_charAt_5068e rfl rfl rfl nd_J0_charAt_5068e ⟨Nat.le_of_ble_eq_true rfl, Nat.le_of_ble_eq_true rfl⟩ rfl hl.1 rfl (Nat.le_of_ble_eq_true rfl) ⟨Nat.zero_le _, Nat.zero_le _⟩ dX5_expectOnce_16) cx.2.2.1 hP hD hS [] rfl rfl (fun r28 H locs hw27 hP hS => ?_)
        replace hw27 : (65 ≤ r28.toInt ∧ r28.toInt ≤ 90) ∧ (¬ 2 = 1 ∨ r28.toInt = 87 ∨ r28.toInt = 79) ∧ (r28 = (zBYT.getD 2 []).getD (Int.toNat v20.toInt) 0) := hw27
        obtain ⟨w29, w30, w31⟩ := hw27
        have cw := w30
        have hcx_ := w31
        refine lv_bipush (v := 65) hx hb dX5_expectOnce_19 (by decide) ?_
        refine lv_isub hx hb dX5_expectOnce_21 (lv_topi (fun v32 e32 => ?_))
        have t32 : v32.toInt = r28.toInt - 65 := by rw [e32]; exact i_sub rfl (by decide) (by omega) (by omega)
        have hd_ := e32
        refine lv_iconst (v := 0) hx hb dX5_expectOnce_22 (by decide) ?_
        refine lv_iload_n hx hb dX5_expectOnce_23 rfl (lv_at hl 3 rfl) ?_
        have hlit33 : (0 : Int32).toInt = 0 := by decide
        refine g_ir (g_runS (wc := []) (rest := [.int v32, .ref (qr 1)]) cx hP hD hS [] rfl (by decide) [.int 0, .int p0] (c_X2_figures l D k b H.size 0 p0) gX5_expectOnce_X2_figures rfl rfl rfl nd_X2_figures ⟨Nat.le_of_ble_eq_true rfl, Nat.le_of_ble_eq_true rfl⟩ rfl hl.1 rfl (Nat.le_of_ble_eq_true rfl) ⟨Nat.zero_le _, Nat.zero_le _⟩ dX5_expectOnce_24) cx.2.2.1 hP hD hS [] rfl rfl (fun r35 H locs hw34 hP hS => ?_)
        have w36 : r35 = J_X2_figures (0 : Int32) p0 := hw34
        clear hw34
        have zr35 := fig_t w36 ⟨by omega, by omega⟩
        have hm_ := w36
        have hn37 : vp_in v32 26 := f_in (a := v32.toInt) rfl (by omega) (by omega)
        refine va_iast hx hb cx.2.1 hP hD hS 1 0 rfl rfl hn37 dX5_expectOnce_27 (fun H locs hP hD hS => ?_)
        obtain ⟨g38, eg38⟩ : ∃ g : Nat → Int32, g = upd g21 (v32).toNatClampNeg r35 := ⟨_, rfl⟩
        rw [← eg38] at hP hD
        have hP : va_P D vwCl [cell59_ qr qc, (qr 1, .inl (k 0, 26, .inl g38)), cell58_ qc qt sc, cell49_ qt st, cell27_ k qt st] H := hP
        have hD : va_D A [cell59_ qr qc, (qr 1, .inl (k 0, 26, .inl g38)), cell58_ qc qt sc, cell49_ qt st, cell27_ k qt st] := hD
        have ag38 : ∀ j, 0 ≤ (g38 j).toInt ∧ (g38 j).toInt ≤ 31 := by rw [eg38]; exact upd_all ag21 ⟨by first | decide | omega, by first | decide | omega⟩
        have s39 := updI eg38 rfl (show 0 ≤ v32.toInt from by omega) 3
        have s40 := updI eg38 rfl (show 0 ≤ v32.toInt from by omega) 16
        have hg_ := eg38
        rw [hm_] at hg_
        obtain ⟨v41, e41⟩ : ∃ z : Int32, z = v20 + 1 := ⟨_, rfl⟩
        refine lv_iinc (v := v41) (lv' := [(3, .int v41), (0, .ref (qr 0)), (1, .ref (b 12)), (2, .int p0)]) hx hb dX5_expectOnce_28 hl (k := 0) rfl (by rw [e41]; rfl) (by decide) rfl (fun ls hl => ?_)
        have t41 : v41.toInt = v20.toInt + 1 := by rw [e41]; exact i_add rfl (by decide) (by omega) (by omega)
        refine lv_goto (tgt := 2) hx hb dX5_expectOnce_31 (by decide) ?_
        exact ih2 v41 g38 _ _ _ (by omega) (by first | decide | omega) (by first | decide | omega) (by first | decide | omega) (eo_go (by show _ < 2; omega) (by omega) hcx_ hd_ hg_ qE) ag38 hP hD hS (lv_sub hl [0, 1, 2, 3] rfl)
  have hlit42 : (0 : Int32).toInt = 0 := by decide
  exact hL2 (Int.toNat (2 - 0) + 1) 0 (sr 1) _ _ _ (by omega) (by first | decide | omega) (by first | decide | omega) (by first | decide | omega) rfl u_a hP hD hS (lv_sub hl [0, 1, 2, 3] rfl)
theorem nd_X5_expectOnce : yX5_expectOnce.cls = RX5 ∧ yX5_expectOnce.cls ≠ "java/lang/invoke/MethodHandle" ∧ yX5_expectOnce.cls ≠ "java/lang/invoke/VarHandle" ∧ (parseMethodDescriptor yX5_expectOnce.desc).map (fun d => d.parameters.length) = some 2 := by decide +kernel
def J_X5_expectParts (sr : Nat → Nat → Int32) (sc : Nat → Nat → Int32) (st : Nat → Nat → Int32) (p0 : Int32) : (Nat → Int32) := let y9 := J_X5_expectOnce_S0 sr sc st 0; let y19 := J_X5_expectOnce_S1 (up2 sr 1 y9) sc st (p0 - (1 : Int32)); let y29 := J_X5_expectOnce_S2 (up2 sr 1 y19) sc st 2; y29
set_option maxHeartbeats 4000000 in
set_option maxRecDepth 100000 in
theorem c_X5_expectParts (l : Launch) (D : va_G) (k : Nat → ClassId) (b : Nat → Nat) (qr : Nat → Nat) (sr : Nat → Nat → Int32) (qc : Nat → Nat) (sc : Nat → Nat → Int32) (qt : Nat → Nat) (st : Nat → Nat → Int32) (sz : Nat) (p0 : Int32) (u_a : ∀ j, 0 ≤ (sr 1 j).toInt ∧ (sr 1 j).toInt ≤ 31) (u_3 : 0 ≤ (sr 1 3).toInt ∧ (sr 1 3).toInt ≤ 7) (u_16 : 0 ≤ (sr 1 16).toInt ∧ (sr 1 16).toInt ≤ 7) (hp0 : 0 ≤ p0.toInt ∧ p0.toInt ≤ 5) : MetV l D k b yX5_expectParts wsX5_expectParts ({ frames := 5, cells := 0, slots := 0, locals := 108 } : Room) [cell59_ qr qc, cell5_ k qr sr, cell58_ qc qt sc, cell49_ qt st, cell27_ k qt st] sz [.ref (qr 0), .int p0] (fun (u : (Nat → Int32)) => (∀ j, 0 ≤ (u j).toInt ∧ (u j).toInt ≤ 31) ∧ (0 ≤ (u 3).toInt ∧ (u 3).toInt ≤ 7) ∧ (0 ≤ (u 16).toInt ∧ (u 16).toInt ≤ 7) ∧ (u = J_X5_expectParts sr sc st p0)) (fun u => [cell59_ qr qc, (qr 1, .inl (k 0, 26, .inl u)), cell58_ qc qt sc, cell49_ qt st, cell27_ k qt st]) := by
  refine g_enter (cc := cX5_expectParts) (maxL := 2) (ret := none) (by decide) rfl (Nat.le_of_ble_eq_true rfl) ?_
  intro p e s m below meth c A hsz hAe cx hr hP hD hS ls hl
  rw [hAe]
  refine g_q (fun Q hQ => ?_)
  have hx := cx.1.1
  have hb := cx.1.2.1
  have bp0 := i_rng p0
  have hl : lv_has ls 2 [(0, .ref (qr 0)), (1, .int p0)] := hl
  obtain ⟨H, eH⟩ : ∃ H : Heap, H = s.heap := ⟨_, rfl⟩
  obtain ⟨locs, el⟩ : ∃ L : List Loc, L = [] := ⟨_, rfl⟩
  have hP : va_P D vwCl [cell59_ qr qc, cell5_ k qr sr, cell58_ qc qt sc, cell49_ qt st, cell27_ k qt st] H := by rw [eH]; exact hP
  have hD : va_D A [cell59_ qr qc, cell5_ k qr sr, cell58_ qc qt sc, cell49_ qt st, cell27_ k qt st] := hD
  have hS : va_S A s.heap H locs := by rw [eH, el]; exact hS
  suffices goal : W p l e ({ frames := 5, cells := 0, slots := 0, locals := 108 } : Room) s m ([.ref (qr 0), .int p0] : List Value).toArray below meth c H locs 0 0 Q (F0 m 0 ls []) by rw [eH, el] at goal; exact goal
  refine lv_aload_n hx hb dX5_expectParts_0 rfl (lv_at hl 0 rfl) ?_
  refine va_ldcS hx hb cx.1.2.2.2.1 cx.2.2.2.2.2.2.2.2.2.2.2.1 dX5_expectParts_1 ?_
  refine lv_iconst (v := 0) hx hb dX5_expectParts_3 (by decide) ?_
  have hlit1 : (0 : Int32).toInt = 0 := by decide
  refine g_vF (w1 := fun (u : (Nat → Int32)) => [cell59_ qr qc, (qr 1, .inl (k 0, 26, .inl u)), cell58_ qc qt sc, cell49_ qt st, cell27_ k qt st]) (g_runVF (ws := [cell59_ qr qc, cell5_ k qr sr, cell58_ qc qt sc, cell49_ qt st, cell27_ k qt st]) (rest := []) cx hP hD hS [.ref (b 10), .int 0] (c_X5_expectOnce_S0 l D k b qr sr qc sc qt st H.size 0 u_a (show 0 ≤ ((sr 1) 3).toInt ∧ ((sr 1) 3).toInt ≤ 7 from by first | decide | omega) (show 0 ≤ ((sr 1) 16).toInt ∧ ((sr 1) 16).toInt ≤ 7 from by first | decide | omega) (show -1 ≤ (0 : Int32).toInt ∧ (0 : Int32).toInt ≤ 2 from by first | decide | omega)) gX5_expectParts_X5_expectOnce rfl rfl rfl nd_X5_expectOnce ⟨Nat.le_of_ble_eq_true rfl, Nat.le_of_ble_eq_true rfl⟩ (ci := 3) (q0 := 0) rfl rfl rfl hl.1 rfl (Nat.le_of_ble_eq_true rfl) ⟨Nat.zero_le _, Nat.zero_le _⟩ dX5_expectParts_4) cx.2.2.1 hD hS (fun u3 H locs hw2 hP hD hS => ?_)
  obtain ⟨m4, rfl⟩ : ∃ z, z = u3 := ⟨_, rfl⟩
  have hP : va_P D vwCl [cell59_ qr qc, (qr 1, .inl (k 0, 26, .inl m4)), cell58_ qc qt sc, cell49_ qt st, cell27_ k qt st] H := hP
  have hD : va_D A [cell59_ qr qc, (qr 1, .inl (k 0, 26, .inl m4)), cell58_ qc qt sc, cell49_ qt st, cell27_ k qt st] := hD
  replace hw2 : (∀ j, 0 ≤ (m4 j).toInt ∧ (m4 j).toInt ≤ 31) ∧ (0 ≤ (m4 3).toInt ∧ (m4 3).toInt ≤ 7) ∧ (0 ≤ (m4 16).toInt ∧ (m4 16).toInt ≤ 7) ∧ (m4 = J_X5_expectOnce_S0 sr sc st (0 : Int32)) := hw2
  obtain ⟨w5, w6, w7, w8⟩ := hw2
  have k10 : m4 = (J_X5_expectOnce_S0 sr sc st (0 : Int32)) := congrArg (fun z => z) w8
  refine lv_aload_n hx hb dX5_expectParts_7 rfl (lv_at hl 0 rfl) ?_
  refine va_ldcS hx hb cx.1.2.2.2.1 cx.2.2.2.2.2.2.2.2.2.2.2.2.1 dX5_expectParts_8 ?_
  refine lv_iload_n hx hb dX5_expectParts_10 rfl (lv_at hl 1 rfl) ?_
  refine lv_iconst (v := 1) hx hb dX5_expectParts_11 (by decide) ?_
  refine lv_isub hx hb dX5_expectParts_12 (lv_topi (fun v11 e11 => ?_))
  have t11 : v11.toInt = p0.toInt - 1 := by rw [e11]; exact i_sub rfl (by decide) (by omega) (by omega)
  refine g_vF (w1 := fun (u : (Nat → Int32)) => [cell59_ qr qc, (qr 1, .inl (k 0, 26, .inl u)), cell58_ qc qt sc, cell49_ qt st, cell27_ k qt st]) (g_runVF (ws := [cell59_ qr qc, (qr 1, .inl (k 0, 26, .inl m4)), cell58_ qc qt sc, cell49_ qt st, cell27_ k qt st]) (rest := []) cx hP hD hS [.ref (b 11), .int v11] (c_X5_expectOnce_S1 l D k b qr (up2 sr 1 m4) qc sc qt st H.size v11 w5 (show 0 ≤ (m4 3).toInt ∧ (m4 3).toInt ≤ 7 from by first | decide | omega) (show 0 ≤ (m4 16).toInt ∧ (m4 16).toInt ≤ 7 from by first | decide | omega) (show -1 ≤ v11.toInt ∧ v11.toInt ≤ 4 from by first | decide | omega)) gX5_expectParts_X5_expectOnce rfl rfl rfl nd_X5_expectOnce ⟨Nat.le_of_ble_eq_true rfl, Nat.le_of_ble_eq_true rfl⟩ (ci := 3) (q0 := 0) rfl rfl rfl hl.1 rfl (Nat.le_of_ble_eq_true rfl) ⟨Nat.zero_le _, Nat.zero_le _⟩ dX5_expectParts_13) cx.2.2.1 hD hS (fun u13 H locs hw12 hP hD hS => ?_)
  obtain ⟨m14, rfl⟩ : ∃ z, z = u13 := ⟨_, rfl⟩
  have hP : va_P D vwCl [cell59_ qr qc, (qr 1, .inl (k 0, 26, .inl m14)), cell58_ qc qt sc, cell49_ qt st, cell27_ k qt st] H := hP
  have hD : va_D A [cell59_ qr qc, (qr 1, .inl (k 0, 26, .inl m14)), cell58_ qc qt sc, cell49_ qt st, cell27_ k qt st] := hD
  replace hw12 : (∀ j, 0 ≤ (m14 j).toInt ∧ (m14 j).toInt ≤ 31) ∧ (0 ≤ (m14 3).toInt ∧ (m14 3).toInt ≤ 7) ∧ (0 ≤ (m14 16).toInt ∧ (m14 16).toInt ≤ 7) ∧ (m14 = J_X5_expectOnce_S1 (up2 sr 1 m4) sc st v11) := hw12
  obtain ⟨w15, w16, w17, w18⟩ := hw12
  have k20 : m14 = (J_X5_expectOnce_S1 (up2 sr 1 m4) sc st v11) := congrArg (fun z => z) w18
  refine lv_aload_n hx hb dX5_expectParts_16 rfl (lv_at hl 0 rfl) ?_
  refine va_ldcS hx hb cx.1.2.2.2.1 cx.2.2.2.2.2.2.2.2.2.2.2.2.2 dX5_expectParts_17 ?_
  refine lv_iconst (v := 2) hx hb dX5_expectParts_19 (by decide) ?_
  have hlit21 : (2 : Int32).toInt = 2 := by decide
  refine g_vF (w1 := fun (u : (Nat → Int32)) => [cell59_ qr qc, (qr 1, .inl (k 0, 26, .inl u)), cell58_ qc qt sc, cell49_ qt st, cell27_ k qt st]) (g_runVF (ws := [cell59_ qr qc, (qr 1, .inl (k 0, 26, .inl m14)), cell58_ qc qt sc, cell49_ qt st, cell27_ k qt st]) (rest := []) cx hP hD hS [.ref (b 12), .int 2] (c_X5_expectOnce_S2 l D k b qr (up2 sr 1 m14) qc sc qt st H.size 2 w15 (show 0 ≤ (m14 3).toInt ∧ (m14 3).toInt ≤ 7 from by first | decide | omega) (show 0 ≤ (m14 16).toInt ∧ (m14 16).toInt ≤ 7 from by first | decide | omega) (show -1 ≤ (2 : Int32).toInt ∧ (2 : Int32).toInt ≤ 2 from by first | decide | omega)) gX5_expectParts_X5_expectOnce rfl rfl rfl nd_X5_expectOnce ⟨Nat.le_of_ble_eq_true rfl, Nat.le_of_ble_eq_true rfl⟩ (ci := 3) (q0 := 0) rfl rfl rfl hl.1 rfl (Nat.le_of_ble_eq_true rfl) ⟨Nat.zero_le _, Nat.zero_le _⟩ dX5_expectParts_20) cx.2.2.1 hD hS (fun u23 H locs hw22 hP hD hS => ?_)
  obtain ⟨m24, rfl⟩ : ∃ z, z = u23 := ⟨_, rfl⟩
  have hP : va_P D vwCl [cell59_ qr qc, (qr 1, .inl (k 0, 26, .inl m24)), cell58_ qc qt sc, cell49_ qt st, cell27_ k qt st] H := hP
  have hD : va_D A [cell59_ qr qc, (qr 1, .inl (k 0, 26, .inl m24)), cell58_ qc qt sc, cell49_ qt st, cell27_ k qt st] := hD
  replace hw22 : (∀ j, 0 ≤ (m24 j).toInt ∧ (m24 j).toInt ≤ 31) ∧ (0 ≤ (m24 3).toInt ∧ (m24 3).toInt ≤ 7) ∧ (0 ≤ (m24 16).toInt ∧ (m24 16).toInt ≤ 7) ∧ (m24 = J_X5_expectOnce_S2 (up2 sr 1 m14) sc st (2 : Int32)) := hw22
  obtain ⟨w25, w26, w27, w28⟩ := hw22
  have k30 : m24 = (J_X5_expectOnce_S2 (up2 sr 1 m14) sc st (2 : Int32)) := congrArg (fun z => z) w28
  rw [hQ]
  exact x_v cx hr m24 hP hD hS ⟨w25, (show 0 ≤ (m24 3).toInt ∧ (m24 3).toInt ≤ 7 from by omega), (show 0 ≤ (m24 16).toInt ∧ (m24 16).toInt ≤ 7 from by omega), (show m24 = J_X5_expectParts sr sc st p0 from by subst k10 e11 k20 k30; rfl)⟩ dX5_expectParts_23
theorem fw_X5_readWeeks_20 : Cond.fieldLink RX5 20 "StillInAugust$HouseReader" "cursor" "LStillInAugust$Cursor;" ∈ wsX5_readWeeks := by decide +kernel
theorem fw_X5_readWeeks_66 : Cond.fieldLink RX5 66 "StillInAugust$House" "weeks" "I" ∈ wsX5_readWeeks := by decide +kernel
theorem nd_X2_figure : yX2_figure.cls = RX2 ∧ yX2_figure.cls ≠ "java/lang/invoke/MethodHandle" ∧ yX2_figure.cls ≠ "java/lang/invoke/VarHandle" ∧ (parseMethodDescriptor yX2_figure.desc).map (fun d => d.parameters.length) = some 1 := by decide +kernel
theorem nd_X5_expectParts : yX5_expectParts.cls = RX5 ∧ yX5_expectParts.cls ≠ "java/lang/invoke/MethodHandle" ∧ yX5_expectParts.cls ≠ "java/lang/invoke/VarHandle" ∧ (parseMethodDescriptor yX5_expectParts.desc).map (fun d => d.parameters.length) = some 1 := by decide +kernel
theorem iw_X5_readWeeks_X4 : ∀ w ∈ u_ws RX4 TX4 14, w ∈ wsX5_readWeeks := fun _ h => List.mem_cons_of_mem _ (List.mem_append_left _ (List.mem_append_left _ (List.mem_append_right _ h)))
theorem iw_X5_readWeeks_X5 : ∀ w ∈ u_ws RX5 TX5 2, w ∈ wsX5_readWeeks := fun _ h => List.mem_cons_of_mem _ (List.mem_append_left _ (List.mem_append_left _ (List.mem_append_left _ (List.mem_append_right _ h))))
def J_X5_readWeeks (sr : Nat → Nat → Int32) (sc : Nat → Nat → Int32) (st : Nat → Nat → Int32) (sh : Nat → Nat → Int32) : Int32 × Int32 × (Nat → Int32) × Int32 := let y5 := J_X2_here sc st; if y5 = 78 then let y12 := J_X2_step sc st; let y29 := J_X2_figure (up2 sc 0 (upd (sc 0) 1 y12)) st (J_X2_figures 1 5); if (y29.1) = (-9) then ((y29.2.1), (y29.2.2), (sr 1), (sh 0 0)) else let y41 := J_X5_expectParts sr (up2 sc 0 (upd (upd (sc 0) 1 (y29.2.1)) 2 (y29.2.2))) st (y29.1); ((y29.2.1), (y29.2.2), y41, (y29.1)) else let y47 := J_X2_stop sc st; ((sc 0 1), y47, (sr 1), (sh 0 0))
set_option maxHeartbeats 4000000 in
set_option maxRecDepth 100000 in
theorem c_X5_readWeeks (l : Launch) (D : va_G) (k : Nat → ClassId) (b : Nat → Nat) (qr : Nat → Nat) (sr : Nat → Nat → Int32) (qc : Nat → Nat) (sc : Nat → Nat → Int32) (qt : Nat → Nat) (st : Nat → Nat → Int32) (qh : Nat → Nat) (sh : Nat → Nat → Int32) (sz : Nat) (h_len : 0 ≤ (st 0 1).toInt ∧ (st 0 1).toInt ≤ 64) (u_a : ∀ j, 0 ≤ (sr 1 j).toInt ∧ (sr 1 j).toInt ≤ 31) (u_3 : 0 ≤ (sr 1 3).toInt ∧ (sr 1 3).toInt ≤ 7) (u_16 : 0 ≤ (sr 1 16).toInt ∧ (sr 1 16).toInt ≤ 7) (h_wk : 0 ≤ (sh 0 0).toInt ∧ (sh 0 0).toInt ≤ 5) : MetV l D k b yX5_readWeeks wsX5_readWeeks ({ frames := 6, cells := 0, slots := 0, locals := 129 } : Room) [cell59_ qr qc, cell5_ k qr sr, cell58_ qc qt sc, cell49_ qt st, cell27_ k qt st, cell32_ qh sh, cell0_ k qh sh, cell1_ k qh sh, cell4_ k qh sh, cell3_ k qh sh, cell2_ k qh sh] sz [.ref (qr 0), .ref (qh 0)] (fun (u : Int32 × Int32 × (Nat → Int32) × Int32) => (∀ j, 0 ≤ ((u.2.2.1) j).toInt ∧ ((u.2.2.1) j).toInt ≤ 31) ∧ (0 ≤ ((u.2.2.1) 3).toInt ∧ ((u.2.2.1) 3).toInt ≤ 7) ∧ (0 ≤ ((u.2.2.1) 16).toInt ∧ ((u.2.2.1) 16).toInt ≤ 7) ∧ (0 ≤ (u.2.2.2).toInt ∧ (u.2.2.2).toInt ≤ 5) ∧ (((u.1), (u.2.1), (u.2.2.1), (u.2.2.2)) = J_X5_readWeeks sr sc st sh)) (fun u => [cell59_ qr qc, cell107_ k qr (u.2.2.1), cell60_ qc qt (u.1) (u.2.1), cell49_ qt st, cell27_ k qt st, cell163_ qh sh (u.2.2.2), cell0_ k qh sh, cell1_ k qh sh, cell4_ k qh sh, cell3_ k qh sh, cell2_ k qh sh]) := by
  refine g_enter (cc := cX5_readWeeks) (maxL := 3) (ret := none) (by decide) rfl (Nat.le_of_ble_eq_true rfl) ?_
  intro p e s m below meth c A hsz hAe cx hr hP hD hS ls hl
  rw [hAe]
  refine g_q (fun Q hQ => ?_)
  have hx := cx.1.1
  have hb := cx.1.2.1
  have hl : lv_has ls 3 [(0, .ref (qr 0)), (1, .ref (qh 0))] := hl
  obtain ⟨H, eH⟩ : ∃ H : Heap, H = s.heap := ⟨_, rfl⟩
  obtain ⟨locs, el⟩ : ∃ L : List Loc, L = [] := ⟨_, rfl⟩
  have hP : va_P D vwCl [cell59_ qr qc, cell5_ k qr sr, cell58_ qc qt sc, cell49_ qt st, cell27_ k qt st, cell32_ qh sh, cell0_ k qh sh, cell1_ k qh sh, cell4_ k qh sh, cell3_ k qh sh, cell2_ k qh sh] H := by rw [eH]; exact hP
  have hD : va_D A [cell59_ qr qc, cell5_ k qr sr, cell58_ qc qt sc, cell49_ qt st, cell27_ k qt st, cell32_ qh sh, cell0_ k qh sh, cell1_ k qh sh, cell4_ k qh sh, cell3_ k qh sh, cell2_ k qh sh] := hD
  have hS : va_S A s.heap H locs := by rw [eH, el]; exact hS
  suffices goal : W p l e ({ frames := 6, cells := 0, slots := 0, locals := 129 } : Room) s m ([.ref (qr 0), .ref (qh 0)] : List Value).toArray below meth c H locs 0 0 Q (F0 m 0 ls []) by rw [eH, el] at goal; exact goal
  refine lv_aload_n hx hb dX5_readWeeks_0 rfl (lv_at hl 0 rfl) ?_
  refine g_get cx hP iw_X5_readWeeks_X5 0 rfl rfl 0 (by decide) rfl fw_X5_readWeeks_20 rfl dX5_readWeeks_1 ?_
  refine g_ir (g_runV (wc := [cell58_ qc qt sc, cell49_ qt st, cell27_ k qt st]) (rest := []) cx hP hD hS [2, 3, 4] rfl (by decide) [] (c_X2_here l D k b qc sc qt st H.size (show 0 ≤ (st 0 1).toInt ∧ (st 0 1).toInt ≤ 64 from by first | decide | omega)) gX5_readWeeks_X2_here rfl rfl rfl nd_X2_here ⟨Nat.le_of_ble_eq_true rfl, Nat.le_of_ble_eq_true rfl⟩ (ci := 1) (q0 := 0) rfl rfl rfl hl.1 rfl (Nat.le_of_ble_eq_true rfl) ⟨Nat.zero_le _, Nat.zero_le _⟩ dX5_readWeeks_4) cx.2.2.1 hP hD hS [2, 3, 4] rfl rfl (fun r2 H locs hw1 hP hS => ?_)
  replace hw1 : (-9 ≤ r2.toInt ∧ r2.toInt ≤ 255) ∧ (r2 = J_X2_here sc st) := hw1
  obtain ⟨w3, w4⟩ := hw1
  have k6 : r2 = (J_X2_here sc st) := congrArg (fun z => z) w4
  refine lv_bipush (v := 78) hx hb dX5_readWeeks_7 (by decide) ?_
  refine lv_icmp_eq (tgt := 20) hx hb dX5_readWeeks_9 (by decide) (fun c7 => ?_) (fun c7 => ?_)
  · have f7 : r2.toInt = 78 := f_eq rfl (by decide) c7
    refine lv_aload_n hx hb dX5_readWeeks_20 rfl (lv_at hl 0 rfl) ?_
    refine g_get cx hP iw_X5_readWeeks_X5 0 rfl rfl 0 (by decide) rfl fw_X5_readWeeks_20 rfl dX5_readWeeks_21 ?_
    refine g_v (w1 := fun (u : Int32) => [cell101_ qc qt sc u, cell49_ qt st, cell27_ k qt st]) (g_runV (wc := [cell58_ qc qt sc, cell49_ qt st, cell27_ k qt st]) (rest := []) cx hP hD hS [2, 3, 4] rfl (by decide) [] (c_X2_step l D k b qc sc qt st H.size) gX5_readWeeks_X2_step rfl rfl rfl nd_X2_step ⟨Nat.le_of_ble_eq_true rfl, Nat.le_of_ble_eq_true rfl⟩ (ci := 1) (q0 := 0) rfl rfl rfl hl.1 rfl (Nat.le_of_ble_eq_true rfl) ⟨Nat.zero_le _, Nat.zero_le _⟩ dX5_readWeeks_24) cx.2.2.1 hP hD hS [2, 3, 4] rfl (fun _ => rfl) (fun u9 H locs hw8 hP hD hS => ?_)
    obtain ⟨m10, rfl⟩ : ∃ z, z = u9 := ⟨_, rfl⟩
    have hP : va_P D vwCl [cell59_ qr qc, cell5_ k qr sr, cell101_ qc qt sc m10, cell49_ qt st, cell27_ k qt st, cell32_ qh sh, cell0_ k qh sh, cell1_ k qh sh, cell4_ k qh sh, cell3_ k qh sh, cell2_ k qh sh] H := hP
    have hD : va_D A [cell59_ qr qc, cell5_ k qr sr, cell101_ qc qt sc m10, cell49_ qt st, cell27_ k qt st, cell32_ qh sh, cell0_ k qh sh, cell1_ k qh sh, cell4_ k qh sh, cell3_ k qh sh, cell2_ k qh sh] := hD
    have w11 : m10 = J_X2_step sc st := hw8
    clear hw8
    have k13 : m10 = (J_X2_step sc st) := congrArg (fun z => z) w11
    refine lv_aload_n hx hb dX5_readWeeks_27 rfl (lv_at hl 0 rfl) ?_
    refine g_get cx hP iw_X5_readWeeks_X5 0 rfl rfl 0 (by decide) rfl fw_X5_readWeeks_20 rfl dX5_readWeeks_28 ?_
    refine lv_iconst (v := 1) hx hb dX5_readWeeks_31 (by decide) ?_
    refine lv_iconst (v := 5) hx hb dX5_readWeeks_32 (by decide) ?_
    have hlit14 : (1 : Int32).toInt = 1 := by decide
    have hlit15 : (5 : Int32).toInt = 5 := by decide
    refine g_ir (g_runS (wc := []) (rest := [.ref (qc 0)]) cx hP hD hS [] rfl (by decide) [.int 1, .int 5] (c_X2_figures l D k b H.size 1 5) gX5_readWeeks_X2_figures rfl rfl rfl nd_X2_figures ⟨Nat.le_of_ble_eq_true rfl, Nat.le_of_ble_eq_true rfl⟩ rfl hl.1 rfl (Nat.le_of_ble_eq_true rfl) ⟨Nat.zero_le _, Nat.zero_le _⟩ dX5_readWeeks_33) cx.2.2.1 hP hD hS [] rfl rfl (fun r17 H locs hw16 hP hS => ?_)
    have w18 : r17 = J_X2_figures (1 : Int32) (5 : Int32) := hw16
    clear hw16
    have zr17 : r17.toInt = 62 := by rw [w18]; decide
    refine g_i (w1 := fun (u : Int32 × Int32) => [cell60_ qc qt (u.1) (u.2), cell49_ qt st, cell27_ k qt st]) (g_runV (wc := [cell101_ qc qt sc m10, cell49_ qt st, cell27_ k qt st]) (rest := []) cx hP hD hS [2, 3, 4] rfl (by decide) [.int r17] (c_X2_figure l D k b qc (up2 sc 0 (upd (sc 0) 1 m10)) qt st H.size r17 (show 0 ≤ (st 0 1).toInt ∧ (st 0 1).toInt ≤ 64 from by first | decide | omega)) gX5_readWeeks_X2_figure rfl rfl rfl nd_X2_figure ⟨Nat.le_of_ble_eq_true rfl, Nat.le_of_ble_eq_true rfl⟩ (ci := 1) (q0 := 0) rfl rfl rfl hl.1 rfl (Nat.le_of_ble_eq_true rfl) ⟨Nat.zero_le _, Nat.zero_le _⟩ dX5_readWeeks_36) cx.2.2.1 hP hD hS [2, 3, 4] rfl (fun _ => rfl) (fun r21 u20 H locs hw19 hP hD hS => ?_)
    obtain ⟨m22, m23⟩ := u20
    have hP : va_P D vwCl [cell59_ qr qc, cell5_ k qr sr, cell60_ qc qt m22 m23, cell49_ qt st, cell27_ k qt st, cell32_ qh sh, cell0_ k qh sh, cell1_ k qh sh, cell4_ k qh sh, cell3_ k qh sh, cell2_ k qh sh] H := hP
    have hD : va_D A [cell59_ qr qc, cell5_ k qr sr, cell60_ qc qt m22 m23, cell49_ qt st, cell27_ k qt st, cell32_ qh sh, cell0_ k qh sh, cell1_ k qh sh, cell4_ k qh sh, cell3_ k qh sh, cell2_ k qh sh] := hD
    replace hw19 : (r21.toInt = -9 ∨ (0 ≤ r21.toInt ∧ r21.toInt ≤ 9)) ∧ (Imp (0 ≤ r17.toInt ∧ r17.toInt ≤ 63) (r21.toInt ≤ 5)) ∧ (Imp (0 ≤ r17.toInt ∧ r17.toInt ≤ 31) (r21.toInt ≤ 4)) ∧ (Imp (0 ≤ r17.toInt ∧ r17.toInt ≤ 7) (r21.toInt ≤ 2)) ∧ ((r21, m22, m23) = J_X2_figure (up2 sc 0 (upd (sc 0) 1 m10)) st r17) := hw19
    obtain ⟨w24, w25, w26, w27, w28⟩ := hw19
    have k30 : r21 = ((J_X2_figure (up2 sc 0 (upd (sc 0) 1 m10)) st r17).1) := congrArg (fun z => (z.1)) w28
    have k31 : m22 = ((J_X2_figure (up2 sc 0 (upd (sc 0) 1 m10)) st r17).2.1) := congrArg (fun z => (z.2.1)) w28
    have k32 : m23 = ((J_X2_figure (up2 sc 0 (upd (sc 0) 1 m10)) st r17).2.2) := congrArg (fun z => (z.2.2)) w28
    have xr21 : r21.toInt ≤ 5 := w25 ⟨by omega, by omega⟩
    refine lv_istore_n (lv' := [(2, .int r21), (0, .ref (qr 0)), (1, .ref (qh 0))]) hx hb dX5_readWeeks_39 rfl hl (by decide) rfl (fun ls hl => ?_)
    refine lv_iload_n hx hb dX5_readWeeks_40 rfl (lv_at hl 0 rfl) ?_
    refine lv_bipush (v := (-9)) hx hb dX5_readWeeks_41 (by decide) ?_
    refine lv_icmp_ne (tgt := 47) hx hb dX5_readWeeks_43 (by decide) (fun c33 => ?_) (fun c33 => ?_)
    · have f33 : ¬ r21.toInt = (-9) := f_ne rfl (by decide) c33
      refine lv_aload_n hx hb dX5_readWeeks_47 rfl (lv_at hl 2 rfl) ?_
      refine lv_iload_n hx hb dX5_readWeeks_48 rfl (lv_at hl 0 rfl) ?_
      refine g_pt cx hP hD hS iw_X5_readWeeks_X4 tyX4 tyX4_ok nmX4 5 rfl rfl 0 (by decide) rfl fw_X5_readWeeks_66 (ty := .int) rfl rfl rfl (Nat.le_of_ble_eq_true rfl) dX5_readWeeks_49 (fun H locs hP hD hS => ?_)
      have hP : va_P D vwCl [cell59_ qr qc, cell5_ k qr sr, cell60_ qc qt m22 m23, cell49_ qt st, cell27_ k qt st, cell163_ qh sh r21, cell0_ k qh sh, cell1_ k qh sh, cell4_ k qh sh, cell3_ k qh sh, cell2_ k qh sh] H := hP
      have hD : va_D A [cell59_ qr qc, cell5_ k qr sr, cell60_ qc qt m22 m23, cell49_ qt st, cell27_ k qt st, cell163_ qh sh r21, cell0_ k qh sh, cell1_ k qh sh, cell4_ k qh sh, cell3_ k qh sh, cell2_ k qh sh] := hD
      refine lv_aload_n hx hb dX5_readWeeks_52 rfl (lv_at hl 1 rfl) ?_
      refine lv_iload_n hx hb dX5_readWeeks_53 rfl (lv_at hl 0 rfl) ?_
      refine g_v (w1 := fun (u : (Nat → Int32)) => [cell59_ qr qc, (qr 1, .inl (k 0, 26, .inl u)), cell60_ qc qt m22 m23, cell49_ qt st, cell27_ k qt st]) (g_runV (wc := [cell59_ qr qc, cell5_ k qr sr, cell60_ qc qt m22 m23, cell49_ qt st, cell27_ k qt st]) (rest := []) cx hP hD hS [0, 1, 2, 3, 4] rfl (by decide) [.int r21] (c_X5_expectParts l D k b qr sr qc (up2 sc 0 (upd (upd (sc 0) 1 m22) 2 m23)) qt st H.size r21 u_a (show 0 ≤ ((sr 1) 3).toInt ∧ ((sr 1) 3).toInt ≤ 7 from by first | decide | omega) (show 0 ≤ ((sr 1) 16).toInt ∧ ((sr 1) 16).toInt ≤ 7 from by first | decide | omega) (show 0 ≤ r21.toInt ∧ r21.toInt ≤ 5 from by first | decide | omega)) gX5_readWeeks_X5_expectParts rfl rfl rfl nd_X5_expectParts ⟨Nat.le_of_ble_eq_true rfl, Nat.le_of_ble_eq_true rfl⟩ (ci := 3) (q0 := 0) rfl rfl rfl hl.1 rfl (Nat.le_of_ble_eq_true rfl) ⟨Nat.zero_le _, Nat.zero_le _⟩ dX5_readWeeks_54) cx.2.2.1 hP hD hS [0, 1, 2, 3, 4] rfl (fun _ => rfl) (fun u35 H locs hw34 hP hD hS => ?_)
      obtain ⟨m36, rfl⟩ : ∃ z, z = u35 := ⟨_, rfl⟩
      have hP : va_P D vwCl [cell59_ qr qc, (qr 1, .inl (k 0, 26, .inl m36)), cell60_ qc qt m22 m23, cell49_ qt st, cell27_ k qt st, cell163_ qh sh r21, cell0_ k qh sh, cell1_ k qh sh, cell4_ k qh sh, cell3_ k qh sh, cell2_ k qh sh] H := hP
      have hD : va_D A [cell59_ qr qc, (qr 1, .inl (k 0, 26, .inl m36)), cell60_ qc qt m22 m23, cell49_ qt st, cell27_ k qt st, cell163_ qh sh r21, cell0_ k qh sh, cell1_ k qh sh, cell4_ k qh sh, cell3_ k qh sh, cell2_ k qh sh] := hD
      replace hw34 : (∀ j, 0 ≤ (m36 j).toInt ∧ (m36 j).toInt ≤ 31) ∧ (0 ≤ (m36 3).toInt ∧ (m36 3).toInt ≤ 7) ∧ (0 ≤ (m36 16).toInt ∧ (m36 16).toInt ≤ 7) ∧ (m36 = J_X5_expectParts sr (up2 sc 0 (upd (upd (sc 0) 1 m22) 2 m23)) st r21) := hw34
      obtain ⟨w37, w38, w39, w40⟩ := hw34
      have k42 : m36 = (J_X5_expectParts sr (up2 sc 0 (upd (upd (sc 0) 1 m22) 2 m23)) st r21) := congrArg (fun z => z) w40
      rw [hQ]
      exact x_v cx hr (m22, m23, m36, r21) hP hD hS ⟨w37, (show 0 ≤ (m36 3).toInt ∧ (m36 3).toInt ≤ 7 from by omega), (show 0 ≤ (m36 16).toInt ∧ (m36 16).toInt ≤ 7 from by omega), (show 0 ≤ r21.toInt ∧ r21.toInt ≤ 5 from by omega), (show (m22, m23, m36, r21) = J_X5_readWeeks sr sc st sh from by subst k6 k13 w18 k30 k31 k32 k42; first | (refine Eq.symm ?_; refine Eq.trans (if_pos c7) ?_; refine Eq.trans (if_neg c33) ?_; rfl) | (unfold J_X5_readWeeks; try dsimp only; rw [if_pos c7, if_neg c33]))⟩ dX5_readWeeks_57
    · have f33 : r21.toInt = (-9) := f_eq rfl (by decide) c33
      rw [hQ]
      exact x_v cx hr (m22, m23, (sr 1), (sh 0 0)) hP hD hS ⟨u_a, (show 0 ≤ ((sr 1) 3).toInt ∧ ((sr 1) 3).toInt ≤ 7 from by omega), (show 0 ≤ ((sr 1) 16).toInt ∧ ((sr 1) 16).toInt ≤ 7 from by omega), (show 0 ≤ (sh 0 0).toInt ∧ (sh 0 0).toInt ≤ 5 from by omega), (show (m22, m23, (sr 1), (sh 0 0)) = J_X5_readWeeks sr sc st sh from by subst k6 k13 w18 k30 k31 k32; first | (refine Eq.symm ?_; refine Eq.trans (if_pos c7) ?_; refine Eq.trans (if_pos c33) ?_; rfl) | (unfold J_X5_readWeeks; try dsimp only; rw [if_pos c7, if_pos c33]))⟩ dX5_readWeeks_46
  · have f7 : ¬ r2.toInt = 78 := f_ne rfl (by decide) c7
    refine lv_aload_n hx hb dX5_readWeeks_12 rfl (lv_at hl 0 rfl) ?_
    refine g_get cx hP iw_X5_readWeeks_X5 0 rfl rfl 0 (by decide) rfl fw_X5_readWeeks_20 rfl dX5_readWeeks_13 ?_
    refine g_v (w1 := fun (u : Int32) => [cell96_ qc qt sc u, cell49_ qt st, cell27_ k qt st]) (g_runV (wc := [cell58_ qc qt sc, cell49_ qt st, cell27_ k qt st]) (rest := []) cx hP hD hS [2, 3, 4] rfl (by decide) [] (c_X2_stop l D k b qc sc qt st H.size) gX5_readWeeks_X2_stop rfl rfl rfl nd_X2_stop ⟨Nat.le_of_ble_eq_true rfl, Nat.le_of_ble_eq_true rfl⟩ (ci := 1) (q0 := 0) rfl rfl rfl hl.1 rfl (Nat.le_of_ble_eq_true rfl) ⟨Nat.zero_le _, Nat.zero_le _⟩ dX5_readWeeks_16) cx.2.2.1 hP hD hS [2, 3, 4] rfl (fun _ => rfl) (fun u44 H locs hw43 hP hD hS => ?_)
    obtain ⟨m45, rfl⟩ : ∃ z, z = u44 := ⟨_, rfl⟩
    have hP : va_P D vwCl [cell59_ qr qc, cell5_ k qr sr, cell96_ qc qt sc m45, cell49_ qt st, cell27_ k qt st, cell32_ qh sh, cell0_ k qh sh, cell1_ k qh sh, cell4_ k qh sh, cell3_ k qh sh, cell2_ k qh sh] H := hP
    have hD : va_D A [cell59_ qr qc, cell5_ k qr sr, cell96_ qc qt sc m45, cell49_ qt st, cell27_ k qt st, cell32_ qh sh, cell0_ k qh sh, cell1_ k qh sh, cell4_ k qh sh, cell3_ k qh sh, cell2_ k qh sh] := hD
    have w46 : m45 = J_X2_stop sc st := hw43
    clear hw43
    have k48 : m45 = (J_X2_stop sc st) := congrArg (fun z => z) w46
    rw [hQ]
    exact x_v cx hr ((sc 0 1), m45, (sr 1), (sh 0 0)) hP hD hS ⟨u_a, (show 0 ≤ ((sr 1) 3).toInt ∧ ((sr 1) 3).toInt ≤ 7 from by omega), (show 0 ≤ ((sr 1) 16).toInt ∧ ((sr 1) 16).toInt ≤ 7 from by omega), (show 0 ≤ (sh 0 0).toInt ∧ (sh 0 0).toInt ≤ 5 from by omega), (show ((sc 0 1), m45, (sr 1), (sh 0 0)) = J_X5_readWeeks sr sc st sh from by subst k6 k48; first | (refine Eq.symm ?_; refine Eq.trans (if_neg c7) ?_; rfl) | (unfold J_X5_readWeeks; try dsimp only; rw [if_neg c7]))⟩ dX5_readWeeks_19
