theorem fw_X5_read_20 : Cond.fieldLink RX5 20 "StillInAugust$HouseReader" "cursor" "LStillInAugust$Cursor;" ∈ wsX5_read := by decide +kernel
theorem nd_X2_start : yX2_start.cls = RX2 ∧ yX2_start.cls ≠ "java/lang/invoke/MethodHandle" ∧ yX2_start.cls ≠ "java/lang/invoke/VarHandle" ∧ (parseMethodDescriptor yX2_start.desc).map (fun d => d.parameters.length) = some 0 := by decide +kernel
theorem nd_X4_clear : yX4_clear.cls = RX4 ∧ yX4_clear.cls ≠ "java/lang/invoke/MethodHandle" ∧ yX4_clear.cls ≠ "java/lang/invoke/VarHandle" ∧ (parseMethodDescriptor yX4_clear.desc).map (fun d => d.parameters.length) = some 0 := by decide +kernel
theorem nd_X5_readPart : yX5_readPart.cls = RX5 ∧ yX5_readPart.cls ≠ "java/lang/invoke/MethodHandle" ∧ yX5_readPart.cls ≠ "java/lang/invoke/VarHandle" ∧ (parseMethodDescriptor yX5_readPart.desc).map (fun d => d.parameters.length) = some 1 := by decide +kernel
theorem nd_X5_readWeeks : yX5_readWeeks.cls = RX5 ∧ yX5_readWeeks.cls ≠ "java/lang/invoke/MethodHandle" ∧ yX5_readWeeks.cls ≠ "java/lang/invoke/VarHandle" ∧ (parseMethodDescriptor yX5_readWeeks.desc).map (fun d => d.parameters.length) = some 1 := by decide +kernel
theorem iw_X5_read_X5 : ∀ w ∈ u_ws RX5 TX5 2, w ∈ wsX5_read := fun _ h => List.mem_cons_of_mem _ (List.mem_append_left _ (List.mem_append_left _ (List.mem_append_left _ (List.mem_append_right _ h))))
set_option maxHeartbeats 4000000 in
set_option maxRecDepth 100000 in
theorem c_X5_read (l : Launch) (D : va_G) (k : Nat → ClassId) (b : Nat → Nat) (qr : Nat → Nat) (sr : Nat → Nat → Int32) (qc : Nat → Nat) (sc : Nat → Nat → Int32) (qt : Nat → Nat) (st : Nat → Nat → Int32) (qh : Nat → Nat) (sh : Nat → Nat → Int32) (sz : Nat) (h_len : 0 ≤ (st 0 1).toInt ∧ (st 0 1).toInt ≤ 64) (u_a : ∀ j, 0 ≤ (sr 1 j).toInt ∧ (sr 1 j).toInt ≤ 31) (u_3 : 0 ≤ (sr 1 3).toInt ∧ (sr 1 3).toInt ≤ 7) (u_16 : 0 ≤ (sr 1 16).toInt ∧ (sr 1 16).toInt ≤ 7) (h_of : ∀ j, 0 ≤ (sh 2 j).toInt ∧ (sh 2 j).toInt ≤ 4) (h_go : ∀ j, 0 ≤ (sh 3 j).toInt ∧ (sh 3 j).toInt ≤ 5) : MetI l D k b yX5_read wsX5_read ({ frames := 7, cells := 0, slots := 0, locals := 151 } : Room) [cell59_ qr qc, cell5_ k qr sr, cell58_ qc qt sc, cell49_ qt st, cell27_ k qt st, cell32_ qh sh, cell0_ k qh sh, cell1_ k qh sh, cell4_ k qh sh, cell3_ k qh sh, cell2_ k qh sh] sz [.ref (qr 0), .ref (qh 0)] (fun (r : Int32) (u : Int32 × Int32 × (Nat → Int32) × Int32 × Int32 × (Nat → Int32) × (Nat → Int32) × (Nat → Int32) × (Nat → Int32) × Int32 × Int32 × Int32 × Int32 × Int32 × Int32 × Int32) => (∀ j, 0 ≤ ((u.2.2.1) j).toInt ∧ ((u.2.2.1) j).toInt ≤ 31) ∧ (0 ≤ ((u.2.2.1) 3).toInt ∧ ((u.2.2.1) 3).toInt ≤ 7) ∧ (0 ≤ ((u.2.2.1) 16).toInt ∧ ((u.2.2.1) 16).toInt ≤ 7) ∧ (0 ≤ (u.2.2.2.1).toInt ∧ (u.2.2.2.1).toInt ≤ 5) ∧ (0 ≤ (u.2.2.2.2.1).toInt ∧ (u.2.2.2.2.1).toInt ≤ 4) ∧ (0 ≤ (u.2.2.2.2.2.2.2.2.2.2.2.2.2.2.2).toInt ∧ (u.2.2.2.2.2.2.2.2.2.2.2.2.2.2.2).toInt ≤ 5) ∧ (∀ j, 0 ≤ ((u.2.2.2.2.2.2.1) j).toInt ∧ ((u.2.2.2.2.2.2.1) j).toInt ≤ 4) ∧ (∀ j, 0 ≤ ((u.2.2.2.2.2.2.2.1) j).toInt ∧ ((u.2.2.2.2.2.2.2.1) j).toInt ≤ 5) ∧ ((r, (u.1), (u.2.1), (u.2.2.1), (u.2.2.2.1), (u.2.2.2.2.1), (u.2.2.2.2.2.1), (u.2.2.2.2.2.2.1), (u.2.2.2.2.2.2.2.1), (u.2.2.2.2.2.2.2.2.1), (u.2.2.2.2.2.2.2.2.2.1), (u.2.2.2.2.2.2.2.2.2.2.1), (u.2.2.2.2.2.2.2.2.2.2.2.1), (u.2.2.2.2.2.2.2.2.2.2.2.2.1), (u.2.2.2.2.2.2.2.2.2.2.2.2.2.1), (u.2.2.2.2.2.2.2.2.2.2.2.2.2.2.1), (u.2.2.2.2.2.2.2.2.2.2.2.2.2.2.2)) = J_X5_read sr sc st sh)) (fun u => [cell59_ qr qc, cell107_ k qr (u.2.2.1), cell60_ qc qt (u.1) (u.2.1), cell49_ qt st, cell27_ k qt st, cell114_ qh (u.2.2.2.1) (u.2.2.2.2.1) (u.2.2.2.2.2.2.2.2.2.1) (u.2.2.2.2.2.2.2.2.2.2.1) (u.2.2.2.2.2.2.2.2.2.2.2.1) (u.2.2.2.2.2.2.2.2.2.2.2.2.1) (u.2.2.2.2.2.2.2.2.2.2.2.2.2.1) (u.2.2.2.2.2.2.2.2.2.2.2.2.2.2.1) (u.2.2.2.2.2.2.2.2.2.2.2.2.2.2.2), cell85_ k qh (u.2.2.2.2.2.1), cell97_ k qh (u.2.2.2.2.2.2.1), cell102_ k qh (u.2.2.2.2.2.2.2.1), cell103_ k qh (u.2.2.2.2.2.2.2.2.1), cell2_ k qh sh]) := by
  refine g_enter (cc := cX5_read) (maxL := 3) (ret := (some .int)) (by decide) rfl (Nat.le_of_ble_eq_true rfl) ?_
  intro p e s m below meth c A hsz hAe cx hr hP hD hS ls hl
  rw [hAe]
  refine g_q (fun Q hQ => ?_)
  have hx := cx.1.1
  have hb := cx.1.2.1
  have hl : lv_has ls 3 [(0, .ref (qr 0)), (1, .ref (qh 0))] := hl
  obtain ⟨H, eH⟩ : ∃ H : Heap, H = s.heap := ⟨_, rfl⟩
  obtain ⟨locs, el⟩ : ∃ L : List Loc, L = [] := ⟨_, rfl⟩
  have hP : va_P D vwCl [cell59_ qr qc, cell5_ k qr sr, cell58_ qc qt sc, cell49_ qt st, cell27_ k qt st, cell32_ qh sh, cell0_ k qh sh, cell1_ k qh sh, cell4_ k qh sh, cell3_ k qh sh, cell2_ k qh sh] H := by rw [eH]; exact hP
  have hD : va_D A [cell59_ qr qc, cell5_ k qr sr, cell58_ qc qt sc, cell49_ qt st, cell27_ k qt st, cell32_ qh sh, cell0_ k qh sh, cell1_ k qh sh, cell4_ k qh sh, cell3_ k qh sh, cell2_ k qh sh] := hD
  have hS : va_S A s.heap H locs := by rw [eH, el]; exact hS
  suffices goal : W p l e ({ frames := 7, cells := 0, slots := 0, locals := 151 } : Room) s m ([.ref (qr 0), .ref (qh 0)] : List Value).toArray below meth c H locs 0 0 Q (F0 m 0 ls []) by rw [eH, el] at goal; exact goal
  refine lv_aload_n hx hb dX5_read_0 rfl (lv_at hl 0 rfl) ?_
  refine g_get cx hP iw_X5_read_X5 0 rfl rfl 0 (by decide) rfl fw_X5_read_20 rfl dX5_read_1 ?_
  refine g_v (w1 := fun (u : Int32 × Int32) => [cell60_ qc qt (u.1) (u.2), cell49_ qt st, cell27_ k qt st]) (g_runV (wc := [cell58_ qc qt sc, cell49_ qt st, cell27_ k qt st]) (rest := []) cx hP hD hS [2, 3, 4] rfl (by decide) [] (c_X2_start l D k b qc sc qt st H.size) gX5_read_X2_start rfl rfl rfl nd_X2_start ⟨Nat.le_of_ble_eq_true rfl, Nat.le_of_ble_eq_true rfl⟩ (ci := 1) (q0 := 0) rfl rfl rfl hl.1 rfl (Nat.le_of_ble_eq_true rfl) ⟨Nat.zero_le _, Nat.zero_le _⟩ dX5_read_4) cx.2.2.1 hP hD hS [2, 3, 4] rfl (fun _ => rfl) (fun u2 H locs hw1 hP hD hS => ?_)
  obtain ⟨m3, m4⟩ := u2
  have hP : va_P D vwCl [cell59_ qr qc, cell5_ k qr sr, cell60_ qc qt m3 m4, cell49_ qt st, cell27_ k qt st, cell32_ qh sh, cell0_ k qh sh, cell1_ k qh sh, cell4_ k qh sh, cell3_ k qh sh, cell2_ k qh sh] H := hP
  have hD : va_D A [cell59_ qr qc, cell5_ k qr sr, cell60_ qc qt m3 m4, cell49_ qt st, cell27_ k qt st, cell32_ qh sh, cell0_ k qh sh, cell1_ k qh sh, cell4_ k qh sh, cell3_ k qh sh, cell2_ k qh sh] := hD
  have w5 : (m3, m4) = J_X2_start sc st := hw1
  clear hw1
  have k7 : m3 = ((J_X2_start sc st).1) := congrArg (fun z => (z.1)) w5
  have k8 : m4 = ((J_X2_start sc st).2) := congrArg (fun z => (z.2)) w5
  have hst_ := w5
  refine lv_aload_n hx hb dX5_read_7 rfl (lv_at hl 1 rfl) ?_
  refine g_v (w1 := fun (u : Int32 × Int32 × (Nat → Int32) × (Nat → Int32) × (Nat → Int32) × (Nat → Int32) × Int32 × Int32 × Int32 × Int32 × Int32 × Int32 × Int32) => [cell114_ qh (u.1) (u.2.1) (u.2.2.2.2.2.2.1) (u.2.2.2.2.2.2.2.1) (u.2.2.2.2.2.2.2.2.1) (u.2.2.2.2.2.2.2.2.2.1) (u.2.2.2.2.2.2.2.2.2.2.1) (u.2.2.2.2.2.2.2.2.2.2.2.1) (u.2.2.2.2.2.2.2.2.2.2.2.2), cell85_ k qh (u.2.2.1), cell97_ k qh (u.2.2.2.1), cell102_ k qh (u.2.2.2.2.1), cell103_ k qh (u.2.2.2.2.2.1), cell2_ k qh sh]) (g_runV (wc := [cell32_ qh sh, cell0_ k qh sh, cell1_ k qh sh, cell4_ k qh sh, cell3_ k qh sh, cell2_ k qh sh]) (rest := []) cx hP hD hS [5, 6, 7, 8, 9, 10] rfl (by decide) [] (c_X4_clear l D k b qh sh H.size h_of h_go) gX5_read_X4_clear rfl rfl rfl nd_X4_clear ⟨Nat.le_of_ble_eq_true rfl, Nat.le_of_ble_eq_true rfl⟩ (ci := 2) (q0 := 0) rfl rfl rfl hl.1 rfl (Nat.le_of_ble_eq_true rfl) ⟨Nat.zero_le _, Nat.zero_le _⟩ dX5_read_8) cx.2.2.1 hP hD hS [5, 6, 7, 8, 9, 10] rfl (fun _ => rfl) (fun u10 H locs hw9 hP hD hS => ?_)
  obtain ⟨m11, m12, m13, m14, m15, m16, m17, m18, m19, m20, m21, m22, m23⟩ := u10
  have hP : va_P D vwCl [cell59_ qr qc, cell5_ k qr sr, cell60_ qc qt m3 m4, cell49_ qt st, cell27_ k qt st, cell114_ qh m11 m12 m17 m18 m19 m20 m21 m22 m23, (qh 1, .inl (k 0, 5, .inl m13)), (qh 2, .inl (k 0, 5, .inl m14)), (qh 3, .inl (k 0, 3, .inl m15)), (qh 4, .inl (k 0, 3, .inl m16)), cell2_ k qh sh] H := hP
  have hD : va_D A [cell59_ qr qc, cell5_ k qr sr, cell60_ qc qt m3 m4, cell49_ qt st, cell27_ k qt st, cell114_ qh m11 m12 m17 m18 m19 m20 m21 m22 m23, (qh 1, .inl (k 0, 5, .inl m13)), (qh 2, .inl (k 0, 5, .inl m14)), (qh 3, .inl (k 0, 3, .inl m15)), (qh 4, .inl (k 0, 3, .inl m16)), cell2_ k qh sh] := hD
  replace hw9 : (0 ≤ m11.toInt ∧ m11.toInt ≤ 5) ∧ (0 ≤ m12.toInt ∧ m12.toInt ≤ 4) ∧ (0 ≤ m23.toInt ∧ m23.toInt ≤ 5) ∧ (∀ j, 0 ≤ (m14 j).toInt ∧ (m14 j).toInt ≤ 4) ∧ (∀ j, 0 ≤ (m15 j).toInt ∧ (m15 j).toInt ≤ 5) ∧ ((m11, m12, m13, m14, m15, m16, m17, m18, m19, m20, m21, m22, m23) = J_X4_clear sh) := hw9
  obtain ⟨w24, w25, w26, w27, w28, w29⟩ := hw9
  have k31 : m11 = ((J_X4_clear sh).1) := congrArg (fun z => (z.1)) w29
  have k32 : m12 = ((J_X4_clear sh).2.1) := congrArg (fun z => (z.2.1)) w29
  have k33 : m13 = ((J_X4_clear sh).2.2.1) := congrArg (fun z => (z.2.2.1)) w29
  have k34 : m14 = ((J_X4_clear sh).2.2.2.1) := congrArg (fun z => (z.2.2.2.1)) w29
  have k35 : m15 = ((J_X4_clear sh).2.2.2.2.1) := congrArg (fun z => (z.2.2.2.2.1)) w29
  have k36 : m16 = ((J_X4_clear sh).2.2.2.2.2.1) := congrArg (fun z => (z.2.2.2.2.2.1)) w29
  have k37 : m17 = ((J_X4_clear sh).2.2.2.2.2.2.1) := congrArg (fun z => (z.2.2.2.2.2.2.1)) w29
  have k38 : m18 = ((J_X4_clear sh).2.2.2.2.2.2.2.1) := congrArg (fun z => (z.2.2.2.2.2.2.2.1)) w29
  have k39 : m19 = ((J_X4_clear sh).2.2.2.2.2.2.2.2.1) := congrArg (fun z => (z.2.2.2.2.2.2.2.2.1)) w29
  have k40 : m20 = ((J_X4_clear sh).2.2.2.2.2.2.2.2.2.1) := congrArg (fun z => (z.2.2.2.2.2.2.2.2.2.1)) w29
  have k41 : m21 = ((J_X4_clear sh).2.2.2.2.2.2.2.2.2.2.1) := congrArg (fun z => (z.2.2.2.2.2.2.2.2.2.2.1)) w29
  have k42 : m22 = ((J_X4_clear sh).2.2.2.2.2.2.2.2.2.2.2.1) := congrArg (fun z => (z.2.2.2.2.2.2.2.2.2.2.2.1)) w29
  have k43 : m23 = ((J_X4_clear sh).2.2.2.2.2.2.2.2.2.2.2.2) := congrArg (fun z => (z.2.2.2.2.2.2.2.2.2.2.2.2)) w29
  have hcl_ := w29
  refine lv_aload_n hx hb dX5_read_11 rfl (lv_at hl 0 rfl) ?_
  refine lv_aload_n hx hb dX5_read_12 rfl (lv_at hl 1 rfl) ?_
  refine g_vF (w1 := fun (u : Int32 × Int32 × (Nat → Int32) × Int32) => [cell59_ qr qc, cell107_ k qr (u.2.2.1), cell60_ qc qt (u.1) (u.2.1), cell49_ qt st, cell27_ k qt st, cell114_ qh (u.2.2.2) m12 m17 m18 m19 m20 m21 m22 m23, (qh 1, .inl (k 0, 5, .inl m13)), (qh 2, .inl (k 0, 5, .inl m14)), (qh 3, .inl (k 0, 3, .inl m15)), (qh 4, .inl (k 0, 3, .inl m16)), cell2_ k qh sh]) (g_runVF (ws := [cell59_ qr qc, cell5_ k qr sr, cell60_ qc qt m3 m4, cell49_ qt st, cell27_ k qt st, cell114_ qh m11 m12 m17 m18 m19 m20 m21 m22 m23, (qh 1, .inl (k 0, 5, .inl m13)), (qh 2, .inl (k 0, 5, .inl m14)), (qh 3, .inl (k 0, 3, .inl m15)), (qh 4, .inl (k 0, 3, .inl m16)), cell2_ k qh sh]) (rest := []) cx hP hD hS [.ref (qh 0)] (c_X5_readWeeks l D k b qr sr qc (up2 sc 0 (upd (upd (sc 0) 1 m3) 2 m4)) qt st qh (up2 (up2 (up2 (up2 (up2 sh 0 (upd (upd (upd (upd (upd (upd (upd (upd (upd (sh 0) 0 m11) 1 m12) 6 m17) 7 m18) 8 m19) 9 m20) 10 m21) 11 m22) 12 m23)) 1 m13) 2 m14) 3 m15) 4 m16) H.size (show 0 ≤ (st 0 1).toInt ∧ (st 0 1).toInt ≤ 64 from by first | decide | omega) u_a (show 0 ≤ ((sr 1) 3).toInt ∧ ((sr 1) 3).toInt ≤ 7 from by first | decide | omega) (show 0 ≤ ((sr 1) 16).toInt ∧ ((sr 1) 16).toInt ≤ 7 from by first | decide | omega) (show 0 ≤ m11.toInt ∧ m11.toInt ≤ 5 from by first | decide | omega)) gX5_read_X5_readWeeks rfl rfl rfl nd_X5_readWeeks ⟨Nat.le_of_ble_eq_true rfl, Nat.le_of_ble_eq_true rfl⟩ (ci := 3) (q0 := 0) rfl rfl rfl hl.1 rfl (Nat.le_of_ble_eq_true rfl) ⟨Nat.zero_le _, Nat.zero_le _⟩ dX5_read_13) cx.2.2.1 hD hS (fun u45 H locs hw44 hP hD hS => ?_)
  obtain ⟨m46, m47, m48, m49⟩ := u45
  have hP : va_P D vwCl [cell59_ qr qc, (qr 1, .inl (k 0, 26, .inl m48)), cell60_ qc qt m46 m47, cell49_ qt st, cell27_ k qt st, cell114_ qh m49 m12 m17 m18 m19 m20 m21 m22 m23, (qh 1, .inl (k 0, 5, .inl m13)), (qh 2, .inl (k 0, 5, .inl m14)), (qh 3, .inl (k 0, 3, .inl m15)), (qh 4, .inl (k 0, 3, .inl m16)), cell2_ k qh sh] H := hP
  have hD : va_D A [cell59_ qr qc, (qr 1, .inl (k 0, 26, .inl m48)), cell60_ qc qt m46 m47, cell49_ qt st, cell27_ k qt st, cell114_ qh m49 m12 m17 m18 m19 m20 m21 m22 m23, (qh 1, .inl (k 0, 5, .inl m13)), (qh 2, .inl (k 0, 5, .inl m14)), (qh 3, .inl (k 0, 3, .inl m15)), (qh 4, .inl (k 0, 3, .inl m16)), cell2_ k qh sh] := hD
  replace hw44 : (∀ j, 0 ≤ (m48 j).toInt ∧ (m48 j).toInt ≤ 31) ∧ (0 ≤ (m48 3).toInt ∧ (m48 3).toInt ≤ 7) ∧ (0 ≤ (m48 16).toInt ∧ (m48 16).toInt ≤ 7) ∧ (0 ≤ m49.toInt ∧ m49.toInt ≤ 5) ∧ ((m46, m47, m48, m49) = J_X5_readWeeks sr (up2 sc 0 (upd (upd (sc 0) 1 m3) 2 m4)) st (up2 (up2 (up2 (up2 (up2 sh 0 (upd (upd (upd (upd (upd (upd (upd (upd (upd (sh 0) 0 m11) 1 m12) 6 m17) 7 m18) 8 m19) 9 m20) 10 m21) 11 m22) 12 m23)) 1 m13) 2 m14) 3 m15) 4 m16)) := hw44
  obtain ⟨w50, w51, w52, w53, w54⟩ := hw44
  have k56 : m46 = ((J_X5_readWeeks sr (up2 sc 0 (upd (upd (sc 0) 1 m3) 2 m4)) st (up2 (up2 (up2 (up2 (up2 sh 0 (upd (upd (upd (upd (upd (upd (upd (upd (upd (sh 0) 0 m11) 1 m12) 6 m17) 7 m18) 8 m19) 9 m20) 10 m21) 11 m22) 12 m23)) 1 m13) 2 m14) 3 m15) 4 m16)).1) := congrArg (fun z => (z.1)) w54
  have k57 : m47 = ((J_X5_readWeeks sr (up2 sc 0 (upd (upd (sc 0) 1 m3) 2 m4)) st (up2 (up2 (up2 (up2 (up2 sh 0 (upd (upd (upd (upd (upd (upd (upd (upd (upd (sh 0) 0 m11) 1 m12) 6 m17) 7 m18) 8 m19) 9 m20) 10 m21) 11 m22) 12 m23)) 1 m13) 2 m14) 3 m15) 4 m16)).2.1) := congrArg (fun z => (z.2.1)) w54
  have k58 : m48 = ((J_X5_readWeeks sr (up2 sc 0 (upd (upd (sc 0) 1 m3) 2 m4)) st (up2 (up2 (up2 (up2 (up2 sh 0 (upd (upd (upd (upd (upd (upd (upd (upd (upd (sh 0) 0 m11) 1 m12) 6 m17) 7 m18) 8 m19) 9 m20) 10 m21) 11 m22) 12 m23)) 1 m13) 2 m14) 3 m15) 4 m16)).2.2.1) := congrArg (fun z => (z.2.2.1)) w54
  have k59 : m49 = ((J_X5_readWeeks sr (up2 sc 0 (upd (upd (sc 0) 1 m3) 2 m4)) st (up2 (up2 (up2 (up2 (up2 sh 0 (upd (upd (upd (upd (upd (upd (upd (upd (upd (sh 0) 0 m11) 1 m12) 6 m17) 7 m18) 8 m19) 9 m20) 10 m21) 11 m22) 12 m23)) 1 m13) 2 m14) 3 m15) 4 m16)).2.2.2) := congrArg (fun z => (z.2.2.2)) w54
  have hrw_ := w54
  refine lv_iconst (v := 0) hx hb dX5_read_16 (by decide) ?_
  refine lv_istore_n (lv' := [(2, .int 0), (0, .ref (qr 0)), (1, .ref (qh 0))]) hx hb dX5_read_17 rfl hl (by decide) rfl (fun ls hl => ?_)
  have hL18 : ∀ (n124 : Nat) (v108 : Int32) (g109 : Nat → Int32) (x110 : Int32) (x111 : Int32) (x112 : Int32) (x113 : Int32) (x114 : Int32) (x115 : Int32) (x116 : Int32) (x117 : Int32) (x118 : Int32) (x119 : Int32) (g120 : Nat → Int32) (g121 : Nat → Int32) (g122 : Nat → Int32) (g123 : Nat → Int32) (H : Heap) (locs : List Loc) (ls : Array Slot), 64 - v108.toInt < (n124 : Int) → (0 ≤ v108.toInt ∧ v108.toInt ≤ 64) → (0 ≤ x112.toInt ∧ x112.toInt ≤ 4) → (0 ≤ x119.toInt ∧ x119.toInt ≤ 5) → (0 ≤ (g109 3).toInt ∧ (g109 3).toInt ≤ 7) → (0 ≤ (g109 16).toInt ∧ (g109 16).toInt ≤ 7) → (CIT sr sc st sh m49 (Int.toNat (64 - v108.toInt)) (x110, x111, g109, x112, g120, g121, g122, g123, x113, x114, x115, x116, x117, x118, x119) = CB sr sc st sh) → (m49 = (CW4 sr sc st sh).2.2.2) → (∀ j, 0 ≤ (g109 j).toInt ∧ (g109 j).toInt ≤ 31) → (∀ j, 0 ≤ (g121 j).toInt ∧ (g121 j).toInt ≤ 4) → (∀ j, 0 ≤ (g122 j).toInt ∧ (g122 j).toInt ≤ 5) → va_P D vwCl [cell59_ qr qc, (qr 1, .inl (k 0, 26, .inl g109)), cell60_ qc qt x110 x111, cell49_ qt st, cell27_ k qt st, cell114_ qh m49 x112 x113 x114 x115 x116 x117 x118 x119, (qh 1, .inl (k 0, 5, .inl g120)), (qh 2, .inl (k 0, 5, .inl g121)), (qh 3, .inl (k 0, 3, .inl g122)), (qh 4, .inl (k 0, 3, .inl g123)), cell2_ k qh sh] H → va_D A [cell59_ qr qc, (qr 1, .inl (k 0, 26, .inl g109)), cell60_ qc qt x110 x111, cell49_ qt st, cell27_ k qt st, cell114_ qh m49 x112 x113 x114 x115 x116 x117 x118 x119, (qh 1, .inl (k 0, 5, .inl g120)), (qh 2, .inl (k 0, 5, .inl g121)), (qh 3, .inl (k 0, 3, .inl g122)), (qh 4, .inl (k 0, 3, .inl g123)), cell2_ k qh sh] → va_S A s.heap H locs → lv_has ls 3 [(2, .int v108), (0, .ref (qr 0)), (1, .ref (qh 0))] → W p l e ({ frames := 7, cells := 0, slots := 0, locals := 151 } : Room) s m ([.ref (qr 0), .ref (qh 0)] : List Value).toArray below meth c H locs 0 0 Q (F0 m 18 ls []) := by
    intro n124
    induction n124 with
    | zero => intro v108 g109 x110 x111 x112 x113 x114 x115 x116 x117 x118 x119 g120 g121 g122 g123 H locs ls hmn124 bv108 bx112 bx119 u3 u16 qC qW ag109 ag121 ag122 hP hD hS hl; exact absurd hmn124 (by omega)
    | succ n124 ih18 =>
      intro v108 g109 x110 x111 x112 x113 x114 x115 x116 x117 x118 x119 g120 g121 g122 g123 H locs ls hmn124 bv108 bx112 bx119 u3 u16 qC qW ag109 ag121 ag122 hP hD hS hl
      refine lv_iload_n hx hb dX5_read_18 rfl (lv_at hl 0 rfl) ?_
      refine lv_bipush (v := 64) hx hb dX5_read_19 (by decide) ?_
      have hJ45 : ∀  (H : Heap) (locs : List Loc) (ls : Array Slot), ((x110, x111, g109, x112, g120, g121, g122, g123, x113, x114, x115, x116, x117, x118, x119) = CB sr sc st sh) → (m49 = (CW4 sr sc st sh).2.2.2) → (∀ j, 0 ≤ (g109 j).toInt ∧ (g109 j).toInt ≤ 31) → (∀ j, 0 ≤ (g121 j).toInt ∧ (g121 j).toInt ≤ 4) → (∀ j, 0 ≤ (g122 j).toInt ∧ (g122 j).toInt ≤ 5) → va_P D vwCl [cell59_ qr qc, (qr 1, .inl (k 0, 26, .inl g109)), cell60_ qc qt x110 x111, cell49_ qt st, cell27_ k qt st, cell114_ qh m49 x112 x113 x114 x115 x116 x117 x118 x119, (qh 1, .inl (k 0, 5, .inl g120)), (qh 2, .inl (k 0, 5, .inl g121)), (qh 3, .inl (k 0, 3, .inl g122)), (qh 4, .inl (k 0, 3, .inl g123)), cell2_ k qh sh] H → va_D A [cell59_ qr qc, (qr 1, .inl (k 0, 26, .inl g109)), cell60_ qc qt x110 x111, cell49_ qt st, cell27_ k qt st, cell114_ qh m49 x112 x113 x114 x115 x116 x117 x118 x119, (qh 1, .inl (k 0, 5, .inl g120)), (qh 2, .inl (k 0, 5, .inl g121)), (qh 3, .inl (k 0, 3, .inl g122)), (qh 4, .inl (k 0, 3, .inl g123)), cell2_ k qh sh] → va_S A s.heap H locs → lv_has ls 3 [(0, .ref (qr 0))] → W p l e ({ frames := 7, cells := 0, slots := 0, locals := 151 } : Room) s m ([.ref (qr 0), .ref (qh 0)] : List Value).toArray below meth c H locs 0 0 Q (F0 m 45 ls []) := by
        intro  H locs ls qe qW2 ag109 ag121 ag122 hP hD hS hl
        refine lv_aload_n hx hb dX5_read_45 rfl (lv_at hl 0 rfl) ?_
        refine g_get cx hP iw_X5_read_X5 0 rfl rfl 0 (by decide) rfl fw_X5_read_20 rfl dX5_read_46 ?_
        refine g_ir (g_runV (wc := [cell60_ qc qt x110 x111, cell49_ qt st, cell27_ k qt st]) (rest := []) cx hP hD hS [2, 3, 4] rfl (by decide) [] (c_X2_stoppedAt l D k b qc (up2 sc 0 (upd (upd (sc 0) 1 x110) 2 x111)) qt st H.size) gX5_read_X2_stoppedAt rfl rfl rfl nd_X2_stoppedAt ⟨Nat.le_of_ble_eq_true rfl, Nat.le_of_ble_eq_true rfl⟩ (ci := 1) (q0 := 0) rfl rfl rfl hl.1 rfl (Nat.le_of_ble_eq_true rfl) ⟨Nat.zero_le _, Nat.zero_le _⟩ dX5_read_49) cx.2.2.1 hP hD hS [2, 3, 4] rfl rfl (fun r174 H locs hw173 hP hS => ?_)
        have w175 : r174 = J_X2_stoppedAt (up2 sc 0 (upd (upd (sc 0) 1 x110) 2 x111)) st := hw173
        clear hw173
        have k177 : r174 = (J_X2_stoppedAt (up2 sc 0 (upd (upd (sc 0) 1 x110) 2 x111)) st) := congrArg (fun z => z) w175
        have hsa_ := w175
        rw [hQ]
        exact x_i cx hr (x110, x111, g109, m49, x112, g120, g121, g122, g123, x113, x114, x115, x116, x117, x118, x119) hP hD hS ⟨ag109, (show 0 ≤ (g109 3).toInt ∧ (g109 3).toInt ≤ 7 from by omega), (show 0 ≤ (g109 16).toInt ∧ (g109 16).toInt ≤ 7 from by omega), (show 0 ≤ m49.toInt ∧ m49.toInt ≤ 5 from by omega), (show 0 ≤ x112.toInt ∧ x112.toInt ≤ 4 from by omega), (show 0 ≤ x119.toInt ∧ x119.toInt ≤ 5 from by omega), ag121, ag122, (show (r174, x110, x111, g109, m49, x112, g120, g121, g122, g123, x113, x114, x115, x116, x117, x118, x119) = J_X5_read sr sc st sh from rd_end qW2 hsa_ qe)⟩ dX5_read_52
      refine lv_icmp_ge (tgt := 45) hx hb dX5_read_21 (by decide) (fun c178 => ?_) (fun c178 => ?_)
      · have f178 : 64 ≤ v108.toInt := f_le (by decide) rfl c178
        exact hJ45  _ _ _ (by first | exact cit_z qC (by omega) | exact cit_e qC (by omega) hhm_ hz_) qW (by assumption) (by assumption) (by assumption) hP hD hS (lv_sub hl [1] rfl)
      · have f178 : v108.toInt < 64 := f_nle (by decide) rfl c178
        refine lv_aload_n hx hb dX5_read_24 rfl (lv_at hl 1 rfl) ?_
        refine g_get cx hP iw_X5_read_X5 0 rfl rfl 0 (by decide) rfl fw_X5_read_20 rfl dX5_read_25 ?_
        refine g_ir (g_runV (wc := [cell60_ qc qt x110 x111, cell49_ qt st, cell27_ k qt st]) (rest := []) cx hP hD hS [2, 3, 4] rfl (by decide) [] (c_X2_hasMore l D k b qc (up2 sc 0 (upd (upd (sc 0) 1 x110) 2 x111)) qt st H.size) gX5_read_X2_hasMore rfl rfl rfl nd_X2_hasMore ⟨Nat.le_of_ble_eq_true rfl, Nat.le_of_ble_eq_true rfl⟩ (ci := 1) (q0 := 0) rfl rfl rfl hl.1 rfl (Nat.le_of_ble_eq_true rfl) ⟨Nat.zero_le _, Nat.zero_le _⟩ dX5_read_28) cx.2.2.1 hP hD hS [2, 3, 4] rfl rfl (fun r180 H locs hw179 hP hS => ?_)
        replace hw179 : (0 ≤ r180.toInt ∧ r180.toInt ≤ 1) ∧ (r180 = J_X2_hasMore (up2 sc 0 (upd (upd (sc 0) 1 x110) 2 x111)) st) := hw179
        obtain ⟨w181, w182⟩ := hw179
        have k184 : r180 = (J_X2_hasMore (up2 sc 0 (upd (upd (sc 0) 1 x110) 2 x111)) st) := congrArg (fun z => z) w182
        have hhm_ := w182
        refine lv_if_eq (tgt := 45) hx hb dX5_read_31 (by decide) (fun c185 => ?_) (fun c185 => ?_)
        · have f185 : r180.toInt = 0 := f_eq rfl (by decide) c185
          have hz_ := c185
          exact hJ45  _ _ _ (by first | exact cit_z qC (by omega) | exact cit_e qC (by omega) hhm_ hz_) qW (by assumption) (by assumption) (by assumption) hP hD hS (lv_sub hl [1] rfl)
        · have f185 : ¬ r180.toInt = 0 := f_ne rfl (by decide) c185
          have hz_ := c185
          refine lv_aload_n hx hb dX5_read_34 rfl (lv_at hl 1 rfl) ?_
          refine lv_aload_n hx hb dX5_read_35 rfl (lv_at hl 2 rfl) ?_
          refine g_vF (w1 := fun (u : Int32 × Int32 × (Nat → Int32) × Int32 × (Nat → Int32) × (Nat → Int32) × (Nat → Int32) × (Nat → Int32) × Int32 × Int32 × Int32 × Int32 × Int32 × Int32 × Int32) => [cell59_ qr qc, cell107_ k qr (u.2.2.1), cell60_ qc qt (u.1) (u.2.1), cell49_ qt st, cell27_ k qt st, cell114_ qh m49 (u.2.2.2.1) (u.2.2.2.2.2.2.2.2.1) (u.2.2.2.2.2.2.2.2.2.1) (u.2.2.2.2.2.2.2.2.2.2.1) (u.2.2.2.2.2.2.2.2.2.2.2.1) (u.2.2.2.2.2.2.2.2.2.2.2.2.1) (u.2.2.2.2.2.2.2.2.2.2.2.2.2.1) (u.2.2.2.2.2.2.2.2.2.2.2.2.2.2), cell85_ k qh (u.2.2.2.2.1), cell97_ k qh (u.2.2.2.2.2.1), cell102_ k qh (u.2.2.2.2.2.2.1), cell103_ k qh (u.2.2.2.2.2.2.2.1), cell2_ k qh sh]) (g_runVF (ws := [cell59_ qr qc, (qr 1, .inl (k 0, 26, .inl g109)), cell60_ qc qt x110 x111, cell49_ qt st, cell27_ k qt st, cell114_ qh m49 x112 x113 x114 x115 x116 x117 x118 x119, (qh 1, .inl (k 0, 5, .inl g120)), (qh 2, .inl (k 0, 5, .inl g121)), (qh 3, .inl (k 0, 3, .inl g122)), (qh 4, .inl (k 0, 3, .inl g123)), cell2_ k qh sh]) (rest := []) cx hP hD hS [.ref (qh 0)] (c_X5_readPart l D k b qr (up2 sr 1 g109) qc (up2 sc 0 (upd (upd (sc 0) 1 x110) 2 x111)) qt st qh (up2 (up2 (up2 (up2 (up2 sh 0 (upd (upd (upd (upd (upd (upd (upd (upd (upd (sh 0) 0 m49) 1 x112) 6 x113) 7 x114) 8 x115) 9 x116) 10 x117) 11 x118) 12 x119)) 1 g120) 2 g121) 3 g122) 4 g123) H.size (show 0 ≤ (st 0 1).toInt ∧ (st 0 1).toInt ≤ 64 from by first | decide | omega) ag109 (show 0 ≤ (g109 3).toInt ∧ (g109 3).toInt ≤ 7 from by first | decide | omega) (show 0 ≤ (g109 16).toInt ∧ (g109 16).toInt ≤ 7 from by first | decide | omega) (show 0 ≤ m49.toInt ∧ m49.toInt ≤ 5 from by first | decide | omega) (show 0 ≤ x112.toInt ∧ x112.toInt ≤ 4 from by first | decide | omega) (show 0 ≤ x119.toInt ∧ x119.toInt ≤ 5 from by first | decide | omega) ag121 ag122) gX5_read_X5_readPart rfl rfl rfl nd_X5_readPart ⟨Nat.le_of_ble_eq_true rfl, Nat.le_of_ble_eq_true rfl⟩ (ci := 3) (q0 := 0) rfl rfl rfl hl.1 rfl (Nat.le_of_ble_eq_true rfl) ⟨Nat.zero_le _, Nat.zero_le _⟩ dX5_read_36) cx.2.2.1 hD hS (fun u187 H locs hw186 hP hD hS => ?_)
          obtain ⟨m188, m189, m190, m191, m192, m193, m194, m195, m196, m197, m198, m199, m200, m201, m202⟩ := u187
          have hP : va_P D vwCl [cell59_ qr qc, (qr 1, .inl (k 0, 26, .inl m190)), cell60_ qc qt m188 m189, cell49_ qt st, cell27_ k qt st, cell114_ qh m49 m191 m196 m197 m198 m199 m200 m201 m202, (qh 1, .inl (k 0, 5, .inl m192)), (qh 2, .inl (k 0, 5, .inl m193)), (qh 3, .inl (k 0, 3, .inl m194)), (qh 4, .inl (k 0, 3, .inl m195)), cell2_ k qh sh] H := hP
          have hD : va_D A [cell59_ qr qc, (qr 1, .inl (k 0, 26, .inl m190)), cell60_ qc qt m188 m189, cell49_ qt st, cell27_ k qt st, cell114_ qh m49 m191 m196 m197 m198 m199 m200 m201 m202, (qh 1, .inl (k 0, 5, .inl m192)), (qh 2, .inl (k 0, 5, .inl m193)), (qh 3, .inl (k 0, 3, .inl m194)), (qh 4, .inl (k 0, 3, .inl m195)), cell2_ k qh sh] := hD
          replace hw186 : (∀ j, 0 ≤ (m190 j).toInt ∧ (m190 j).toInt ≤ 31) ∧ (0 ≤ (m190 3).toInt ∧ (m190 3).toInt ≤ 7) ∧ (0 ≤ (m190 16).toInt ∧ (m190 16).toInt ≤ 7) ∧ (0 ≤ m191.toInt ∧ m191.toInt ≤ 4) ∧ (0 ≤ m202.toInt ∧ m202.toInt ≤ 5) ∧ (∀ j, 0 ≤ (m193 j).toInt ∧ (m193 j).toInt ≤ 4) ∧ (∀ j, 0 ≤ (m194 j).toInt ∧ (m194 j).toInt ≤ 5) ∧ ((m188, m189, m190, m191, m192, m193, m194, m195, m196, m197, m198, m199, m200, m201, m202) = J_X5_readPart (up2 sr 1 g109) (up2 sc 0 (upd (upd (sc 0) 1 x110) 2 x111)) st (up2 (up2 (up2 (up2 (up2 sh 0 (upd (upd (upd (upd (upd (upd (upd (upd (upd (sh 0) 0 m49) 1 x112) 6 x113) 7 x114) 8 x115) 9 x116) 10 x117) 11 x118) 12 x119)) 1 g120) 2 g121) 3 g122) 4 g123)) := hw186
          obtain ⟨w203, w204, w205, w206, w207, w208, w209, w210⟩ := hw186
          have k212 : m188 = ((J_X5_readPart (up2 sr 1 g109) (up2 sc 0 (upd (upd (sc 0) 1 x110) 2 x111)) st (up2 (up2 (up2 (up2 (up2 sh 0 (upd (upd (upd (upd (upd (upd (upd (upd (upd (sh 0) 0 m49) 1 x112) 6 x113) 7 x114) 8 x115) 9 x116) 10 x117) 11 x118) 12 x119)) 1 g120) 2 g121) 3 g122) 4 g123)).1) := congrArg (fun z => (z.1)) w210
          have k213 : m189 = ((J_X5_readPart (up2 sr 1 g109) (up2 sc 0 (upd (upd (sc 0) 1 x110) 2 x111)) st (up2 (up2 (up2 (up2 (up2 sh 0 (upd (upd (upd (upd (upd (upd (upd (upd (upd (sh 0) 0 m49) 1 x112) 6 x113) 7 x114) 8 x115) 9 x116) 10 x117) 11 x118) 12 x119)) 1 g120) 2 g121) 3 g122) 4 g123)).2.1) := congrArg (fun z => (z.2.1)) w210
          have k214 : m190 = ((J_X5_readPart (up2 sr 1 g109) (up2 sc 0 (upd (upd (sc 0) 1 x110) 2 x111)) st (up2 (up2 (up2 (up2 (up2 sh 0 (upd (upd (upd (upd (upd (upd (upd (upd (upd (sh 0) 0 m49) 1 x112) 6 x113) 7 x114) 8 x115) 9 x116) 10 x117) 11 x118) 12 x119)) 1 g120) 2 g121) 3 g122) 4 g123)).2.2.1) := congrArg (fun z => (z.2.2.1)) w210
          have k215 : m191 = ((J_X5_readPart (up2 sr 1 g109) (up2 sc 0 (upd (upd (sc 0) 1 x110) 2 x111)) st (up2 (up2 (up2 (up2 (up2 sh 0 (upd (upd (upd (upd (upd (upd (upd (upd (upd (sh 0) 0 m49) 1 x112) 6 x113) 7 x114) 8 x115) 9 x116) 10 x117) 11 x118) 12 x119)) 1 g120) 2 g121) 3 g122) 4 g123)).2.2.2.1) := congrArg (fun z => (z.2.2.2.1)) w210
          have k216 : m192 = ((J_X5_readPart (up2 sr 1 g109) (up2 sc 0 (upd (upd (sc 0) 1 x110) 2 x111)) st (up2 (up2 (up2 (up2 (up2 sh 0 (upd (upd (upd (upd (upd (upd (upd (upd (upd (sh 0) 0 m49) 1 x112) 6 x113) 7 x114) 8 x115) 9 x116) 10 x117) 11 x118) 12 x119)) 1 g120) 2 g121) 3 g122) 4 g123)).2.2.2.2.1) := congrArg (fun z => (z.2.2.2.2.1)) w210
          have k217 : m193 = ((J_X5_readPart (up2 sr 1 g109) (up2 sc 0 (upd (upd (sc 0) 1 x110) 2 x111)) st (up2 (up2 (up2 (up2 (up2 sh 0 (upd (upd (upd (upd (upd (upd (upd (upd (upd (sh 0) 0 m49) 1 x112) 6 x113) 7 x114) 8 x115) 9 x116) 10 x117) 11 x118) 12 x119)) 1 g120) 2 g121) 3 g122) 4 g123)).2.2.2.2.2.1) := congrArg (fun z => (z.2.2.2.2.2.1)) w210
          have k218 : m194 = ((J_X5_readPart (up2 sr 1 g109) (up2 sc 0 (upd (upd (sc 0) 1 x110) 2 x111)) st (up2 (up2 (up2 (up2 (up2 sh 0 (upd (upd (upd (upd (upd (upd (upd (upd (upd (sh 0) 0 m49) 1 x112) 6 x113) 7 x114) 8 x115) 9 x116) 10 x117) 11 x118) 12 x119)) 1 g120) 2 g121) 3 g122) 4 g123)).2.2.2.2.2.2.1) := congrArg (fun z => (z.2.2.2.2.2.2.1)) w210
          have k219 : m195 = ((J_X5_readPart (up2 sr 1 g109) (up2 sc 0 (upd (upd (sc 0) 1 x110) 2 x111)) st (up2 (up2 (up2 (up2 (up2 sh 0 (upd (upd (upd (upd (upd (upd (upd (upd (upd (sh 0) 0 m49) 1 x112) 6 x113) 7 x114) 8 x115) 9 x116) 10 x117) 11 x118) 12 x119)) 1 g120) 2 g121) 3 g122) 4 g123)).2.2.2.2.2.2.2.1) := congrArg (fun z => (z.2.2.2.2.2.2.2.1)) w210
          have k220 : m196 = ((J_X5_readPart (up2 sr 1 g109) (up2 sc 0 (upd (upd (sc 0) 1 x110) 2 x111)) st (up2 (up2 (up2 (up2 (up2 sh 0 (upd (upd (upd (upd (upd (upd (upd (upd (upd (sh 0) 0 m49) 1 x112) 6 x113) 7 x114) 8 x115) 9 x116) 10 x117) 11 x118) 12 x119)) 1 g120) 2 g121) 3 g122) 4 g123)).2.2.2.2.2.2.2.2.1) := congrArg (fun z => (z.2.2.2.2.2.2.2.2.1)) w210
          have k221 : m197 = ((J_X5_readPart (up2 sr 1 g109) (up2 sc 0 (upd (upd (sc 0) 1 x110) 2 x111)) st (up2 (up2 (up2 (up2 (up2 sh 0 (upd (upd (upd (upd (upd (upd (upd (upd (upd (sh 0) 0 m49) 1 x112) 6 x113) 7 x114) 8 x115) 9 x116) 10 x117) 11 x118) 12 x119)) 1 g120) 2 g121) 3 g122) 4 g123)).2.2.2.2.2.2.2.2.2.1) := congrArg (fun z => (z.2.2.2.2.2.2.2.2.2.1)) w210
          have k222 : m198 = ((J_X5_readPart (up2 sr 1 g109) (up2 sc 0 (upd (upd (sc 0) 1 x110) 2 x111)) st (up2 (up2 (up2 (up2 (up2 sh 0 (upd (upd (upd (upd (upd (upd (upd (upd (upd (sh 0) 0 m49) 1 x112) 6 x113) 7 x114) 8 x115) 9 x116) 10 x117) 11 x118) 12 x119)) 1 g120) 2 g121) 3 g122) 4 g123)).2.2.2.2.2.2.2.2.2.2.1) := congrArg (fun z => (z.2.2.2.2.2.2.2.2.2.2.1)) w210
          have k223 : m199 = ((J_X5_readPart (up2 sr 1 g109) (up2 sc 0 (upd (upd (sc 0) 1 x110) 2 x111)) st (up2 (up2 (up2 (up2 (up2 sh 0 (upd (upd (upd (upd (upd (upd (upd (upd (upd (sh 0) 0 m49) 1 x112) 6 x113) 7 x114) 8 x115) 9 x116) 10 x117) 11 x118) 12 x119)) 1 g120) 2 g121) 3 g122) 4 g123)).2.2.2.2.2.2.2.2.2.2.2.1) := congrArg (fun z => (z.2.2.2.2.2.2.2.2.2.2.2.1)) w210
          have k224 : m200 = ((J_X5_readPart (up2 sr 1 g109) (up2 sc 0 (upd (upd (sc 0) 1 x110) 2 x111)) st (up2 (up2 (up2 (up2 (up2 sh 0 (upd (upd (upd (upd (upd (upd (upd (upd (upd (sh 0) 0 m49) 1 x112) 6 x113) 7 x114) 8 x115) 9 x116) 10 x117) 11 x118) 12 x119)) 1 g120) 2 g121) 3 g122) 4 g123)).2.2.2.2.2.2.2.2.2.2.2.2.1) := congrArg (fun z => (z.2.2.2.2.2.2.2.2.2.2.2.2.1)) w210
          have k225 : m201 = ((J_X5_readPart (up2 sr 1 g109) (up2 sc 0 (upd (upd (sc 0) 1 x110) 2 x111)) st (up2 (up2 (up2 (up2 (up2 sh 0 (upd (upd (upd (upd (upd (upd (upd (upd (upd (sh 0) 0 m49) 1 x112) 6 x113) 7 x114) 8 x115) 9 x116) 10 x117) 11 x118) 12 x119)) 1 g120) 2 g121) 3 g122) 4 g123)).2.2.2.2.2.2.2.2.2.2.2.2.2.1) := congrArg (fun z => (z.2.2.2.2.2.2.2.2.2.2.2.2.2.1)) w210
          have k226 : m202 = ((J_X5_readPart (up2 sr 1 g109) (up2 sc 0 (upd (upd (sc 0) 1 x110) 2 x111)) st (up2 (up2 (up2 (up2 (up2 sh 0 (upd (upd (upd (upd (upd (upd (upd (upd (upd (sh 0) 0 m49) 1 x112) 6 x113) 7 x114) 8 x115) 9 x116) 10 x117) 11 x118) 12 x119)) 1 g120) 2 g121) 3 g122) 4 g123)).2.2.2.2.2.2.2.2.2.2.2.2.2.2) := congrArg (fun z => (z.2.2.2.2.2.2.2.2.2.2.2.2.2.2)) w210
          have hx_ := w210
          obtain ⟨v227, e227⟩ : ∃ z : Int32, z = v108 + 1 := ⟨_, rfl⟩
          refine lv_iinc (v := v227) (lv' := [(2, .int v227), (0, .ref (qr 0)), (1, .ref (qh 0))]) hx hb dX5_read_39 hl (k := 0) rfl (by rw [e227]; rfl) (by decide) rfl (fun ls hl => ?_)
          have t227 : v227.toInt = v108.toInt + 1 := by rw [e227]; exact i_add rfl (by decide) (by omega) (by omega)
          refine lv_goto (tgt := 18) hx hb dX5_read_42 (by decide) ?_
          exact ih18 v227 m190 m188 m189 m191 m196 m197 m198 m199 m200 m201 m202 m192 m193 m194 m195 _ _ _ (by omega) (by first | decide | omega) (by first | decide | omega) (by first | decide | omega) (by first | decide | omega) (by first | decide | omega) (cit_go qC (by omega) hhm_ hz_ hx_) qW w203 w208 w209 hP hD hS (lv_sub hl [0, 1, 2] rfl)
  have hlit228 : (0 : Int32).toInt = 0 := by decide
  exact hL18 (Int.toNat (64 - 0) + 1) 0 m48 m46 m47 m12 m17 m18 m19 m20 m21 m22 m23 m13 m14 m15 m16 _ _ _ (by omega) (by first | decide | omega) (by first | decide | omega) (by first | decide | omega) (by first | decide | omega) (by first | decide | omega) (rd_in hst_ hcl_ hrw_ (by decide)).1 (rd_in hst_ hcl_ hrw_ (show 64 = 64 from rfl)).2 w50 w27 w28 hP hD hS (lv_sub hl [0, 1, 2] rfl)
theorem fw_X8_read_20 : Cond.fieldLink RX8 20 "StillInAugust$RuleReader" "cursor" "LStillInAugust$Cursor;" ∈ wsX8_read := by decide +kernel
theorem fw_X8_read_31 : Cond.fieldLink RX8 31 "StillInAugust$RuleReader" "untoldWeeks" "I" ∈ wsX8_read := by decide +kernel
theorem nd_X8_readEnd : yX8_readEnd.cls = RX8 ∧ yX8_readEnd.cls ≠ "java/lang/invoke/MethodHandle" ∧ yX8_readEnd.cls ≠ "java/lang/invoke/VarHandle" ∧ (parseMethodDescriptor yX8_readEnd.desc).map (fun d => d.parameters.length) = some 0 := by decide +kernel
theorem nd_X8_readException : yX8_readException.cls = RX8 ∧ yX8_readException.cls ≠ "java/lang/invoke/MethodHandle" ∧ yX8_readException.cls ≠ "java/lang/invoke/VarHandle" ∧ (parseMethodDescriptor yX8_readException.desc).map (fun d => d.parameters.length) = some 0 := by decide +kernel
theorem iw_X8_read_X8 : ∀ w ∈ u_ws RX8 TX8 4, w ∈ wsX8_read := fun _ h => List.mem_cons_of_mem _ (List.mem_append_left _ (List.mem_append_left _ (List.mem_append_right _ h)))
set_option maxHeartbeats 4000000 in
set_option maxRecDepth 100000 in
theorem c_X8_read (l : Launch) (D : va_G) (k : Nat → ClassId) (b : Nat → Nat) (qr : Nat → Nat) (sr : Nat → Nat → Int32) (qc : Nat → Nat) (sc : Nat → Nat → Int32) (qt : Nat → Nat) (st : Nat → Nat → Int32) (sz : Nat) (h_len : 0 ≤ (st 0 1).toInt ∧ (st 0 1).toInt ≤ 64) : MetI l D k b yX8_read wsX8_read ({ frames := 4, cells := 0, slots := 0, locals := 85 } : Room) [cell93_ qr qc sr, cell0_ k qr sr, cell58_ qc qt sc, cell49_ qt st, cell27_ k qt st] sz [.ref (qr 0)] (fun (r : Int32) (u : Int32 × Int32 × Int32 × (Nat → Int32) × Int32) => (0 ≤ (u.2.2.1).toInt ∧ (u.2.2.1).toInt ≤ 31) ∧ ((r, (u.1), (u.2.1), (u.2.2.1), (u.2.2.2.1), (u.2.2.2.2)) = J_X8_read sr sc st)) (fun u => [cell207_ qr qc (u.2.2.2.2) (u.2.2.1), cell85_ k qr (u.2.2.2.1), cell60_ qc qt (u.1) (u.2.1), cell49_ qt st, cell27_ k qt st]) := by
  refine g_enter (cc := cX8_read) (maxL := 2) (ret := (some .int)) (by decide) rfl (Nat.le_of_ble_eq_true rfl) ?_
  intro p e s m below meth c A hsz hAe cx hr hP hD hS ls hl
  rw [hAe]
  refine g_q (fun Q hQ => ?_)
  have hx := cx.1.1
  have hb := cx.1.2.1
  have hl : lv_has ls 2 [(0, .ref (qr 0))] := hl
  obtain ⟨H, eH⟩ : ∃ H : Heap, H = s.heap := ⟨_, rfl⟩
  obtain ⟨locs, el⟩ : ∃ L : List Loc, L = [] := ⟨_, rfl⟩
  have hP : va_P D vwCl [cell93_ qr qc sr, cell0_ k qr sr, cell58_ qc qt sc, cell49_ qt st, cell27_ k qt st] H := by rw [eH]; exact hP
  have hD : va_D A [cell93_ qr qc sr, cell0_ k qr sr, cell58_ qc qt sc, cell49_ qt st, cell27_ k qt st] := hD
  have hS : va_S A s.heap H locs := by rw [eH, el]; exact hS
  suffices goal : W p l e ({ frames := 4, cells := 0, slots := 0, locals := 85 } : Room) s m ([.ref (qr 0)] : List Value).toArray below meth c H locs 0 0 Q (F0 m 0 ls []) by rw [eH, el] at goal; exact goal
  refine lv_aload_n hx hb dX8_read_0 rfl (lv_at hl 0 rfl) ?_
  refine g_get cx hP iw_X8_read_X8 0 rfl rfl 0 (by decide) rfl fw_X8_read_20 rfl dX8_read_1 ?_
  refine g_v (w1 := fun (u : Int32 × Int32) => [cell60_ qc qt (u.1) (u.2), cell49_ qt st, cell27_ k qt st]) (g_runV (wc := [cell58_ qc qt sc, cell49_ qt st, cell27_ k qt st]) (rest := []) cx hP hD hS [2, 3, 4] rfl (by decide) [] (c_X2_start l D k b qc sc qt st H.size) gX8_read_X2_start rfl rfl rfl nd_X2_start ⟨Nat.le_of_ble_eq_true rfl, Nat.le_of_ble_eq_true rfl⟩ (ci := 1) (q0 := 0) rfl rfl rfl hl.1 rfl (Nat.le_of_ble_eq_true rfl) ⟨Nat.zero_le _, Nat.zero_le _⟩ dX8_read_4) cx.2.2.1 hP hD hS [2, 3, 4] rfl (fun _ => rfl) (fun u2 H locs hw1 hP hD hS => ?_)
  obtain ⟨m3, m4⟩ := u2
  have hP : va_P D vwCl [cell93_ qr qc sr, cell0_ k qr sr, cell60_ qc qt m3 m4, cell49_ qt st, cell27_ k qt st] H := hP
  have hD : va_D A [cell93_ qr qc sr, cell0_ k qr sr, cell60_ qc qt m3 m4, cell49_ qt st, cell27_ k qt st] := hD
  have w5 : (m3, m4) = J_X2_start sc st := hw1
  clear hw1
  have k7 : m3 = ((J_X2_start sc st).1) := congrArg (fun z => (z.1)) w5
  have k8 : m4 = ((J_X2_start sc st).2) := congrArg (fun z => (z.2)) w5
  have hst_ := w5
  refine lv_aload_n hx hb dX8_read_7 rfl (lv_at hl 0 rfl) ?_
  refine lv_iconst (v := 0) hx hb dX8_read_8 (by decide) ?_
  refine lv_iconst (v := 4) hx hb dX8_read_9 (by decide) ?_
  have hlit9 : (0 : Int32).toInt = 0 := by decide
  have hlit10 : (4 : Int32).toInt = 4 := by decide
  refine g_ir (g_runS (wc := []) (rest := [.ref (qr 0)]) cx hP hD hS [] rfl (by decide) [.int 0, .int 4] (c_X2_figures l D k b H.size 0 4) gX8_read_X2_figures rfl rfl rfl nd_X2_figures ⟨Nat.le_of_ble_eq_true rfl, Nat.le_of_ble_eq_true rfl⟩ rfl hl.1 rfl (Nat.le_of_ble_eq_true rfl) ⟨Nat.zero_le _, Nat.zero_le _⟩ dX8_read_10) cx.2.2.1 hP hD hS [] rfl rfl (fun r12 H locs hw11 hP hS => ?_)
  have w13 : r12 = J_X2_figures (0 : Int32) (4 : Int32) := hw11
  clear hw11
  have zr12 : r12.toInt = 31 := by rw [w13]; decide
  have hfg_ := w13
  refine g_pt cx hP hD hS iw_X8_read_X8 tyX8 tyX8_ok nmX8 0 rfl rfl 3 (by decide) rfl fw_X8_read_31 (ty := .int) rfl rfl rfl (Nat.le_of_ble_eq_true rfl) dX8_read_13 (fun H locs hP hD hS => ?_)
  have hP : va_P D vwCl [cell134_ qr qc sr r12, cell0_ k qr sr, cell60_ qc qt m3 m4, cell49_ qt st, cell27_ k qt st] H := hP
  have hD : va_D A [cell134_ qr qc sr r12, cell0_ k qr sr, cell60_ qc qt m3 m4, cell49_ qt st, cell27_ k qt st] := hD
  refine lv_iconst (v := 0) hx hb dX8_read_16 (by decide) ?_
  refine lv_istore_n (lv' := [(1, .int 0), (0, .ref (qr 0))]) hx hb dX8_read_17 rfl hl (by decide) rfl (fun ls hl => ?_)
  have hL18 : ∀ (n45 : Nat) (v40 : Int32) (x41 : Int32) (g42 : Nat → Int32) (x43 : Int32) (x44 : Int32) (H : Heap) (locs : List Loc) (ls : Array Slot), 5 - v40.toInt < (n45 : Int) → (0 ≤ v40.toInt ∧ v40.toInt ≤ 5) → (0 ≤ x41.toInt ∧ x41.toInt ≤ 31) → (DIT sr sc st (Int.toNat (5 - v40.toInt)) (x43, x44, x41, g42) = DB sr sc st) → va_P D vwCl [cell134_ qr qc sr x41, (qr 1, .inl (k 0, 5, .inl g42)), cell60_ qc qt x43 x44, cell49_ qt st, cell27_ k qt st] H → va_D A [cell134_ qr qc sr x41, (qr 1, .inl (k 0, 5, .inl g42)), cell60_ qc qt x43 x44, cell49_ qt st, cell27_ k qt st] → va_S A s.heap H locs → lv_has ls 2 [(1, .int v40), (0, .ref (qr 0))] → W p l e ({ frames := 4, cells := 0, slots := 0, locals := 85 } : Room) s m ([.ref (qr 0)] : List Value).toArray below meth c H locs 0 0 Q (F0 m 18 ls []) := by
    intro n45
    induction n45 with
    | zero => intro v40 x41 g42 x43 x44 H locs ls hmn45 bv40 bx41 qD hP hD hS hl; exact absurd hmn45 (by omega)
    | succ n45 ih18 =>
      intro v40 x41 g42 x43 x44 H locs ls hmn45 bv40 bx41 qD hP hD hS hl
      refine lv_iload_n hx hb dX8_read_18 rfl (lv_at hl 0 rfl) ?_
      refine lv_iconst (v := 5) hx hb dX8_read_19 (by decide) ?_
      have hJ55 : ∀  (H : Heap) (locs : List Loc) (ls : Array Slot), ((x43, x44, x41, g42) = DB sr sc st) → va_P D vwCl [cell134_ qr qc sr x41, (qr 1, .inl (k 0, 5, .inl g42)), cell60_ qc qt x43 x44, cell49_ qt st, cell27_ k qt st] H → va_D A [cell134_ qr qc sr x41, (qr 1, .inl (k 0, 5, .inl g42)), cell60_ qc qt x43 x44, cell49_ qt st, cell27_ k qt st] → va_S A s.heap H locs → lv_has ls 2 [(0, .ref (qr 0))] → W p l e ({ frames := 4, cells := 0, slots := 0, locals := 85 } : Room) s m ([.ref (qr 0)] : List Value).toArray below meth c H locs 0 0 Q (F0 m 55 ls []) := by
        intro  H locs ls qe hP hD hS hl
        refine lv_aload_n hx hb dX8_read_55 rfl (lv_at hl 0 rfl) ?_
        refine g_vF (w1 := fun (u : Int32 × Int32 × Int32) => [cell207_ qr qc (u.2.2) x41, (qr 1, .inl (k 0, 5, .inl g42)), cell60_ qc qt (u.1) (u.2.1), cell49_ qt st, cell27_ k qt st]) (g_runVF (ws := [cell134_ qr qc sr x41, (qr 1, .inl (k 0, 5, .inl g42)), cell60_ qc qt x43 x44, cell49_ qt st, cell27_ k qt st]) (rest := []) cx hP hD hS [] (c_X8_readEnd l D k b qr (up2 (up2 sr 0 (upd (sr 0) 3 x41)) 1 g42) qc (up2 sc 0 (upd (upd (sc 0) 1 x43) 2 x44)) qt st H.size (show 0 ≤ (st 0 1).toInt ∧ (st 0 1).toInt ≤ 64 from by first | decide | omega)) gX8_read_X8_readEnd rfl rfl rfl nd_X8_readEnd ⟨Nat.le_of_ble_eq_true rfl, Nat.le_of_ble_eq_true rfl⟩ (ci := 6) (q0 := 0) rfl rfl rfl hl.1 rfl (Nat.le_of_ble_eq_true rfl) ⟨Nat.zero_le _, Nat.zero_le _⟩ dX8_read_56) cx.2.2.1 hD hS (fun u73 H locs hw72 hP hD hS => ?_)
        obtain ⟨m74, m75, m76⟩ := u73
        have hP : va_P D vwCl [cell207_ qr qc m76 x41, (qr 1, .inl (k 0, 5, .inl g42)), cell60_ qc qt m74 m75, cell49_ qt st, cell27_ k qt st] H := hP
        have hD : va_D A [cell207_ qr qc m76 x41, (qr 1, .inl (k 0, 5, .inl g42)), cell60_ qc qt m74 m75, cell49_ qt st, cell27_ k qt st] := hD
        have w77 : (m74, m75, m76) = J_X8_readEnd (up2 (up2 sr 0 (upd (sr 0) 3 x41)) 1 g42) (up2 sc 0 (upd (upd (sc 0) 1 x43) 2 x44)) st := hw72
        clear hw72
        have k79 : m74 = ((J_X8_readEnd (up2 (up2 sr 0 (upd (sr 0) 3 x41)) 1 g42) (up2 sc 0 (upd (upd (sc 0) 1 x43) 2 x44)) st).1) := congrArg (fun z => (z.1)) w77
        have k80 : m75 = ((J_X8_readEnd (up2 (up2 sr 0 (upd (sr 0) 3 x41)) 1 g42) (up2 sc 0 (upd (upd (sc 0) 1 x43) 2 x44)) st).2.1) := congrArg (fun z => (z.2.1)) w77
        have k81 : m76 = ((J_X8_readEnd (up2 (up2 sr 0 (upd (sr 0) 3 x41)) 1 g42) (up2 sc 0 (upd (upd (sc 0) 1 x43) 2 x44)) st).2.2) := congrArg (fun z => (z.2.2)) w77
        have hre_ := w77
        refine lv_aload_n hx hb dX8_read_59 rfl (lv_at hl 0 rfl) ?_
        refine g_get cx hP iw_X8_read_X8 0 rfl rfl 0 (by decide) rfl fw_X8_read_20 rfl dX8_read_60 ?_
        refine g_ir (g_runV (wc := [cell60_ qc qt m74 m75, cell49_ qt st, cell27_ k qt st]) (rest := []) cx hP hD hS [2, 3, 4] rfl (by decide) [] (c_X2_stoppedAt l D k b qc (up2 sc 0 (upd (upd (sc 0) 1 m74) 2 m75)) qt st H.size) gX8_read_X2_stoppedAt rfl rfl rfl nd_X2_stoppedAt ⟨Nat.le_of_ble_eq_true rfl, Nat.le_of_ble_eq_true rfl⟩ (ci := 1) (q0 := 0) rfl rfl rfl hl.1 rfl (Nat.le_of_ble_eq_true rfl) ⟨Nat.zero_le _, Nat.zero_le _⟩ dX8_read_63) cx.2.2.1 hP hD hS [2, 3, 4] rfl rfl (fun r83 H locs hw82 hP hS => ?_)
        have w84 : r83 = J_X2_stoppedAt (up2 sc 0 (upd (upd (sc 0) 1 m74) 2 m75)) st := hw82
        clear hw82
        have k86 : r83 = (J_X2_stoppedAt (up2 sc 0 (upd (upd (sc 0) 1 m74) 2 m75)) st) := congrArg (fun z => z) w84
        have hsa_ := w84
        rw [hQ]
        exact x_i cx hr (m74, m75, x41, g42, m76) hP hD hS ⟨(show 0 ≤ x41.toInt ∧ x41.toInt ≤ 31 from by omega), (show (r83, m74, m75, x41, g42, m76) = J_X8_read sr sc st from r8_end qe hre_ hsa_)⟩ dX8_read_66
      refine lv_icmp_ge (tgt := 55) hx hb dX8_read_20 (by decide) (fun c87 => ?_) (fun c87 => ?_)
      · have f87 : 5 ≤ v40.toInt := f_le (by decide) rfl c87
        exact hJ55  _ _ _ (by first | exact dit_z qD (by omega) | exact dit_e qD (by omega) hhm_ hz_ | exact dit_e2 qD (by omega) hhm_ hz_ hhe_ hy_) hP hD hS (lv_sub hl [1] rfl)
      · have f87 : v40.toInt < 5 := f_nle (by decide) rfl c87
        refine lv_aload_n hx hb dX8_read_23 rfl (lv_at hl 1 rfl) ?_
        refine g_get cx hP iw_X8_read_X8 0 rfl rfl 0 (by decide) rfl fw_X8_read_20 rfl dX8_read_24 ?_
        refine g_ir (g_runV (wc := [cell60_ qc qt x43 x44, cell49_ qt st, cell27_ k qt st]) (rest := []) cx hP hD hS [2, 3, 4] rfl (by decide) [] (c_X2_hasMore l D k b qc (up2 sc 0 (upd (upd (sc 0) 1 x43) 2 x44)) qt st H.size) gX8_read_X2_hasMore rfl rfl rfl nd_X2_hasMore ⟨Nat.le_of_ble_eq_true rfl, Nat.le_of_ble_eq_true rfl⟩ (ci := 1) (q0 := 0) rfl rfl rfl hl.1 rfl (Nat.le_of_ble_eq_true rfl) ⟨Nat.zero_le _, Nat.zero_le _⟩ dX8_read_27) cx.2.2.1 hP hD hS [2, 3, 4] rfl rfl (fun r89 H locs hw88 hP hS => ?_)
        replace hw88 : (0 ≤ r89.toInt ∧ r89.toInt ≤ 1) ∧ (r89 = J_X2_hasMore (up2 sc 0 (upd (upd (sc 0) 1 x43) 2 x44)) st) := hw88
        obtain ⟨w90, w91⟩ := hw88
        have k93 : r89 = (J_X2_hasMore (up2 sc 0 (upd (upd (sc 0) 1 x43) 2 x44)) st) := congrArg (fun z => z) w91
        have hhm_ := w91
        refine lv_if_eq (tgt := 55) hx hb dX8_read_30 (by decide) (fun c94 => ?_) (fun c94 => ?_)
        · have f94 : r89.toInt = 0 := f_eq rfl (by decide) c94
          have hz_ := c94
          exact hJ55  _ _ _ (by first | exact dit_z qD (by omega) | exact dit_e qD (by omega) hhm_ hz_ | exact dit_e2 qD (by omega) hhm_ hz_ hhe_ hy_) hP hD hS (lv_sub hl [1] rfl)
        · have f94 : ¬ r89.toInt = 0 := f_ne rfl (by decide) c94
          have hz_ := c94
          refine lv_aload_n hx hb dX8_read_33 rfl (lv_at hl 1 rfl) ?_
          refine g_get cx hP iw_X8_read_X8 0 rfl rfl 0 (by decide) rfl fw_X8_read_20 rfl dX8_read_34 ?_
          refine g_ir (g_runV (wc := [cell60_ qc qt x43 x44, cell49_ qt st, cell27_ k qt st]) (rest := []) cx hP hD hS [2, 3, 4] rfl (by decide) [] (c_X2_here l D k b qc (up2 sc 0 (upd (upd (sc 0) 1 x43) 2 x44)) qt st H.size (show 0 ≤ (st 0 1).toInt ∧ (st 0 1).toInt ≤ 64 from by first | decide | omega)) gX8_read_X2_here rfl rfl rfl nd_X2_here ⟨Nat.le_of_ble_eq_true rfl, Nat.le_of_ble_eq_true rfl⟩ (ci := 1) (q0 := 0) rfl rfl rfl hl.1 rfl (Nat.le_of_ble_eq_true rfl) ⟨Nat.zero_le _, Nat.zero_le _⟩ dX8_read_37) cx.2.2.1 hP hD hS [2, 3, 4] rfl rfl (fun r96 H locs hw95 hP hS => ?_)
          replace hw95 : (-9 ≤ r96.toInt ∧ r96.toInt ≤ 255) ∧ (r96 = J_X2_here (up2 sc 0 (upd (upd (sc 0) 1 x43) 2 x44)) st) := hw95
          obtain ⟨w97, w98⟩ := hw95
          have k100 : r96 = (J_X2_here (up2 sc 0 (upd (upd (sc 0) 1 x43) 2 x44)) st) := congrArg (fun z => z) w98
          have hhe_ := w98
          refine lv_bipush (v := 76) hx hb dX8_read_40 (by decide) ?_
          refine lv_icmp_eq (tgt := 55) hx hb dX8_read_42 (by decide) (fun c101 => ?_) (fun c101 => ?_)
          · have f101 : r96.toInt = 76 := f_eq rfl (by decide) c101
            have hy_ := c101
            exact hJ55  _ _ _ (by first | exact dit_z qD (by omega) | exact dit_e qD (by omega) hhm_ hz_ | exact dit_e2 qD (by omega) hhm_ hz_ hhe_ hy_) hP hD hS (lv_sub hl [1] rfl)
          · have f101 : ¬ r96.toInt = 76 := f_ne rfl (by decide) c101
            have hy_ := c101
            refine lv_aload_n hx hb dX8_read_45 rfl (lv_at hl 1 rfl) ?_
            refine g_vF (w1 := fun (u : Int32 × Int32 × Int32 × (Nat → Int32)) => [cell134_ qr qc sr (u.2.2.1), cell85_ k qr (u.2.2.2), cell60_ qc qt (u.1) (u.2.1), cell49_ qt st, cell27_ k qt st]) (g_runVF (ws := [cell134_ qr qc sr x41, (qr 1, .inl (k 0, 5, .inl g42)), cell60_ qc qt x43 x44, cell49_ qt st, cell27_ k qt st]) (rest := []) cx hP hD hS [] (c_X8_readException l D k b qr (up2 (up2 sr 0 (upd (sr 0) 3 x41)) 1 g42) qc (up2 sc 0 (upd (upd (sc 0) 1 x43) 2 x44)) qt st H.size (show 0 ≤ (st 0 1).toInt ∧ (st 0 1).toInt ≤ 64 from by first | decide | omega) (show 0 ≤ x41.toInt ∧ x41.toInt ≤ 31 from by first | decide | omega)) gX8_read_X8_readException rfl rfl rfl nd_X8_readException ⟨Nat.le_of_ble_eq_true rfl, Nat.le_of_ble_eq_true rfl⟩ (ci := 6) (q0 := 0) rfl rfl rfl hl.1 rfl (Nat.le_of_ble_eq_true rfl) ⟨Nat.zero_le _, Nat.zero_le _⟩ dX8_read_46) cx.2.2.1 hD hS (fun u103 H locs hw102 hP hD hS => ?_)
            obtain ⟨m104, m105, m106, m107⟩ := u103
            have hP : va_P D vwCl [cell134_ qr qc sr m106, (qr 1, .inl (k 0, 5, .inl m107)), cell60_ qc qt m104 m105, cell49_ qt st, cell27_ k qt st] H := hP
            have hD : va_D A [cell134_ qr qc sr m106, (qr 1, .inl (k 0, 5, .inl m107)), cell60_ qc qt m104 m105, cell49_ qt st, cell27_ k qt st] := hD
            replace hw102 : (0 ≤ m106.toInt ∧ m106.toInt ≤ 31) ∧ ((m104, m105, m106, m107) = J_X8_readException (up2 (up2 sr 0 (upd (sr 0) 3 x41)) 1 g42) (up2 sc 0 (upd (upd (sc 0) 1 x43) 2 x44)) st) := hw102
            obtain ⟨w108, w109⟩ := hw102
            have k111 : m104 = ((J_X8_readException (up2 (up2 sr 0 (upd (sr 0) 3 x41)) 1 g42) (up2 sc 0 (upd (upd (sc 0) 1 x43) 2 x44)) st).1) := congrArg (fun z => (z.1)) w109
            have k112 : m105 = ((J_X8_readException (up2 (up2 sr 0 (upd (sr 0) 3 x41)) 1 g42) (up2 sc 0 (upd (upd (sc 0) 1 x43) 2 x44)) st).2.1) := congrArg (fun z => (z.2.1)) w109
            have k113 : m106 = ((J_X8_readException (up2 (up2 sr 0 (upd (sr 0) 3 x41)) 1 g42) (up2 sc 0 (upd (upd (sc 0) 1 x43) 2 x44)) st).2.2.1) := congrArg (fun z => (z.2.2.1)) w109
            have k114 : m107 = ((J_X8_readException (up2 (up2 sr 0 (upd (sr 0) 3 x41)) 1 g42) (up2 sc 0 (upd (upd (sc 0) 1 x43) 2 x44)) st).2.2.2) := congrArg (fun z => (z.2.2.2)) w109
            have hx_ := w109
            obtain ⟨v115, e115⟩ : ∃ z : Int32, z = v40 + 1 := ⟨_, rfl⟩
            refine lv_iinc (v := v115) (lv' := [(1, .int v115), (0, .ref (qr 0))]) hx hb dX8_read_49 hl (k := 0) rfl (by rw [e115]; rfl) (by decide) rfl (fun ls hl => ?_)
            have t115 : v115.toInt = v40.toInt + 1 := by rw [e115]; exact i_add rfl (by decide) (by omega) (by omega)
            refine lv_goto (tgt := 18) hx hb dX8_read_52 (by decide) ?_
            exact ih18 v115 m106 m107 m104 m105 _ _ _ (by omega) (by first | decide | omega) (by first | decide | omega) (dit_go qD (by omega) hhm_ hz_ hhe_ hy_ hx_) hP hD hS (lv_sub hl [0, 1] rfl)
  have hlit116 : (0 : Int32).toInt = 0 := by decide
  exact hL18 (Int.toNat (5 - 0) + 1) 0 r12 (sr 1) m3 m4 _ _ _ (by omega) (by first | decide | omega) (by first | decide | omega) (r8_in hst_ hfg_ (by decide)) hP hD hS (lv_sub hl [0, 1] rfl)
theorem fw_X8_levelIn_31 : Cond.fieldLink RX8 31 "StillInAugust$RuleReader" "untoldWeeks" "I" ∈ wsX8_levelIn := by decide +kernel
theorem fw_X8_levelIn_62 : Cond.fieldLink RX8 62 "StillInAugust$RuleReader" "otherLevel" "I" ∈ wsX8_levelIn := by decide +kernel
theorem fw_X8_levelIn_9 : Cond.fieldLink RX8 9 "StillInAugust$RuleReader" "exceptLevel" "[I" ∈ wsX8_levelIn := by decide +kernel
theorem iw_X8_levelIn_X8 : ∀ w ∈ u_ws RX8 TX8 4, w ∈ wsX8_levelIn := fun _ h => List.mem_cons_of_mem _ (List.mem_append_right _ h)
def J_X8_levelIn (sr : Nat → Nat → Int32) (sc : Nat → Nat → Int32) (st : Nat → Nat → Int32) (p0 : Int32) : Int32 := if (((sr 0 3) >>> (p0 &&& 31)) &&& (1 : Int32)) = 0 then ((sr 1) (p0).toNatClampNeg) else (sr 0 2)
set_option maxHeartbeats 4000000 in
set_option maxRecDepth 100000 in
theorem c_X8_levelIn (l : Launch) (D : va_G) (k : Nat → ClassId) (b : Nat → Nat) (qr : Nat → Nat) (sr : Nat → Nat → Int32) (qc : Nat → Nat) (sc : Nat → Nat → Int32) (qt : Nat → Nat) (st : Nat → Nat → Int32) (sz : Nat) (p0 : Int32) (hp0 : 0 ≤ p0.toInt ∧ p0.toInt ≤ 4) : MetI l D k b yX8_levelIn wsX8_levelIn ({ frames := 0, cells := 0, slots := 0, locals := 0 } : Room) [cell93_ qr qc sr, cell0_ k qr sr, cell58_ qc qt sc, cell49_ qt st, cell27_ k qt st] sz [.ref (qr 0), .int p0] (fun (r : Int32) (u : Unit) => r = J_X8_levelIn sr sc st p0) (fun u => [cell93_ qr qc sr, cell0_ k qr sr, cell58_ qc qt sc, cell49_ qt st, cell27_ k qt st]) := by
  refine g_enter (cc := cX8_levelIn) (maxL := 2) (ret := (some .int)) (by decide) rfl (Nat.le_of_ble_eq_true rfl) ?_
  intro p e s m below meth c A hsz hAe cx hr hP hD hS ls hl
  rw [hAe]
  refine g_q (fun Q hQ => ?_)
  have hx := cx.1.1
  have hb := cx.1.2.1
  have bp0 := i_rng p0
  have hl : lv_has ls 2 [(0, .ref (qr 0)), (1, .int p0)] := hl
  obtain ⟨H, eH⟩ : ∃ H : Heap, H = s.heap := ⟨_, rfl⟩
  obtain ⟨locs, el⟩ : ∃ L : List Loc, L = [] := ⟨_, rfl⟩
  have hP : va_P D vwCl [cell93_ qr qc sr, cell0_ k qr sr, cell58_ qc qt sc, cell49_ qt st, cell27_ k qt st] H := by rw [eH]; exact hP
  have hD : va_D A [cell93_ qr qc sr, cell0_ k qr sr, cell58_ qc qt sc, cell49_ qt st, cell27_ k qt st] := hD
  have hS : va_S A s.heap H locs := by rw [eH, el]; exact hS
  suffices goal : W p l e ({ frames := 0, cells := 0, slots := 0, locals := 0 } : Room) s m ([.ref (qr 0), .int p0] : List Value).toArray below meth c H locs 0 0 Q (F0 m 0 ls []) by rw [eH, el] at goal; exact goal
  refine lv_aload_n hx hb dX8_levelIn_0 rfl (lv_at hl 0 rfl) ?_
  refine g_get cx hP iw_X8_levelIn_X8 0 rfl rfl 3 (by decide) rfl fw_X8_levelIn_31 rfl dX8_levelIn_1 ?_
  refine lv_iload_n hx hb dX8_levelIn_4 rfl (lv_at hl 1 rfl) ?_
  refine lv_ishr hx hb dX8_levelIn_5 (lv_topi (fun v1 e1 => ?_))
  refine lv_iconst (v := 1) hx hb dX8_levelIn_6 (by decide) ?_
  refine lv_iand hx hb dX8_levelIn_7 (lv_topi (fun v2 e2 => ?_))
  have t2 : 0 ≤ v2.toInt ∧ v2.toInt ≤ 1 := by rw [e2]; exact and_r (by decide) (by omega)
  refine lv_if_ne (tgt := 20) hx hb dX8_levelIn_8 (by decide) (fun c3 => ?_) (fun c3 => ?_)
  · have f3 : ¬ v2.toInt = 0 := f_ne rfl (by decide) c3
    refine lv_aload_n hx hb dX8_levelIn_20 rfl (lv_at hl 0 rfl) ?_
    refine g_get cx hP iw_X8_levelIn_X8 0 rfl rfl 2 (by decide) rfl fw_X8_levelIn_62 rfl dX8_levelIn_21 ?_
    rw [hQ]
    exact x_i cx hr () hP hD hS (show (sr 0 2) = J_X8_levelIn sr sc st p0 from by subst e1 e2; first | (refine Eq.symm ?_; refine Eq.trans (if_neg c3) ?_; rfl) | (unfold J_X8_levelIn; try dsimp only; rw [if_neg c3])) dX8_levelIn_24
  · have f3 : v2.toInt = 0 := f_eq rfl (by decide) c3
    refine lv_aload_n hx hb dX8_levelIn_11 rfl (lv_at hl 0 rfl) ?_
    refine g_get cx hP iw_X8_levelIn_X8 0 rfl rfl 1 (by decide) rfl fw_X8_levelIn_9 rfl dX8_levelIn_12 ?_
    refine lv_iload_n hx hb dX8_levelIn_15 rfl (lv_at hl 1 rfl) ?_
    have hn4 : vp_in p0 5 := f_in (a := p0.toInt) rfl (by omega) (by omega)
    refine va_iald hx hb cx.2.1 hP 1 0 rfl rfl hn4 dX8_levelIn_16 (lv_topi (fun v5 e5 => ?_))
    refine lv_goto (tgt := 24) hx hb dX8_levelIn_17 (by decide) ?_
    rw [hQ]
    exact x_i cx hr () hP hD hS (show v5 = J_X8_levelIn sr sc st p0 from by subst e1 e2 e5; first | (refine Eq.symm ?_; refine Eq.trans (if_pos c3) ?_; rfl) | (unfold J_X8_levelIn; try dsimp only; rw [if_pos c3])) dX8_levelIn_24
theorem fw_X8_exceptions_31 : Cond.fieldLink RX8 31 "StillInAugust$RuleReader" "untoldWeeks" "I" ∈ wsX8_exceptions := by decide +kernel
theorem nd_J6_bitCount_0f7a4 : yJ6_bitCount_0f7a4.cls ≠ "java/lang/invoke/MethodHandle" ∧ yJ6_bitCount_0f7a4.cls ≠ "java/lang/invoke/VarHandle" ∧ (parseMethodDescriptor yJ6_bitCount_0f7a4.desc).map (fun d => d.parameters.length) = some 1 := by decide +kernel
theorem iw_X8_exceptions_X8 : ∀ w ∈ u_ws RX8 TX8 4, w ∈ wsX8_exceptions := fun _ h => List.mem_cons_of_mem _ (List.mem_append_right _ h)
def J_X8_exceptions (sr : Nat → Nat → Int32) (sc : Nat → Nat → Int32) (st : Nat → Nat → Int32) : Int32 := ((5 : Int32) - (J_J6_bitCount_0f7a4 (sr 0 3)))
set_option maxHeartbeats 4000000 in
set_option maxRecDepth 100000 in
theorem c_X8_exceptions (l : Launch) (D : va_G) (k : Nat → ClassId) (b : Nat → Nat) (qr : Nat → Nat) (sr : Nat → Nat → Int32) (qc : Nat → Nat) (sc : Nat → Nat → Int32) (qt : Nat → Nat) (st : Nat → Nat → Int32) (sz : Nat) : MetI l D k b yX8_exceptions wsX8_exceptions ({ frames := 1, cells := 0, slots := 0, locals := 20 } : Room) [cell93_ qr qc sr, cell0_ k qr sr, cell58_ qc qt sc, cell49_ qt st, cell27_ k qt st] sz [.ref (qr 0)] (fun (r : Int32) (u : Unit) => r = J_X8_exceptions sr sc st) (fun u => [cell93_ qr qc sr, cell0_ k qr sr, cell58_ qc qt sc, cell49_ qt st, cell27_ k qt st]) := by
  refine g_enter (cc := cX8_exceptions) (maxL := 1) (ret := (some .int)) (by decide) rfl (Nat.le_of_ble_eq_true rfl) ?_
  intro p e s m below meth c A hsz hAe cx hr hP hD hS ls hl
  rw [hAe]
  refine g_q (fun Q hQ => ?_)
  have hx := cx.1.1
  have hb := cx.1.2.1
  have hl : lv_has ls 1 [(0, .ref (qr 0))] := hl
  obtain ⟨H, eH⟩ : ∃ H : Heap, H = s.heap := ⟨_, rfl⟩
  obtain ⟨locs, el⟩ : ∃ L : List Loc, L = [] := ⟨_, rfl⟩
  have hP : va_P D vwCl [cell93_ qr qc sr, cell0_ k qr sr, cell58_ qc qt sc, cell49_ qt st, cell27_ k qt st] H := by rw [eH]; exact hP
  have hD : va_D A [cell93_ qr qc sr, cell0_ k qr sr, cell58_ qc qt sc, cell49_ qt st, cell27_ k qt st] := hD
  have hS : va_S A s.heap H locs := by rw [eH, el]; exact hS
  suffices goal : W p l e ({ frames := 1, cells := 0, slots := 0, locals := 20 } : Room) s m ([.ref (qr 0)] : List Value).toArray below meth c H locs 0 0 Q (F0 m 0 ls []) by rw [eH, el] at goal; exact goal
  refine lv_iconst (v := 5) hx hb dX8_exceptions_0 (by decide) ?_
  refine lv_aload_n hx hb dX8_exceptions_1 rfl (lv_at hl 0 rfl) ?_
  refine g_get cx hP iw_X8_exceptions_X8 0 rfl rfl 3 (by decide) rfl fw_X8_exceptions_31 rfl dX8_exceptions_2 ?_
  refine g_ir (g_runS (wc := []) (rest := [.int 5]) cx hP hD hS [] rfl (by decide) [.int (sr 0 3)] (c_J6_bitCount_0f7a4 l D k b H.size (sr 0 3)) gX8_exceptions_J6_bitCount_0f7a4 rfl rfl rfl nd_J6_bitCount_0f7a4 ⟨Nat.le_of_ble_eq_true rfl, Nat.le_of_ble_eq_true rfl⟩ rfl hl.1 rfl (Nat.le_of_ble_eq_true rfl) ⟨Nat.zero_le _, Nat.zero_le _⟩ dX8_exceptions_5) cx.2.2.1 hP hD hS [] rfl rfl (fun r2 H locs hw1 hP hS => ?_)
  have w3 : r2 = J_J6_bitCount_0f7a4 (sr 0 3) := hw1
  clear hw1
  refine lv_isub hx hb dX8_exceptions_8 (lv_topi (fun v4 e4 => ?_))
  rw [hQ]
  exact x_i cx hr () hP hD hS (show v4 = J_X8_exceptions sr sc st from by subst w3 e4; rfl) dX8_exceptions_9
