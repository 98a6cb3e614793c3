theorem im_X9_init_OL : Cond.methodLink RX9 1 objectInit ∈ wsX9_init := by decide +kernel
theorem im_X9_init_OI : Cond.instanceMethod objectInit ∈ wsX9_init := by decide +kernel
theorem im_X9_init_OC : Cond.code objectInit ⟨#[0xb1]⟩ 1 none ∈ wsX9_init := by decide +kernel
set_option maxHeartbeats 4000000 in
set_option maxRecDepth 100000 in
theorem c_X9_init (l : Launch) (D : va_G) (k : Nat → ClassId) (b : Nat → Nat) (a : Nat) (sz : Nat) : MetN l D k b yX9_init wsX9_init ({ frames := 1, cells := 0, slots := 0, locals := 20 } : Room) [cell55_ a 0 0 0 0 0 0] sz [.ref a] 0 0 (fun (u : Unit) => True) (fun u => [cell55_ a 0 0 0 0 0 0]) := by
  refine g_enterI (cc := cX9_init) (maxL := 1) (ret := none) (by decide) rfl (Nat.le_of_ble_eq_true rfl) ?_
  intro p e s m below meth c A hsz hAe cx hr hnm hP hD hS ls hl
  rw [hAe]
  refine g_q (fun Q hQ => ?_)
  have hx := cx.1.1
  have hb := cx.1.2.1
  have hl : lv_has ls 1 [(0, .ref a)] := hl
  obtain ⟨H, eH⟩ : ∃ H : Heap, H = s.heap := ⟨_, rfl⟩
  obtain ⟨locs, el⟩ : ∃ L : List Loc, L = [] := ⟨_, rfl⟩
  have hP : va_P D vwCl [cell55_ a 0 0 0 0 0 0] H := by rw [eH]; exact hP
  have hD : va_D A [cell55_ a 0 0 0 0 0 0] := hD
  have hS : va_S A s.heap H locs := by rw [eH, el]; exact hS
  suffices goal : W p l e ({ frames := 1, cells := 0, slots := 0, locals := 20 } : Room) s m ([.ref a] : List Value).toArray below meth c H locs 0 0 Q (F0 m 0 ls []) by rw [eH, el] at goal; exact goal
  refine lv_aload_n hx hb dX9_init_0 rfl (lv_at hl 0 rfl) ?_
  refine g_oi cx hl.1 im_X9_init_OL im_X9_init_OI im_X9_init_OC dX9_init_1 (Nat.le_of_ble_eq_true rfl) (Nat.le_of_ble_eq_true rfl) ?_
  rw [hQ]
  exact x_vN cx hr () hP hD hS trivial dX9_init_4
theorem im_X2_init_OL : Cond.methodLink RX2 3 objectInit ∈ wsX2_init := by decide +kernel
theorem im_X2_init_OI : Cond.instanceMethod objectInit ∈ wsX2_init := by decide +kernel
theorem im_X2_init_OC : Cond.code objectInit ⟨#[0xb1]⟩ 1 none ∈ wsX2_init := by decide +kernel
theorem fw_X2_init_9 : Cond.fieldLink RX2 9 "StillInAugust$Cursor" "text" "LStillInAugust$Text;" ∈ wsX2_init := by decide +kernel
theorem iw_X2_init_X2 : ∀ w ∈ u_ws RX2 TX2 3, w ∈ wsX2_init := fun _ h => List.mem_cons_of_mem _ (List.mem_append_right _ h)
set_option maxHeartbeats 4000000 in
set_option maxRecDepth 100000 in
theorem c_X2_init (l : Launch) (D : va_G) (k : Nat → ClassId) (b : Nat → Nat) (a : Nat) (t : Nat) (sz : Nat) : MetN l D k b yX2_init wsX2_init ({ frames := 1, cells := 0, slots := 0, locals := 20 } : Room) [(a, .inr (1, [.null, .int 0, .int 0]))] sz [.ref a, .ref t] 0 0 (fun (u : Unit) => True) (fun u => [cell94_ a t 0 0]) := by
  refine g_enterI (cc := cX2_init) (maxL := 2) (ret := none) (by decide) rfl (Nat.le_of_ble_eq_true rfl) ?_
  intro p e s m below meth c A hsz hAe cx hr hnm hP hD hS ls hl
  rw [hAe]
  refine g_q (fun Q hQ => ?_)
  have hx := cx.1.1
  have hb := cx.1.2.1
  have hl : lv_has ls 2 [(0, .ref a), (1, .ref t)] := hl
  obtain ⟨H, eH⟩ : ∃ H : Heap, H = s.heap := ⟨_, rfl⟩
  obtain ⟨locs, el⟩ : ∃ L : List Loc, L = [] := ⟨_, rfl⟩
  have hP : va_P D vwCl [(a, .inr (1, [.null, .int 0, .int 0]))] H := by rw [eH]; exact hP
  have hD : va_D A [(a, .inr (1, [.null, .int 0, .int 0]))] := hD
  have hS : va_S A s.heap H locs := by rw [eH, el]; exact hS
  suffices goal : W p l e ({ frames := 1, cells := 0, slots := 0, locals := 20 } : Room) s m ([.ref a, .ref t] : List Value).toArray below meth c H locs 0 0 Q (F0 m 0 ls []) by rw [eH, el] at goal; exact goal
  refine lv_aload_n hx hb dX2_init_0 rfl (lv_at hl 0 rfl) ?_
  refine g_oi cx hl.1 im_X2_init_OL im_X2_init_OI im_X2_init_OC dX2_init_1 (Nat.le_of_ble_eq_true rfl) (Nat.le_of_ble_eq_true rfl) ?_
  refine lv_aload_n hx hb dX2_init_4 rfl (lv_at hl 0 rfl) ?_
  refine lv_aload_n hx hb dX2_init_5 rfl (lv_at hl 1 rfl) ?_
  refine g_ptF cx hnm hP hD hS iw_X2_init_X2 tyX2 tyX2_ok nmX2 0 rfl rfl 0 (by decide) rfl rfl fw_X2_init_9 rfl rfl rfl (Nat.le_of_ble_eq_true rfl) dX2_init_6 (fun H locs hP hD hS => ?_)
  have hP : va_P D vwCl [cell94_ a t 0 0] H := hP
  have hD : va_D A [cell94_ a t 0 0] := hD
  rw [hQ]
  exact x_vN cx hr () hP hD hS trivial dX2_init_9
theorem im_X10_init_OL : Cond.methodLink RX10 3 objectInit ∈ wsX10_init := by decide +kernel
theorem im_X10_init_OI : Cond.instanceMethod objectInit ∈ wsX10_init := by decide +kernel
theorem im_X10_init_OC : Cond.code objectInit ⟨#[0xb1]⟩ 1 none ∈ wsX10_init := by decide +kernel
theorem im_X10_init_AB : Cond.arrayClass .byte ∈ wsX10_init := by decide +kernel
theorem fw_X10_init_11 : Cond.fieldLink RX10 11 "StillInAugust$Text" "bytes" "[B" ∈ wsX10_init := by decide +kernel
theorem iw_X10_init_X10 : ∀ w ∈ u_ws RX10 TX10 2, w ∈ wsX10_init := fun _ h => List.mem_cons_of_mem _ (List.mem_append_right _ h)
set_option maxHeartbeats 4000000 in
set_option maxRecDepth 100000 in
theorem c_X10_init (l : Launch) (D : va_G) (k : Nat → ClassId) (b : Nat → Nat) (a : Nat) (sz : Nat) : MetN l D k b yX10_init wsX10_init ({ frames := 1, cells := 1, slots := 64, locals := 20 } : Room) [(a, .inr (8, [.null, .int 0]))] sz [.ref a] 1 64 (fun (u : (Nat → Nat) × (Nat → Nat → Int32)) => ((u.2) 0 1).toInt = 0) (fun u => [cell144_ a ((u.1) 1) ((u.2) 0 1), cell138_ k ((u.1) 1) ((u.2) 1)]) := by
  refine g_enterI (cc := cX10_init) (maxL := 1) (ret := none) (by decide) rfl (Nat.le_of_ble_eq_true rfl) ?_
  intro p e s m below meth c A hsz hAe cx hr hnm hP hD hS ls hl
  rw [hAe]
  refine g_q (fun Q hQ => ?_)
  have hx := cx.1.1
  have hb := cx.1.2.1
  have hl : lv_has ls 1 [(0, .ref a)] := hl
  obtain ⟨H, eH⟩ : ∃ H : Heap, H = s.heap := ⟨_, rfl⟩
  obtain ⟨locs, el⟩ : ∃ L : List Loc, L = [] := ⟨_, rfl⟩
  have hP : va_P D vwCl [(a, .inr (8, [.null, .int 0]))] H := by rw [eH]; exact hP
  have hD : va_D A [(a, .inr (8, [.null, .int 0]))] := hD
  have hS : va_S A s.heap H locs := by rw [eH, el]; exact hS
  suffices goal : W p l e ({ frames := 1, cells := 1, slots := 64, locals := 20 } : Room) s m ([.ref a] : List Value).toArray below meth c H locs 0 0 Q (F0 m 0 ls []) by rw [eH, el] at goal; exact goal
  refine lv_aload_n hx hb dX10_init_0 rfl (lv_at hl 0 rfl) ?_
  refine g_oi cx hl.1 im_X10_init_OL im_X10_init_OI im_X10_init_OC dX10_init_1 (Nat.le_of_ble_eq_true rfl) (Nat.le_of_ble_eq_true rfl) ?_
  refine lv_aload_n hx hb dX10_init_4 rfl (lv_at hl 0 rfl) ?_
  refine lv_bipush (v := 64) hx hb dX10_init_5 (by decide) ?_
  refine g_nwB cx im_X10_init_AB hP hD hS (by decide) (show (64 : Int32).toNatClampNeg = 64 from by decide) (Nat.le_of_ble_eq_true rfl) (Nat.le_of_ble_eq_true rfl) (Nat.le_of_ble_eq_true rfl) dX10_init_7 (fun q1 H hP hD hS => ?_)
  have hP : va_P D vwCl [(a, .inr (8, [.null, .int 0])), cell138_ k q1 (fun _ => 0)] H := hP
  have hD : va_D A [(a, .inr (8, [.null, .int 0])), cell138_ k q1 (fun _ => 0)] := hD
  refine g_ptF cx hnm hP hD hS iw_X10_init_X10 tyX10 tyX10_ok nmX10 0 rfl rfl 0 (by decide) rfl rfl fw_X10_init_11 rfl rfl rfl (Nat.le_of_ble_eq_true rfl) dX10_init_9 (fun H locs hP hD hS => ?_)
  have hP : va_P D vwCl [cell144_ a q1 0, cell138_ k q1 (fun _ => 0)] H := hP
  have hD : va_D A [cell144_ a q1 0, cell138_ k q1 (fun _ => 0)] := hD
  rw [hQ]
  exact x_vN cx hr ((lq [a, q1]), (lS [(lI [0, 0]), (fun _ => 0)])) hP hD hS (show (0 : Int32).toInt = 0 from by first | decide | assumption | omega) dX10_init_12
theorem im_X5_init_OL : Cond.methodLink RX5 3 objectInit ∈ wsX5_init := by decide +kernel
theorem im_X5_init_OI : Cond.instanceMethod objectInit ∈ wsX5_init := by decide +kernel
theorem im_X5_init_OC : Cond.code objectInit ⟨#[0xb1]⟩ 1 none ∈ wsX5_init := by decide +kernel
theorem im_X5_init_AI : Cond.arrayClass .int ∈ wsX5_init := by decide +kernel
theorem im_X5_init_C15 : Cond.classLink RX5 15 RX2 ∈ wsX5_init := by decide +kernel
theorem im_X5_init_NX2 : Cond.instantiable RX2 3 ∈ wsX5_init := by decide +kernel
theorem im_X5_init_IX2 : Cond.initialized RX2 ∈ wsX5_init := by decide +kernel
theorem im_X5_init_L17 : Cond.methodLink RX5 17 yX2_init ∈ wsX5_init := by decide +kernel
theorem im_X5_init_MX2_init : Cond.instanceMethod yX2_init ∈ wsX5_init := by decide +kernel
theorem fw_X5_init_20 : Cond.fieldLink RX5 20 "StillInAugust$HouseReader" "cursor" "LStillInAugust$Cursor;" ∈ wsX5_init := by decide +kernel
theorem fw_X5_init_9 : Cond.fieldLink RX5 9 "StillInAugust$HouseReader" "untold" "[I" ∈ wsX5_init := by decide +kernel
theorem iw_X5_init_X2 : ∀ w ∈ u_ws RX2 TX2 3, w ∈ wsX5_init := fun _ h => List.mem_cons_of_mem _ (List.mem_append_right _ h)
theorem iw_X5_init_X5 : ∀ w ∈ u_ws RX5 TX5 2, w ∈ wsX5_init := fun _ h => List.mem_cons_of_mem _ (List.mem_append_left _ (List.mem_append_right _ h))
theorem ni_X2_init : yX2_init.cls ≠ "java/lang/invoke/MethodHandle" ∧ yX2_init.cls ≠ "java/lang/invoke/VarHandle" ∧ (parseMethodDescriptor yX2_init.desc).map (fun d => d.parameters.length) = some 1 := by decide +kernel
set_option maxHeartbeats 4000000 in
set_option maxRecDepth 100000 in
theorem c_X5_init (l : Launch) (D : va_G) (k : Nat → ClassId) (b : Nat → Nat) (a : Nat) (t : Nat) (sz : Nat) : MetN l D k b yX5_init wsX5_init ({ frames := 2, cells := 2, slots := 29, locals := 41 } : Room) [(a, .inr (3, [.null, .null]))] sz [.ref a, .ref t] 2 29 (fun (u : (Nat → Nat) × (Nat → Nat → Int32) × (Nat → Nat) × (Nat → Nat → Int32)) => (∀ j, 0 ≤ ((u.2.1) 1 j).toInt ∧ ((u.2.1) 1 j).toInt ≤ 31) ∧ (0 ≤ ((u.2.1) 1 3).toInt ∧ ((u.2.1) 1 3).toInt ≤ 7) ∧ (0 ≤ ((u.2.1) 1 16).toInt ∧ ((u.2.1) 1 16).toInt ≤ 7) ∧ (U0 ((u.2.1) 1))) (fun u => [cell145_ a ((u.2.2.1) 0) ((u.1) 1), cell53_ k ((u.1) 1) ((u.2.1) 1), cell94_ ((u.2.2.1) 0) (t) ((u.2.2.2) 0 1) ((u.2.2.2) 0 2)]) := by
  refine g_enterI (cc := cX5_init) (maxL := 2) (ret := none) (by decide) rfl (Nat.le_of_ble_eq_true rfl) ?_
  intro p e s m below meth c A hsz hAe cx hr hnm hP hD hS ls hl
  rw [hAe]
  refine g_q (fun Q hQ => ?_)
  have hx := cx.1.1
  have hb := cx.1.2.1
  have hl : lv_has ls 2 [(0, .ref a), (1, .ref t)] := hl
  obtain ⟨H, eH⟩ : ∃ H : Heap, H = s.heap := ⟨_, rfl⟩
  obtain ⟨locs, el⟩ : ∃ L : List Loc, L = [] := ⟨_, rfl⟩
  have hP : va_P D vwCl [(a, .inr (3, [.null, .null]))] H := by rw [eH]; exact hP
  have hD : va_D A [(a, .inr (3, [.null, .null]))] := hD
  have hS : va_S A s.heap H locs := by rw [eH, el]; exact hS
  suffices goal : W p l e ({ frames := 2, cells := 2, slots := 29, locals := 41 } : Room) s m ([.ref a, .ref t] : List Value).toArray below meth c H locs 0 0 Q (F0 m 0 ls []) by rw [eH, el] at goal; exact goal
  refine lv_aload_n hx hb dX5_init_0 rfl (lv_at hl 0 rfl) ?_
  refine g_oi cx hl.1 im_X5_init_OL im_X5_init_OI im_X5_init_OC dX5_init_1 (Nat.le_of_ble_eq_true rfl) (Nat.le_of_ble_eq_true rfl) ?_
  refine lv_aload_n hx hb dX5_init_4 rfl (lv_at hl 0 rfl) ?_
  refine lv_bipush (v := 26) hx hb dX5_init_5 (by decide) ?_
  refine g_nwI cx im_X5_init_AI hP hD hS (by decide) (show (26 : Int32).toNatClampNeg = 26 from by decide) (Nat.le_of_ble_eq_true rfl) (Nat.le_of_ble_eq_true rfl) (Nat.le_of_ble_eq_true rfl) dX5_init_7 (fun q1 H hP hD hS => ?_)
  have hP : va_P D vwCl [(a, .inr (3, [.null, .null])), cell53_ k q1 (fun _ => 0)] H := hP
  have hD : va_D A [(a, .inr (3, [.null, .null])), cell53_ k q1 (fun _ => 0)] := hD
  refine g_ptF cx hnm hP hD hS iw_X5_init_X5 tyX5 tyX5_ok nmX5 0 rfl rfl 1 (by decide) rfl rfl fw_X5_init_9 rfl rfl rfl (Nat.le_of_ble_eq_true rfl) dX5_init_9 (fun H locs hP hD hS => ?_)
  have hP : va_P D vwCl [(a, .inr (3, [.null, .ref q1])), cell53_ k q1 (fun _ => 0)] H := hP
  have hD : va_D A [(a, .inr (3, [.null, .ref q1])), cell53_ k q1 (fun _ => 0)] := hD
  refine lv_aload_n hx hb dX5_init_12 rfl (lv_at hl 0 rfl) ?_
  refine g_new cx iw_X5_init_X2 tyX2 tyX2_ok im_X5_init_C15 im_X5_init_NX2 im_X5_init_IX2 hP hD hS (ci := 1) rfl (fs := [.null, .int 0, .int 0]) (fun j hj => by rcases (show j = 0 ∨ j = 1 ∨ j = 2 by omega) with rfl | rfl | rfl <;> rfl) (Nat.le_of_ble_eq_true rfl) (Nat.le_of_ble_eq_true rfl) dX5_init_13 (fun q2 H hP hD hS => ?_)
  have hP : va_P D vwCl [(a, .inr (3, [.null, .ref q1])), cell53_ k q1 (fun _ => 0), (q2, .inr (1, [.null, .int 0, .int 0]))] H := hP
  have hD : va_D A [(a, .inr (3, [.null, .ref q1])), cell53_ k q1 (fun _ => 0), (q2, .inr (1, [.null, .int 0, .int 0]))] := hD
  refine lv_dup hx hb dX5_init_16 rfl ?_
  refine lv_aload_n hx hb dX5_init_17 rfl (lv_at hl 1 rfl) ?_
  refine g_vI (wr := [(a, .inr (3, [.null, .ref q1])), cell53_ k q1 (fun _ => 0)]) (g_runI cx (wc := [(q2, .inr (1, [.null, .int 0, .int 0]))]) (rest := [.ref q2, .ref a]) hP hD hS [2] rfl (by decide) [.ref t] (c_X2_init l D k b q2 t H.size) gX5_init_X2_init rfl rfl rfl im_X5_init_IX2 im_X5_init_L17 im_X5_init_MX2_init rfl ni_X2_init ⟨Nat.le_of_ble_eq_true rfl, Nat.le_of_ble_eq_true rfl⟩ rfl hl.1 rfl (Nat.le_of_ble_eq_true rfl) ⟨Nat.le_of_ble_eq_true rfl, Nat.le_of_ble_eq_true rfl⟩ dX5_init_18) cx.2.2.1 hP hD hS [2] [0, 1] rfl rfl (by decide) (by decide) (fun u4 H locs hw3 hP hD hS => ?_)
  have hP : va_P D vwCl [(a, .inr (3, [.null, .ref q1])), cell53_ k q1 (fun _ => 0), cell94_ q2 t 0 0] H := hP
  have hD : va_D A [(a, .inr (3, [.null, .ref q1])), cell53_ k q1 (fun _ => 0), cell94_ q2 t 0 0] := hD
  refine g_ptF cx hnm hP hD hS iw_X5_init_X5 tyX5 tyX5_ok nmX5 0 rfl rfl 0 (by decide) rfl rfl fw_X5_init_20 rfl rfl rfl (Nat.le_of_ble_eq_true rfl) dX5_init_21 (fun H locs hP hD hS => ?_)
  have hP : va_P D vwCl [cell145_ a q2 q1, cell53_ k q1 (fun _ => 0), cell94_ q2 t 0 0] H := hP
  have hD : va_D A [cell145_ a q2 q1, cell53_ k q1 (fun _ => 0), cell94_ q2 t 0 0] := hD
  rw [hQ]
  exact x_vN cx hr ((lq [a, q1]), (lS [(lI []), (fun _ => 0)]), (lq [q2]), (lS [(lI [0, 0, 0])])) hP hD hS ⟨zr31, (show 0 ≤ ((fun (_ : Nat) => (0 : Int32)) 3).toInt ∧ ((fun (_ : Nat) => (0 : Int32)) 3).toInt ≤ 7 from by first | decide | assumption | omega), (show 0 ≤ ((fun (_ : Nat) => (0 : Int32)) 16).toInt ∧ ((fun (_ : Nat) => (0 : Int32)) 16).toInt ≤ 7 from by first | decide | assumption | omega), (fun _ _ _ => rfl)⟩ dX5_init_24
theorem im_X8_init_OL : Cond.methodLink RX8 3 objectInit ∈ wsX8_init := by decide +kernel
theorem im_X8_init_OI : Cond.instanceMethod objectInit ∈ wsX8_init := by decide +kernel
theorem im_X8_init_OC : Cond.code objectInit ⟨#[0xb1]⟩ 1 none ∈ wsX8_init := by decide +kernel
theorem im_X8_init_AI : Cond.arrayClass .int ∈ wsX8_init := by decide +kernel
theorem im_X8_init_C15 : Cond.classLink RX8 15 RX2 ∈ wsX8_init := by decide +kernel
theorem im_X8_init_NX2 : Cond.instantiable RX2 3 ∈ wsX8_init := by decide +kernel
theorem im_X8_init_IX2 : Cond.initialized RX2 ∈ wsX8_init := by decide +kernel
theorem im_X8_init_L17 : Cond.methodLink RX8 17 yX2_init ∈ wsX8_init := by decide +kernel
theorem im_X8_init_MX2_init : Cond.instanceMethod yX2_init ∈ wsX8_init := by decide +kernel
theorem fw_X8_init_20 : Cond.fieldLink RX8 20 "StillInAugust$RuleReader" "cursor" "LStillInAugust$Cursor;" ∈ wsX8_init := by decide +kernel
theorem fw_X8_init_9 : Cond.fieldLink RX8 9 "StillInAugust$RuleReader" "exceptLevel" "[I" ∈ wsX8_init := by decide +kernel
theorem iw_X8_init_X2 : ∀ w ∈ u_ws RX2 TX2 3, w ∈ wsX8_init := fun _ h => List.mem_cons_of_mem _ (List.mem_append_right _ h)
theorem iw_X8_init_X8 : ∀ w ∈ u_ws RX8 TX8 4, w ∈ wsX8_init := fun _ h => List.mem_cons_of_mem _ (List.mem_append_left _ (List.mem_append_right _ h))
set_option maxHeartbeats 4000000 in
set_option maxRecDepth 100000 in
theorem c_X8_init (l : Launch) (D : va_G) (k : Nat → ClassId) (b : Nat → Nat) (a : Nat) (t : Nat) (sz : Nat) : MetN l D k b yX8_init wsX8_init ({ frames := 2, cells := 2, slots := 8, locals := 41 } : Room) [(a, .inr (6, [.null, .null, .int 0, .int 0]))] sz [.ref a, .ref t] 2 8 (fun (u : (Nat → Nat) × (Nat → Nat → Int32) × (Nat → Nat) × (Nat → Nat → Int32)) => True) (fun u => [cell146_ a ((u.2.2.1) 0) ((u.1) 1) ((u.2.1) 0 2) ((u.2.1) 0 3), cell50_ k ((u.1) 1) ((u.2.1) 1), cell94_ ((u.2.2.1) 0) (t) ((u.2.2.2) 0 1) ((u.2.2.2) 0 2)]) := by
  refine g_enterI (cc := cX8_init) (maxL := 2) (ret := none) (by decide) rfl (Nat.le_of_ble_eq_true rfl) ?_
  intro p e s m below meth c A hsz hAe cx hr hnm hP hD hS ls hl
  rw [hAe]
  refine g_q (fun Q hQ => ?_)
  have hx := cx.1.1
  have hb := cx.1.2.1
  have hl : lv_has ls 2 [(0, .ref a), (1, .ref t)] := hl
  obtain ⟨H, eH⟩ : ∃ H : Heap, H = s.heap := ⟨_, rfl⟩
  obtain ⟨locs, el⟩ : ∃ L : List Loc, L = [] := ⟨_, rfl⟩
  have hP : va_P D vwCl [(a, .inr (6, [.null, .null, .int 0, .int 0]))] H := by rw [eH]; exact hP
  have hD : va_D A [(a, .inr (6, [.null, .null, .int 0, .int 0]))] := hD
  have hS : va_S A s.heap H locs := by rw [eH, el]; exact hS
  suffices goal : W p l e ({ frames := 2, cells := 2, slots := 8, locals := 41 } : Room) s m ([.ref a, .ref t] : List Value).toArray below meth c H locs 0 0 Q (F0 m 0 ls []) by rw [eH, el] at goal; exact goal
  refine lv_aload_n hx hb dX8_init_0 rfl (lv_at hl 0 rfl) ?_
  refine g_oi cx hl.1 im_X8_init_OL im_X8_init_OI im_X8_init_OC dX8_init_1 (Nat.le_of_ble_eq_true rfl) (Nat.le_of_ble_eq_true rfl) ?_
  refine lv_aload_n hx hb dX8_init_4 rfl (lv_at hl 0 rfl) ?_
  refine lv_iconst (v := 5) hx hb dX8_init_5 (by decide) ?_
  refine g_nwI cx im_X8_init_AI hP hD hS (by decide) (show (5 : Int32).toNatClampNeg = 5 from by decide) (Nat.le_of_ble_eq_true rfl) (Nat.le_of_ble_eq_true rfl) (Nat.le_of_ble_eq_true rfl) dX8_init_6 (fun q1 H hP hD hS => ?_)
  have hP : va_P D vwCl [(a, .inr (6, [.null, .null, .int 0, .int 0])), cell50_ k q1 (fun _ => 0)] H := hP
  have hD : va_D A [(a, .inr (6, [.null, .null, .int 0, .int 0])), cell50_ k q1 (fun _ => 0)] := hD
  refine g_ptF cx hnm hP hD hS iw_X8_init_X8 tyX8 tyX8_ok nmX8 0 rfl rfl 1 (by decide) rfl rfl fw_X8_init_9 rfl rfl rfl (Nat.le_of_ble_eq_true rfl) dX8_init_8 (fun H locs hP hD hS => ?_)
  have hP : va_P D vwCl [(a, .inr (6, [.null, .ref q1, .int 0, .int 0])), cell50_ k q1 (fun _ => 0)] H := hP
  have hD : va_D A [(a, .inr (6, [.null, .ref q1, .int 0, .int 0])), cell50_ k q1 (fun _ => 0)] := hD
  refine lv_aload_n hx hb dX8_init_11 rfl (lv_at hl 0 rfl) ?_
  refine g_new cx iw_X8_init_X2 tyX2 tyX2_ok im_X8_init_C15 im_X8_init_NX2 im_X8_init_IX2 hP hD hS (ci := 1) rfl (fs := [.null, .int 0, .int 0]) (fun j hj => by rcases (show j = 0 ∨ j = 1 ∨ j = 2 by omega) with rfl | rfl | rfl <;> rfl) (Nat.le_of_ble_eq_true rfl) (Nat.le_of_ble_eq_true rfl) dX8_init_12 (fun q2 H hP hD hS => ?_)
  have hP : va_P D vwCl [(a, .inr (6, [.null, .ref q1, .int 0, .int 0])), cell50_ k q1 (fun _ => 0), (q2, .inr (1, [.null, .int 0, .int 0]))] H := hP
  have hD : va_D A [(a, .inr (6, [.null, .ref q1, .int 0, .int 0])), cell50_ k q1 (fun _ => 0), (q2, .inr (1, [.null, .int 0, .int 0]))] := hD
  refine lv_dup hx hb dX8_init_15 rfl ?_
  refine lv_aload_n hx hb dX8_init_16 rfl (lv_at hl 1 rfl) ?_
  refine g_vI (wr := [(a, .inr (6, [.null, .ref q1, .int 0, .int 0])), cell50_ k q1 (fun _ => 0)]) (g_runI cx (wc := [(q2, .inr (1, [.null, .int 0, .int 0]))]) (rest := [.ref q2, .ref a]) hP hD hS [2] rfl (by decide) [.ref t] (c_X2_init l D k b q2 t H.size) gX8_init_X2_init rfl rfl rfl im_X8_init_IX2 im_X8_init_L17 im_X8_init_MX2_init rfl ni_X2_init ⟨Nat.le_of_ble_eq_true rfl, Nat.le_of_ble_eq_true rfl⟩ rfl hl.1 rfl (Nat.le_of_ble_eq_true rfl) ⟨Nat.le_of_ble_eq_true rfl, Nat.le_of_ble_eq_true rfl⟩ dX8_init_17) cx.2.2.1 hP hD hS [2] [0, 1] rfl rfl (by decide) (by decide) (fun u4 H locs hw3 hP hD hS => ?_)
  have hP : va_P D vwCl [(a, .inr (6, [.null, .ref q1, .int 0, .int 0])), cell50_ k q1 (fun _ => 0), cell94_ q2 t 0 0] H := hP
  have hD : va_D A [(a, .inr (6, [.null, .ref q1, .int 0, .int 0])), cell50_ k q1 (fun _ => 0), cell94_ q2 t 0 0] := hD
  refine g_ptF cx hnm hP hD hS iw_X8_init_X8 tyX8 tyX8_ok nmX8 0 rfl rfl 0 (by decide) rfl rfl fw_X8_init_20 rfl rfl rfl (Nat.le_of_ble_eq_true rfl) dX8_init_20 (fun H locs hP hD hS => ?_)
  have hP : va_P D vwCl [cell146_ a q2 q1 0 0, cell50_ k q1 (fun _ => 0), cell94_ q2 t 0 0] H := hP
  have hD : va_D A [cell146_ a q2 q1 0 0, cell50_ k q1 (fun _ => 0), cell94_ q2 t 0 0] := hD
  rw [hQ]
  exact x_vN cx hr ((lq [a, q1]), (lS [(lI [0, 0, 0, 0]), (fun _ => 0)]), (lq [q2]), (lS [(lI [0, 0, 0])])) hP hD hS trivial dX8_init_23
theorem im_X4_init_OL : Cond.methodLink RX4 3 objectInit ∈ wsX4_init := by decide +kernel
theorem im_X4_init_OI : Cond.instanceMethod objectInit ∈ wsX4_init := by decide +kernel
theorem im_X4_init_OC : Cond.code objectInit ⟨#[0xb1]⟩ 1 none ∈ wsX4_init := by decide +kernel
theorem im_X4_init_AI : Cond.arrayClass .int ∈ wsX4_init := by decide +kernel
theorem fw_X4_init_15 : Cond.fieldLink RX4 15 "StillInAugust$House" "offers" "[I" ∈ wsX4_init := by decide +kernel
theorem fw_X4_init_18 : Cond.fieldLink RX4 18 "StillInAugust$House" "goes" "[I" ∈ wsX4_init := by decide +kernel
theorem fw_X4_init_21 : Cond.fieldLink RX4 21 "StillInAugust$House" "does" "[I" ∈ wsX4_init := by decide +kernel
theorem fw_X4_init_26 : Cond.fieldLink RX4 26 "StillInAugust$House" "sundays" "[I" ∈ wsX4_init := by decide +kernel
theorem fw_X4_init_9 : Cond.fieldLink RX4 9 "StillInAugust$House" "wants" "[I" ∈ wsX4_init := by decide +kernel
theorem iw_X4_init_X4 : ∀ w ∈ u_ws RX4 TX4 14, w ∈ wsX4_init := fun _ h => List.mem_cons_of_mem _ (List.mem_append_right _ h)
set_option maxHeartbeats 4000000 in
set_option maxRecDepth 100000 in
theorem c_X4_init (l : Launch) (D : va_G) (k : Nat → ClassId) (b : Nat → Nat) (a : Nat) (sz : Nat) : MetN l D k b yX4_init wsX4_init ({ frames := 2, cells := 5, slots := 541, locals := 43 } : Room) [(a, .inr (2, [.int 0, .int 0, .null, .null, .null, .null, .int 0, .int 0, .int 0, .int 0, .int 0, .int 0, .int 0, .null]))] sz [.ref a] 5 541 (fun (u : (Nat → Nat) × (Nat → Nat → Int32)) => (0 ≤ ((u.2) 0 0).toInt ∧ ((u.2) 0 0).toInt ≤ 5) ∧ (0 ≤ ((u.2) 0 1).toInt ∧ ((u.2) 0 1).toInt ≤ 4) ∧ (0 ≤ ((u.2) 0 12).toInt ∧ ((u.2) 0 12).toInt ≤ 5) ∧ (∀ j, 0 ≤ ((u.2) 2 j).toInt ∧ ((u.2) 2 j).toInt ≤ 4) ∧ (∀ j, 0 ≤ ((u.2) 3 j).toInt ∧ ((u.2) 3 j).toInt ≤ 5) ∧ (CLR ((u.2) 0 0) (((u.2) 0 1), ((u.2) 1), ((u.2) 2), ((u.2) 3), ((u.2) 4), ((u.2) 0 6), ((u.2) 0 7), ((u.2) 0 8), ((u.2) 0 9), ((u.2) 0 10), ((u.2) 0 11), ((u.2) 0 12)))) (fun u => [cell92_ a ((u.2) 0 0) ((u.2) 0 1) ((u.1) 1) ((u.1) 2) ((u.1) 3) ((u.1) 4) ((u.2) 0 6) ((u.2) 0 7) ((u.2) 0 8) ((u.2) 0 9) ((u.2) 0 10) ((u.2) 0 11) ((u.2) 0 12) ((u.1) 5), cell50_ k ((u.1) 1) ((u.2) 1), cell50_ k ((u.1) 2) ((u.2) 2), cell70_ k ((u.1) 3) ((u.2) 3), cell70_ k ((u.1) 4) ((u.2) 4), cell74_ k ((u.1) 5) ((u.2) 5)]) := by
  refine g_enterI (cc := cX4_init) (maxL := 1) (ret := none) (by decide) rfl (Nat.le_of_ble_eq_true rfl) ?_
  intro p e s m below meth c A hsz hAe cx hr hnm hP hD hS ls hl
  rw [hAe]
  refine g_q (fun Q hQ => ?_)
  have hx := cx.1.1
  have hb := cx.1.2.1
  have hl : lv_has ls 1 [(0, .ref a)] := hl
  obtain ⟨H, eH⟩ : ∃ H : Heap, H = s.heap := ⟨_, rfl⟩
  obtain ⟨locs, el⟩ : ∃ L : List Loc, L = [] := ⟨_, rfl⟩
  have hP : va_P D vwCl [(a, .inr (2, [.int 0, .int 0, .null, .null, .null, .null, .int 0, .int 0, .int 0, .int 0, .int 0, .int 0, .int 0, .null]))] H := by rw [eH]; exact hP
  have hD : va_D A [(a, .inr (2, [.int 0, .int 0, .null, .null, .null, .null, .int 0, .int 0, .int 0, .int 0, .int 0, .int 0, .int 0, .null]))] := hD
  have hS : va_S A s.heap H locs := by rw [eH, el]; exact hS
  suffices goal : W p l e ({ frames := 2, cells := 5, slots := 541, locals := 43 } : Room) s m ([.ref a] : List Value).toArray below meth c H locs 0 0 Q (F0 m 0 ls []) by rw [eH, el] at goal; exact goal
  refine lv_aload_n hx hb dX4_init_0 rfl (lv_at hl 0 rfl) ?_
  refine g_oi cx hl.1 im_X4_init_OL im_X4_init_OI im_X4_init_OC dX4_init_1 (Nat.le_of_ble_eq_true rfl) (Nat.le_of_ble_eq_true rfl) ?_
  refine lv_aload_n hx hb dX4_init_4 rfl (lv_at hl 0 rfl) ?_
  refine lv_iconst (v := 5) hx hb dX4_init_5 (by decide) ?_
  refine g_nwI cx im_X4_init_AI hP hD hS (by decide) (show (5 : Int32).toNatClampNeg = 5 from by decide) (Nat.le_of_ble_eq_true rfl) (Nat.le_of_ble_eq_true rfl) (Nat.le_of_ble_eq_true rfl) dX4_init_6 (fun q1 H hP hD hS => ?_)
  have hP : va_P D vwCl [(a, .inr (2, [.int 0, .int 0, .null, .null, .null, .null, .int 0, .int 0, .int 0, .int 0, .int 0, .int 0, .int 0, .null])), cell50_ k q1 (fun _ => 0)] H := hP
  have hD : va_D A [(a, .inr (2, [.int 0, .int 0, .null, .null, .null, .null, .int 0, .int 0, .int 0, .int 0, .int 0, .int 0, .int 0, .null])), cell50_ k q1 (fun _ => 0)] := hD
  refine g_ptF cx hnm hP hD hS iw_X4_init_X4 tyX4 tyX4_ok nmX4 0 rfl rfl 2 (by decide) rfl rfl fw_X4_init_9 rfl rfl rfl (Nat.le_of_ble_eq_true rfl) dX4_init_8 (fun H locs hP hD hS => ?_)
  have hP : va_P D vwCl [(a, .inr (2, [.int 0, .int 0, .ref q1, .null, .null, .null, .int 0, .int 0, .int 0, .int 0, .int 0, .int 0, .int 0, .null])), cell50_ k q1 (fun _ => 0)] H := hP
  have hD : va_D A [(a, .inr (2, [.int 0, .int 0, .ref q1, .null, .null, .null, .int 0, .int 0, .int 0, .int 0, .int 0, .int 0, .int 0, .null])), cell50_ k q1 (fun _ => 0)] := hD
  refine lv_aload_n hx hb dX4_init_11 rfl (lv_at hl 0 rfl) ?_
  refine lv_iconst (v := 5) hx hb dX4_init_12 (by decide) ?_
  refine g_nwI cx im_X4_init_AI hP hD hS (by decide) (show (5 : Int32).toNatClampNeg = 5 from by decide) (Nat.le_of_ble_eq_true rfl) (Nat.le_of_ble_eq_true rfl) (Nat.le_of_ble_eq_true rfl) dX4_init_13 (fun q2 H hP hD hS => ?_)
  have hP : va_P D vwCl [(a, .inr (2, [.int 0, .int 0, .ref q1, .null, .null, .null, .int 0, .int 0, .int 0, .int 0, .int 0, .int 0, .int 0, .null])), cell50_ k q1 (fun _ => 0), cell50_ k q2 (fun _ => 0)] H := hP
  have hD : va_D A [(a, .inr (2, [.int 0, .int 0, .ref q1, .null, .null, .null, .int 0, .int 0, .int 0, .int 0, .int 0, .int 0, .int 0, .null])), cell50_ k q1 (fun _ => 0), cell50_ k q2 (fun _ => 0)] := hD
  refine g_ptF cx hnm hP hD hS iw_X4_init_X4 tyX4 tyX4_ok nmX4 0 rfl rfl 3 (by decide) rfl rfl fw_X4_init_15 rfl rfl rfl (Nat.le_of_ble_eq_true rfl) dX4_init_15 (fun H locs hP hD hS => ?_)
  have hP : va_P D vwCl [(a, .inr (2, [.int 0, .int 0, .ref q1, .ref q2, .null, .null, .int 0, .int 0, .int 0, .int 0, .int 0, .int 0, .int 0, .null])), cell50_ k q1 (fun _ => 0), cell50_ k q2 (fun _ => 0)] H := hP
  have hD : va_D A [(a, .inr (2, [.int 0, .int 0, .ref q1, .ref q2, .null, .null, .int 0, .int 0, .int 0, .int 0, .int 0, .int 0, .int 0, .null])), cell50_ k q1 (fun _ => 0), cell50_ k q2 (fun _ => 0)] := hD
  refine lv_aload_n hx hb dX4_init_18 rfl (lv_at hl 0 rfl) ?_
  refine lv_iconst (v := 3) hx hb dX4_init_19 (by decide) ?_
  refine g_nwI cx im_X4_init_AI hP hD hS (by decide) (show (3 : Int32).toNatClampNeg = 3 from by decide) (Nat.le_of_ble_eq_true rfl) (Nat.le_of_ble_eq_true rfl) (Nat.le_of_ble_eq_true rfl) dX4_init_20 (fun q3 H hP hD hS => ?_)
  have hP : va_P D vwCl [(a, .inr (2, [.int 0, .int 0, .ref q1, .ref q2, .null, .null, .int 0, .int 0, .int 0, .int 0, .int 0, .int 0, .int 0, .null])), cell50_ k q1 (fun _ => 0), cell50_ k q2 (fun _ => 0), cell70_ k q3 (fun _ => 0)] H := hP
  have hD : va_D A [(a, .inr (2, [.int 0, .int 0, .ref q1, .ref q2, .null, .null, .int 0, .int 0, .int 0, .int 0, .int 0, .int 0, .int 0, .null])), cell50_ k q1 (fun _ => 0), cell50_ k q2 (fun _ => 0), cell70_ k q3 (fun _ => 0)] := hD
  refine g_ptF cx hnm hP hD hS iw_X4_init_X4 tyX4 tyX4_ok nmX4 0 rfl rfl 4 (by decide) rfl rfl fw_X4_init_18 rfl rfl rfl (Nat.le_of_ble_eq_true rfl) dX4_init_22 (fun H locs hP hD hS => ?_)
  have hP : va_P D vwCl [(a, .inr (2, [.int 0, .int 0, .ref q1, .ref q2, .ref q3, .null, .int 0, .int 0, .int 0, .int 0, .int 0, .int 0, .int 0, .null])), cell50_ k q1 (fun _ => 0), cell50_ k q2 (fun _ => 0), cell70_ k q3 (fun _ => 0)] H := hP
  have hD : va_D A [(a, .inr (2, [.int 0, .int 0, .ref q1, .ref q2, .ref q3, .null, .int 0, .int 0, .int 0, .int 0, .int 0, .int 0, .int 0, .null])), cell50_ k q1 (fun _ => 0), cell50_ k q2 (fun _ => 0), cell70_ k q3 (fun _ => 0)] := hD
  refine lv_aload_n hx hb dX4_init_25 rfl (lv_at hl 0 rfl) ?_
  refine lv_iconst (v := 3) hx hb dX4_init_26 (by decide) ?_
  refine g_nwI cx im_X4_init_AI hP hD hS (by decide) (show (3 : Int32).toNatClampNeg = 3 from by decide) (Nat.le_of_ble_eq_true rfl) (Nat.le_of_ble_eq_true rfl) (Nat.le_of_ble_eq_true rfl) dX4_init_27 (fun q4 H hP hD hS => ?_)
  have hP : va_P D vwCl [(a, .inr (2, [.int 0, .int 0, .ref q1, .ref q2, .ref q3, .null, .int 0, .int 0, .int 0, .int 0, .int 0, .int 0, .int 0, .null])), cell50_ k q1 (fun _ => 0), cell50_ k q2 (fun _ => 0), cell70_ k q3 (fun _ => 0), cell70_ k q4 (fun _ => 0)] H := hP
  have hD : va_D A [(a, .inr (2, [.int 0, .int 0, .ref q1, .ref q2, .ref q3, .null, .int 0, .int 0, .int 0, .int 0, .int 0, .int 0, .int 0, .null])), cell50_ k q1 (fun _ => 0), cell50_ k q2 (fun _ => 0), cell70_ k q3 (fun _ => 0), cell70_ k q4 (fun _ => 0)] := hD
  refine g_ptF cx hnm hP hD hS iw_X4_init_X4 tyX4 tyX4_ok nmX4 0 rfl rfl 5 (by decide) rfl rfl fw_X4_init_21 rfl rfl rfl (Nat.le_of_ble_eq_true rfl) dX4_init_29 (fun H locs hP hD hS => ?_)
  have hP : va_P D vwCl [(a, .inr (2, [.int 0, .int 0, .ref q1, .ref q2, .ref q3, .ref q4, .int 0, .int 0, .int 0, .int 0, .int 0, .int 0, .int 0, .null])), cell50_ k q1 (fun _ => 0), cell50_ k q2 (fun _ => 0), cell70_ k q3 (fun _ => 0), cell70_ k q4 (fun _ => 0)] H := hP
  have hD : va_D A [(a, .inr (2, [.int 0, .int 0, .ref q1, .ref q2, .ref q3, .ref q4, .int 0, .int 0, .int 0, .int 0, .int 0, .int 0, .int 0, .null])), cell50_ k q1 (fun _ => 0), cell50_ k q2 (fun _ => 0), cell70_ k q3 (fun _ => 0), cell70_ k q4 (fun _ => 0)] := hD
  refine lv_aload_n hx hb dX4_init_32 rfl (lv_at hl 0 rfl) ?_
  refine lv_sipush (v := 525) hx hb dX4_init_33 (by decide) ?_
  refine g_nwI cx im_X4_init_AI hP hD hS (by decide) (show (525 : Int32).toNatClampNeg = 525 from by decide) (Nat.le_of_ble_eq_true rfl) (Nat.le_of_ble_eq_true rfl) (Nat.le_of_ble_eq_true rfl) dX4_init_36 (fun q5 H hP hD hS => ?_)
  have hP : va_P D vwCl [(a, .inr (2, [.int 0, .int 0, .ref q1, .ref q2, .ref q3, .ref q4, .int 0, .int 0, .int 0, .int 0, .int 0, .int 0, .int 0, .null])), cell50_ k q1 (fun _ => 0), cell50_ k q2 (fun _ => 0), cell70_ k q3 (fun _ => 0), cell70_ k q4 (fun _ => 0), cell74_ k q5 (fun _ => 0)] H := hP
  have hD : va_D A [(a, .inr (2, [.int 0, .int 0, .ref q1, .ref q2, .ref q3, .ref q4, .int 0, .int 0, .int 0, .int 0, .int 0, .int 0, .int 0, .null])), cell50_ k q1 (fun _ => 0), cell50_ k q2 (fun _ => 0), cell70_ k q3 (fun _ => 0), cell70_ k q4 (fun _ => 0), cell74_ k q5 (fun _ => 0)] := hD
  refine g_ptF cx hnm hP hD hS iw_X4_init_X4 tyX4 tyX4_ok nmX4 0 rfl rfl 13 (by decide) rfl rfl fw_X4_init_26 rfl rfl rfl (Nat.le_of_ble_eq_true rfl) dX4_init_38 (fun H locs hP hD hS => ?_)
  have hP : va_P D vwCl [cell92_ a 0 0 q1 q2 q3 q4 0 0 0 0 0 0 0 q5, cell50_ k q1 (fun _ => 0), cell50_ k q2 (fun _ => 0), cell70_ k q3 (fun _ => 0), cell70_ k q4 (fun _ => 0), cell74_ k q5 (fun _ => 0)] H := hP
  have hD : va_D A [cell92_ a 0 0 q1 q2 q3 q4 0 0 0 0 0 0 0 q5, cell50_ k q1 (fun _ => 0), cell50_ k q2 (fun _ => 0), cell70_ k q3 (fun _ => 0), cell70_ k q4 (fun _ => 0), cell74_ k q5 (fun _ => 0)] := hD
  refine lv_aload_n hx hb dX4_init_41 rfl (lv_at hl 0 rfl) ?_
  refine g_vF (w1 := fun (u : Int32 × Int32 × (Nat → Int32) × (Nat → Int32) × (Nat → Int32) × (Nat → Int32) × Int32 × Int32 × Int32 × Int32 × Int32 × Int32 × Int32) => [cell92_ a (u.1) (u.2.1) q1 q2 q3 q4 (u.2.2.2.2.2.2.1) (u.2.2.2.2.2.2.2.1) (u.2.2.2.2.2.2.2.2.1) (u.2.2.2.2.2.2.2.2.2.1) (u.2.2.2.2.2.2.2.2.2.2.1) (u.2.2.2.2.2.2.2.2.2.2.2.1) (u.2.2.2.2.2.2.2.2.2.2.2.2) q5, cell50_ k q1 (u.2.2.1), cell50_ k q2 (u.2.2.2.1), cell70_ k q3 (u.2.2.2.2.1), cell70_ k q4 (u.2.2.2.2.2.1), cell74_ k q5 (fun _ => 0)]) (g_runVF (ws := [cell92_ a 0 0 q1 q2 q3 q4 0 0 0 0 0 0 0 q5, cell50_ k q1 (fun _ => 0), cell50_ k q2 (fun _ => 0), cell70_ k q3 (fun _ => 0), cell70_ k q4 (fun _ => 0), cell74_ k q5 (fun _ => 0)]) (rest := []) cx hP hD hS [] (c_X4_clear l D k b (lq [a, q1, q2, q3, q4, q5]) (lS [(lI [0, 0, 0, 0, 0, 0, 0, 0, 0, 0, 0, 0, 0]), (fun _ => 0), (fun _ => 0), (fun _ => 0), (fun _ => 0), (fun _ => 0)]) H.size zr4 zr5) gX4_init_X4_clear rfl rfl rfl nd_X4_clear ⟨Nat.le_of_ble_eq_true rfl, Nat.le_of_ble_eq_true rfl⟩ (ci := 2) (q0 := 0) rfl rfl rfl hl.1 rfl (Nat.le_of_ble_eq_true rfl) ⟨Nat.le_of_ble_eq_true rfl, Nat.le_of_ble_eq_true rfl⟩ dX4_init_42) cx.2.2.1 hD hS (fun u7 H locs hw6 hP hD hS => ?_)
  obtain ⟨m8, m9, m10, m11, m12, m13, m14, m15, m16, m17, m18, m19, m20⟩ := u7
  have hP : va_P D vwCl [cell92_ a m8 m9 q1 q2 q3 q4 m14 m15 m16 m17 m18 m19 m20 q5, (q1, .inl (k 0, 5, .inl m10)), (q2, .inl (k 0, 5, .inl m11)), (q3, .inl (k 0, 3, .inl m12)), (q4, .inl (k 0, 3, .inl m13)), cell74_ k q5 (fun _ => 0)] H := hP
  have hD : va_D A [cell92_ a m8 m9 q1 q2 q3 q4 m14 m15 m16 m17 m18 m19 m20 q5, (q1, .inl (k 0, 5, .inl m10)), (q2, .inl (k 0, 5, .inl m11)), (q3, .inl (k 0, 3, .inl m12)), (q4, .inl (k 0, 3, .inl m13)), cell74_ k q5 (fun _ => 0)] := hD
  replace hw6 : (0 ≤ m8.toInt ∧ m8.toInt ≤ 5) ∧ (0 ≤ m9.toInt ∧ m9.toInt ≤ 4) ∧ (0 ≤ m20.toInt ∧ m20.toInt ≤ 5) ∧ (∀ j, 0 ≤ (m11 j).toInt ∧ (m11 j).toInt ≤ 4) ∧ (∀ j, 0 ≤ (m12 j).toInt ∧ (m12 j).toInt ≤ 5) ∧ ((m8, m9, m10, m11, m12, m13, m14, m15, m16, m17, m18, m19, m20) = J_X4_clear (lS [(lI [0, 0, 0, 0, 0, 0, 0, 0, 0, 0, 0, 0, 0]), (fun _ => 0), (fun _ => 0), (fun _ => 0), (fun _ => 0), (fun _ => 0)])) := hw6
  obtain ⟨w21, w22, w23, w24, w25, w26⟩ := hw6
  have k28 : m8 = ((J_X4_clear (lS [(lI [0, 0, 0, 0, 0, 0, 0, 0, 0, 0, 0, 0, 0]), (fun _ => 0), (fun _ => 0), (fun _ => 0), (fun _ => 0), (fun _ => 0)])).1) := congrArg (fun z => (z.1)) w26
  have k29 : m9 = ((J_X4_clear (lS [(lI [0, 0, 0, 0, 0, 0, 0, 0, 0, 0, 0, 0, 0]), (fun _ => 0), (fun _ => 0), (fun _ => 0), (fun _ => 0), (fun _ => 0)])).2.1) := congrArg (fun z => (z.2.1)) w26
  have k30 : m10 = ((J_X4_clear (lS [(lI [0, 0, 0, 0, 0, 0, 0, 0, 0, 0, 0, 0, 0]), (fun _ => 0), (fun _ => 0), (fun _ => 0), (fun _ => 0), (fun _ => 0)])).2.2.1) := congrArg (fun z => (z.2.2.1)) w26
  have k31 : m11 = ((J_X4_clear (lS [(lI [0, 0, 0, 0, 0, 0, 0, 0, 0, 0, 0, 0, 0]), (fun _ => 0), (fun _ => 0), (fun _ => 0), (fun _ => 0), (fun _ => 0)])).2.2.2.1) := congrArg (fun z => (z.2.2.2.1)) w26
  have k32 : m12 = ((J_X4_clear (lS [(lI [0, 0, 0, 0, 0, 0, 0, 0, 0, 0, 0, 0, 0]), (fun _ => 0), (fun _ => 0), (fun _ => 0), (fun _ => 0), (fun _ => 0)])).2.2.2.2.1) := congrArg (fun z => (z.2.2.2.2.1)) w26
  have k33 : m13 = ((J_X4_clear (lS [(lI [0, 0, 0, 0, 0, 0, 0, 0, 0, 0, 0, 0, 0]), (fun _ => 0), (fun _ => 0), (fun _ => 0), (fun _ => 0), (fun _ => 0)])).2.2.2.2.2.1) := congrArg (fun z => (z.2.2.2.2.2.1)) w26
  have k34 : m14 = ((J_X4_clear (lS [(lI [0, 0, 0, 0, 0, 0, 0, 0, 0, 0, 0, 0, 0]), (fun _ => 0), (fun _ => 0), (fun _ => 0), (fun _ => 0), (fun _ => 0)])).2.2.2.2.2.2.1) := congrArg (fun z => (z.2.2.2.2.2.2.1)) w26
  have k35 : m15 = ((J_X4_clear (lS [(lI [0, 0, 0, 0, 0, 0, 0, 0, 0, 0, 0, 0, 0]), (fun _ => 0), (fun _ => 0), (fun _ => 0), (fun _ => 0), (fun _ => 0)])).2.2.2.2.2.2.2.1) := congrArg (fun z => (z.2.2.2.2.2.2.2.1)) w26
  have k36 : m16 = ((J_X4_clear (lS [(lI [0, 0, 0, 0, 0, 0, 0, 0, 0, 0, 0, 0, 0]), (fun _ => 0), (fun _ => 0), (fun _ => 0), (fun _ => 0), (fun _ => 0)])).2.2.2.2.2.2.2.2.1) := congrArg (fun z => (z.2.2.2.2.2.2.2.2.1)) w26
  have k37 : m17 = ((J_X4_clear (lS [(lI [0, 0, 0, 0, 0, 0, 0, 0, 0, 0, 0, 0, 0]), (fun _ => 0), (fun _ => 0), (fun _ => 0), (fun _ => 0), (fun _ => 0)])).2.2.2.2.2.2.2.2.2.1) := congrArg (fun z => (z.2.2.2.2.2.2.2.2.2.1)) w26
  have k38 : m18 = ((J_X4_clear (lS [(lI [0, 0, 0, 0, 0, 0, 0, 0, 0, 0, 0, 0, 0]), (fun _ => 0), (fun _ => 0), (fun _ => 0), (fun _ => 0), (fun _ => 0)])).2.2.2.2.2.2.2.2.2.2.1) := congrArg (fun z => (z.2.2.2.2.2.2.2.2.2.2.1)) w26
  have k39 : m19 = ((J_X4_clear (lS [(lI [0, 0, 0, 0, 0, 0, 0, 0, 0, 0, 0, 0, 0]), (fun _ => 0), (fun _ => 0), (fun _ => 0), (fun _ => 0), (fun _ => 0)])).2.2.2.2.2.2.2.2.2.2.2.1) := congrArg (fun z => (z.2.2.2.2.2.2.2.2.2.2.2.1)) w26
  have k40 : m20 = ((J_X4_clear (lS [(lI [0, 0, 0, 0, 0, 0, 0, 0, 0, 0, 0, 0, 0]), (fun _ => 0), (fun _ => 0), (fun _ => 0), (fun _ => 0), (fun _ => 0)])).2.2.2.2.2.2.2.2.2.2.2.2) := congrArg (fun z => (z.2.2.2.2.2.2.2.2.2.2.2.2)) w26
  have hclr_ := w26
  rw [hQ]
  exact x_vN cx hr ((lq [a, q1, q2, q3, q4, q5]), (lS [(lI [m8, m9, 0, 0, 0, 0, m14, m15, m16, m17, m18, m19, m20]), m10, m11, m12, m13, (fun _ => 0)])) hP hD hS ⟨(show 0 ≤ m8.toInt ∧ m8.toInt ≤ 5 from by first | decide | assumption | omega), (show 0 ≤ m9.toInt ∧ m9.toInt ≤ 4 from by first | decide | assumption | omega), (show 0 ≤ m20.toInt ∧ m20.toInt ≤ 5 from by first | decide | assumption | omega), w24, w25, (clr_of hclr_)⟩ dX4_init_45
theorem im_X1_init_OL : Cond.methodLink RX1 3 objectInit ∈ wsX1_init := by decide +kernel
theorem im_X1_init_OI : Cond.instanceMethod objectInit ∈ wsX1_init := by decide +kernel
theorem im_X1_init_OC : Cond.code objectInit ⟨#[0xb1]⟩ 1 none ∈ wsX1_init := by decide +kernel
theorem im_X1_init_AJ : Cond.arrayClass .long ∈ wsX1_init := by decide +kernel
theorem fw_X1_init_11 : Cond.fieldLink RX1 11 "StillInAugust$Course" "ahead" "[J" ∈ wsX1_init := by decide +kernel
theorem fw_X1_init_17 : Cond.fieldLink RX1 17 "StillInAugust$Course" "during" "[J" ∈ wsX1_init := by decide +kernel
theorem iw_X1_init_X1 : ∀ w ∈ u_ws RX1 TX1 6, w ∈ wsX1_init := fun _ h => List.mem_cons_of_mem _ (List.mem_append_right _ h)
set_option maxHeartbeats 4000000 in
set_option maxRecDepth 100000 in
theorem c_X1_init (l : Launch) (D : va_G) (k : Nat → ClassId) (b : Nat → Nat) (a : Nat) (sz : Nat) : MetN l D k b yX1_init wsX1_init ({ frames := 1, cells := 2, slots := 70, locals := 20 } : Room) [(a, .inr (0, [.null, .null, .long 0, .long 0, .long 0, .long 0]))] sz [.ref a] 2 70 (fun (u : (Nat → Nat) × (Nat → Nat → Int32) × (Nat → Nat → Int64)) => True) (fun u => [cell147_ a ((u.1) 1) ((u.1) 2) ((u.2.2) 0 2) ((u.2.2) 0 3) ((u.2.2) 0 4) ((u.2.2) 0 5), cell78_ k ((u.1) 1) ((u.2.2) 1), cell78_ k ((u.1) 2) ((u.2.2) 2)]) := by
  refine g_enterI (cc := cX1_init) (maxL := 1) (ret := none) (by decide) rfl (Nat.le_of_ble_eq_true rfl) ?_
  intro p e s m below meth c A hsz hAe cx hr hnm hP hD hS ls hl
  rw [hAe]
  refine g_q (fun Q hQ => ?_)
  have hx := cx.1.1
  have hb := cx.1.2.1
  have hl : lv_has ls 1 [(0, .ref a)] := hl
  obtain ⟨H, eH⟩ : ∃ H : Heap, H = s.heap := ⟨_, rfl⟩
  obtain ⟨locs, el⟩ : ∃ L : List Loc, L = [] := ⟨_, rfl⟩
  have hP : va_P D vwCl [(a, .inr (0, [.null, .null, .long 0, .long 0, .long 0, .long 0]))] H := by rw [eH]; exact hP
  have hD : va_D A [(a, .inr (0, [.null, .null, .long 0, .long 0, .long 0, .long 0]))] := hD
  have hS : va_S A s.heap H locs := by rw [eH, el]; exact hS
  suffices goal : W p l e ({ frames := 1, cells := 2, slots := 70, locals := 20 } : Room) s m ([.ref a] : List Value).toArray below meth c H locs 0 0 Q (F0 m 0 ls []) by rw [eH, el] at goal; exact goal
  refine lv_aload_n hx hb dX1_init_0 rfl (lv_at hl 0 rfl) ?_
  refine g_oi cx hl.1 im_X1_init_OL im_X1_init_OI im_X1_init_OC dX1_init_1 (Nat.le_of_ble_eq_true rfl) (Nat.le_of_ble_eq_true rfl) ?_
  refine lv_aload_n hx hb dX1_init_4 rfl (lv_at hl 0 rfl) ?_
  refine lv_bipush (v := 35) hx hb dX1_init_5 (by decide) ?_
  refine g_nwJ cx im_X1_init_AJ hP hD hS (by decide) (show (35 : Int32).toNatClampNeg = 35 from by decide) (Nat.le_of_ble_eq_true rfl) (Nat.le_of_ble_eq_true rfl) (Nat.le_of_ble_eq_true rfl) dX1_init_7 (fun q1 H hP hD hS => ?_)
  have hP : va_P D vwCl [(a, .inr (0, [.null, .null, .long 0, .long 0, .long 0, .long 0])), cell78_ k q1 (fun _ => 0)] H := hP
  have hD : va_D A [(a, .inr (0, [.null, .null, .long 0, .long 0, .long 0, .long 0])), cell78_ k q1 (fun _ => 0)] := hD
  refine g_ptF cx hnm hP hD hS iw_X1_init_X1 tyX1 tyX1_ok nmX1 0 rfl rfl 0 (by decide) rfl rfl fw_X1_init_11 rfl rfl rfl (Nat.le_of_ble_eq_true rfl) dX1_init_9 (fun H locs hP hD hS => ?_)
  have hP : va_P D vwCl [(a, .inr (0, [.ref q1, .null, .long 0, .long 0, .long 0, .long 0])), cell78_ k q1 (fun _ => 0)] H := hP
  have hD : va_D A [(a, .inr (0, [.ref q1, .null, .long 0, .long 0, .long 0, .long 0])), cell78_ k q1 (fun _ => 0)] := hD
  refine lv_aload_n hx hb dX1_init_12 rfl (lv_at hl 0 rfl) ?_
  refine lv_bipush (v := 35) hx hb dX1_init_13 (by decide) ?_
  refine g_nwJ cx im_X1_init_AJ hP hD hS (by decide) (show (35 : Int32).toNatClampNeg = 35 from by decide) (Nat.le_of_ble_eq_true rfl) (Nat.le_of_ble_eq_true rfl) (Nat.le_of_ble_eq_true rfl) dX1_init_15 (fun q2 H hP hD hS => ?_)
  have hP : va_P D vwCl [(a, .inr (0, [.ref q1, .null, .long 0, .long 0, .long 0, .long 0])), cell78_ k q1 (fun _ => 0), cell78_ k q2 (fun _ => 0)] H := hP
  have hD : va_D A [(a, .inr (0, [.ref q1, .null, .long 0, .long 0, .long 0, .long 0])), cell78_ k q1 (fun _ => 0), cell78_ k q2 (fun _ => 0)] := hD
  refine g_ptF cx hnm hP hD hS iw_X1_init_X1 tyX1 tyX1_ok nmX1 0 rfl rfl 1 (by decide) rfl rfl fw_X1_init_17 rfl rfl rfl (Nat.le_of_ble_eq_true rfl) dX1_init_17 (fun H locs hP hD hS => ?_)
  have hP : va_P D vwCl [cell147_ a q1 q2 0 0 0 0, cell78_ k q1 (fun _ => 0), cell78_ k q2 (fun _ => 0)] H := hP
  have hD : va_D A [cell147_ a q1 q2 0 0 0 0, cell78_ k q1 (fun _ => 0), cell78_ k q2 (fun _ => 0)] := hD
  rw [hQ]
  exact x_vN cx hr ((lq [a, q1, q2]), (lS [(lI []), (fun _ => 0), (fun _ => 0)]), (lT [(lJ [0, 0, 0, 0, 0, 0]), (fun _ => 0), (fun _ => 0)])) hP hD hS trivial dX1_init_20
theorem im_X6_init_OL : Cond.methodLink RX6 3 objectInit ∈ wsX6_init := by decide +kernel
theorem im_X6_init_OI : Cond.instanceMethod objectInit ∈ wsX6_init := by decide +kernel
theorem im_X6_init_OC : Cond.code objectInit ⟨#[0xb1]⟩ 1 none ∈ wsX6_init := by decide +kernel
theorem im_X6_init_AJ : Cond.arrayClass .long ∈ wsX6_init := by decide +kernel
theorem im_X6_init_AI : Cond.arrayClass .int ∈ wsX6_init := by decide +kernel
theorem fw_X6_init_13 : Cond.fieldLink RX6 13 "StillInAugust$Plan" "cost" "[J" ∈ wsX6_init := by decide +kernel
theorem fw_X6_init_17 : Cond.fieldLink RX6 17 "StillInAugust$Plan" "first" "[I" ∈ wsX6_init := by decide +kernel
theorem fw_X6_init_21 : Cond.fieldLink RX6 21 "StillInAugust$Plan" "later" "[J" ∈ wsX6_init := by decide +kernel
theorem fw_X6_init_24 : Cond.fieldLink RX6 24 "StillInAugust$Plan" "order" "[I" ∈ wsX6_init := by decide +kernel
theorem iw_X6_init_X6 : ∀ w ∈ u_ws RX6 TX6 5, w ∈ wsX6_init := fun _ h => List.mem_cons_of_mem _ (List.mem_append_right _ h)
set_option maxHeartbeats 4000000 in
set_option maxRecDepth 100000 in
theorem c_X6_init (l : Launch) (D : va_G) (k : Nat → ClassId) (b : Nat → Nat) (a : Nat) (sz : Nat) : MetN l D k b yX6_init wsX6_init ({ frames := 1, cells := 4, slots := 1225, locals := 20 } : Room) [(a, .inr (4, [.int 0, .null, .null, .null, .null]))] sz [.ref a] 4 1225 (fun (u : (Nat → Nat) × (Nat → Nat → Int32) × (Nat → Nat → Int64)) => True) (fun u => [cell121_ a ((u.2.1) 0 0) ((u.1) 1) ((u.1) 2) ((u.1) 3) ((u.1) 4), cell89_ k ((u.1) 1) ((u.2.2) 1), cell74_ k ((u.1) 2) ((u.2.1) 2), cell78_ k ((u.1) 3) ((u.2.2) 3), cell112_ k ((u.1) 4) ((u.2.1) 4)]) := by
  refine g_enterI (cc := cX6_init) (maxL := 1) (ret := none) (by decide) rfl (Nat.le_of_ble_eq_true rfl) ?_
  intro p e s m below meth c A hsz hAe cx hr hnm hP hD hS ls hl
  rw [hAe]
  refine g_q (fun Q hQ => ?_)
  have hx := cx.1.1
  have hb := cx.1.2.1
  have hl : lv_has ls 1 [(0, .ref a)] := hl
  obtain ⟨H, eH⟩ : ∃ H : Heap, H = s.heap := ⟨_, rfl⟩
  obtain ⟨locs, el⟩ : ∃ L : List Loc, L = [] := ⟨_, rfl⟩
  have hP : va_P D vwCl [(a, .inr (4, [.int 0, .null, .null, .null, .null]))] H := by rw [eH]; exact hP
  have hD : va_D A [(a, .inr (4, [.int 0, .null, .null, .null, .null]))] := hD
  have hS : va_S A s.heap H locs := by rw [eH, el]; exact hS
  suffices goal : W p l e ({ frames := 1, cells := 4, slots := 1225, locals := 20 } : Room) s m ([.ref a] : List Value).toArray below meth c H locs 0 0 Q (F0 m 0 ls []) by rw [eH, el] at goal; exact goal
  refine lv_aload_n hx hb dX6_init_0 rfl (lv_at hl 0 rfl) ?_
  refine g_oi cx hl.1 im_X6_init_OL im_X6_init_OI im_X6_init_OC dX6_init_1 (Nat.le_of_ble_eq_true rfl) (Nat.le_of_ble_eq_true rfl) ?_
  refine lv_aload_n hx hb dX6_init_4 rfl (lv_at hl 0 rfl) ?_
  refine lv_sipush (v := 630) hx hb dX6_init_5 (by decide) ?_
  refine g_nwJ cx im_X6_init_AJ hP hD hS (by decide) (show (630 : Int32).toNatClampNeg = 630 from by decide) (Nat.le_of_ble_eq_true rfl) (Nat.le_of_ble_eq_true rfl) (Nat.le_of_ble_eq_true rfl) dX6_init_8 (fun q1 H hP hD hS => ?_)
  have hP : va_P D vwCl [(a, .inr (4, [.int 0, .null, .null, .null, .null])), cell89_ k q1 (fun _ => 0)] H := hP
  have hD : va_D A [(a, .inr (4, [.int 0, .null, .null, .null, .null])), cell89_ k q1 (fun _ => 0)] := hD
  refine g_ptF cx hnm hP hD hS iw_X6_init_X6 tyX6 tyX6_ok nmX6 0 rfl rfl 1 (by decide) rfl rfl fw_X6_init_13 rfl rfl rfl (Nat.le_of_ble_eq_true rfl) dX6_init_10 (fun H locs hP hD hS => ?_)
  have hP : va_P D vwCl [(a, .inr (4, [.int 0, .ref q1, .null, .null, .null])), cell89_ k q1 (fun _ => 0)] H := hP
  have hD : va_D A [(a, .inr (4, [.int 0, .ref q1, .null, .null, .null])), cell89_ k q1 (fun _ => 0)] := hD
  refine lv_aload_n hx hb dX6_init_13 rfl (lv_at hl 0 rfl) ?_
  refine lv_sipush (v := 525) hx hb dX6_init_14 (by decide) ?_
  refine g_nwI cx im_X6_init_AI hP hD hS (by decide) (show (525 : Int32).toNatClampNeg = 525 from by decide) (Nat.le_of_ble_eq_true rfl) (Nat.le_of_ble_eq_true rfl) (Nat.le_of_ble_eq_true rfl) dX6_init_17 (fun q2 H hP hD hS => ?_)
  have hP : va_P D vwCl [(a, .inr (4, [.int 0, .ref q1, .null, .null, .null])), cell89_ k q1 (fun _ => 0), cell74_ k q2 (fun _ => 0)] H := hP
  have hD : va_D A [(a, .inr (4, [.int 0, .ref q1, .null, .null, .null])), cell89_ k q1 (fun _ => 0), cell74_ k q2 (fun _ => 0)] := hD
  refine g_ptF cx hnm hP hD hS iw_X6_init_X6 tyX6 tyX6_ok nmX6 0 rfl rfl 2 (by decide) rfl rfl fw_X6_init_17 rfl rfl rfl (Nat.le_of_ble_eq_true rfl) dX6_init_19 (fun H locs hP hD hS => ?_)
  have hP : va_P D vwCl [(a, .inr (4, [.int 0, .ref q1, .ref q2, .null, .null])), cell89_ k q1 (fun _ => 0), cell74_ k q2 (fun _ => 0)] H := hP
  have hD : va_D A [(a, .inr (4, [.int 0, .ref q1, .ref q2, .null, .null])), cell89_ k q1 (fun _ => 0), cell74_ k q2 (fun _ => 0)] := hD
  refine lv_aload_n hx hb dX6_init_22 rfl (lv_at hl 0 rfl) ?_
  refine lv_bipush (v := 35) hx hb dX6_init_23 (by decide) ?_
  refine g_nwJ cx im_X6_init_AJ hP hD hS (by decide) (show (35 : Int32).toNatClampNeg = 35 from by decide) (Nat.le_of_ble_eq_true rfl) (Nat.le_of_ble_eq_true rfl) (Nat.le_of_ble_eq_true rfl) dX6_init_25 (fun q3 H hP hD hS => ?_)
  have hP : va_P D vwCl [(a, .inr (4, [.int 0, .ref q1, .ref q2, .null, .null])), cell89_ k q1 (fun _ => 0), cell74_ k q2 (fun _ => 0), cell78_ k q3 (fun _ => 0)] H := hP
  have hD : va_D A [(a, .inr (4, [.int 0, .ref q1, .ref q2, .null, .null])), cell89_ k q1 (fun _ => 0), cell74_ k q2 (fun _ => 0), cell78_ k q3 (fun _ => 0)] := hD
  refine g_ptF cx hnm hP hD hS iw_X6_init_X6 tyX6 tyX6_ok nmX6 0 rfl rfl 3 (by decide) rfl rfl fw_X6_init_21 rfl rfl rfl (Nat.le_of_ble_eq_true rfl) dX6_init_27 (fun H locs hP hD hS => ?_)
  have hP : va_P D vwCl [(a, .inr (4, [.int 0, .ref q1, .ref q2, .ref q3, .null])), cell89_ k q1 (fun _ => 0), cell74_ k q2 (fun _ => 0), cell78_ k q3 (fun _ => 0)] H := hP
  have hD : va_D A [(a, .inr (4, [.int 0, .ref q1, .ref q2, .ref q3, .null])), cell89_ k q1 (fun _ => 0), cell74_ k q2 (fun _ => 0), cell78_ k q3 (fun _ => 0)] := hD
  refine lv_aload_n hx hb dX6_init_30 rfl (lv_at hl 0 rfl) ?_
  refine lv_bipush (v := 35) hx hb dX6_init_31 (by decide) ?_
  refine g_nwI cx im_X6_init_AI hP hD hS (by decide) (show (35 : Int32).toNatClampNeg = 35 from by decide) (Nat.le_of_ble_eq_true rfl) (Nat.le_of_ble_eq_true rfl) (Nat.le_of_ble_eq_true rfl) dX6_init_33 (fun q4 H hP hD hS => ?_)
  have hP : va_P D vwCl [(a, .inr (4, [.int 0, .ref q1, .ref q2, .ref q3, .null])), cell89_ k q1 (fun _ => 0), cell74_ k q2 (fun _ => 0), cell78_ k q3 (fun _ => 0), cell112_ k q4 (fun _ => 0)] H := hP
  have hD : va_D A [(a, .inr (4, [.int 0, .ref q1, .ref q2, .ref q3, .null])), cell89_ k q1 (fun _ => 0), cell74_ k q2 (fun _ => 0), cell78_ k q3 (fun _ => 0), cell112_ k q4 (fun _ => 0)] := hD
  refine g_ptF cx hnm hP hD hS iw_X6_init_X6 tyX6 tyX6_ok nmX6 0 rfl rfl 4 (by decide) rfl rfl fw_X6_init_24 rfl rfl rfl (Nat.le_of_ble_eq_true rfl) dX6_init_35 (fun H locs hP hD hS => ?_)
  have hP : va_P D vwCl [cell121_ a 0 q1 q2 q3 q4, cell89_ k q1 (fun _ => 0), cell74_ k q2 (fun _ => 0), cell78_ k q3 (fun _ => 0), cell112_ k q4 (fun _ => 0)] H := hP
  have hD : va_D A [cell121_ a 0 q1 q2 q3 q4, cell89_ k q1 (fun _ => 0), cell74_ k q2 (fun _ => 0), cell78_ k q3 (fun _ => 0), cell112_ k q4 (fun _ => 0)] := hD
  rw [hQ]
  exact x_vN cx hr ((lq [a, q1, q2, q3, q4]), (lS [(lI [0]), (fun _ => 0), (fun _ => 0), (fun _ => 0), (fun _ => 0)]), (lT [(lJ []), (fun _ => 0), (fun _ => 0), (fun _ => 0), (fun _ => 0)])) hP hD hS trivial dX6_init_38
