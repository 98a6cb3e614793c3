theorem im_X7_init_OL : Cond.methodLink RX7 3 objectInit ∈ wsX7_init := by decide +kernel
theorem im_X7_init_OI : Cond.instanceMethod objectInit ∈ wsX7_init := by decide +kernel
theorem im_X7_init_OC : Cond.code objectInit ⟨#[0xb1]⟩ 1 none ∈ wsX7_init := by decide +kernel
theorem im_X7_init_AI : Cond.arrayClass .int ∈ wsX7_init := by decide +kernel
theorem im_X7_init_C18 : Cond.classLink RX7 18 RX9 ∈ wsX7_init := by decide +kernel
theorem im_X7_init_NX9 : Cond.instantiable RX9 6 ∈ wsX7_init := by decide +kernel
theorem im_X7_init_IX9 : Cond.initialized RX9 ∈ wsX7_init := by decide +kernel
theorem im_X7_init_MX9_init : Cond.instanceMethod yX9_init ∈ wsX7_init := by decide +kernel
theorem fw_X7_init_15 : Cond.fieldLink RX7 15 "StillInAugust$Row" "leavers" "[I" ∈ wsX7_init := by decide +kernel
theorem fw_X7_init_21 : Cond.fieldLink RX7 21 "StillInAugust$Row" "past" "LStillInAugust$Summer;" ∈ wsX7_init := by decide +kernel
theorem fw_X7_init_9 : Cond.fieldLink RX7 9 "StillInAugust$Row" "acts" "[I" ∈ wsX7_init := by decide +kernel
theorem iw_X7_init_X7 : ∀ w ∈ u_ws RX7 TX7 9, w ∈ wsX7_init := fun _ h => List.mem_cons_of_mem _ (List.mem_append_left _ (List.mem_append_right _ h))
theorem iw_X7_init_X9 : ∀ w ∈ u_ws RX9 TX9 6, w ∈ wsX7_init := fun _ h => List.mem_cons_of_mem _ (List.mem_append_right _ h)
theorem ni_X9_init : yX9_init.cls ≠ "java/lang/invoke/MethodHandle" ∧ yX9_init.cls ≠ "java/lang/invoke/VarHandle" ∧ (parseMethodDescriptor yX9_init.desc).map (fun d => d.parameters.length) = some 0 := by decide +kernel
set_option maxHeartbeats 4000000 in
set_option maxRecDepth 100000 in
theorem c_X7_init (l : Launch) (D : va_G) (k : Nat → ClassId) (b : Nat → Nat) (a : Nat) (sz : Nat) : MetNN l D k b yX7_init wsX7_init ({ frames := 2, cells := 3, slots := 16, locals := 40 } : Room) [(a, .inr (5, [.null, .null, .int 0, .null, .int 0, .int 0, .int 0, .long 0, .long 0]))] sz [.ref a] 3 16 (fun (u : (Nat → Nat) × (Nat → Nat → Int32) × (Nat → Nat → Int64) × (Nat → Nat) × (Nat → Nat → Int32)) => (((u.2.1) 0 2).toInt = 0) ∧ (∀ j, 0 ≤ ((u.2.1) 1 j).toInt ∧ ((u.2.1) 1 j).toInt ≤ 9999) ∧ (∀ j, 0 ≤ ((u.2.1) 2 j).toInt ∧ ((u.2.1) 2 j).toInt ≤ 444)) (fun u => [cell146_ a ((u.1) 1) ((u.1) 2) ((u.2.1) 0 2) ((u.2.2.2.1) 0) ((u.2.1) 0 4) ((u.2.1) 0 5) ((u.2.1) 0 6) ((u.2.2.1) 0 7) ((u.2.2.1) 0 8), cell50_ k ((u.1) 1) ((u.2.1) 1), cell50_ k ((u.1) 2) ((u.2.1) 2), cell55_ ((u.2.2.2.1) 0) ((u.2.2.2.2) 0 0) ((u.2.2.2.2) 0 1) ((u.2.2.2.2) 0 2) ((u.2.2.2.2) 0 3) ((u.2.2.2.2) 0 4) ((u.2.2.2.2) 0 5)]) := by
  refine g_enterN (cc := cX7_init) (maxL := 1) (ret := none) (by decide) rfl (Nat.le_of_ble_eq_true rfl) ?_
  intro p e s m below meth c A hsz hAe cx hr hnm hN hP hD hS ls hl
  rw [hAe]
  refine g_q (fun Q hQ => ?_)
  have hx := cx.1.1
  have hb := cx.1.2.1
  obtain ⟨hN0, hN1, hN2, hN3, hN4, hN5⟩ := id hN
  have hl : lv_has ls 1 [(0, .ref a)] := hl
  obtain ⟨H, eH⟩ : ∃ H : Heap, H = s.heap := ⟨_, rfl⟩
  obtain ⟨locs, el⟩ : ∃ L : List Loc, L = [] := ⟨_, rfl⟩
  have hP : va_P D vwCl [(a, .inr (5, [.null, .null, .int 0, .null, .int 0, .int 0, .int 0, .long 0, .long 0]))] H := by rw [eH]; exact hP
  have hD : va_D A [(a, .inr (5, [.null, .null, .int 0, .null, .int 0, .int 0, .int 0, .long 0, .long 0]))] := hD
  have hS : va_S A s.heap H locs := by rw [eH, el]; exact hS
  suffices goal : W p l e ({ frames := 2, cells := 3, slots := 16, locals := 40 } : Room) s m ([.ref a] : List Value).toArray below meth c H locs 0 0 Q (F0 m 0 ls []) by rw [eH, el] at goal; exact goal
  refine lv_aload_n hx hb dX7_init_0 rfl (lv_at hl 0 rfl) ?_
  refine g_oi cx hl.1 im_X7_init_OL im_X7_init_OI im_X7_init_OC dX7_init_1 (Nat.le_of_ble_eq_true rfl) (Nat.le_of_ble_eq_true rfl) ?_
  refine lv_aload_n hx hb dX7_init_4 rfl (lv_at hl 0 rfl) ?_
  refine lv_iconst (v := 5) hx hb dX7_init_5 (by decide) ?_
  refine g_nwI cx im_X7_init_AI hP hD hS (by decide) (show (5 : Int32).toNatClampNeg = 5 from by decide) (Nat.le_of_ble_eq_true rfl) (Nat.le_of_ble_eq_true rfl) (Nat.le_of_ble_eq_true rfl) dX7_init_6 (fun q1 H hP hD hS => ?_)
  have hP : va_P D vwCl [(a, .inr (5, [.null, .null, .int 0, .null, .int 0, .int 0, .int 0, .long 0, .long 0])), cell50_ k q1 (fun _ => 0)] H := hP
  have hD : va_D A [(a, .inr (5, [.null, .null, .int 0, .null, .int 0, .int 0, .int 0, .long 0, .long 0])), cell50_ k q1 (fun _ => 0)] := hD
  refine g_ptF cx hnm hP hD hS iw_X7_init_X7 tyX7 tyX7_ok nmX7 0 rfl rfl 0 (by decide) rfl rfl fw_X7_init_9 rfl rfl rfl (Nat.le_of_ble_eq_true rfl) dX7_init_8 (fun H locs hP hD hS => ?_)
  have hP : va_P D vwCl [(a, .inr (5, [.ref q1, .null, .int 0, .null, .int 0, .int 0, .int 0, .long 0, .long 0])), cell50_ k q1 (fun _ => 0)] H := hP
  have hD : va_D A [(a, .inr (5, [.ref q1, .null, .int 0, .null, .int 0, .int 0, .int 0, .long 0, .long 0])), cell50_ k q1 (fun _ => 0)] := hD
  refine lv_aload_n hx hb dX7_init_11 rfl (lv_at hl 0 rfl) ?_
  refine lv_iconst (v := 5) hx hb dX7_init_12 (by decide) ?_
  refine g_nwI cx im_X7_init_AI hP hD hS (by decide) (show (5 : Int32).toNatClampNeg = 5 from by decide) (Nat.le_of_ble_eq_true rfl) (Nat.le_of_ble_eq_true rfl) (Nat.le_of_ble_eq_true rfl) dX7_init_13 (fun q2 H hP hD hS => ?_)
  have hP : va_P D vwCl [(a, .inr (5, [.ref q1, .null, .int 0, .null, .int 0, .int 0, .int 0, .long 0, .long 0])), cell50_ k q1 (fun _ => 0), cell50_ k q2 (fun _ => 0)] H := hP
  have hD : va_D A [(a, .inr (5, [.ref q1, .null, .int 0, .null, .int 0, .int 0, .int 0, .long 0, .long 0])), cell50_ k q1 (fun _ => 0), cell50_ k q2 (fun _ => 0)] := hD
  refine g_ptF cx hnm hP hD hS iw_X7_init_X7 tyX7 tyX7_ok nmX7 0 rfl rfl 1 (by decide) rfl rfl fw_X7_init_15 rfl rfl rfl (Nat.le_of_ble_eq_true rfl) dX7_init_15 (fun H locs hP hD hS => ?_)
  have hP : va_P D vwCl [(a, .inr (5, [.ref q1, .ref q2, .int 0, .null, .int 0, .int 0, .int 0, .long 0, .long 0])), cell50_ k q1 (fun _ => 0), cell50_ k q2 (fun _ => 0)] H := hP
  have hD : va_D A [(a, .inr (5, [.ref q1, .ref q2, .int 0, .null, .int 0, .int 0, .int 0, .long 0, .long 0])), cell50_ k q1 (fun _ => 0), cell50_ k q2 (fun _ => 0)] := hD
  refine lv_aload_n hx hb dX7_init_18 rfl (lv_at hl 0 rfl) ?_
  refine g_new cx iw_X7_init_X9 tyX9 tyX9_ok im_X7_init_C18 im_X7_init_NX9 im_X7_init_IX9 hP hD hS (ci := 7) rfl (fs := [.int 0, .int 0, .int 0, .int 0, .int 0, .int 0]) (fun j hj => by rcases (show j = 0 ∨ j = 1 ∨ j = 2 ∨ j = 3 ∨ j = 4 ∨ j = 5 by omega) with rfl | rfl | rfl | rfl | rfl | rfl <;> rfl) (Nat.le_of_ble_eq_true rfl) (Nat.le_of_ble_eq_true rfl) dX7_init_19 (fun q3 H hP hD hS => ?_)
  have hP : va_P D vwCl [(a, .inr (5, [.ref q1, .ref q2, .int 0, .null, .int 0, .int 0, .int 0, .long 0, .long 0])), cell50_ k q1 (fun _ => 0), cell50_ k q2 (fun _ => 0), cell55_ q3 0 0 0 0 0 0] H := hP
  have hD : va_D A [(a, .inr (5, [.ref q1, .ref q2, .int 0, .null, .int 0, .int 0, .int 0, .long 0, .long 0])), cell50_ k q1 (fun _ => 0), cell50_ k q2 (fun _ => 0), cell55_ q3 0 0 0 0 0 0] := hD
  refine lv_dup hx hb dX7_init_22 rfl ?_
  refine g_vI (wr := [(a, .inr (5, [.ref q1, .ref q2, .int 0, .null, .int 0, .int 0, .int 0, .long 0, .long 0])), cell50_ k q1 (fun _ => 0), cell50_ k q2 (fun _ => 0)]) (g_runIN cx (wc := [cell55_ q3 0 0 0 0 0 0]) (rest := [.ref q3, .ref a]) hP hD hS [3] rfl (by decide) [] (c_X9_init l D k b q3 H.size) gX7_init_X9_init_n20 rfl rfl rfl im_X7_init_IX9 hN5 im_X7_init_MX9_init rfl ni_X9_init ⟨Nat.le_of_ble_eq_true rfl, Nat.le_of_ble_eq_true rfl⟩ rfl hl.1 rfl (Nat.le_of_ble_eq_true rfl) ⟨Nat.le_of_ble_eq_true rfl, Nat.le_of_ble_eq_true rfl⟩ dX7_init_23) cx.2.2.1 hP hD hS [3] [0, 1, 2] rfl rfl (by decide) (by decide) (fun u5 H locs hw4 hP hD hS => ?_)
  have hP : va_P D vwCl [(a, .inr (5, [.ref q1, .ref q2, .int 0, .null, .int 0, .int 0, .int 0, .long 0, .long 0])), cell50_ k q1 (fun _ => 0), cell50_ k q2 (fun _ => 0), cell55_ q3 0 0 0 0 0 0] H := hP
  have hD : va_D A [(a, .inr (5, [.ref q1, .ref q2, .int 0, .null, .int 0, .int 0, .int 0, .long 0, .long 0])), cell50_ k q1 (fun _ => 0), cell50_ k q2 (fun _ => 0), cell55_ q3 0 0 0 0 0 0] := hD
  refine g_ptF cx hnm hP hD hS iw_X7_init_X7 tyX7 tyX7_ok nmX7 0 rfl rfl 3 (by decide) rfl rfl fw_X7_init_21 rfl rfl rfl (Nat.le_of_ble_eq_true rfl) dX7_init_26 (fun H locs hP hD hS => ?_)
  have hP : va_P D vwCl [cell146_ a q1 q2 0 q3 0 0 0 0 0, cell50_ k q1 (fun _ => 0), cell50_ k q2 (fun _ => 0), cell55_ q3 0 0 0 0 0 0] H := hP
  have hD : va_D A [cell146_ a q1 q2 0 q3 0 0 0 0 0, cell50_ k q1 (fun _ => 0), cell50_ k q2 (fun _ => 0), cell55_ q3 0 0 0 0 0 0] := hD
  rw [hQ]
  exact x_vN cx hr ((lq [a, q1, q2]), (lS [(lI [0, 0, 0, 0, 0, 0, 0]), (fun _ => 0), (fun _ => 0)]), (lT [(lJ [0, 0, 0, 0, 0, 0, 0, 0, 0]), (fun _ => 0), (fun _ => 0)]), (lq [q3]), (lS [(lI [0, 0, 0, 0, 0, 0])])) hP hD hS ⟨(show (0 : Int32).toInt = 0 from by first | decide | assumption | omega), zr9999, zr444⟩ dX7_init_29
