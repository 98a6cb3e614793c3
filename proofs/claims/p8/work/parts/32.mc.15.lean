theorem nd_X12_common : yX12_common.cls ≠ "java/lang/invoke/MethodHandle" ∧ yX12_common.cls ≠ "java/lang/invoke/VarHandle" ∧ (parseMethodDescriptor yX12_common.desc).map (fun d => d.parameters.length) = some 2 := by decide +kernel
set_option maxHeartbeats 4000000 in
set_option maxRecDepth 100000 in
theorem c_X12_told (l : Launch) (D : va_G) (k : Nat → ClassId) (b : Nat → Nat) (sz : Nat) (p0 : Int64) (p1 : Int64) (p2 : Int32) (hz : ¬ p1.toInt = 0) : MetL l D k b yX12_told wsX12_told ({ frames := 1, cells := 0, slots := 0, locals := 29 } : Room) [] sz [.long p0, .long p1, .int p2] (fun (r : Int64) (u : Unit) => True) (fun u => []) := by
  refine g_enter (cc := cX12_told) (maxL := 7) (ret := (some .long)) (by decide) rfl (Nat.le_of_ble_eq_true rfl) ?_
  intro p e s m below meth c A hsz hAe cx hr hP hD hS ls hl
  rw [hAe]
  refine g_q (fun Q hQ => ?_)
  have hx := cx.1.1
  have hb := cx.1.2.1
  have bp2 := i_rng p2
  have hl : lv_has ls 7 [(0, .long p0), (2, .long p1), (4, .int p2)] := hl
  obtain ⟨H, eH⟩ : ∃ H : Heap, H = s.heap := ⟨_, rfl⟩
  obtain ⟨locs, el⟩ : ∃ L : List Loc, L = [] := ⟨_, rfl⟩
  have hP : va_P D vwCl [] H := by rw [eH]; exact hP
  have hD : va_D A [] := hD
  have hS : va_S A s.heap H locs := by rw [eH, el]; exact hS
  suffices goal : W p l e ({ frames := 1, cells := 0, slots := 0, locals := 29 } : Room) s m ([.long p0, .long p1, .int p2] : List Value).toArray below meth c H locs 0 0 Q (F0 m 0 ls []) by rw [eH, el] at goal; exact goal
  refine lv_lload_n hx hb dX12_told_0 rfl (lv_at hl 0 rfl) ?_
  refine lv_lload_n hx hb dX12_told_1 rfl (lv_at hl 1 rfl) ?_
  refine g_lr (g_runS (wc := []) (rest := []) cx hP hD hS [] rfl (by decide) [.long p0, .long p1] (c_X12_common l D k b H.size p0 p1 (show ¬ p1.toInt = 0 from by first | decide | omega)) gX12_told_X12_common rfl rfl rfl nd_X12_common ⟨Nat.le_of_ble_eq_true rfl, Nat.le_of_ble_eq_true rfl⟩ rfl hl.1 rfl (Nat.le_of_ble_eq_true rfl) ⟨Nat.zero_le _, Nat.zero_le _⟩ dX12_told_2) cx.2.2.1 hP hD hS [] rfl rfl (fun r2 H locs hw1 hP hS => ?_)
  have w3 : ¬ r2.toInt = 0 := hw1
  clear hw1
  refine lv_lstore (lv' := [(5, .long r2), (0, .long p0), (2, .long p1), (4, .int p2)]) hx hb dX12_told_5 hl (by decide) rfl (fun ls hl => ?_)
  refine lv_iload hx hb dX12_told_7 (lv_at hl 3 rfl) ?_
  refine lv_if_eq (tgt := 19) hx hb dX12_told_9 (by decide) (fun c4 => ?_) (fun c4 => ?_)
  · have f4 : p2.toInt = 0 := f_eq rfl (by decide) c4
    refine lv_lload_n hx hb dX12_told_19 rfl (lv_at hl 2 rfl) ?_
    refine lv_lload hx hb dX12_told_20 (lv_at hl 0 rfl) ?_
    refine lv_ldiv hx hb dX12_told_22 (nz64 (by omega)) (lv_topl (fun v5 e5 => ?_))
    rw [hQ]
    exact x_l cx hr () hP hD hS trivial dX12_told_23
  · have f4 : ¬ p2.toInt = 0 := f_ne rfl (by decide) c4
    refine lv_lload_n hx hb dX12_told_12 rfl (lv_at hl 1 rfl) ?_
    refine lv_lload hx hb dX12_told_13 (lv_at hl 0 rfl) ?_
    refine lv_ldiv hx hb dX12_told_15 (nz64 (by omega)) (lv_topl (fun v6 e6 => ?_))
    refine lv_goto (tgt := 23) hx hb dX12_told_16 (by decide) ?_
    rw [hQ]
    exact x_l cx hr () hP hD hS trivial dX12_told_23
