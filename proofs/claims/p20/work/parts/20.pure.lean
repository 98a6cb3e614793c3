def J_X3_ofAge (p0 : Int32) (p1 : Int32) : Int32 := if p1 = 0 then (p0 / 100) else if p1 = 1 then ((p0 / 10) - (p0 / 10) / 10 * 10) else (p0 - p0 / 10 * 10)
set_option maxHeartbeats 4000000 in
set_option maxRecDepth 100000 in
theorem c_X3_ofAge (l : Launch) (D : va_G) (k : Nat → ClassId) (b : Nat → Nat) (sz : Nat) (p0 : Int32) (p1 : Int32) : MetI l D k b yX3_ofAge wsX3_ofAge ({ frames := 0, cells := 0, slots := 0, locals := 0 } : Room) [] sz [.int p0, .int p1] (fun (r : Int32) (u : Unit) => r = J_X3_ofAge p0 p1) (fun u => []) := by
  refine g_enter (cc := cX3_ofAge) (maxL := 2) (ret := (some .int)) (by decide) rfl (Nat.le_of_ble_eq_true rfl) ?_
  intro p e s m below meth c A hsz hAe cx hr hP hD hS ls hl
  rw [hAe]
  refine g_q (fun Q hQ => ?_)
  have hx := cx.1.1
  have hb := cx.1.2.1
  have hl : lv_has ls 2 [(0, .int p0), (1, .int p1)] := hl
  obtain ⟨H, eH⟩ : ∃ H : Heap, H = s.heap := ⟨_, rfl⟩
  obtain ⟨locs, el⟩ : ∃ L : List Loc, L = [] := ⟨_, rfl⟩
  have hP : va_P D vwCl [] H := by rw [eH]; exact hP
  have hD : va_D A [] := hD
  have hS : va_S A s.heap H locs := by rw [eH, el]; exact hS
  suffices goal : W p l e ({ frames := 0, cells := 0, slots := 0, locals := 0 } : Room) s m ([.int p0, .int p1] : List Value).toArray below meth c H locs 0 0 Q (F0 m 0 ls []) by rw [eH, el] at goal; exact goal
  refine lv_iload_n hx hb dX3_ofAge_0 rfl (lv_at hl 1 rfl) ?_
  refine lv_if_ne (tgt := 11) hx hb dX3_ofAge_1 (by decide) (fun c1 => ?_) (fun c1 => ?_)
  · refine lv_iload_n hx hb dX3_ofAge_11 rfl (lv_at hl 1 rfl) ?_
    refine lv_iconst (v := 1) hx hb dX3_ofAge_12 (by decide) ?_
    refine lv_icmp_ne (tgt := 26) hx hb dX3_ofAge_13 (by decide) (fun c2 => ?_) (fun c2 => ?_)
    · refine lv_iload_n hx hb dX3_ofAge_26 rfl (lv_at hl 0 rfl) ?_
      refine lv_bipush (v := 10) hx hb dX3_ofAge_27 (by decide) ?_
      refine lv_irem hx hb dX3_ofAge_29 (by decide) (lv_topi (fun v3 e3 => ?_))
      rw [hQ]
      exact x_i cx hr () hP hD hS (show v3 = J_X3_ofAge p0 p1 from by subst e3; unfold J_X3_ofAge; rw [if_neg c1, if_neg c2]) dX3_ofAge_30
    · refine lv_iload_n hx hb dX3_ofAge_16 rfl (lv_at hl 0 rfl) ?_
      refine lv_bipush (v := 10) hx hb dX3_ofAge_17 (by decide) ?_
      refine lv_idiv hx hb dX3_ofAge_19 (by decide) (lv_topi (fun v4 e4 => ?_))
      refine lv_bipush (v := 10) hx hb dX3_ofAge_20 (by decide) ?_
      refine lv_irem hx hb dX3_ofAge_22 (by decide) (lv_topi (fun v5 e5 => ?_))
      refine lv_goto (tgt := 30) hx hb dX3_ofAge_23 (by decide) ?_
      rw [hQ]
      exact x_i cx hr () hP hD hS (show v5 = J_X3_ofAge p0 p1 from by subst e4 e5; unfold J_X3_ofAge; rw [if_neg c1, if_pos c2]) dX3_ofAge_30
  · refine lv_iload_n hx hb dX3_ofAge_4 rfl (lv_at hl 0 rfl) ?_
    refine lv_bipush (v := 100) hx hb dX3_ofAge_5 (by decide) ?_
    refine lv_idiv hx hb dX3_ofAge_7 (by decide) (lv_topi (fun v6 e6 => ?_))
    refine lv_goto (tgt := 30) hx hb dX3_ofAge_8 (by decide) ?_
    rw [hQ]
    exact x_i cx hr () hP hD hS (show v6 = J_X3_ofAge p0 p1 from by subst e6; unfold J_X3_ofAge; rw [if_pos c1]) dX3_ofAge_30
def J_X3_total (p0 : Int32) : Int32 := (((p0 / 100) + ((p0 / 10) - (p0 / 10) / 10 * 10)) + (p0 - p0 / 10 * 10))
set_option maxHeartbeats 4000000 in
set_option maxRecDepth 100000 in
theorem c_X3_total (l : Launch) (D : va_G) (k : Nat → ClassId) (b : Nat → Nat) (sz : Nat) (p0 : Int32) : MetI l D k b yX3_total wsX3_total ({ frames := 0, cells := 0, slots := 0, locals := 0 } : Room) [] sz [.int p0] (fun (r : Int32) (u : Unit) => r = J_X3_total p0) (fun u => []) := by
  refine g_enter (cc := cX3_total) (maxL := 1) (ret := (some .int)) (by decide) rfl (Nat.le_of_ble_eq_true rfl) ?_
  intro p e s m below meth c A hsz hAe cx hr hP hD hS ls hl
  rw [hAe]
  refine g_q (fun Q hQ => ?_)
  have hx := cx.1.1
  have hb := cx.1.2.1
  have hl : lv_has ls 1 [(0, .int p0)] := hl
  obtain ⟨H, eH⟩ : ∃ H : Heap, H = s.heap := ⟨_, rfl⟩
  obtain ⟨locs, el⟩ : ∃ L : List Loc, L = [] := ⟨_, rfl⟩
  have hP : va_P D vwCl [] H := by rw [eH]; exact hP
  have hD : va_D A [] := hD
  have hS : va_S A s.heap H locs := by rw [eH, el]; exact hS
  suffices goal : W p l e ({ frames := 0, cells := 0, slots := 0, locals := 0 } : Room) s m ([.int p0] : List Value).toArray below meth c H locs 0 0 Q (F0 m 0 ls []) by rw [eH, el] at goal; exact goal
  refine lv_iload_n hx hb dX3_total_0 rfl (lv_at hl 0 rfl) ?_
  refine lv_bipush (v := 100) hx hb dX3_total_1 (by decide) ?_
  refine lv_idiv hx hb dX3_total_3 (by decide) (lv_topi (fun v1 e1 => ?_))
  refine lv_iload_n hx hb dX3_total_4 rfl (lv_at hl 0 rfl) ?_
  refine lv_bipush (v := 10) hx hb dX3_total_5 (by decide) ?_
  refine lv_idiv hx hb dX3_total_7 (by decide) (lv_topi (fun v2 e2 => ?_))
  refine lv_bipush (v := 10) hx hb dX3_total_8 (by decide) ?_
  refine lv_irem hx hb dX3_total_10 (by decide) (lv_topi (fun v3 e3 => ?_))
  refine lv_iadd hx hb dX3_total_11 (lv_topi (fun v4 e4 => ?_))
  refine lv_iload_n hx hb dX3_total_12 rfl (lv_at hl 0 rfl) ?_
  refine lv_bipush (v := 10) hx hb dX3_total_13 (by decide) ?_
  refine lv_irem hx hb dX3_total_15 (by decide) (lv_topi (fun v5 e5 => ?_))
  refine lv_iadd hx hb dX3_total_16 (lv_topi (fun v6 e6 => ?_))
  rw [hQ]
  exact x_i cx hr () hP hD hS (show v6 = J_X3_total p0 from by subst e1 e2 e3 e4 e5 e6; rfl) dX3_total_17
theorem nd_X3_total : yX3_total.cls ≠ "java/lang/invoke/MethodHandle" ∧ yX3_total.cls ≠ "java/lang/invoke/VarHandle" ∧ (parseMethodDescriptor yX3_total.desc).map (fun d => d.parameters.length) = some 1 := by decide +kernel
def J_X3_areAtMost (p0 : Int32) (p1 : Int32) : Int32 := if p0 < 0 then (0 : Int32) else if 999 < p0 then (0 : Int32) else if p1 < (J_X3_total p0) then (0 : Int32) else (1 : Int32)
set_option maxHeartbeats 4000000 in
set_option maxRecDepth 100000 in
theorem c_X3_areAtMost (l : Launch) (D : va_G) (k : Nat → ClassId) (b : Nat → Nat) (sz : Nat) (p0 : Int32) (p1 : Int32) : MetI l D k b yX3_areAtMost wsX3_areAtMost ({ frames := 1, cells := 0, slots := 0, locals := 20 } : Room) [] sz [.int p0, .int p1] (fun (r : Int32) (u : Unit) => r = J_X3_areAtMost p0 p1) (fun u => []) := by
  refine g_enter (cc := cX3_areAtMost) (maxL := 2) (ret := (some .boolean)) (by decide) rfl (Nat.le_of_ble_eq_true rfl) ?_
  intro p e s m below meth c A hsz hAe cx hr hP hD hS ls hl
  rw [hAe]
  refine g_q (fun Q hQ => ?_)
  have hx := cx.1.1
  have hb := cx.1.2.1
  have hl : lv_has ls 2 [(0, .int p0), (1, .int p1)] := hl
  obtain ⟨H, eH⟩ : ∃ H : Heap, H = s.heap := ⟨_, rfl⟩
  obtain ⟨locs, el⟩ : ∃ L : List Loc, L = [] := ⟨_, rfl⟩
  have hP : va_P D vwCl [] H := by rw [eH]; exact hP
  have hD : va_D A [] := hD
  have hS : va_S A s.heap H locs := by rw [eH, el]; exact hS
  suffices goal : W p l e ({ frames := 1, cells := 0, slots := 0, locals := 20 } : Room) s m ([.int p0, .int p1] : List Value).toArray below meth c H locs 0 0 Q (F0 m 0 ls []) by rw [eH, el] at goal; exact goal
  refine lv_iload_n hx hb dX3_areAtMost_0 rfl (lv_at hl 0 rfl) ?_
  refine lv_if_lt (tgt := 23) hx hb dX3_areAtMost_1 (by decide) (fun c1 => ?_) (fun c1 => ?_)
  · refine lv_iconst (v := 0) hx hb dX3_areAtMost_23 (by decide) ?_
    rw [hQ]
    exact x_z cx hr (by decide) () hP hD hS (show 0 = J_X3_areAtMost p0 p1 from by unfold J_X3_areAtMost; rw [if_pos c1]) dX3_areAtMost_24
  · refine lv_iload_n hx hb dX3_areAtMost_4 rfl (lv_at hl 0 rfl) ?_
    refine lv_sipush (v := 999) hx hb dX3_areAtMost_5 (by decide) ?_
    refine lv_icmp_gt (tgt := 23) hx hb dX3_areAtMost_8 (by decide) (fun c2 => ?_) (fun c2 => ?_)
    · refine lv_iconst (v := 0) hx hb dX3_areAtMost_23 (by decide) ?_
      rw [hQ]
      exact x_z cx hr (by decide) () hP hD hS (show 0 = J_X3_areAtMost p0 p1 from by unfold J_X3_areAtMost; rw [if_neg c1, if_pos c2]) dX3_areAtMost_24
    · refine lv_iload_n hx hb dX3_areAtMost_11 rfl (lv_at hl 0 rfl) ?_
      refine g_ir (g_runS (wc := []) (rest := []) cx hP hD hS [] rfl (by decide) [.int p0] (c_X3_total l D k b H.size p0) gX3_areAtMost_X3_total rfl rfl rfl nd_X3_total ⟨Nat.le_of_ble_eq_true rfl, Nat.le_of_ble_eq_true rfl⟩ rfl hl.1 rfl (Nat.le_of_ble_eq_true rfl) ⟨Nat.zero_le _, Nat.zero_le _⟩ dX3_areAtMost_12) cx.2.2.1 hP hD hS [] rfl rfl (fun r4 H locs hw3 hP hS => ?_)
      have w5 : r4 = J_X3_total p0 := hw3
      clear hw3
      refine lv_iload_n hx hb dX3_areAtMost_15 rfl (lv_at hl 1 rfl) ?_
      refine lv_icmp_gt (tgt := 23) hx hb dX3_areAtMost_16 (by decide) (fun c6 => ?_) (fun c6 => ?_)
      · refine lv_iconst (v := 0) hx hb dX3_areAtMost_23 (by decide) ?_
        rw [hQ]
        exact x_z cx hr (by decide) () hP hD hS (show 0 = J_X3_areAtMost p0 p1 from by subst w5; unfold J_X3_areAtMost; rw [if_neg c1, if_neg c2, if_pos c6]) dX3_areAtMost_24
      · refine lv_iconst (v := 1) hx hb dX3_areAtMost_19 (by decide) ?_
        refine lv_goto (tgt := 24) hx hb dX3_areAtMost_20 (by decide) ?_
        rw [hQ]
        exact x_z cx hr (by decide) () hP hD hS (show 1 = J_X3_areAtMost p0 p1 from by subst w5; unfold J_X3_areAtMost; rw [if_neg c1, if_neg c2, if_neg c6]) dX3_areAtMost_24
def J_X3_areLeavers (p0 : Int32) : Int32 := if p0 < 0 then (0 : Int32) else if 444 < p0 then (0 : Int32) else if 4 < ((p0 / 10) - (p0 / 10) / 10 * 10) then (0 : Int32) else if 4 < (p0 - p0 / 10 * 10) then (0 : Int32) else (1 : Int32)
set_option maxHeartbeats 4000000 in
set_option maxRecDepth 100000 in
theorem c_X3_areLeavers (l : Launch) (D : va_G) (k : Nat → ClassId) (b : Nat → Nat) (sz : Nat) (p0 : Int32) : MetI l D k b yX3_areLeavers wsX3_areLeavers ({ frames := 0, cells := 0, slots := 0, locals := 0 } : Room) [] sz [.int p0] (fun (r : Int32) (u : Unit) => r = J_X3_areLeavers p0) (fun u => []) := by
  refine g_enter (cc := cX3_areLeavers) (maxL := 1) (ret := (some .boolean)) (by decide) rfl (Nat.le_of_ble_eq_true rfl) ?_
  intro p e s m below meth c A hsz hAe cx hr hP hD hS ls hl
  rw [hAe]
  refine g_q (fun Q hQ => ?_)
  have hx := cx.1.1
  have hb := cx.1.2.1
  have hl : lv_has ls 1 [(0, .int p0)] := hl
  obtain ⟨H, eH⟩ : ∃ H : Heap, H = s.heap := ⟨_, rfl⟩
  obtain ⟨locs, el⟩ : ∃ L : List Loc, L = [] := ⟨_, rfl⟩
  have hP : va_P D vwCl [] H := by rw [eH]; exact hP
  have hD : va_D A [] := hD
  have hS : va_S A s.heap H locs := by rw [eH, el]; exact hS
  suffices goal : W p l e ({ frames := 0, cells := 0, slots := 0, locals := 0 } : Room) s m ([.int p0] : List Value).toArray below meth c H locs 0 0 Q (F0 m 0 ls []) by rw [eH, el] at goal; exact goal
  refine lv_iload_n hx hb dX3_areLeavers_0 rfl (lv_at hl 0 rfl) ?_
  refine lv_if_lt (tgt := 34) hx hb dX3_areLeavers_1 (by decide) (fun c1 => ?_) (fun c1 => ?_)
  · refine lv_iconst (v := 0) hx hb dX3_areLeavers_34 (by decide) ?_
    rw [hQ]
    exact x_z cx hr (by decide) () hP hD hS (show 0 = J_X3_areLeavers p0 from by unfold J_X3_areLeavers; rw [if_pos c1]) dX3_areLeavers_35
  · refine lv_iload_n hx hb dX3_areLeavers_4 rfl (lv_at hl 0 rfl) ?_
    refine lv_sipush (v := 444) hx hb dX3_areLeavers_5 (by decide) ?_
    refine lv_icmp_gt (tgt := 34) hx hb dX3_areLeavers_8 (by decide) (fun c2 => ?_) (fun c2 => ?_)
    · refine lv_iconst (v := 0) hx hb dX3_areLeavers_34 (by decide) ?_
      rw [hQ]
      exact x_z cx hr (by decide) () hP hD hS (show 0 = J_X3_areLeavers p0 from by unfold J_X3_areLeavers; rw [if_neg c1, if_pos c2]) dX3_areLeavers_35
    · refine lv_iload_n hx hb dX3_areLeavers_11 rfl (lv_at hl 0 rfl) ?_
      refine lv_bipush (v := 10) hx hb dX3_areLeavers_12 (by decide) ?_
      refine lv_idiv hx hb dX3_areLeavers_14 (by decide) (lv_topi (fun v3 e3 => ?_))
      refine lv_bipush (v := 10) hx hb dX3_areLeavers_15 (by decide) ?_
      refine lv_irem hx hb dX3_areLeavers_17 (by decide) (lv_topi (fun v4 e4 => ?_))
      refine lv_iconst (v := 4) hx hb dX3_areLeavers_18 (by decide) ?_
      refine lv_icmp_gt (tgt := 34) hx hb dX3_areLeavers_19 (by decide) (fun c5 => ?_) (fun c5 => ?_)
      · refine lv_iconst (v := 0) hx hb dX3_areLeavers_34 (by decide) ?_
        rw [hQ]
        exact x_z cx hr (by decide) () hP hD hS (show 0 = J_X3_areLeavers p0 from by subst e3 e4; unfold J_X3_areLeavers; rw [if_neg c1, if_neg c2, if_pos c5]) dX3_areLeavers_35
      · refine lv_iload_n hx hb dX3_areLeavers_22 rfl (lv_at hl 0 rfl) ?_
        refine lv_bipush (v := 10) hx hb dX3_areLeavers_23 (by decide) ?_
        refine lv_irem hx hb dX3_areLeavers_25 (by decide) (lv_topi (fun v6 e6 => ?_))
        refine lv_iconst (v := 4) hx hb dX3_areLeavers_26 (by decide) ?_
        refine lv_icmp_gt (tgt := 34) hx hb dX3_areLeavers_27 (by decide) (fun c7 => ?_) (fun c7 => ?_)
        · refine lv_iconst (v := 0) hx hb dX3_areLeavers_34 (by decide) ?_
          rw [hQ]
          exact x_z cx hr (by decide) () hP hD hS (show 0 = J_X3_areLeavers p0 from by subst e3 e4 e6; unfold J_X3_areLeavers; rw [if_neg c1, if_neg c2, if_neg c5, if_pos c7]) dX3_areLeavers_35
        · refine lv_iconst (v := 1) hx hb dX3_areLeavers_30 (by decide) ?_
          refine lv_goto (tgt := 35) hx hb dX3_areLeavers_31 (by decide) ?_
          rw [hQ]
          exact x_z cx hr (by decide) () hP hD hS (show 1 = J_X3_areLeavers p0 from by subst e3 e4 e6; unfold J_X3_areLeavers; rw [if_neg c1, if_neg c2, if_neg c5, if_neg c7]) dX3_areLeavers_35
def J_X3_has (p0 : Int32) (p1 : Int32) : Int32 := if (p0 / 100) < (p1 / 100) then (0 : Int32) else if ((p0 / 10) - (p0 / 10) / 10 * 10) < ((p1 / 10) - (p1 / 10) / 10 * 10) then (0 : Int32) else if (p0 - p0 / 10 * 10) < (p1 - p1 / 10 * 10) then (0 : Int32) else (1 : Int32)
set_option maxHeartbeats 4000000 in
set_option maxRecDepth 100000 in
theorem c_X3_has (l : Launch) (D : va_G) (k : Nat → ClassId) (b : Nat → Nat) (sz : Nat) (p0 : Int32) (p1 : Int32) : MetI l D k b yX3_has wsX3_has ({ frames := 0, cells := 0, slots := 0, locals := 0 } : Room) [] sz [.int p0, .int p1] (fun (r : Int32) (u : Unit) => r = J_X3_has p0 p1) (fun u => []) := by
  refine g_enter (cc := cX3_has) (maxL := 2) (ret := (some .boolean)) (by decide) rfl (Nat.le_of_ble_eq_true rfl) ?_
  intro p e s m below meth c A hsz hAe cx hr hP hD hS ls hl
  rw [hAe]
  refine g_q (fun Q hQ => ?_)
  have hx := cx.1.1
  have hb := cx.1.2.1
  have hl : lv_has ls 2 [(0, .int p0), (1, .int p1)] := hl
  obtain ⟨H, eH⟩ : ∃ H : Heap, H = s.heap := ⟨_, rfl⟩
  obtain ⟨locs, el⟩ : ∃ L : List Loc, L = [] := ⟨_, rfl⟩
  have hP : va_P D vwCl [] H := by rw [eH]; exact hP
  have hD : va_D A [] := hD
  have hS : va_S A s.heap H locs := by rw [eH, el]; exact hS
  suffices goal : W p l e ({ frames := 0, cells := 0, slots := 0, locals := 0 } : Room) s m ([.int p0, .int p1] : List Value).toArray below meth c H locs 0 0 Q (F0 m 0 ls []) by rw [eH, el] at goal; exact goal
  refine lv_iload_n hx hb dX3_has_0 rfl (lv_at hl 1 rfl) ?_
  refine lv_bipush (v := 100) hx hb dX3_has_1 (by decide) ?_
  refine lv_idiv hx hb dX3_has_3 (by decide) (lv_topi (fun v1 e1 => ?_))
  refine lv_iload_n hx hb dX3_has_4 rfl (lv_at hl 0 rfl) ?_
  refine lv_bipush (v := 100) hx hb dX3_has_5 (by decide) ?_
  refine lv_idiv hx hb dX3_has_7 (by decide) (lv_topi (fun v2 e2 => ?_))
  refine lv_icmp_gt (tgt := 43) hx hb dX3_has_8 (by decide) (fun c3 => ?_) (fun c3 => ?_)
  · refine lv_iconst (v := 0) hx hb dX3_has_43 (by decide) ?_
    rw [hQ]
    exact x_z cx hr (by decide) () hP hD hS (show 0 = J_X3_has p0 p1 from by subst e1 e2; unfold J_X3_has; rw [if_pos c3]) dX3_has_44
  · refine lv_iload_n hx hb dX3_has_11 rfl (lv_at hl 1 rfl) ?_
    refine lv_bipush (v := 10) hx hb dX3_has_12 (by decide) ?_
    refine lv_idiv hx hb dX3_has_14 (by decide) (lv_topi (fun v4 e4 => ?_))
    refine lv_bipush (v := 10) hx hb dX3_has_15 (by decide) ?_
    refine lv_irem hx hb dX3_has_17 (by decide) (lv_topi (fun v5 e5 => ?_))
    refine lv_iload_n hx hb dX3_has_18 rfl (lv_at hl 0 rfl) ?_
    refine lv_bipush (v := 10) hx hb dX3_has_19 (by decide) ?_
    refine lv_idiv hx hb dX3_has_21 (by decide) (lv_topi (fun v6 e6 => ?_))
    refine lv_bipush (v := 10) hx hb dX3_has_22 (by decide) ?_
    refine lv_irem hx hb dX3_has_24 (by decide) (lv_topi (fun v7 e7 => ?_))
    refine lv_icmp_gt (tgt := 43) hx hb dX3_has_25 (by decide) (fun c8 => ?_) (fun c8 => ?_)
    · refine lv_iconst (v := 0) hx hb dX3_has_43 (by decide) ?_
      rw [hQ]
      exact x_z cx hr (by decide) () hP hD hS (show 0 = J_X3_has p0 p1 from by subst e1 e2 e4 e5 e6 e7; unfold J_X3_has; rw [if_neg c3, if_pos c8]) dX3_has_44
    · refine lv_iload_n hx hb dX3_has_28 rfl (lv_at hl 1 rfl) ?_
      refine lv_bipush (v := 10) hx hb dX3_has_29 (by decide) ?_
      refine lv_irem hx hb dX3_has_31 (by decide) (lv_topi (fun v9 e9 => ?_))
      refine lv_iload_n hx hb dX3_has_32 rfl (lv_at hl 0 rfl) ?_
      refine lv_bipush (v := 10) hx hb dX3_has_33 (by decide) ?_
      refine lv_irem hx hb dX3_has_35 (by decide) (lv_topi (fun v10 e10 => ?_))
      refine lv_icmp_gt (tgt := 43) hx hb dX3_has_36 (by decide) (fun c11 => ?_) (fun c11 => ?_)
      · refine lv_iconst (v := 0) hx hb dX3_has_43 (by decide) ?_
        rw [hQ]
        exact x_z cx hr (by decide) () hP hD hS (show 0 = J_X3_has p0 p1 from by subst e1 e2 e4 e5 e6 e7 e9 e10; unfold J_X3_has; rw [if_neg c3, if_neg c8, if_pos c11]) dX3_has_44
      · refine lv_iconst (v := 1) hx hb dX3_has_39 (by decide) ?_
        refine lv_goto (tgt := 44) hx hb dX3_has_40 (by decide) ?_
        rw [hQ]
        exact x_z cx hr (by decide) () hP hD hS (show 1 = J_X3_has p0 p1 from by subst e1 e2 e4 e5 e6 e7 e9 e10; unfold J_X3_has; rw [if_neg c3, if_neg c8, if_neg c11]) dX3_has_44
theorem mw_X3_lessYoungestFirst_minL19 : Cond.methodLink RX3 19 Lib.Math.min.name ∈ wsX3_lessYoungestFirst := by decide +kernel
theorem mw_X3_lessYoungestFirst_minS : Cond.static Lib.Math.min.name ∈ wsX3_lessYoungestFirst := by decide +kernel
theorem mw_X3_lessYoungestFirst_minI : Cond.initialized "java/lang/Math" ∈ wsX3_lessYoungestFirst := by decide +kernel
theorem mw_X3_lessYoungestFirst_minC : Cond.code Lib.Math.min.name Lib.Math.min.code 2 (some .int) ∈ wsX3_lessYoungestFirst := by decide +kernel
def J_X3_lessYoungestFirst (p0 : Int32) (p1 : Int32) : Int32 := (((p0 - (100 * (if (p0 / 100) < p1 then (p0 / 100) else p1))) - (10 * (if ((p0 / 10) - (p0 / 10) / 10 * 10) < (p1 - (if (p0 / 100) < p1 then (p0 / 100) else p1)) then ((p0 / 10) - (p0 / 10) / 10 * 10) else (p1 - (if (p0 / 100) < p1 then (p0 / 100) else p1))))) - ((p1 - (if (p0 / 100) < p1 then (p0 / 100) else p1)) - (if ((p0 / 10) - (p0 / 10) / 10 * 10) < (p1 - (if (p0 / 100) < p1 then (p0 / 100) else p1)) then ((p0 / 10) - (p0 / 10) / 10 * 10) else (p1 - (if (p0 / 100) < p1 then (p0 / 100) else p1)))))
set_option maxHeartbeats 4000000 in
set_option maxRecDepth 100000 in
theorem c_X3_lessYoungestFirst (l : Launch) (D : va_G) (k : Nat → ClassId) (b : Nat → Nat) (sz : Nat) (p0 : Int32) (p1 : Int32) : MetI l D k b yX3_lessYoungestFirst wsX3_lessYoungestFirst ({ frames := 1, cells := 0, slots := 0, locals := 21 } : Room) [] sz [.int p0, .int p1] (fun (r : Int32) (u : Unit) => r = J_X3_lessYoungestFirst p0 p1) (fun u => []) := by
  refine g_enter (cc := cX3_lessYoungestFirst) (maxL := 4) (ret := (some .int)) (by decide) rfl (Nat.le_of_ble_eq_true rfl) ?_
  intro p e s m below meth c A hsz hAe cx hr hP hD hS ls hl
  rw [hAe]
  refine g_q (fun Q hQ => ?_)
  have hx := cx.1.1
  have hb := cx.1.2.1
  have hl : lv_has ls 4 [(0, .int p0), (1, .int p1)] := hl
  obtain ⟨H, eH⟩ : ∃ H : Heap, H = s.heap := ⟨_, rfl⟩
  obtain ⟨locs, el⟩ : ∃ L : List Loc, L = [] := ⟨_, rfl⟩
  have hP : va_P D vwCl [] H := by rw [eH]; exact hP
  have hD : va_D A [] := hD
  have hS : va_S A s.heap H locs := by rw [eH, el]; exact hS
  suffices goal : W p l e ({ frames := 1, cells := 0, slots := 0, locals := 21 } : Room) s m ([.int p0, .int p1] : List Value).toArray below meth c H locs 0 0 Q (F0 m 0 ls []) by rw [eH, el] at goal; exact goal
  refine lv_iload_n hx hb dX3_lessYoungestFirst_0 rfl (lv_at hl 1 rfl) ?_
  refine lv_iload_n hx hb dX3_lessYoungestFirst_1 rfl (lv_at hl 0 rfl) ?_
  refine lv_bipush (v := 100) hx hb dX3_lessYoungestFirst_2 (by decide) ?_
  refine lv_idiv hx hb dX3_lessYoungestFirst_4 (by decide) (lv_topi (fun v1 e1 => ?_))
  refine va_mmin hx hb (cx.1.2.2.1.trans hl.1.symm) cx.1.2.2.2.1 (cx.1.2.2.2.2 _ mw_X3_lessYoungestFirst_minL19) (cx.1.2.2.2.2 _ mw_X3_lessYoungestFirst_minS) (cx.1.2.2.2.2 _ mw_X3_lessYoungestFirst_minI) (cx.1.2.2.2.2 _ mw_X3_lessYoungestFirst_minC) (Nat.le_of_ble_eq_true rfl) (Nat.le_of_ble_eq_true rfl) (Nat.zero_le _) (Nat.zero_le _) dX3_lessYoungestFirst_5 (lv_topi (fun v2 e2 => ?_))
  refine lv_istore_n (lv' := [(2, .int v2), (0, .int p0), (1, .int p1)]) hx hb dX3_lessYoungestFirst_8 rfl hl (by decide) rfl (fun ls hl => ?_)
  refine lv_iload_n hx hb dX3_lessYoungestFirst_9 rfl (lv_at hl 2 rfl) ?_
  refine lv_iload_n hx hb dX3_lessYoungestFirst_10 rfl (lv_at hl 0 rfl) ?_
  refine lv_isub hx hb dX3_lessYoungestFirst_11 (lv_topi (fun v3 e3 => ?_))
  refine lv_iload_n hx hb dX3_lessYoungestFirst_12 rfl (lv_at hl 1 rfl) ?_
  refine lv_bipush (v := 10) hx hb dX3_lessYoungestFirst_13 (by decide) ?_
  refine lv_idiv hx hb dX3_lessYoungestFirst_15 (by decide) (lv_topi (fun v4 e4 => ?_))
  refine lv_bipush (v := 10) hx hb dX3_lessYoungestFirst_16 (by decide) ?_
  refine lv_irem hx hb dX3_lessYoungestFirst_18 (by decide) (lv_topi (fun v5 e5 => ?_))
  refine va_mmin hx hb (cx.1.2.2.1.trans hl.1.symm) cx.1.2.2.2.1 (cx.1.2.2.2.2 _ mw_X3_lessYoungestFirst_minL19) (cx.1.2.2.2.2 _ mw_X3_lessYoungestFirst_minS) (cx.1.2.2.2.2 _ mw_X3_lessYoungestFirst_minI) (cx.1.2.2.2.2 _ mw_X3_lessYoungestFirst_minC) (Nat.le_of_ble_eq_true rfl) (Nat.le_of_ble_eq_true rfl) (Nat.zero_le _) (Nat.zero_le _) dX3_lessYoungestFirst_19 (lv_topi (fun v6 e6 => ?_))
  refine lv_istore_n (lv' := [(3, .int v6), (2, .int v2), (0, .int p0), (1, .int p1)]) hx hb dX3_lessYoungestFirst_22 rfl hl (by decide) rfl (fun ls hl => ?_)
  refine lv_iload_n hx hb dX3_lessYoungestFirst_23 rfl (lv_at hl 2 rfl) ?_
  refine lv_bipush (v := 100) hx hb dX3_lessYoungestFirst_24 (by decide) ?_
  refine lv_iload_n hx hb dX3_lessYoungestFirst_26 rfl (lv_at hl 1 rfl) ?_
  refine lv_imul hx hb dX3_lessYoungestFirst_27 (lv_topi (fun v7 e7 => ?_))
  refine lv_isub hx hb dX3_lessYoungestFirst_28 (lv_topi (fun v8 e8 => ?_))
  refine lv_bipush (v := 10) hx hb dX3_lessYoungestFirst_29 (by decide) ?_
  refine lv_iload_n hx hb dX3_lessYoungestFirst_31 rfl (lv_at hl 0 rfl) ?_
  refine lv_imul hx hb dX3_lessYoungestFirst_32 (lv_topi (fun v9 e9 => ?_))
  refine lv_isub hx hb dX3_lessYoungestFirst_33 (lv_topi (fun v10 e10 => ?_))
  refine lv_iload_n hx hb dX3_lessYoungestFirst_34 rfl (lv_at hl 3 rfl) ?_
  refine lv_iload_n hx hb dX3_lessYoungestFirst_35 rfl (lv_at hl 1 rfl) ?_
  refine lv_isub hx hb dX3_lessYoungestFirst_36 (lv_topi (fun v11 e11 => ?_))
  refine lv_iload_n hx hb dX3_lessYoungestFirst_37 rfl (lv_at hl 0 rfl) ?_
  refine lv_isub hx hb dX3_lessYoungestFirst_38 (lv_topi (fun v12 e12 => ?_))
  refine lv_isub hx hb dX3_lessYoungestFirst_39 (lv_topi (fun v13 e13 => ?_))
  rw [hQ]
  exact x_i cx hr () hP hD hS (show v13 = J_X3_lessYoungestFirst p0 p1 from by subst e1 e2 e3 e4 e5 e6 e7 e8 e9 e10 e11 e12 e13; rfl) dX3_lessYoungestFirst_40
def J_X3_behindSunday (p0 : Int32) (p1 : Int32) : Int32 := (((10 * ((p0 - p1) / 100)) + (((p0 - p1) / 10) - ((p0 - p1) / 10) / 10 * 10)) + ((p0 - p1) - (p0 - p1) / 10 * 10))
set_option maxHeartbeats 4000000 in
set_option maxRecDepth 100000 in
theorem c_X3_behindSunday (l : Launch) (D : va_G) (k : Nat → ClassId) (b : Nat → Nat) (sz : Nat) (p0 : Int32) (p1 : Int32) : MetI l D k b yX3_behindSunday wsX3_behindSunday ({ frames := 0, cells := 0, slots := 0, locals := 0 } : Room) [] sz [.int p0, .int p1] (fun (r : Int32) (u : Unit) => r = J_X3_behindSunday p0 p1) (fun u => []) := by
  refine g_enter (cc := cX3_behindSunday) (maxL := 3) (ret := (some .int)) (by decide) rfl (Nat.le_of_ble_eq_true rfl) ?_
  intro p e s m below meth c A hsz hAe cx hr hP hD hS ls hl
  rw [hAe]
  refine g_q (fun Q hQ => ?_)
  have hx := cx.1.1
  have hb := cx.1.2.1
  have hl : lv_has ls 3 [(0, .int p0), (1, .int p1)] := hl
  obtain ⟨H, eH⟩ : ∃ H : Heap, H = s.heap := ⟨_, rfl⟩
  obtain ⟨locs, el⟩ : ∃ L : List Loc, L = [] := ⟨_, rfl⟩
  have hP : va_P D vwCl [] H := by rw [eH]; exact hP
  have hD : va_D A [] := hD
  have hS : va_S A s.heap H locs := by rw [eH, el]; exact hS
  suffices goal : W p l e ({ frames := 0, cells := 0, slots := 0, locals := 0 } : Room) s m ([.int p0, .int p1] : List Value).toArray below meth c H locs 0 0 Q (F0 m 0 ls []) by rw [eH, el] at goal; exact goal
  refine lv_iload_n hx hb dX3_behindSunday_0 rfl (lv_at hl 0 rfl) ?_
  refine lv_iload_n hx hb dX3_behindSunday_1 rfl (lv_at hl 1 rfl) ?_
  refine lv_isub hx hb dX3_behindSunday_2 (lv_topi (fun v1 e1 => ?_))
  refine lv_istore_n (lv' := [(2, .int v1), (0, .int p0), (1, .int p1)]) hx hb dX3_behindSunday_3 rfl hl (by decide) rfl (fun ls hl => ?_)
  refine lv_bipush (v := 10) hx hb dX3_behindSunday_4 (by decide) ?_
  refine lv_iload_n hx hb dX3_behindSunday_6 rfl (lv_at hl 0 rfl) ?_
  refine lv_bipush (v := 100) hx hb dX3_behindSunday_7 (by decide) ?_
  refine lv_idiv hx hb dX3_behindSunday_9 (by decide) (lv_topi (fun v2 e2 => ?_))
  refine lv_imul hx hb dX3_behindSunday_10 (lv_topi (fun v3 e3 => ?_))
  refine lv_iload_n hx hb dX3_behindSunday_11 rfl (lv_at hl 0 rfl) ?_
  refine lv_bipush (v := 10) hx hb dX3_behindSunday_12 (by decide) ?_
  refine lv_idiv hx hb dX3_behindSunday_14 (by decide) (lv_topi (fun v4 e4 => ?_))
  refine lv_bipush (v := 10) hx hb dX3_behindSunday_15 (by decide) ?_
  refine lv_irem hx hb dX3_behindSunday_17 (by decide) (lv_topi (fun v5 e5 => ?_))
  refine lv_iadd hx hb dX3_behindSunday_18 (lv_topi (fun v6 e6 => ?_))
  refine lv_iload_n hx hb dX3_behindSunday_19 rfl (lv_at hl 0 rfl) ?_
  refine lv_bipush (v := 10) hx hb dX3_behindSunday_20 (by decide) ?_
  refine lv_irem hx hb dX3_behindSunday_22 (by decide) (lv_topi (fun v7 e7 => ?_))
  refine lv_iadd hx hb dX3_behindSunday_23 (lv_topi (fun v8 e8 => ?_))
  rw [hQ]
  exact x_i cx hr () hP hD hS (show v8 = J_X3_behindSunday p0 p1 from by subst e1 e2 e3 e4 e5 e6 e7 e8; rfl) dX3_behindSunday_24
def J_X0_letGo (p0 : Int32) : Int32 := (p0 / 1000)
set_option maxHeartbeats 4000000 in
set_option maxRecDepth 100000 in
theorem c_X0_letGo (l : Launch) (D : va_G) (k : Nat → ClassId) (b : Nat → Nat) (sz : Nat) (p0 : Int32) : MetI l D k b yX0_letGo wsX0_letGo ({ frames := 0, cells := 0, slots := 0, locals := 0 } : Room) [] sz [.int p0] (fun (r : Int32) (u : Unit) => r = J_X0_letGo p0) (fun u => []) := by
  refine g_enter (cc := cX0_letGo) (maxL := 1) (ret := (some .int)) (by decide) rfl (Nat.le_of_ble_eq_true rfl) ?_
  intro p e s m below meth c A hsz hAe cx hr hP hD hS ls hl
  rw [hAe]
  refine g_q (fun Q hQ => ?_)
  have hx := cx.1.1
  have hb := cx.1.2.1
  have hl : lv_has ls 1 [(0, .int p0)] := hl
  obtain ⟨H, eH⟩ : ∃ H : Heap, H = s.heap := ⟨_, rfl⟩
  obtain ⟨locs, el⟩ : ∃ L : List Loc, L = [] := ⟨_, rfl⟩
  have hP : va_P D vwCl [] H := by rw [eH]; exact hP
  have hD : va_D A [] := hD
  have hS : va_S A s.heap H locs := by rw [eH, el]; exact hS
  suffices goal : W p l e ({ frames := 0, cells := 0, slots := 0, locals := 0 } : Room) s m ([.int p0] : List Value).toArray below meth c H locs 0 0 Q (F0 m 0 ls []) by rw [eH, el] at goal; exact goal
  refine lv_iload_n hx hb dX0_letGo_0 rfl (lv_at hl 0 rfl) ?_
  refine lv_sipush (v := 1000) hx hb dX0_letGo_1 (by decide) ?_
  refine lv_idiv hx hb dX0_letGo_4 (by decide) (lv_topi (fun v1 e1 => ?_))
  rw [hQ]
  exact x_i cx hr () hP hD hS (show v1 = J_X0_letGo p0 from by subst e1; rfl) dX0_letGo_5
def J_X0_taken (p0 : Int32) : Int32 := ((p0 / 100) - (p0 / 100) / 10 * 10)
set_option maxHeartbeats 4000000 in
set_option maxRecDepth 100000 in
theorem c_X0_taken (l : Launch) (D : va_G) (k : Nat → ClassId) (b : Nat → Nat) (sz : Nat) (p0 : Int32) : MetI l D k b yX0_taken wsX0_taken ({ frames := 0, cells := 0, slots := 0, locals := 0 } : Room) [] sz [.int p0] (fun (r : Int32) (u : Unit) => r = J_X0_taken p0) (fun u => []) := by
  refine g_enter (cc := cX0_taken) (maxL := 1) (ret := (some .int)) (by decide) rfl (Nat.le_of_ble_eq_true rfl) ?_
  intro p e s m below meth c A hsz hAe cx hr hP hD hS ls hl
  rw [hAe]
  refine g_q (fun Q hQ => ?_)
  have hx := cx.1.1
  have hb := cx.1.2.1
  have hl : lv_has ls 1 [(0, .int p0)] := hl
  obtain ⟨H, eH⟩ : ∃ H : Heap, H = s.heap := ⟨_, rfl⟩
  obtain ⟨locs, el⟩ : ∃ L : List Loc, L = [] := ⟨_, rfl⟩
  have hP : va_P D vwCl [] H := by rw [eH]; exact hP
  have hD : va_D A [] := hD
  have hS : va_S A s.heap H locs := by rw [eH, el]; exact hS
  suffices goal : W p l e ({ frames := 0, cells := 0, slots := 0, locals := 0 } : Room) s m ([.int p0] : List Value).toArray below meth c H locs 0 0 Q (F0 m 0 ls []) by rw [eH, el] at goal; exact goal
  refine lv_iload_n hx hb dX0_taken_0 rfl (lv_at hl 0 rfl) ?_
  refine lv_bipush (v := 100) hx hb dX0_taken_1 (by decide) ?_
  refine lv_idiv hx hb dX0_taken_3 (by decide) (lv_topi (fun v1 e1 => ?_))
  refine lv_bipush (v := 10) hx hb dX0_taken_4 (by decide) ?_
  refine lv_irem hx hb dX0_taken_6 (by decide) (lv_topi (fun v2 e2 => ?_))
  rw [hQ]
  exact x_i cx hr () hP hD hS (show v2 = J_X0_taken p0 from by subst e1 e2; rfl) dX0_taken_7
def J_X0_taught (p0 : Int32) : Int32 := ((p0 / 10) - (p0 / 10) / 10 * 10)
set_option maxHeartbeats 4000000 in
set_option maxRecDepth 100000 in
theorem c_X0_taught (l : Launch) (D : va_G) (k : Nat → ClassId) (b : Nat → Nat) (sz : Nat) (p0 : Int32) : MetI l D k b yX0_taught wsX0_taught ({ frames := 0, cells := 0, slots := 0, locals := 0 } : Room) [] sz [.int p0] (fun (r : Int32) (u : Unit) => r = J_X0_taught p0) (fun u => []) := by
  refine g_enter (cc := cX0_taught) (maxL := 1) (ret := (some .int)) (by decide) rfl (Nat.le_of_ble_eq_true rfl) ?_
  intro p e s m below meth c A hsz hAe cx hr hP hD hS ls hl
  rw [hAe]
  refine g_q (fun Q hQ => ?_)
  have hx := cx.1.1
  have hb := cx.1.2.1
  have hl : lv_has ls 1 [(0, .int p0)] := hl
  obtain ⟨H, eH⟩ : ∃ H : Heap, H = s.heap := ⟨_, rfl⟩
  obtain ⟨locs, el⟩ : ∃ L : List Loc, L = [] := ⟨_, rfl⟩
  have hP : va_P D vwCl [] H := by rw [eH]; exact hP
  have hD : va_D A [] := hD
  have hS : va_S A s.heap H locs := by rw [eH, el]; exact hS
  suffices goal : W p l e ({ frames := 0, cells := 0, slots := 0, locals := 0 } : Room) s m ([.int p0] : List Value).toArray below meth c H locs 0 0 Q (F0 m 0 ls []) by rw [eH, el] at goal; exact goal
  refine lv_iload_n hx hb dX0_taught_0 rfl (lv_at hl 0 rfl) ?_
  refine lv_bipush (v := 10) hx hb dX0_taught_1 (by decide) ?_
  refine lv_idiv hx hb dX0_taught_3 (by decide) (lv_topi (fun v1 e1 => ?_))
  refine lv_bipush (v := 10) hx hb dX0_taught_4 (by decide) ?_
  refine lv_irem hx hb dX0_taught_6 (by decide) (lv_topi (fun v2 e2 => ?_))
  rw [hQ]
  exact x_i cx hr () hP hD hS (show v2 = J_X0_taught p0 from by subst e1 e2; rfl) dX0_taught_7
def J_X0_ordered (p0 : Int32) : Int32 := (p0 - p0 / 10 * 10)
set_option maxHeartbeats 4000000 in
set_option maxRecDepth 100000 in
theorem c_X0_ordered (l : Launch) (D : va_G) (k : Nat → ClassId) (b : Nat → Nat) (sz : Nat) (p0 : Int32) : MetI l D k b yX0_ordered wsX0_ordered ({ frames := 0, cells := 0, slots := 0, locals := 0 } : Room) [] sz [.int p0] (fun (r : Int32) (u : Unit) => r = J_X0_ordered p0) (fun u => []) := by
  refine g_enter (cc := cX0_ordered) (maxL := 1) (ret := (some .int)) (by decide) rfl (Nat.le_of_ble_eq_true rfl) ?_
  intro p e s m below meth c A hsz hAe cx hr hP hD hS ls hl
  rw [hAe]
  refine g_q (fun Q hQ => ?_)
  have hx := cx.1.1
  have hb := cx.1.2.1
  have hl : lv_has ls 1 [(0, .int p0)] := hl
  obtain ⟨H, eH⟩ : ∃ H : Heap, H = s.heap := ⟨_, rfl⟩
  obtain ⟨locs, el⟩ : ∃ L : List Loc, L = [] := ⟨_, rfl⟩
  have hP : va_P D vwCl [] H := by rw [eH]; exact hP
  have hD : va_D A [] := hD
  have hS : va_S A s.heap H locs := by rw [eH, el]; exact hS
  suffices goal : W p l e ({ frames := 0, cells := 0, slots := 0, locals := 0 } : Room) s m ([.int p0] : List Value).toArray below meth c H locs 0 0 Q (F0 m 0 ls []) by rw [eH, el] at goal; exact goal
  refine lv_iload_n hx hb dX0_ordered_0 rfl (lv_at hl 0 rfl) ?_
  refine lv_bipush (v := 10) hx hb dX0_ordered_1 (by decide) ?_
  refine lv_irem hx hb dX0_ordered_3 (by decide) (lv_topi (fun v1 e1 => ?_))
  rw [hQ]
  exact x_i cx hr () hP hD hS (show v1 = J_X0_ordered p0 from by subst e1; rfl) dX0_ordered_4
theorem nd_X0_letGo : yX0_letGo.cls ≠ "java/lang/invoke/MethodHandle" ∧ yX0_letGo.cls ≠ "java/lang/invoke/VarHandle" ∧ (parseMethodDescriptor yX0_letGo.desc).map (fun d => d.parameters.length) = some 1 := by decide +kernel
theorem nd_X0_taken : yX0_taken.cls ≠ "java/lang/invoke/MethodHandle" ∧ yX0_taken.cls ≠ "java/lang/invoke/VarHandle" ∧ (parseMethodDescriptor yX0_taken.desc).map (fun d => d.parameters.length) = some 1 := by decide +kernel
theorem nd_X0_taught : yX0_taught.cls ≠ "java/lang/invoke/MethodHandle" ∧ yX0_taught.cls ≠ "java/lang/invoke/VarHandle" ∧ (parseMethodDescriptor yX0_taught.desc).map (fun d => d.parameters.length) = some 1 := by decide +kernel
theorem nd_X3_lessYoungestFirst : yX3_lessYoungestFirst.cls ≠ "java/lang/invoke/MethodHandle" ∧ yX3_lessYoungestFirst.cls ≠ "java/lang/invoke/VarHandle" ∧ (parseMethodDescriptor yX3_lessYoungestFirst.desc).map (fun d => d.parameters.length) = some 2 := by decide +kernel
def J_X0_done (p0 : Int32) (p1 : Int32) : Int32 := (((J_X3_lessYoungestFirst p0 (J_X0_letGo p1)) + (100 * (J_X0_taken p1))) - (90 * (J_X0_taught p1)))
set_option maxHeartbeats 4000000 in
set_option maxRecDepth 100000 in
theorem c_X0_done (l : Launch) (D : va_G) (k : Nat → ClassId) (b : Nat → Nat) (sz : Nat) (p0 : Int32) (p1 : Int32) : MetI l D k b yX0_done wsX0_done ({ frames := 2, cells := 0, slots := 0, locals := 44 } : Room) [] sz [.int p0, .int p1] (fun (r : Int32) (u : Unit) => r = J_X0_done p0 p1) (fun u => []) := by
  refine g_enter (cc := cX0_done) (maxL := 2) (ret := (some .int)) (by decide) rfl (Nat.le_of_ble_eq_true rfl) ?_
  intro p e s m below meth c A hsz hAe cx hr hP hD hS ls hl
  rw [hAe]
  refine g_q (fun Q hQ => ?_)
  have hx := cx.1.1
  have hb := cx.1.2.1
  have hl : lv_has ls 2 [(0, .int p0), (1, .int p1)] := hl
  obtain ⟨H, eH⟩ : ∃ H : Heap, H = s.heap := ⟨_, rfl⟩
  obtain ⟨locs, el⟩ : ∃ L : List Loc, L = [] := ⟨_, rfl⟩
  have hP : va_P D vwCl [] H := by rw [eH]; exact hP
  have hD : va_D A [] := hD
  have hS : va_S A s.heap H locs := by rw [eH, el]; exact hS
  suffices goal : W p l e ({ frames := 2, cells := 0, slots := 0, locals := 44 } : Room) s m ([.int p0, .int p1] : List Value).toArray below meth c H locs 0 0 Q (F0 m 0 ls []) by rw [eH, el] at goal; exact goal
  refine lv_iload_n hx hb dX0_done_0 rfl (lv_at hl 0 rfl) ?_
  refine lv_iload_n hx hb dX0_done_1 rfl (lv_at hl 1 rfl) ?_
  refine g_ir (g_runS (wc := []) (rest := [.int p0]) cx hP hD hS [] rfl (by decide) [.int p1] (c_X0_letGo l D k b H.size p1) gX0_done_X0_letGo rfl rfl rfl nd_X0_letGo ⟨Nat.le_of_ble_eq_true rfl, Nat.le_of_ble_eq_true rfl⟩ rfl hl.1 rfl (Nat.le_of_ble_eq_true rfl) ⟨Nat.zero_le _, Nat.zero_le _⟩ dX0_done_2) cx.2.2.1 hP hD hS [] rfl rfl (fun r2 H locs hw1 hP hS => ?_)
  have w3 : r2 = J_X0_letGo p1 := hw1
  clear hw1
  refine g_ir (g_runS (wc := []) (rest := []) cx hP hD hS [] rfl (by decide) [.int p0, .int r2] (c_X3_lessYoungestFirst l D k b H.size p0 r2) gX0_done_X3_lessYoungestFirst rfl rfl rfl nd_X3_lessYoungestFirst ⟨Nat.le_of_ble_eq_true rfl, Nat.le_of_ble_eq_true rfl⟩ rfl hl.1 rfl (Nat.le_of_ble_eq_true rfl) ⟨Nat.zero_le _, Nat.zero_le _⟩ dX0_done_5) cx.2.2.1 hP hD hS [] rfl rfl (fun r5 H locs hw4 hP hS => ?_)
  have w6 : r5 = J_X3_lessYoungestFirst p0 r2 := hw4
  clear hw4
  refine lv_bipush (v := 100) hx hb dX0_done_8 (by decide) ?_
  refine lv_iload_n hx hb dX0_done_10 rfl (lv_at hl 1 rfl) ?_
  refine g_ir (g_runS (wc := []) (rest := [.int 100, .int r5]) cx hP hD hS [] rfl (by decide) [.int p1] (c_X0_taken l D k b H.size p1) gX0_done_X0_taken rfl rfl rfl nd_X0_taken ⟨Nat.le_of_ble_eq_true rfl, Nat.le_of_ble_eq_true rfl⟩ rfl hl.1 rfl (Nat.le_of_ble_eq_true rfl) ⟨Nat.zero_le _, Nat.zero_le _⟩ dX0_done_11) cx.2.2.1 hP hD hS [] rfl rfl (fun r8 H locs hw7 hP hS => ?_)
  have w9 : r8 = J_X0_taken p1 := hw7
  clear hw7
  refine lv_imul hx hb dX0_done_14 (lv_topi (fun v10 e10 => ?_))
  refine lv_iadd hx hb dX0_done_15 (lv_topi (fun v11 e11 => ?_))
  refine lv_bipush (v := 90) hx hb dX0_done_16 (by decide) ?_
  refine lv_iload_n hx hb dX0_done_18 rfl (lv_at hl 1 rfl) ?_
  refine g_ir (g_runS (wc := []) (rest := [.int 90, .int v11]) cx hP hD hS [] rfl (by decide) [.int p1] (c_X0_taught l D k b H.size p1) gX0_done_X0_taught rfl rfl rfl nd_X0_taught ⟨Nat.le_of_ble_eq_true rfl, Nat.le_of_ble_eq_true rfl⟩ rfl hl.1 rfl (Nat.le_of_ble_eq_true rfl) ⟨Nat.zero_le _, Nat.zero_le _⟩ dX0_done_19) cx.2.2.1 hP hD hS [] rfl rfl (fun r13 H locs hw12 hP hS => ?_)
  have w14 : r13 = J_X0_taught p1 := hw12
  clear hw12
  refine lv_imul hx hb dX0_done_22 (lv_topi (fun v15 e15 => ?_))
  refine lv_isub hx hb dX0_done_23 (lv_topi (fun v16 e16 => ?_))
  rw [hQ]
  exact x_i cx hr () hP hD hS (show v16 = J_X0_done p0 p1 from by subst w3 w6 w9 e10 e11 w14 e15 e16; rfl) dX0_done_24
def J_X2_figures (p0 : Int32) (p1 : Int32) : Int32 := ((1 <<< ((p1 + 1) &&& 31)) - (1 <<< (p0 &&& 31)))
set_option maxHeartbeats 4000000 in
set_option maxRecDepth 100000 in
theorem c_X2_figures (l : Launch) (D : va_G) (k : Nat → ClassId) (b : Nat → Nat) (sz : Nat) (p0 : Int32) (p1 : Int32) : MetI l D k b yX2_figures wsX2_figures ({ frames := 0, cells := 0, slots := 0, locals := 0 } : Room) [] sz [.int p0, .int p1] (fun (r : Int32) (u : Unit) => r = J_X2_figures p0 p1) (fun u => []) := by
  refine g_enter (cc := cX2_figures) (maxL := 2) (ret := (some .int)) (by decide) rfl (Nat.le_of_ble_eq_true rfl) ?_
  intro p e s m below meth c A hsz hAe cx hr hP hD hS ls hl
  rw [hAe]
  refine g_q (fun Q hQ => ?_)
  have hx := cx.1.1
  have hb := cx.1.2.1
  have hl : lv_has ls 2 [(0, .int p0), (1, .int p1)] := hl
  obtain ⟨H, eH⟩ : ∃ H : Heap, H = s.heap := ⟨_, rfl⟩
  obtain ⟨locs, el⟩ : ∃ L : List Loc, L = [] := ⟨_, rfl⟩
  have hP : va_P D vwCl [] H := by rw [eH]; exact hP
  have hD : va_D A [] := hD
  have hS : va_S A s.heap H locs := by rw [eH, el]; exact hS
  suffices goal : W p l e ({ frames := 0, cells := 0, slots := 0, locals := 0 } : Room) s m ([.int p0, .int p1] : List Value).toArray below meth c H locs 0 0 Q (F0 m 0 ls []) by rw [eH, el] at goal; exact goal
  refine lv_iconst (v := 1) hx hb dX2_figures_0 (by decide) ?_
  refine lv_iload_n hx hb dX2_figures_1 rfl (lv_at hl 1 rfl) ?_
  refine lv_iconst (v := 1) hx hb dX2_figures_2 (by decide) ?_
  refine lv_iadd hx hb dX2_figures_3 (lv_topi (fun v1 e1 => ?_))
  refine lv_ishl hx hb dX2_figures_4 (lv_topi (fun v2 e2 => ?_))
  refine lv_iconst (v := 1) hx hb dX2_figures_5 (by decide) ?_
  refine lv_iload_n hx hb dX2_figures_6 rfl (lv_at hl 0 rfl) ?_
  refine lv_ishl hx hb dX2_figures_7 (lv_topi (fun v3 e3 => ?_))
  refine lv_isub hx hb dX2_figures_8 (lv_topi (fun v4 e4 => ?_))
  rw [hQ]
  exact x_i cx hr () hP hD hS (show v4 = J_X2_figures p0 p1 from by subst e1 e2 e3 e4; rfl) dX2_figures_9
def J_X5_tellsWhich (p0 : Int32) : Int32 := if p0 = 87 then (1 : Int32) else if p0 = 79 then (1 : Int32) else if p0 = 81 then (1 : Int32) else if p0 = 68 then (1 : Int32) else (0 : Int32)
set_option maxHeartbeats 4000000 in
set_option maxRecDepth 100000 in
theorem c_X5_tellsWhich (l : Launch) (D : va_G) (k : Nat → ClassId) (b : Nat → Nat) (sz : Nat) (p0 : Int32) : MetI l D k b yX5_tellsWhich wsX5_tellsWhich ({ frames := 0, cells := 0, slots := 0, locals := 0 } : Room) [] sz [.int p0] (fun (r : Int32) (u : Unit) => r = J_X5_tellsWhich p0) (fun u => []) := by
  refine g_enter (cc := cX5_tellsWhich) (maxL := 1) (ret := (some .boolean)) (by decide) rfl (Nat.le_of_ble_eq_true rfl) ?_
  intro p e s m below meth c A hsz hAe cx hr hP hD hS ls hl
  rw [hAe]
  refine g_q (fun Q hQ => ?_)
  have hx := cx.1.1
  have hb := cx.1.2.1
  have hl : lv_has ls 1 [(0, .int p0)] := hl
  obtain ⟨H, eH⟩ : ∃ H : Heap, H = s.heap := ⟨_, rfl⟩
  obtain ⟨locs, el⟩ : ∃ L : List Loc, L = [] := ⟨_, rfl⟩
  have hP : va_P D vwCl [] H := by rw [eH]; exact hP
  have hD : va_D A [] := hD
  have hS : va_S A s.heap H locs := by rw [eH, el]; exact hS
  suffices goal : W p l e ({ frames := 0, cells := 0, slots := 0, locals := 0 } : Room) s m ([.int p0] : List Value).toArray below meth c H locs 0 0 Q (F0 m 0 ls []) by rw [eH, el] at goal; exact goal
  refine lv_iload_n hx hb dX5_tellsWhich_0 rfl (lv_at hl 0 rfl) ?_
  refine lv_bipush (v := 87) hx hb dX5_tellsWhich_1 (by decide) ?_
  refine lv_icmp_eq (tgt := 24) hx hb dX5_tellsWhich_3 (by decide) (fun c1 => ?_) (fun c1 => ?_)
  · refine lv_iconst (v := 1) hx hb dX5_tellsWhich_24 (by decide) ?_
    refine lv_goto (tgt := 29) hx hb dX5_tellsWhich_25 (by decide) ?_
    rw [hQ]
    exact x_z cx hr (by decide) () hP hD hS (show 1 = J_X5_tellsWhich p0 from by unfold J_X5_tellsWhich; rw [if_pos c1]) dX5_tellsWhich_29
  · refine lv_iload_n hx hb dX5_tellsWhich_6 rfl (lv_at hl 0 rfl) ?_
    refine lv_bipush (v := 79) hx hb dX5_tellsWhich_7 (by decide) ?_
    refine lv_icmp_eq (tgt := 24) hx hb dX5_tellsWhich_9 (by decide) (fun c2 => ?_) (fun c2 => ?_)
    · refine lv_iconst (v := 1) hx hb dX5_tellsWhich_24 (by decide) ?_
      refine lv_goto (tgt := 29) hx hb dX5_tellsWhich_25 (by decide) ?_
      rw [hQ]
      exact x_z cx hr (by decide) () hP hD hS (show 1 = J_X5_tellsWhich p0 from by unfold J_X5_tellsWhich; rw [if_neg c1, if_pos c2]) dX5_tellsWhich_29
    · refine lv_iload_n hx hb dX5_tellsWhich_12 rfl (lv_at hl 0 rfl) ?_
      refine lv_bipush (v := 81) hx hb dX5_tellsWhich_13 (by decide) ?_
      refine lv_icmp_eq (tgt := 24) hx hb dX5_tellsWhich_15 (by decide) (fun c3 => ?_) (fun c3 => ?_)
      · refine lv_iconst (v := 1) hx hb dX5_tellsWhich_24 (by decide) ?_
        refine lv_goto (tgt := 29) hx hb dX5_tellsWhich_25 (by decide) ?_
        rw [hQ]
        exact x_z cx hr (by decide) () hP hD hS (show 1 = J_X5_tellsWhich p0 from by unfold J_X5_tellsWhich; rw [if_neg c1, if_neg c2, if_pos c3]) dX5_tellsWhich_29
      · refine lv_iload_n hx hb dX5_tellsWhich_18 rfl (lv_at hl 0 rfl) ?_
        refine lv_bipush (v := 68) hx hb dX5_tellsWhich_19 (by decide) ?_
        refine lv_icmp_ne (tgt := 28) hx hb dX5_tellsWhich_21 (by decide) (fun c4 => ?_) (fun c4 => ?_)
        · refine lv_iconst (v := 0) hx hb dX5_tellsWhich_28 (by decide) ?_
          rw [hQ]
          exact x_z cx hr (by decide) () hP hD hS (show 0 = J_X5_tellsWhich p0 from by unfold J_X5_tellsWhich; rw [if_neg c1, if_neg c2, if_neg c3, if_neg c4]) dX5_tellsWhich_29
        · refine lv_iconst (v := 1) hx hb dX5_tellsWhich_24 (by decide) ?_
          refine lv_goto (tgt := 29) hx hb dX5_tellsWhich_25 (by decide) ?_
          rw [hQ]
          exact x_z cx hr (by decide) () hP hD hS (show 1 = J_X5_tellsWhich p0 from by unfold J_X5_tellsWhich; rw [if_neg c1, if_neg c2, if_neg c3, if_pos c4]) dX5_tellsWhich_29
theorem nd_X2_figures : yX2_figures.cls ≠ "java/lang/invoke/MethodHandle" ∧ yX2_figures.cls ≠ "java/lang/invoke/VarHandle" ∧ (parseMethodDescriptor yX2_figures.desc).map (fun d => d.parameters.length) = some 2 := by decide +kernel
def J_X5_firstFigures (p0 : Int32) : Int32 := if p0 = 72 then (J_X2_figures 1 4) else if p0 = 79 then (J_X2_figures 0 4) else if p0 = 81 then (J_X2_figures 0 5) else (J_X2_figures 0 9)
set_option maxHeartbeats 4000000 in
set_option maxRecDepth 100000 in
theorem c_X5_firstFigures (l : Launch) (D : va_G) (k : Nat → ClassId) (b : Nat → Nat) (sz : Nat) (p0 : Int32) : MetI l D k b yX5_firstFigures wsX5_firstFigures ({ frames := 1, cells := 0, slots := 0, locals := 21 } : Room) [] sz [.int p0] (fun (r : Int32) (u : Unit) => r = J_X5_firstFigures p0) (fun u => []) := by
  refine g_enter (cc := cX5_firstFigures) (maxL := 1) (ret := (some .int)) (by decide) rfl (Nat.le_of_ble_eq_true rfl) ?_
  intro p e s m below meth c A hsz hAe cx hr hP hD hS ls hl
  rw [hAe]
  refine g_q (fun Q hQ => ?_)
  have hx := cx.1.1
  have hb := cx.1.2.1
  have hl : lv_has ls 1 [(0, .int p0)] := hl
  obtain ⟨H, eH⟩ : ∃ H : Heap, H = s.heap := ⟨_, rfl⟩
  obtain ⟨locs, el⟩ : ∃ L : List Loc, L = [] := ⟨_, rfl⟩
  have hP : va_P D vwCl [] H := by rw [eH]; exact hP
  have hD : va_D A [] := hD
  have hS : va_S A s.heap H locs := by rw [eH, el]; exact hS
  suffices goal : W p l e ({ frames := 1, cells := 0, slots := 0, locals := 21 } : Room) s m ([.int p0] : List Value).toArray below meth c H locs 0 0 Q (F0 m 0 ls []) by rw [eH, el] at goal; exact goal
  refine lv_iload_n hx hb dX5_firstFigures_0 rfl (lv_at hl 0 rfl) ?_
  by_cases c1 : p0 = 72
  · refine lv_lookup (tgt := 36) (off := 35) hx hb dX5_firstFigures_1 (by decide) (by rw [c1]; decide) (by decide) ?_
    refine lv_iconst (v := 1) hx hb dX5_firstFigures_36 (by decide) ?_
    refine lv_iconst (v := 4) hx hb dX5_firstFigures_37 (by decide) ?_
    refine g_ir (g_runS (wc := []) (rest := []) cx hP hD hS [] rfl (by decide) [.int 1, .int 4] (c_X2_figures l D k b H.size 1 4) gX5_firstFigures_X2_figures rfl rfl rfl nd_X2_figures ⟨Nat.le_of_ble_eq_true rfl, Nat.le_of_ble_eq_true rfl⟩ rfl hl.1 rfl (Nat.le_of_ble_eq_true rfl) ⟨Nat.zero_le _, Nat.zero_le _⟩ dX5_firstFigures_38) cx.2.2.1 hP hD hS [] rfl rfl (fun r3 H locs hw2 hP hS => ?_)
    have w4 : r3 = J_X2_figures (1 : Int32) (4 : Int32) := hw2
    clear hw2
    rw [hQ]
    exact x_i cx hr () hP hD hS (show r3 = J_X5_firstFigures p0 from by subst w4; unfold J_X5_firstFigures; rw [if_pos c1]) dX5_firstFigures_41
  by_cases c5 : p0 = 79
  · refine lv_lookup (tgt := 42) (off := 41) hx hb dX5_firstFigures_1 (by decide) (by rw [c5]; decide) (by decide) ?_
    refine lv_iconst (v := 0) hx hb dX5_firstFigures_42 (by decide) ?_
    refine lv_iconst (v := 4) hx hb dX5_firstFigures_43 (by decide) ?_
    refine g_ir (g_runS (wc := []) (rest := []) cx hP hD hS [] rfl (by decide) [.int 0, .int 4] (c_X2_figures l D k b H.size 0 4) gX5_firstFigures_X2_figures rfl rfl rfl nd_X2_figures ⟨Nat.le_of_ble_eq_true rfl, Nat.le_of_ble_eq_true rfl⟩ rfl hl.1 rfl (Nat.le_of_ble_eq_true rfl) ⟨Nat.zero_le _, Nat.zero_le _⟩ dX5_firstFigures_44) cx.2.2.1 hP hD hS [] rfl rfl (fun r7 H locs hw6 hP hS => ?_)
    have w8 : r7 = J_X2_figures (0 : Int32) (4 : Int32) := hw6
    clear hw6
    rw [hQ]
    exact x_i cx hr () hP hD hS (show r7 = J_X5_firstFigures p0 from by subst w8; unfold J_X5_firstFigures; rw [if_neg c1, if_pos c5]) dX5_firstFigures_47
  by_cases c9 : p0 = 81
  · refine lv_lookup (tgt := 48) (off := 47) hx hb dX5_firstFigures_1 (by decide) (by rw [c9]; decide) (by decide) ?_
    refine lv_iconst (v := 0) hx hb dX5_firstFigures_48 (by decide) ?_
    refine lv_iconst (v := 5) hx hb dX5_firstFigures_49 (by decide) ?_
    refine g_ir (g_runS (wc := []) (rest := []) cx hP hD hS [] rfl (by decide) [.int 0, .int 5] (c_X2_figures l D k b H.size 0 5) gX5_firstFigures_X2_figures rfl rfl rfl nd_X2_figures ⟨Nat.le_of_ble_eq_true rfl, Nat.le_of_ble_eq_true rfl⟩ rfl hl.1 rfl (Nat.le_of_ble_eq_true rfl) ⟨Nat.zero_le _, Nat.zero_le _⟩ dX5_firstFigures_50) cx.2.2.1 hP hD hS [] rfl rfl (fun r11 H locs hw10 hP hS => ?_)
    have w12 : r11 = J_X2_figures (0 : Int32) (5 : Int32) := hw10
    clear hw10
    rw [hQ]
    exact x_i cx hr () hP hD hS (show r11 = J_X5_firstFigures p0 from by subst w12; unfold J_X5_firstFigures; rw [if_neg c1, if_neg c5, if_pos c9]) dX5_firstFigures_53
  refine lv_lookup (tgt := 54) (off := 53) hx hb dX5_firstFigures_1 (by decide) (by show Op.lookupswitch.offset [(72, 35), (79, 41), (81, 47)] 53 p0.toInt = 53; rw [lv_osw c1 (by decide)]; rw [lv_osw c5 (by decide)]; rw [lv_osw c9 (by decide)]; rfl) (by decide) ?_
  refine lv_iconst (v := 0) hx hb dX5_firstFigures_54 (by decide) ?_
  refine lv_bipush (v := 9) hx hb dX5_firstFigures_55 (by decide) ?_
  refine g_ir (g_runS (wc := []) (rest := []) cx hP hD hS [] rfl (by decide) [.int 0, .int 9] (c_X2_figures l D k b H.size 0 9) gX5_firstFigures_X2_figures rfl rfl rfl nd_X2_figures ⟨Nat.le_of_ble_eq_true rfl, Nat.le_of_ble_eq_true rfl⟩ rfl hl.1 rfl (Nat.le_of_ble_eq_true rfl) ⟨Nat.zero_le _, Nat.zero_le _⟩ dX5_firstFigures_57) cx.2.2.1 hP hD hS [] rfl rfl (fun r14 H locs hw13 hP hS => ?_)
  have w15 : r14 = J_X2_figures (0 : Int32) (9 : Int32) := hw13
  clear hw13
  rw [hQ]
  exact x_i cx hr () hP hD hS (show r14 = J_X5_firstFigures p0 from by subst w15; unfold J_X5_firstFigures; rw [if_neg c1, if_neg c5, if_neg c9]) dX5_firstFigures_60
def J_X5_hasSecond (p0 : Int32) : Int32 := if p0 = 87 then (1 : Int32) else if p0 = 66 then (1 : Int32) else (0 : Int32)
set_option maxHeartbeats 4000000 in
set_option maxRecDepth 100000 in
theorem c_X5_hasSecond (l : Launch) (D : va_G) (k : Nat → ClassId) (b : Nat → Nat) (sz : Nat) (p0 : Int32) : MetI l D k b yX5_hasSecond wsX5_hasSecond ({ frames := 0, cells := 0, slots := 0, locals := 0 } : Room) [] sz [.int p0] (fun (r : Int32) (u : Unit) => r = J_X5_hasSecond p0) (fun u => []) := by
  refine g_enter (cc := cX5_hasSecond) (maxL := 1) (ret := (some .boolean)) (by decide) rfl (Nat.le_of_ble_eq_true rfl) ?_
  intro p e s m below meth c A hsz hAe cx hr hP hD hS ls hl
  rw [hAe]
  refine g_q (fun Q hQ => ?_)
  have hx := cx.1.1
  have hb := cx.1.2.1
  have hl : lv_has ls 1 [(0, .int p0)] := hl
  obtain ⟨H, eH⟩ : ∃ H : Heap, H = s.heap := ⟨_, rfl⟩
  obtain ⟨locs, el⟩ : ∃ L : List Loc, L = [] := ⟨_, rfl⟩
  have hP : va_P D vwCl [] H := by rw [eH]; exact hP
  have hD : va_D A [] := hD
  have hS : va_S A s.heap H locs := by rw [eH, el]; exact hS
  suffices goal : W p l e ({ frames := 0, cells := 0, slots := 0, locals := 0 } : Room) s m ([.int p0] : List Value).toArray below meth c H locs 0 0 Q (F0 m 0 ls []) by rw [eH, el] at goal; exact goal
  refine lv_iload_n hx hb dX5_hasSecond_0 rfl (lv_at hl 0 rfl) ?_
  refine lv_bipush (v := 87) hx hb dX5_hasSecond_1 (by decide) ?_
  refine lv_icmp_eq (tgt := 12) hx hb dX5_hasSecond_3 (by decide) (fun c1 => ?_) (fun c1 => ?_)
  · refine lv_iconst (v := 1) hx hb dX5_hasSecond_12 (by decide) ?_
    refine lv_goto (tgt := 17) hx hb dX5_hasSecond_13 (by decide) ?_
    rw [hQ]
    exact x_z cx hr (by decide) () hP hD hS (show 1 = J_X5_hasSecond p0 from by unfold J_X5_hasSecond; rw [if_pos c1]) dX5_hasSecond_17
  · refine lv_iload_n hx hb dX5_hasSecond_6 rfl (lv_at hl 0 rfl) ?_
    refine lv_bipush (v := 66) hx hb dX5_hasSecond_7 (by decide) ?_
    refine lv_icmp_ne (tgt := 16) hx hb dX5_hasSecond_9 (by decide) (fun c2 => ?_) (fun c2 => ?_)
    · refine lv_iconst (v := 0) hx hb dX5_hasSecond_16 (by decide) ?_
      rw [hQ]
      exact x_z cx hr (by decide) () hP hD hS (show 0 = J_X5_hasSecond p0 from by unfold J_X5_hasSecond; rw [if_neg c1, if_neg c2]) dX5_hasSecond_17
    · refine lv_iconst (v := 1) hx hb dX5_hasSecond_12 (by decide) ?_
      refine lv_goto (tgt := 17) hx hb dX5_hasSecond_13 (by decide) ?_
      rw [hQ]
      exact x_z cx hr (by decide) () hP hD hS (show 1 = J_X5_hasSecond p0 from by unfold J_X5_hasSecond; rw [if_neg c1, if_pos c2]) dX5_hasSecond_17
def J_X5_secondFigures (p0 : Int32) : Int32 := if p0 = 66 then (J_X2_figures 0 5) else (J_X2_figures 0 9)
set_option maxHeartbeats 4000000 in
set_option maxRecDepth 100000 in
theorem c_X5_secondFigures (l : Launch) (D : va_G) (k : Nat → ClassId) (b : Nat → Nat) (sz : Nat) (p0 : Int32) : MetI l D k b yX5_secondFigures wsX5_secondFigures ({ frames := 1, cells := 0, slots := 0, locals := 21 } : Room) [] sz [.int p0] (fun (r : Int32) (u : Unit) => r = J_X5_secondFigures p0) (fun u => []) := by
  refine g_enter (cc := cX5_secondFigures) (maxL := 1) (ret := (some .int)) (by decide) rfl (Nat.le_of_ble_eq_true rfl) ?_
  intro p e s m below meth c A hsz hAe cx hr hP hD hS ls hl
  rw [hAe]
  refine g_q (fun Q hQ => ?_)
  have hx := cx.1.1
  have hb := cx.1.2.1
  have hl : lv_has ls 1 [(0, .int p0)] := hl
  obtain ⟨H, eH⟩ : ∃ H : Heap, H = s.heap := ⟨_, rfl⟩
  obtain ⟨locs, el⟩ : ∃ L : List Loc, L = [] := ⟨_, rfl⟩
  have hP : va_P D vwCl [] H := by rw [eH]; exact hP
  have hD : va_D A [] := hD
  have hS : va_S A s.heap H locs := by rw [eH, el]; exact hS
  suffices goal : W p l e ({ frames := 1, cells := 0, slots := 0, locals := 21 } : Room) s m ([.int p0] : List Value).toArray below meth c H locs 0 0 Q (F0 m 0 ls []) by rw [eH, el] at goal; exact goal
  refine lv_iconst (v := 0) hx hb dX5_secondFigures_0 (by decide) ?_
  refine lv_iload_n hx hb dX5_secondFigures_1 rfl (lv_at hl 0 rfl) ?_
  refine lv_bipush (v := 66) hx hb dX5_secondFigures_2 (by decide) ?_
  refine lv_icmp_ne (tgt := 11) hx hb dX5_secondFigures_4 (by decide) (fun c1 => ?_) (fun c1 => ?_)
  · refine lv_bipush (v := 9) hx hb dX5_secondFigures_11 (by decide) ?_
    refine g_ir (g_runS (wc := []) (rest := []) cx hP hD hS [] rfl (by decide) [.int 0, .int 9] (c_X2_figures l D k b H.size 0 9) gX5_secondFigures_X2_figures rfl rfl rfl nd_X2_figures ⟨Nat.le_of_ble_eq_true rfl, Nat.le_of_ble_eq_true rfl⟩ rfl hl.1 rfl (Nat.le_of_ble_eq_true rfl) ⟨Nat.zero_le _, Nat.zero_le _⟩ dX5_secondFigures_13) cx.2.2.1 hP hD hS [] rfl rfl (fun r3 H locs hw2 hP hS => ?_)
    have w4 : r3 = J_X2_figures (0 : Int32) (9 : Int32) := hw2
    clear hw2
    rw [hQ]
    exact x_i cx hr () hP hD hS (show r3 = J_X5_secondFigures p0 from by subst w4; unfold J_X5_secondFigures; rw [if_neg c1]) dX5_secondFigures_16
  · refine lv_iconst (v := 5) hx hb dX5_secondFigures_7 (by decide) ?_
    refine lv_goto (tgt := 13) hx hb dX5_secondFigures_8 (by decide) ?_
    refine g_ir (g_runS (wc := []) (rest := []) cx hP hD hS [] rfl (by decide) [.int 0, .int 5] (c_X2_figures l D k b H.size 0 5) gX5_secondFigures_X2_figures rfl rfl rfl nd_X2_figures ⟨Nat.le_of_ble_eq_true rfl, Nat.le_of_ble_eq_true rfl⟩ rfl hl.1 rfl (Nat.le_of_ble_eq_true rfl) ⟨Nat.zero_le _, Nat.zero_le _⟩ dX5_secondFigures_13) cx.2.2.1 hP hD hS [] rfl rfl (fun r6 H locs hw5 hP hS => ?_)
    have w7 : r6 = J_X2_figures (0 : Int32) (5 : Int32) := hw5
    clear hw5
    rw [hQ]
    exact x_i cx hr () hP hD hS (show r6 = J_X5_secondFigures p0 from by subst w7; unfold J_X5_secondFigures; rw [if_pos c1]) dX5_secondFigures_16
def J_X6_place (p0 : Int32) (p1 : Int32) (p2 : Int32) : Int32 := ((((p0 * 3) + p2) * 35) + p1)
set_option maxHeartbeats 4000000 in
set_option maxRecDepth 100000 in
theorem c_X6_place (l : Launch) (D : va_G) (k : Nat → ClassId) (b : Nat → Nat) (sz : Nat) (p0 : Int32) (p1 : Int32) (p2 : Int32) : MetI l D k b yX6_place wsX6_place ({ frames := 0, cells := 0, slots := 0, locals := 0 } : Room) [] sz [.int p0, .int p1, .int p2] (fun (r : Int32) (u : Unit) => r = J_X6_place p0 p1 p2) (fun u => []) := by
  refine g_enter (cc := cX6_place) (maxL := 3) (ret := (some .int)) (by decide) rfl (Nat.le_of_ble_eq_true rfl) ?_
  intro p e s m below meth c A hsz hAe cx hr hP hD hS ls hl
  rw [hAe]
  refine g_q (fun Q hQ => ?_)
  have hx := cx.1.1
  have hb := cx.1.2.1
  have hl : lv_has ls 3 [(0, .int p0), (1, .int p1), (2, .int p2)] := hl
  obtain ⟨H, eH⟩ : ∃ H : Heap, H = s.heap := ⟨_, rfl⟩
  obtain ⟨locs, el⟩ : ∃ L : List Loc, L = [] := ⟨_, rfl⟩
  have hP : va_P D vwCl [] H := by rw [eH]; exact hP
  have hD : va_D A [] := hD
  have hS : va_S A s.heap H locs := by rw [eH, el]; exact hS
  suffices goal : W p l e ({ frames := 0, cells := 0, slots := 0, locals := 0 } : Room) s m ([.int p0, .int p1, .int p2] : List Value).toArray below meth c H locs 0 0 Q (F0 m 0 ls []) by rw [eH, el] at goal; exact goal
  refine lv_iload_n hx hb dX6_place_0 rfl (lv_at hl 0 rfl) ?_
  refine lv_iconst (v := 3) hx hb dX6_place_1 (by decide) ?_
  refine lv_imul hx hb dX6_place_2 (lv_topi (fun v1 e1 => ?_))
  refine lv_iload_n hx hb dX6_place_3 rfl (lv_at hl 2 rfl) ?_
  refine lv_iadd hx hb dX6_place_4 (lv_topi (fun v2 e2 => ?_))
  refine lv_bipush (v := 35) hx hb dX6_place_5 (by decide) ?_
  refine lv_imul hx hb dX6_place_7 (lv_topi (fun v3 e3 => ?_))
  refine lv_iload_n hx hb dX6_place_8 rfl (lv_at hl 1 rfl) ?_
  refine lv_iadd hx hb dX6_place_9 (lv_topi (fun v4 e4 => ?_))
  rw [hQ]
  exact x_i cx hr () hP hD hS (show v4 = J_X6_place p0 p1 p2 from by subst e1 e2 e3 e4; rfl) dX6_place_10
def J_X12_in (p0 : Int64) (p1 : Int64) (p2 : Int64) : Int32 := if (lg_cmp p0 p1) < 0 then (0 : Int32) else if 0 < (lg_cmp p0 p2) then (0 : Int32) else (1 : Int32)
set_option maxHeartbeats 4000000 in
set_option maxRecDepth 100000 in
theorem c_X12_in (l : Launch) (D : va_G) (k : Nat → ClassId) (b : Nat → Nat) (sz : Nat) (p0 : Int64) (p1 : Int64) (p2 : Int64) : MetI l D k b yX12_in wsX12_in ({ frames := 0, cells := 0, slots := 0, locals := 0 } : Room) [] sz [.long p0, .long p1, .long p2] (fun (r : Int32) (u : Unit) => r = J_X12_in p0 p1 p2) (fun u => []) := by
  refine g_enter (cc := cX12_in) (maxL := 6) (ret := (some .boolean)) (by decide) rfl (Nat.le_of_ble_eq_true rfl) ?_
  intro p e s m below meth c A hsz hAe cx hr hP hD hS ls hl
  rw [hAe]
  refine g_q (fun Q hQ => ?_)
  have hx := cx.1.1
  have hb := cx.1.2.1
  have hl : lv_has ls 6 [(0, .long p0), (2, .long p1), (4, .long p2)] := hl
  obtain ⟨H, eH⟩ : ∃ H : Heap, H = s.heap := ⟨_, rfl⟩
  obtain ⟨locs, el⟩ : ∃ L : List Loc, L = [] := ⟨_, rfl⟩
  have hP : va_P D vwCl [] H := by rw [eH]; exact hP
  have hD : va_D A [] := hD
  have hS : va_S A s.heap H locs := by rw [eH, el]; exact hS
  suffices goal : W p l e ({ frames := 0, cells := 0, slots := 0, locals := 0 } : Room) s m ([.long p0, .long p1, .long p2] : List Value).toArray below meth c H locs 0 0 Q (F0 m 0 ls []) by rw [eH, el] at goal; exact goal
  refine lv_lload_n hx hb dX12_in_0 rfl (lv_at hl 0 rfl) ?_
  refine lv_lload_n hx hb dX12_in_1 rfl (lv_at hl 1 rfl) ?_
  refine W.lcmp hx hb dX12_in_2 (lv_topi (fun v1 e1 => ?_))
  refine lv_if_lt (tgt := 17) hx hb dX12_in_3 (by decide) (fun c2 => ?_) (fun c2 => ?_)
  · refine lv_iconst (v := 0) hx hb dX12_in_17 (by decide) ?_
    rw [hQ]
    exact x_z cx hr (by decide) () hP hD hS (show 0 = J_X12_in p0 p1 p2 from by subst e1; unfold J_X12_in; rw [if_pos c2]) dX12_in_18
  · refine lv_lload_n hx hb dX12_in_6 rfl (lv_at hl 0 rfl) ?_
    refine lv_lload hx hb dX12_in_7 (lv_at hl 2 rfl) ?_
    refine W.lcmp hx hb dX12_in_9 (lv_topi (fun v3 e3 => ?_))
    refine lv_if_gt (tgt := 17) hx hb dX12_in_10 (by decide) (fun c4 => ?_) (fun c4 => ?_)
    · refine lv_iconst (v := 0) hx hb dX12_in_17 (by decide) ?_
      rw [hQ]
      exact x_z cx hr (by decide) () hP hD hS (show 0 = J_X12_in p0 p1 p2 from by subst e1 e3; unfold J_X12_in; rw [if_neg c2, if_pos c4]) dX12_in_18
    · refine lv_iconst (v := 1) hx hb dX12_in_13 (by decide) ?_
      refine lv_goto (tgt := 18) hx hb dX12_in_14 (by decide) ?_
      rw [hQ]
      exact x_z cx hr (by decide) () hP hD hS (show 1 = J_X12_in p0 p1 p2 from by subst e1 e3; unfold J_X12_in; rw [if_neg c2, if_neg c4]) dX12_in_18
def J_X12_once (p0 : Int32) : Int32 := if p0 = 72 then (0 : Int32) else if p0 = 80 then (1 : Int32) else if p0 = 83 then (2 : Int32) else if p0 = 71 then (3 : Int32) else if p0 = 84 then (4 : Int32) else if p0 = 65 then (5 : Int32) else if p0 = 66 then (6 : Int32) else ((-9) : Int32)
set_option maxHeartbeats 4000000 in
set_option maxRecDepth 100000 in
theorem c_X12_once (l : Launch) (D : va_G) (k : Nat → ClassId) (b : Nat → Nat) (sz : Nat) (p0 : Int32) : MetI l D k b yX12_once wsX12_once ({ frames := 0, cells := 0, slots := 0, locals := 0 } : Room) [] sz [.int p0] (fun (r : Int32) (u : Unit) => r = J_X12_once p0) (fun u => []) := by
  refine g_enter (cc := cX12_once) (maxL := 1) (ret := (some .int)) (by decide) rfl (Nat.le_of_ble_eq_true rfl) ?_
  intro p e s m below meth c A hsz hAe cx hr hP hD hS ls hl
  rw [hAe]
  refine g_q (fun Q hQ => ?_)
  have hx := cx.1.1
  have hb := cx.1.2.1
  have hl : lv_has ls 1 [(0, .int p0)] := hl
  obtain ⟨H, eH⟩ : ∃ H : Heap, H = s.heap := ⟨_, rfl⟩
  obtain ⟨locs, el⟩ : ∃ L : List Loc, L = [] := ⟨_, rfl⟩
  have hP : va_P D vwCl [] H := by rw [eH]; exact hP
  have hD : va_D A [] := hD
  have hS : va_S A s.heap H locs := by rw [eH, el]; exact hS
  suffices goal : W p l e ({ frames := 0, cells := 0, slots := 0, locals := 0 } : Room) s m ([.int p0] : List Value).toArray below meth c H locs 0 0 Q (F0 m 0 ls []) by rw [eH, el] at goal; exact goal
  refine lv_iload_n hx hb dX12_once_0 rfl (lv_at hl 0 rfl) ?_
  refine lv_bipush (v := 72) hx hb dX12_once_1 (by decide) ?_
  refine lv_icmp_ne (tgt := 10) hx hb dX12_once_3 (by decide) (fun c1 => ?_) (fun c1 => ?_)
  · refine lv_iload_n hx hb dX12_once_10 rfl (lv_at hl 0 rfl) ?_
    refine lv_bipush (v := 80) hx hb dX12_once_11 (by decide) ?_
    refine lv_icmp_ne (tgt := 20) hx hb dX12_once_13 (by decide) (fun c2 => ?_) (fun c2 => ?_)
    · refine lv_iload_n hx hb dX12_once_20 rfl (lv_at hl 0 rfl) ?_
      refine lv_bipush (v := 83) hx hb dX12_once_21 (by decide) ?_
      refine lv_icmp_ne (tgt := 30) hx hb dX12_once_23 (by decide) (fun c3 => ?_) (fun c3 => ?_)
      · refine lv_iload_n hx hb dX12_once_30 rfl (lv_at hl 0 rfl) ?_
        refine lv_bipush (v := 71) hx hb dX12_once_31 (by decide) ?_
        refine lv_icmp_ne (tgt := 40) hx hb dX12_once_33 (by decide) (fun c4 => ?_) (fun c4 => ?_)
        · refine lv_iload_n hx hb dX12_once_40 rfl (lv_at hl 0 rfl) ?_
          refine lv_bipush (v := 84) hx hb dX12_once_41 (by decide) ?_
          refine lv_icmp_ne (tgt := 50) hx hb dX12_once_43 (by decide) (fun c5 => ?_) (fun c5 => ?_)
          · refine lv_iload_n hx hb dX12_once_50 rfl (lv_at hl 0 rfl) ?_
            refine lv_bipush (v := 65) hx hb dX12_once_51 (by decide) ?_
            refine lv_icmp_ne (tgt := 60) hx hb dX12_once_53 (by decide) (fun c6 => ?_) (fun c6 => ?_)
            · refine lv_iload_n hx hb dX12_once_60 rfl (lv_at hl 0 rfl) ?_
              refine lv_bipush (v := 66) hx hb dX12_once_61 (by decide) ?_
              refine lv_icmp_ne (tgt := 71) hx hb dX12_once_63 (by decide) (fun c7 => ?_) (fun c7 => ?_)
              · refine lv_bipush (v := (-9)) hx hb dX12_once_71 (by decide) ?_
                rw [hQ]
                exact x_i cx hr () hP hD hS (show (-9) = J_X12_once p0 from by unfold J_X12_once; rw [if_neg c1, if_neg c2, if_neg c3, if_neg c4, if_neg c5, if_neg c6, if_neg c7]) dX12_once_73
              · refine lv_bipush (v := 6) hx hb dX12_once_66 (by decide) ?_
                refine lv_goto (tgt := 73) hx hb dX12_once_68 (by decide) ?_
                rw [hQ]
                exact x_i cx hr () hP hD hS (show 6 = J_X12_once p0 from by unfold J_X12_once; rw [if_neg c1, if_neg c2, if_neg c3, if_neg c4, if_neg c5, if_neg c6, if_pos c7]) dX12_once_73
            · refine lv_iconst (v := 5) hx hb dX12_once_56 (by decide) ?_
              refine lv_goto (tgt := 73) hx hb dX12_once_57 (by decide) ?_
              rw [hQ]
              exact x_i cx hr () hP hD hS (show 5 = J_X12_once p0 from by unfold J_X12_once; rw [if_neg c1, if_neg c2, if_neg c3, if_neg c4, if_neg c5, if_pos c6]) dX12_once_73
          · refine lv_iconst (v := 4) hx hb dX12_once_46 (by decide) ?_
            refine lv_goto (tgt := 73) hx hb dX12_once_47 (by decide) ?_
            rw [hQ]
            exact x_i cx hr () hP hD hS (show 4 = J_X12_once p0 from by unfold J_X12_once; rw [if_neg c1, if_neg c2, if_neg c3, if_neg c4, if_pos c5]) dX12_once_73
        · refine lv_iconst (v := 3) hx hb dX12_once_36 (by decide) ?_
          refine lv_goto (tgt := 73) hx hb dX12_once_37 (by decide) ?_
          rw [hQ]
          exact x_i cx hr () hP hD hS (show 3 = J_X12_once p0 from by unfold J_X12_once; rw [if_neg c1, if_neg c2, if_neg c3, if_pos c4]) dX12_once_73
      · refine lv_iconst (v := 2) hx hb dX12_once_26 (by decide) ?_
        refine lv_goto (tgt := 73) hx hb dX12_once_27 (by decide) ?_
        rw [hQ]
        exact x_i cx hr () hP hD hS (show 2 = J_X12_once p0 from by unfold J_X12_once; rw [if_neg c1, if_neg c2, if_pos c3]) dX12_once_73
    · refine lv_iconst (v := 1) hx hb dX12_once_16 (by decide) ?_
      refine lv_goto (tgt := 73) hx hb dX12_once_17 (by decide) ?_
      rw [hQ]
      exact x_i cx hr () hP hD hS (show 1 = J_X12_once p0 from by unfold J_X12_once; rw [if_neg c1, if_pos c2]) dX12_once_73
  · refine lv_iconst (v := 0) hx hb dX12_once_6 (by decide) ?_
    refine lv_goto (tgt := 73) hx hb dX12_once_7 (by decide) ?_
    rw [hQ]
    exact x_i cx hr () hP hD hS (show 0 = J_X12_once p0 from by unfold J_X12_once; rw [if_pos c1]) dX12_once_73
def J_X12_all (p0 : Int32) : Int32 := (((p0 / 100) + ((p0 / 10) - (p0 / 10) / 10 * 10)) + (p0 - p0 / 10 * 10))
set_option maxHeartbeats 4000000 in
set_option maxRecDepth 100000 in
theorem c_X12_all (l : Launch) (D : va_G) (k : Nat → ClassId) (b : Nat → Nat) (sz : Nat) (p0 : Int32) : MetI l D k b yX12_all wsX12_all ({ frames := 0, cells := 0, slots := 0, locals := 0 } : Room) [] sz [.int p0] (fun (r : Int32) (u : Unit) => r = J_X12_all p0) (fun u => []) := by
  refine g_enter (cc := cX12_all) (maxL := 1) (ret := (some .int)) (by decide) rfl (Nat.le_of_ble_eq_true rfl) ?_
  intro p e s m below meth c A hsz hAe cx hr hP hD hS ls hl
  rw [hAe]
  refine g_q (fun Q hQ => ?_)
  have hx := cx.1.1
  have hb := cx.1.2.1
  have hl : lv_has ls 1 [(0, .int p0)] := hl
  obtain ⟨H, eH⟩ : ∃ H : Heap, H = s.heap := ⟨_, rfl⟩
  obtain ⟨locs, el⟩ : ∃ L : List Loc, L = [] := ⟨_, rfl⟩
  have hP : va_P D vwCl [] H := by rw [eH]; exact hP
  have hD : va_D A [] := hD
  have hS : va_S A s.heap H locs := by rw [eH, el]; exact hS
  suffices goal : W p l e ({ frames := 0, cells := 0, slots := 0, locals := 0 } : Room) s m ([.int p0] : List Value).toArray below meth c H locs 0 0 Q (F0 m 0 ls []) by rw [eH, el] at goal; exact goal
  refine lv_iload_n hx hb dX12_all_0 rfl (lv_at hl 0 rfl) ?_
  refine lv_bipush (v := 100) hx hb dX12_all_1 (by decide) ?_
  refine lv_idiv hx hb dX12_all_3 (by decide) (lv_topi (fun v1 e1 => ?_))
  refine lv_iload_n hx hb dX12_all_4 rfl (lv_at hl 0 rfl) ?_
  refine lv_bipush (v := 10) hx hb dX12_all_5 (by decide) ?_
  refine lv_idiv hx hb dX12_all_7 (by decide) (lv_topi (fun v2 e2 => ?_))
  refine lv_bipush (v := 10) hx hb dX12_all_8 (by decide) ?_
  refine lv_irem hx hb dX12_all_10 (by decide) (lv_topi (fun v3 e3 => ?_))
  refine lv_iadd hx hb dX12_all_11 (lv_topi (fun v4 e4 => ?_))
  refine lv_iload_n hx hb dX12_all_12 rfl (lv_at hl 0 rfl) ?_
  refine lv_bipush (v := 10) hx hb dX12_all_13 (by decide) ?_
  refine lv_irem hx hb dX12_all_15 (by decide) (lv_topi (fun v5 e5 => ?_))
  refine lv_iadd hx hb dX12_all_16 (lv_topi (fun v6 e6 => ?_))
  rw [hQ]
  exact x_i cx hr () hP hD hS (show v6 = J_X12_all p0 from by subst e1 e2 e3 e4 e5 e6; rfl) dX12_all_17
def J_X12_fewer (p0 : Int32) (p1 : Int32) : Int32 := if (p0 / 100) ≤ p1 then if ((p0 / 10) - (p0 / 10) / 10 * 10) ≤ (p1 - (p0 / 100)) then ((((100 * ((p0 / 100) - (p0 / 100))) + (10 * (((p0 / 10) - (p0 / 10) / 10 * 10) - ((p0 / 10) - (p0 / 10) / 10 * 10)))) + (p0 - p0 / 10 * 10)) - ((p1 - (p0 / 100)) - ((p0 / 10) - (p0 / 10) / 10 * 10))) else ((((100 * ((p0 / 100) - (p0 / 100))) + (10 * (((p0 / 10) - (p0 / 10) / 10 * 10) - (p1 - (p0 / 100))))) + (p0 - p0 / 10 * 10)) - ((p1 - (p0 / 100)) - (p1 - (p0 / 100)))) else if ((p0 / 10) - (p0 / 10) / 10 * 10) ≤ (p1 - p1) then ((((100 * ((p0 / 100) - p1)) + (10 * (((p0 / 10) - (p0 / 10) / 10 * 10) - ((p0 / 10) - (p0 / 10) / 10 * 10)))) + (p0 - p0 / 10 * 10)) - ((p1 - p1) - ((p0 / 10) - (p0 / 10) / 10 * 10))) else ((((100 * ((p0 / 100) - p1)) + (10 * (((p0 / 10) - (p0 / 10) / 10 * 10) - (p1 - p1)))) + (p0 - p0 / 10 * 10)) - ((p1 - p1) - (p1 - p1)))
set_option maxHeartbeats 4000000 in
set_option maxRecDepth 100000 in
theorem c_X12_fewer (l : Launch) (D : va_G) (k : Nat → ClassId) (b : Nat → Nat) (sz : Nat) (p0 : Int32) (p1 : Int32) : MetI l D k b yX12_fewer wsX12_fewer ({ frames := 0, cells := 0, slots := 0, locals := 0 } : Room) [] sz [.int p0, .int p1] (fun (r : Int32) (u : Unit) => r = J_X12_fewer p0 p1) (fun u => []) := by
  refine g_enter (cc := cX12_fewer) (maxL := 7) (ret := (some .int)) (by decide) rfl (Nat.le_of_ble_eq_true rfl) ?_
  intro p e s m below meth c A hsz hAe cx hr hP hD hS ls hl
  rw [hAe]
  refine g_q (fun Q hQ => ?_)
  have hx := cx.1.1
  have hb := cx.1.2.1
  have hl : lv_has ls 7 [(0, .int p0), (1, .int p1)] := hl
  obtain ⟨H, eH⟩ : ∃ H : Heap, H = s.heap := ⟨_, rfl⟩
  obtain ⟨locs, el⟩ : ∃ L : List Loc, L = [] := ⟨_, rfl⟩
  have hP : va_P D vwCl [] H := by rw [eH]; exact hP
  have hD : va_D A [] := hD
  have hS : va_S A s.heap H locs := by rw [eH, el]; exact hS
  suffices goal : W p l e ({ frames := 0, cells := 0, slots := 0, locals := 0 } : Room) s m ([.int p0, .int p1] : List Value).toArray below meth c H locs 0 0 Q (F0 m 0 ls []) by rw [eH, el] at goal; exact goal
  refine lv_iload_n hx hb dX12_fewer_0 rfl (lv_at hl 1 rfl) ?_
  refine lv_istore_n (lv' := [(2, .int p1), (0, .int p0), (1, .int p1)]) hx hb dX12_fewer_1 rfl hl (by decide) rfl (fun ls hl => ?_)
  refine lv_iload_n hx hb dX12_fewer_2 rfl (lv_at hl 1 rfl) ?_
  refine lv_bipush (v := 100) hx hb dX12_fewer_3 (by decide) ?_
  refine lv_idiv hx hb dX12_fewer_5 (by decide) (lv_topi (fun v1 e1 => ?_))
  refine lv_istore_n (lv' := [(3, .int v1), (2, .int p1), (0, .int p0), (1, .int p1)]) hx hb dX12_fewer_6 rfl hl (by decide) rfl (fun ls hl => ?_)
  refine lv_iload_n hx hb dX12_fewer_7 rfl (lv_at hl 2 rfl) ?_
  refine lv_bipush (v := 10) hx hb dX12_fewer_8 (by decide) ?_
  refine lv_idiv hx hb dX12_fewer_10 (by decide) (lv_topi (fun v2 e2 => ?_))
  refine lv_bipush (v := 10) hx hb dX12_fewer_11 (by decide) ?_
  refine lv_irem hx hb dX12_fewer_13 (by decide) (lv_topi (fun v3 e3 => ?_))
  refine lv_istore (lv' := [(4, .int v3), (3, .int v1), (2, .int p1), (0, .int p0), (1, .int p1)]) hx hb dX12_fewer_14 hl (by decide) rfl (fun ls hl => ?_)
  refine lv_iload_n hx hb dX12_fewer_16 rfl (lv_at hl 3 rfl) ?_
  refine lv_bipush (v := 10) hx hb dX12_fewer_17 (by decide) ?_
  refine lv_irem hx hb dX12_fewer_19 (by decide) (lv_topi (fun v4 e4 => ?_))
  refine lv_istore (lv' := [(5, .int v4), (4, .int v3), (3, .int v1), (2, .int p1), (0, .int p0), (1, .int p1)]) hx hb dX12_fewer_20 hl (by decide) rfl (fun ls hl => ?_)
  refine lv_iload_n hx hb dX12_fewer_22 rfl (lv_at hl 3 rfl) ?_
  refine lv_iload_n hx hb dX12_fewer_23 rfl (lv_at hl 2 rfl) ?_
  refine lv_icmp_ge (tgt := 31) hx hb dX12_fewer_24 (by decide) (fun c5 => ?_) (fun c5 => ?_)
  · refine lv_iload_n hx hb dX12_fewer_31 rfl (lv_at hl 2 rfl) ?_
    refine lv_istore (lv' := [(6, .int v1), (5, .int v4), (4, .int v3), (3, .int v1), (2, .int p1), (0, .int p0), (1, .int p1)]) hx hb dX12_fewer_32 hl (by decide) rfl (fun ls hl => ?_)
    refine lv_iload_n hx hb dX12_fewer_34 rfl (lv_at hl 3 rfl) ?_
    refine lv_iload hx hb dX12_fewer_35 (lv_at hl 0 rfl) ?_
    refine lv_isub hx hb dX12_fewer_37 (lv_topi (fun v6 e6 => ?_))
    refine lv_istore_n (lv' := [(3, .int v6), (6, .int v1), (5, .int v4), (4, .int v3), (2, .int p1), (0, .int p0), (1, .int p1)]) hx hb dX12_fewer_38 rfl hl (by decide) rfl (fun ls hl => ?_)
    refine lv_iload_n hx hb dX12_fewer_39 rfl (lv_at hl 4 rfl) ?_
    refine lv_iload hx hb dX12_fewer_40 (lv_at hl 1 rfl) ?_
    refine lv_isub hx hb dX12_fewer_42 (lv_topi (fun v7 e7 => ?_))
    refine lv_istore_n (lv' := [(2, .int v7), (3, .int v6), (6, .int v1), (5, .int v4), (4, .int v3), (0, .int p0), (1, .int p1)]) hx hb dX12_fewer_43 rfl hl (by decide) rfl (fun ls hl => ?_)
    refine lv_iload_n hx hb dX12_fewer_44 rfl (lv_at hl 0 rfl) ?_
    refine lv_iload hx hb dX12_fewer_45 (lv_at hl 4 rfl) ?_
    refine lv_icmp_ge (tgt := 54) hx hb dX12_fewer_47 (by decide) (fun c8 => ?_) (fun c8 => ?_)
    · refine lv_iload hx hb dX12_fewer_54 (lv_at hl 4 rfl) ?_
      refine lv_istore (lv' := [(6, .int v3), (2, .int v7), (3, .int v6), (5, .int v4), (4, .int v3), (0, .int p0), (1, .int p1)]) hx hb dX12_fewer_56 hl (by decide) rfl (fun ls hl => ?_)
      refine lv_iload hx hb dX12_fewer_58 (lv_at hl 4 rfl) ?_
      refine lv_iload hx hb dX12_fewer_60 (lv_at hl 0 rfl) ?_
      refine lv_isub hx hb dX12_fewer_62 (lv_topi (fun v9 e9 => ?_))
      refine lv_istore (lv' := [(4, .int v9), (6, .int v3), (2, .int v7), (3, .int v6), (5, .int v4), (0, .int p0), (1, .int p1)]) hx hb dX12_fewer_63 hl (by decide) rfl (fun ls hl => ?_)
      refine lv_iload_n hx hb dX12_fewer_65 rfl (lv_at hl 2 rfl) ?_
      refine lv_iload hx hb dX12_fewer_66 (lv_at hl 1 rfl) ?_
      refine lv_isub hx hb dX12_fewer_68 (lv_topi (fun v10 e10 => ?_))
      refine lv_istore_n (lv' := [(2, .int v10), (4, .int v9), (6, .int v3), (3, .int v6), (5, .int v4), (0, .int p0), (1, .int p1)]) hx hb dX12_fewer_69 rfl hl (by decide) rfl (fun ls hl => ?_)
      refine lv_bipush (v := 100) hx hb dX12_fewer_70 (by decide) ?_
      refine lv_iload_n hx hb dX12_fewer_72 rfl (lv_at hl 3 rfl) ?_
      refine lv_imul hx hb dX12_fewer_73 (lv_topi (fun v11 e11 => ?_))
      refine lv_bipush (v := 10) hx hb dX12_fewer_74 (by decide) ?_
      refine lv_iload hx hb dX12_fewer_76 (lv_at hl 1 rfl) ?_
      refine lv_imul hx hb dX12_fewer_78 (lv_topi (fun v12 e12 => ?_))
      refine lv_iadd hx hb dX12_fewer_79 (lv_topi (fun v13 e13 => ?_))
      refine lv_iload hx hb dX12_fewer_80 (lv_at hl 4 rfl) ?_
      refine lv_iadd hx hb dX12_fewer_82 (lv_topi (fun v14 e14 => ?_))
      refine lv_iload_n hx hb dX12_fewer_83 rfl (lv_at hl 0 rfl) ?_
      refine lv_isub hx hb dX12_fewer_84 (lv_topi (fun v15 e15 => ?_))
      rw [hQ]
      exact x_i cx hr () hP hD hS (show v15 = J_X12_fewer p0 p1 from by subst e1 e2 e3 e4 e6 e7 e9 e10 e11 e12 e13 e14 e15; unfold J_X12_fewer; rw [if_pos c5, if_pos c8]) dX12_fewer_85
    · refine lv_iload_n hx hb dX12_fewer_50 rfl (lv_at hl 0 rfl) ?_
      refine lv_goto (tgt := 56) hx hb dX12_fewer_51 (by decide) ?_
      refine lv_istore (lv' := [(6, .int v7), (2, .int v7), (3, .int v6), (5, .int v4), (4, .int v3), (0, .int p0), (1, .int p1)]) hx hb dX12_fewer_56 hl (by decide) rfl (fun ls hl => ?_)
      refine lv_iload hx hb dX12_fewer_58 (lv_at hl 4 rfl) ?_
      refine lv_iload hx hb dX12_fewer_60 (lv_at hl 0 rfl) ?_
      refine lv_isub hx hb dX12_fewer_62 (lv_topi (fun v16 e16 => ?_))
      refine lv_istore (lv' := [(4, .int v16), (6, .int v7), (2, .int v7), (3, .int v6), (5, .int v4), (0, .int p0), (1, .int p1)]) hx hb dX12_fewer_63 hl (by decide) rfl (fun ls hl => ?_)
      refine lv_iload_n hx hb dX12_fewer_65 rfl (lv_at hl 2 rfl) ?_
      refine lv_iload hx hb dX12_fewer_66 (lv_at hl 1 rfl) ?_
      refine lv_isub hx hb dX12_fewer_68 (lv_topi (fun v17 e17 => ?_))
      refine lv_istore_n (lv' := [(2, .int v17), (4, .int v16), (6, .int v7), (3, .int v6), (5, .int v4), (0, .int p0), (1, .int p1)]) hx hb dX12_fewer_69 rfl hl (by decide) rfl (fun ls hl => ?_)
      refine lv_bipush (v := 100) hx hb dX12_fewer_70 (by decide) ?_
      refine lv_iload_n hx hb dX12_fewer_72 rfl (lv_at hl 3 rfl) ?_
      refine lv_imul hx hb dX12_fewer_73 (lv_topi (fun v18 e18 => ?_))
      refine lv_bipush (v := 10) hx hb dX12_fewer_74 (by decide) ?_
      refine lv_iload hx hb dX12_fewer_76 (lv_at hl 1 rfl) ?_
      refine lv_imul hx hb dX12_fewer_78 (lv_topi (fun v19 e19 => ?_))
      refine lv_iadd hx hb dX12_fewer_79 (lv_topi (fun v20 e20 => ?_))
      refine lv_iload hx hb dX12_fewer_80 (lv_at hl 4 rfl) ?_
      refine lv_iadd hx hb dX12_fewer_82 (lv_topi (fun v21 e21 => ?_))
      refine lv_iload_n hx hb dX12_fewer_83 rfl (lv_at hl 0 rfl) ?_
      refine lv_isub hx hb dX12_fewer_84 (lv_topi (fun v22 e22 => ?_))
      rw [hQ]
      exact x_i cx hr () hP hD hS (show v22 = J_X12_fewer p0 p1 from by subst e1 e2 e3 e4 e6 e7 e16 e17 e18 e19 e20 e21 e22; unfold J_X12_fewer; rw [if_pos c5, if_neg c8]) dX12_fewer_85
  · refine lv_iload_n hx hb dX12_fewer_27 rfl (lv_at hl 3 rfl) ?_
    refine lv_goto (tgt := 32) hx hb dX12_fewer_28 (by decide) ?_
    refine lv_istore (lv' := [(6, .int p1), (5, .int v4), (4, .int v3), (3, .int v1), (2, .int p1), (0, .int p0), (1, .int p1)]) hx hb dX12_fewer_32 hl (by decide) rfl (fun ls hl => ?_)
    refine lv_iload_n hx hb dX12_fewer_34 rfl (lv_at hl 3 rfl) ?_
    refine lv_iload hx hb dX12_fewer_35 (lv_at hl 0 rfl) ?_
    refine lv_isub hx hb dX12_fewer_37 (lv_topi (fun v23 e23 => ?_))
    refine lv_istore_n (lv' := [(3, .int v23), (6, .int p1), (5, .int v4), (4, .int v3), (2, .int p1), (0, .int p0), (1, .int p1)]) hx hb dX12_fewer_38 rfl hl (by decide) rfl (fun ls hl => ?_)
    refine lv_iload_n hx hb dX12_fewer_39 rfl (lv_at hl 4 rfl) ?_
    refine lv_iload hx hb dX12_fewer_40 (lv_at hl 1 rfl) ?_
    refine lv_isub hx hb dX12_fewer_42 (lv_topi (fun v24 e24 => ?_))
    refine lv_istore_n (lv' := [(2, .int v24), (3, .int v23), (6, .int p1), (5, .int v4), (4, .int v3), (0, .int p0), (1, .int p1)]) hx hb dX12_fewer_43 rfl hl (by decide) rfl (fun ls hl => ?_)
    refine lv_iload_n hx hb dX12_fewer_44 rfl (lv_at hl 0 rfl) ?_
    refine lv_iload hx hb dX12_fewer_45 (lv_at hl 4 rfl) ?_
    refine lv_icmp_ge (tgt := 54) hx hb dX12_fewer_47 (by decide) (fun c25 => ?_) (fun c25 => ?_)
    · refine lv_iload hx hb dX12_fewer_54 (lv_at hl 4 rfl) ?_
      refine lv_istore (lv' := [(6, .int v3), (2, .int v24), (3, .int v23), (5, .int v4), (4, .int v3), (0, .int p0), (1, .int p1)]) hx hb dX12_fewer_56 hl (by decide) rfl (fun ls hl => ?_)
      refine lv_iload hx hb dX12_fewer_58 (lv_at hl 4 rfl) ?_
      refine lv_iload hx hb dX12_fewer_60 (lv_at hl 0 rfl) ?_
      refine lv_isub hx hb dX12_fewer_62 (lv_topi (fun v26 e26 => ?_))
      refine lv_istore (lv' := [(4, .int v26), (6, .int v3), (2, .int v24), (3, .int v23), (5, .int v4), (0, .int p0), (1, .int p1)]) hx hb dX12_fewer_63 hl (by decide) rfl (fun ls hl => ?_)
      refine lv_iload_n hx hb dX12_fewer_65 rfl (lv_at hl 2 rfl) ?_
      refine lv_iload hx hb dX12_fewer_66 (lv_at hl 1 rfl) ?_
      refine lv_isub hx hb dX12_fewer_68 (lv_topi (fun v27 e27 => ?_))
      refine lv_istore_n (lv' := [(2, .int v27), (4, .int v26), (6, .int v3), (3, .int v23), (5, .int v4), (0, .int p0), (1, .int p1)]) hx hb dX12_fewer_69 rfl hl (by decide) rfl (fun ls hl => ?_)
      refine lv_bipush (v := 100) hx hb dX12_fewer_70 (by decide) ?_
      refine lv_iload_n hx hb dX12_fewer_72 rfl (lv_at hl 3 rfl) ?_
      refine lv_imul hx hb dX12_fewer_73 (lv_topi (fun v28 e28 => ?_))
      refine lv_bipush (v := 10) hx hb dX12_fewer_74 (by decide) ?_
      refine lv_iload hx hb dX12_fewer_76 (lv_at hl 1 rfl) ?_
      refine lv_imul hx hb dX12_fewer_78 (lv_topi (fun v29 e29 => ?_))
      refine lv_iadd hx hb dX12_fewer_79 (lv_topi (fun v30 e30 => ?_))
      refine lv_iload hx hb dX12_fewer_80 (lv_at hl 4 rfl) ?_
      refine lv_iadd hx hb dX12_fewer_82 (lv_topi (fun v31 e31 => ?_))
      refine lv_iload_n hx hb dX12_fewer_83 rfl (lv_at hl 0 rfl) ?_
      refine lv_isub hx hb dX12_fewer_84 (lv_topi (fun v32 e32 => ?_))
      rw [hQ]
      exact x_i cx hr () hP hD hS (show v32 = J_X12_fewer p0 p1 from by subst e1 e2 e3 e4 e23 e24 e26 e27 e28 e29 e30 e31 e32; unfold J_X12_fewer; rw [if_neg c5, if_pos c25]) dX12_fewer_85
    · refine lv_iload_n hx hb dX12_fewer_50 rfl (lv_at hl 0 rfl) ?_
      refine lv_goto (tgt := 56) hx hb dX12_fewer_51 (by decide) ?_
      refine lv_istore (lv' := [(6, .int v24), (2, .int v24), (3, .int v23), (5, .int v4), (4, .int v3), (0, .int p0), (1, .int p1)]) hx hb dX12_fewer_56 hl (by decide) rfl (fun ls hl => ?_)
      refine lv_iload hx hb dX12_fewer_58 (lv_at hl 4 rfl) ?_
      refine lv_iload hx hb dX12_fewer_60 (lv_at hl 0 rfl) ?_
      refine lv_isub hx hb dX12_fewer_62 (lv_topi (fun v33 e33 => ?_))
      refine lv_istore (lv' := [(4, .int v33), (6, .int v24), (2, .int v24), (3, .int v23), (5, .int v4), (0, .int p0), (1, .int p1)]) hx hb dX12_fewer_63 hl (by decide) rfl (fun ls hl => ?_)
      refine lv_iload_n hx hb dX12_fewer_65 rfl (lv_at hl 2 rfl) ?_
      refine lv_iload hx hb dX12_fewer_66 (lv_at hl 1 rfl) ?_
      refine lv_isub hx hb dX12_fewer_68 (lv_topi (fun v34 e34 => ?_))
      refine lv_istore_n (lv' := [(2, .int v34), (4, .int v33), (6, .int v24), (3, .int v23), (5, .int v4), (0, .int p0), (1, .int p1)]) hx hb dX12_fewer_69 rfl hl (by decide) rfl (fun ls hl => ?_)
      refine lv_bipush (v := 100) hx hb dX12_fewer_70 (by decide) ?_
      refine lv_iload_n hx hb dX12_fewer_72 rfl (lv_at hl 3 rfl) ?_
      refine lv_imul hx hb dX12_fewer_73 (lv_topi (fun v35 e35 => ?_))
      refine lv_bipush (v := 10) hx hb dX12_fewer_74 (by decide) ?_
      refine lv_iload hx hb dX12_fewer_76 (lv_at hl 1 rfl) ?_
      refine lv_imul hx hb dX12_fewer_78 (lv_topi (fun v36 e36 => ?_))
      refine lv_iadd hx hb dX12_fewer_79 (lv_topi (fun v37 e37 => ?_))
      refine lv_iload hx hb dX12_fewer_80 (lv_at hl 4 rfl) ?_
      refine lv_iadd hx hb dX12_fewer_82 (lv_topi (fun v38 e38 => ?_))
      refine lv_iload_n hx hb dX12_fewer_83 rfl (lv_at hl 0 rfl) ?_
      refine lv_isub hx hb dX12_fewer_84 (lv_topi (fun v39 e39 => ?_))
      rw [hQ]
      exact x_i cx hr () hP hD hS (show v39 = J_X12_fewer p0 p1 from by subst e1 e2 e3 e4 e23 e24 e33 e34 e35 e36 e37 e38 e39; unfold J_X12_fewer; rw [if_neg c5, if_neg c25]) dX12_fewer_85
def J_X12_left (p0 : Int32) (p1 : Int32) : Int32 := if ((p0 / 100) - (p1 / 100)) < 0 then ((-9) : Int32) else if (((p0 / 10) - (p0 / 10) / 10 * 10) - ((p1 / 10) - (p1 / 10) / 10 * 10)) < 0 then ((-9) : Int32) else if 0 ≤ ((p0 - p0 / 10 * 10) - (p1 - p1 / 10 * 10)) then (((10 * ((p0 / 100) - (p1 / 100))) + (((p0 / 10) - (p0 / 10) / 10 * 10) - ((p1 / 10) - (p1 / 10) / 10 * 10))) + ((p0 - p0 / 10 * 10) - (p1 - p1 / 10 * 10))) else ((-9) : Int32)
set_option maxHeartbeats 4000000 in
set_option maxRecDepth 100000 in
theorem c_X12_left (l : Launch) (D : va_G) (k : Nat → ClassId) (b : Nat → Nat) (sz : Nat) (p0 : Int32) (p1 : Int32) : MetI l D k b yX12_left wsX12_left ({ frames := 0, cells := 0, slots := 0, locals := 0 } : Room) [] sz [.int p0, .int p1] (fun (r : Int32) (u : Unit) => r = J_X12_left p0 p1) (fun u => []) := by
  refine g_enter (cc := cX12_left) (maxL := 5) (ret := (some .int)) (by decide) rfl (Nat.le_of_ble_eq_true rfl) ?_
  intro p e s m below meth c A hsz hAe cx hr hP hD hS ls hl
  rw [hAe]
  refine g_q (fun Q hQ => ?_)
  have hx := cx.1.1
  have hb := cx.1.2.1
  have hl : lv_has ls 5 [(0, .int p0), (1, .int p1)] := hl
  obtain ⟨H, eH⟩ : ∃ H : Heap, H = s.heap := ⟨_, rfl⟩
  obtain ⟨locs, el⟩ : ∃ L : List Loc, L = [] := ⟨_, rfl⟩
  have hP : va_P D vwCl [] H := by rw [eH]; exact hP
  have hD : va_D A [] := hD
  have hS : va_S A s.heap H locs := by rw [eH, el]; exact hS
  suffices goal : W p l e ({ frames := 0, cells := 0, slots := 0, locals := 0 } : Room) s m ([.int p0, .int p1] : List Value).toArray below meth c H locs 0 0 Q (F0 m 0 ls []) by rw [eH, el] at goal; exact goal
  refine lv_iload_n hx hb dX12_left_0 rfl (lv_at hl 0 rfl) ?_
  refine lv_bipush (v := 100) hx hb dX12_left_1 (by decide) ?_
  refine lv_idiv hx hb dX12_left_3 (by decide) (lv_topi (fun v1 e1 => ?_))
  refine lv_iload_n hx hb dX12_left_4 rfl (lv_at hl 1 rfl) ?_
  refine lv_bipush (v := 100) hx hb dX12_left_5 (by decide) ?_
  refine lv_idiv hx hb dX12_left_7 (by decide) (lv_topi (fun v2 e2 => ?_))
  refine lv_isub hx hb dX12_left_8 (lv_topi (fun v3 e3 => ?_))
  refine lv_istore_n (lv' := [(2, .int v3), (0, .int p0), (1, .int p1)]) hx hb dX12_left_9 rfl hl (by decide) rfl (fun ls hl => ?_)
  refine lv_iload_n hx hb dX12_left_10 rfl (lv_at hl 1 rfl) ?_
  refine lv_bipush (v := 10) hx hb dX12_left_11 (by decide) ?_
  refine lv_idiv hx hb dX12_left_13 (by decide) (lv_topi (fun v4 e4 => ?_))
  refine lv_bipush (v := 10) hx hb dX12_left_14 (by decide) ?_
  refine lv_irem hx hb dX12_left_16 (by decide) (lv_topi (fun v5 e5 => ?_))
  refine lv_iload_n hx hb dX12_left_17 rfl (lv_at hl 2 rfl) ?_
  refine lv_bipush (v := 10) hx hb dX12_left_18 (by decide) ?_
  refine lv_idiv hx hb dX12_left_20 (by decide) (lv_topi (fun v6 e6 => ?_))
  refine lv_bipush (v := 10) hx hb dX12_left_21 (by decide) ?_
  refine lv_irem hx hb dX12_left_23 (by decide) (lv_topi (fun v7 e7 => ?_))
  refine lv_isub hx hb dX12_left_24 (lv_topi (fun v8 e8 => ?_))
  refine lv_istore_n (lv' := [(3, .int v8), (2, .int v3), (0, .int p0), (1, .int p1)]) hx hb dX12_left_25 rfl hl (by decide) rfl (fun ls hl => ?_)
  refine lv_iload_n hx hb dX12_left_26 rfl (lv_at hl 2 rfl) ?_
  refine lv_bipush (v := 10) hx hb dX12_left_27 (by decide) ?_
  refine lv_irem hx hb dX12_left_29 (by decide) (lv_topi (fun v9 e9 => ?_))
  refine lv_iload_n hx hb dX12_left_30 rfl (lv_at hl 3 rfl) ?_
  refine lv_bipush (v := 10) hx hb dX12_left_31 (by decide) ?_
  refine lv_irem hx hb dX12_left_33 (by decide) (lv_topi (fun v10 e10 => ?_))
  refine lv_isub hx hb dX12_left_34 (lv_topi (fun v11 e11 => ?_))
  refine lv_istore (lv' := [(4, .int v11), (3, .int v8), (2, .int v3), (0, .int p0), (1, .int p1)]) hx hb dX12_left_35 hl (by decide) rfl (fun ls hl => ?_)
  refine lv_iload_n hx hb dX12_left_37 rfl (lv_at hl 2 rfl) ?_
  refine lv_if_lt (tgt := 50) hx hb dX12_left_38 (by decide) (fun c12 => ?_) (fun c12 => ?_)
  · refine lv_bipush (v := (-9)) hx hb dX12_left_50 (by decide) ?_
    refine lv_goto (tgt := 64) hx hb dX12_left_52 (by decide) ?_
    rw [hQ]
    exact x_i cx hr () hP hD hS (show (-9) = J_X12_left p0 p1 from by subst e1 e2 e3 e4 e5 e6 e7 e8 e9 e10 e11; unfold J_X12_left; rw [if_pos c12]) dX12_left_64
  · refine lv_iload_n hx hb dX12_left_41 rfl (lv_at hl 1 rfl) ?_
    refine lv_if_lt (tgt := 50) hx hb dX12_left_42 (by decide) (fun c13 => ?_) (fun c13 => ?_)
    · refine lv_bipush (v := (-9)) hx hb dX12_left_50 (by decide) ?_
      refine lv_goto (tgt := 64) hx hb dX12_left_52 (by decide) ?_
      rw [hQ]
      exact x_i cx hr () hP hD hS (show (-9) = J_X12_left p0 p1 from by subst e1 e2 e3 e4 e5 e6 e7 e8 e9 e10 e11; unfold J_X12_left; rw [if_neg c12, if_pos c13]) dX12_left_64
    · refine lv_iload hx hb dX12_left_45 (lv_at hl 0 rfl) ?_
      refine lv_if_ge (tgt := 55) hx hb dX12_left_47 (by decide) (fun c14 => ?_) (fun c14 => ?_)
      · refine lv_bipush (v := 10) hx hb dX12_left_55 (by decide) ?_
        refine lv_iload_n hx hb dX12_left_57 rfl (lv_at hl 2 rfl) ?_
        refine lv_imul hx hb dX12_left_58 (lv_topi (fun v15 e15 => ?_))
        refine lv_iload_n hx hb dX12_left_59 rfl (lv_at hl 1 rfl) ?_
        refine lv_iadd hx hb dX12_left_60 (lv_topi (fun v16 e16 => ?_))
        refine lv_iload hx hb dX12_left_61 (lv_at hl 0 rfl) ?_
        refine lv_iadd hx hb dX12_left_63 (lv_topi (fun v17 e17 => ?_))
        rw [hQ]
        exact x_i cx hr () hP hD hS (show v17 = J_X12_left p0 p1 from by subst e1 e2 e3 e4 e5 e6 e7 e8 e9 e10 e11 e15 e16 e17; unfold J_X12_left; rw [if_neg c12, if_neg c13, if_pos c14]) dX12_left_64
      · refine lv_bipush (v := (-9)) hx hb dX12_left_50 (by decide) ?_
        refine lv_goto (tgt := 64) hx hb dX12_left_52 (by decide) ?_
        rw [hQ]
        exact x_i cx hr () hP hD hS (show (-9) = J_X12_left p0 p1 from by subst e1 e2 e3 e4 e5 e6 e7 e8 e9 e10 e11; unfold J_X12_left; rw [if_neg c12, if_neg c13, if_neg c14]) dX12_left_64
