theorem fw_X10_hasRoom_15 : Cond.fieldLink RX10 15 "StillInAugust$Text" "length" "I" ∈ wsX10_hasRoom := by decide +kernel
theorem iw_X10_hasRoom_X10 : ∀ w ∈ u_ws RX10 TX10 2, w ∈ wsX10_hasRoom := fun _ h => List.mem_cons_of_mem _ (List.mem_append_right _ h)
def J_X10_hasRoom (st : Nat → Nat → Int32) (p0 : Int32) : Int32 := if 64 < ((st 0 1) + p0) then (0 : Int32) else (1 : Int32)
set_option maxHeartbeats 4000000 in
set_option maxRecDepth 100000 in
theorem c_X10_hasRoom (l : Launch) (D : va_G) (k : Nat → ClassId) (b : Nat → Nat) (qt : Nat → Nat) (st : Nat → Nat → Int32) (sz : Nat) (p0 : Int32) (h_len : 0 ≤ (st 0 1).toInt ∧ (st 0 1).toInt ≤ 64) (hp0 : 1 ≤ p0.toInt ∧ p0.toInt ≤ 8) : MetI l D k b yX10_hasRoom wsX10_hasRoom ({ frames := 0, cells := 0, slots := 0, locals := 0 } : Room) [cell49_ qt st, cell27_ k qt st] sz [.ref (qt 0), .int p0] (fun (r : Int32) (u : Unit) => ((r.toInt = 1 ∧ (st 0 1).toInt + p0.toInt ≤ 64) ∨ (r.toInt = 0 ∧ 64 < (st 0 1).toInt + p0.toInt)) ∧ (r = J_X10_hasRoom st p0)) (fun u => [cell49_ qt st, cell27_ k qt st]) := by
  refine g_enter (cc := cX10_hasRoom) (maxL := 2) (ret := (some .boolean)) (by decide) rfl (Nat.le_of_ble_eq_true rfl) ?_
  intro p e s m below meth c A hsz hAe cx hr hP hD hS ls hl
  rw [hAe]
  refine g_q (fun Q hQ => ?_)
  have hx := cx.1.1
  have hb := cx.1.2.1
  have bp0 := i_rng p0
  have hl : lv_has ls 2 [(0, .ref (qt 0)), (1, .int p0)] := hl
  obtain ⟨H, eH⟩ : ∃ H : Heap, H = s.heap := ⟨_, rfl⟩
  obtain ⟨locs, el⟩ : ∃ L : List Loc, L = [] := ⟨_, rfl⟩
  have hP : va_P D vwCl [cell49_ qt st, cell27_ k qt st] H := by rw [eH]; exact hP
  have hD : va_D A [cell49_ qt st, cell27_ k qt st] := hD
  have hS : va_S A s.heap H locs := by rw [eH, el]; exact hS
  suffices goal : W p l e ({ frames := 0, cells := 0, slots := 0, locals := 0 } : Room) s m ([.ref (qt 0), .int p0] : List Value).toArray below meth c H locs 0 0 Q (F0 m 0 ls []) by rw [eH, el] at goal; exact goal
  refine lv_aload_n hx hb dX10_hasRoom_0 rfl (lv_at hl 0 rfl) ?_
  refine g_get cx hP iw_X10_hasRoom_X10 0 rfl rfl 1 (by decide) rfl fw_X10_hasRoom_15 rfl dX10_hasRoom_1 ?_
  refine lv_iload_n hx hb dX10_hasRoom_4 rfl (lv_at hl 1 rfl) ?_
  refine lv_iadd hx hb dX10_hasRoom_5 (lv_topi (fun v1 e1 => ?_))
  have t1 : v1.toInt = (st 0 1).toInt + p0.toInt := by rw [e1]; exact i_add rfl rfl (by omega) (by omega)
  refine lv_bipush (v := 64) hx hb dX10_hasRoom_6 (by decide) ?_
  refine lv_icmp_gt (tgt := 15) hx hb dX10_hasRoom_8 (by decide) (fun c2 => ?_) (fun c2 => ?_)
  · have f2 : 64 < v1.toInt := f_lt (by decide) rfl c2
    refine lv_iconst (v := 0) hx hb dX10_hasRoom_15 (by decide) ?_
    have hlit3 : (0 : Int32).toInt = 0 := by decide
    rw [hQ]
    exact x_z cx hr (by decide) () hP hD hS ⟨(show ((0 : Int32).toInt = 1 ∧ (st 0 1).toInt + p0.toInt ≤ 64) ∨ ((0 : Int32).toInt = 0 ∧ 64 < (st 0 1).toInt + p0.toInt) from by omega), (show (0 : Int32) = J_X10_hasRoom st p0 from by subst e1; first | (refine Eq.symm ?_; refine Eq.trans (if_pos c2) ?_; rfl) | (unfold J_X10_hasRoom; try dsimp only; rw [if_pos c2]))⟩ dX10_hasRoom_16
  · have f2 : v1.toInt ≤ 64 := f_nlt (by decide) rfl c2
    refine lv_iconst (v := 1) hx hb dX10_hasRoom_11 (by decide) ?_
    refine lv_goto (tgt := 16) hx hb dX10_hasRoom_12 (by decide) ?_
    have hlit4 : (1 : Int32).toInt = 1 := by decide
    rw [hQ]
    exact x_z cx hr (by decide) () hP hD hS ⟨(show ((1 : Int32).toInt = 1 ∧ (st 0 1).toInt + p0.toInt ≤ 64) ∨ ((1 : Int32).toInt = 0 ∧ 64 < (st 0 1).toInt + p0.toInt) from by omega), (show (1 : Int32) = J_X10_hasRoom st p0 from by subst e1; first | (refine Eq.symm ?_; refine Eq.trans (if_neg c2) ?_; rfl) | (unfold J_X10_hasRoom; try dsimp only; rw [if_neg c2]))⟩ dX10_hasRoom_16
theorem fw_X10_append_11 : Cond.fieldLink RX10 11 "StillInAugust$Text" "bytes" "[B" ∈ wsX10_append := by decide +kernel
theorem fw_X10_append_15 : Cond.fieldLink RX10 15 "StillInAugust$Text" "length" "I" ∈ wsX10_append := by decide +kernel
theorem iw_X10_append_X10 : ∀ w ∈ u_ws RX10 TX10 2, w ∈ wsX10_append := fun _ h => List.mem_cons_of_mem _ (List.mem_append_right _ h)
set_option maxHeartbeats 4000000 in
set_option maxRecDepth 100000 in
theorem c_X10_append (l : Launch) (D : va_G) (k : Nat → ClassId) (b : Nat → Nat) (qt : Nat → Nat) (st : Nat → Nat → Int32) (sz : Nat) (p0 : Int32) (p1 : Int64) (h_len : 0 ≤ (st 0 1).toInt ∧ (st 0 1).toInt ≤ 64) (hfit : (st 0 1).toInt + p0.toInt ≤ 64) (hp0 : 1 ≤ p0.toInt ∧ p0.toInt ≤ 8) : MetV l D k b yX10_append wsX10_append ({ frames := 0, cells := 0, slots := 0, locals := 0 } : Room) [cell49_ qt st, cell27_ k qt st] sz [.ref (qt 0), .int p0, .long p1] (fun (u : (Nat → Int32) × Int32) => ((u.2).toInt = (st 0 1).toInt + p0.toInt) ∧ (((u.1), (u.2)) = J_X10_append st p0 p1)) (fun u => [cell162_ qt (u.2), cell202_ k qt (u.1)]) := by
  refine g_enter (cc := cX10_append) (maxL := 5) (ret := none) (by decide) rfl (Nat.le_of_ble_eq_true rfl) ?_
  intro p e s m below meth c A hsz hAe cx hr hP hD hS ls hl
  rw [hAe]
  refine g_q (fun Q hQ => ?_)
  have hx := cx.1.1
  have hb := cx.1.2.1
  have bp0 := i_rng p0
  have hl : lv_has ls 5 [(0, .ref (qt 0)), (1, .int p0), (2, .long p1)] := hl
  obtain ⟨H, eH⟩ : ∃ H : Heap, H = s.heap := ⟨_, rfl⟩
  obtain ⟨locs, el⟩ : ∃ L : List Loc, L = [] := ⟨_, rfl⟩
  have hP : va_P D vwCl [cell49_ qt st, cell27_ k qt st] H := by rw [eH]; exact hP
  have hD : va_D A [cell49_ qt st, cell27_ k qt st] := hD
  have hS : va_S A s.heap H locs := by rw [eH, el]; exact hS
  suffices goal : W p l e ({ frames := 0, cells := 0, slots := 0, locals := 0 } : Room) s m ([.ref (qt 0), .int p0, .long p1] : List Value).toArray below meth c H locs 0 0 Q (F0 m 0 ls []) by rw [eH, el] at goal; exact goal
  refine lv_iload_n hx hb dX10_append_0 rfl (lv_at hl 1 rfl) ?_
  refine lv_iconst (v := 1) hx hb dX10_append_1 (by decide) ?_
  refine lv_isub hx hb dX10_append_2 (lv_topi (fun v1 e1 => ?_))
  have t1 : v1.toInt = p0.toInt - 1 := by rw [e1]; exact i_sub rfl (by decide) (by omega) (by omega)
  refine lv_istore (lv' := [(4, .int v1), (0, .ref (qt 0)), (1, .int p0), (2, .long p1)]) hx hb dX10_append_3 hl (by decide) rfl (fun ls hl => ?_)
  have hL5 : ∀ (n13 : Nat) (v10 : Int32) (x11 : Int32) (g12 : Nat → Int32) (H : Heap) (locs : List Loc) (ls : Array Slot), v10.toInt + 1 < (n13 : Int) → (-1 ≤ v10.toInt ∧ v10.toInt ≤ 7) → (0 ≤ x11.toInt ∧ x11.toInt ≤ 64) → (x11.toInt = (st 0 1).toInt + p0.toInt - 1 - v10.toInt) → (wrB (byC p1) (Int.toNat (v10.toInt + 1)) g12 (Int.toNat x11.toInt) = wrB (byC p1) (Int.toNat p0.toInt) (st 1) (Int.toNat (st 0 1).toInt)) → va_P D vwCl [cell162_ qt x11, (qt 1, .inl (k 2, 64, .inl g12))] H → va_D A [cell162_ qt x11, (qt 1, .inl (k 2, 64, .inl g12))] → va_S A s.heap H locs → lv_has ls 5 [(4, .int v10), (0, .ref (qt 0)), (2, .long p1)] → W p l e ({ frames := 0, cells := 0, slots := 0, locals := 0 } : Room) s m ([.ref (qt 0), .int p0, .long p1] : List Value).toArray below meth c H locs 0 0 Q (F0 m 5 ls []) := by
    intro n13
    induction n13 with
    | zero => intro v10 x11 g12 H locs ls hmn13 bv10 bx11 ql qW hP hD hS hl; exact absurd hmn13 (by omega)
    | succ n13 ih5 =>
      intro v10 x11 g12 H locs ls hmn13 bv10 bx11 ql qW hP hD hS hl
      refine lv_iload hx hb dX10_append_5 (lv_at hl 0 rfl) ?_
      refine lv_if_lt (tgt := 44) hx hb dX10_append_7 (by decide) (fun c14 => ?_) (fun c14 => ?_)
      · have f14 : v10.toInt < 0 := f_lt rfl (by decide) c14
        rw [hQ]
        exact x_v cx hr (g12, x11) hP hD hS ⟨(show x11.toInt = (st 0 1).toInt + p0.toInt from by omega), (show (g12, x11) = J_X10_append st p0 p1 from ap_ex (by omega) (show v10.toInt = -1 from by omega) qW)⟩ dX10_append_44
      · have f14 : 0 ≤ v10.toInt := f_nlt rfl (by decide) c14
        refine lv_aload_n hx hb dX10_append_10 rfl (lv_at hl 1 rfl) ?_
        refine g_get cx hP iw_X10_append_X10 0 rfl rfl 0 (by decide) rfl fw_X10_append_11 rfl dX10_append_11 ?_
        refine lv_aload_n hx hb dX10_append_14 rfl (lv_at hl 1 rfl) ?_
        refine g_get cx hP iw_X10_append_X10 0 rfl rfl 1 (by decide) rfl fw_X10_append_15 rfl dX10_append_15 ?_
        refine lv_lload_n hx hb dX10_append_18 rfl (lv_at hl 2 rfl) ?_
        refine lv_bipush (v := 8) hx hb dX10_append_19 (by decide) ?_
        refine lv_iload hx hb dX10_append_21 (lv_at hl 0 rfl) ?_
        refine lv_imul hx hb dX10_append_23 (lv_topi (fun v15 e15 => ?_))
        have t15 : v15.toInt = 8 * v10.toInt := by rw [e15]; exact i_mul (by decide) rfl (by omega) (by omega)
        obtain ⟨v16, e16⟩ : ∃ z : Int64, (p1.toUInt64 >>> (v15.toInt64.toUInt64 &&& Int64.toUInt64 63)).toInt64 = z := ⟨_, rfl⟩
        refine lv_lushr (v := v16) hx hb dX10_append_24 e16 ?_
        obtain ⟨v17, e17⟩ : ∃ z : Int32, z = (v16 : Int64).toInt32 := ⟨_, rfl⟩
        refine lv_l2i (v := v17) hx hb dX10_append_25 e17.symm ?_
        obtain ⟨v18, e18⟩ : ∃ z : Int32, z = (v17 : Int32).toInt8.toInt32 := ⟨_, rfl⟩
        refine lv_i2b (v := v18) hx hb dX10_append_26 e18.symm ?_
        have hn19 : vp_in x11 64 := f_in (a := x11.toInt) rfl (by omega) (by omega)
        refine va_bast hx hb cx.2.1 hP hD hS 1 2 rfl rfl hn19 dX10_append_27 (fun H locs hP hD hS => ?_)
        obtain ⟨g20, eg20⟩ : ∃ g : Nat → Int32, g = upd g12 (x11).toNatClampNeg (vp_nar .byte v18) := ⟨_, rfl⟩
        rw [← eg20] at hP hD
        have hP : va_P D vwCl [cell162_ qt x11, (qt 1, .inl (k 2, 64, .inl g20))] H := hP
        have hD : va_D A [cell162_ qt x11, (qt 1, .inl (k 2, 64, .inl g20))] := hD
        have hb_ := by_ofC e15 e16 e17 e18 (show 0 ≤ v10.toInt from by omega)
        have hg_ := eg20
        refine lv_aload_n hx hb dX10_append_28 rfl (lv_at hl 1 rfl) ?_
        refine lv_dup hx hb dX10_append_29 rfl ?_
        refine g_get cx hP iw_X10_append_X10 0 rfl rfl 1 (by decide) rfl fw_X10_append_15 rfl dX10_append_30 ?_
        refine lv_iconst (v := 1) hx hb dX10_append_33 (by decide) ?_
        refine lv_iadd hx hb dX10_append_34 (lv_topi (fun v21 e21 => ?_))
        have t21 : v21.toInt = x11.toInt + 1 := by rw [e21]; exact i_add rfl (by decide) (by omega) (by omega)
        refine g_pt cx hP hD hS iw_X10_append_X10 tyX10 tyX10_ok nmX10 0 rfl rfl 1 (by decide) rfl fw_X10_append_15 (ty := .int) rfl rfl rfl (Nat.le_of_ble_eq_true rfl) dX10_append_35 (fun H locs hP hD hS => ?_)
        have hP : va_P D vwCl [cell162_ qt v21, (qt 1, .inl (k 2, 64, .inl g20))] H := hP
        have hD : va_D A [cell162_ qt v21, (qt 1, .inl (k 2, 64, .inl g20))] := hD
        obtain ⟨v22, e22⟩ : ∃ z : Int32, z = v10 + (-1) := ⟨_, rfl⟩
        refine lv_iinc (v := v22) (lv' := [(4, .int v22), (0, .ref (qt 0)), (2, .long p1)]) hx hb dX10_append_38 hl (k := 0) rfl (by rw [e22]; rfl) (by decide) rfl (fun ls hl => ?_)
        have t22 : v22.toInt = v10.toInt + (-1) := by rw [e22]; exact i_add rfl (by decide) (by omega) (by omega)
        refine lv_goto (tgt := 5) hx hb dX10_append_41 (by decide) ?_
        exact ih5 v22 v21 g20 _ _ _ (by omega) (by first | decide | omega) (by first | decide | omega) (by first | decide | omega) (wr_go hg_ hb_ (by omega) (by omega) (by omega) (by omega) qW) hP hD hS (lv_sub hl [0, 1, 2] rfl)
  exact hL5 (Int.toNat (v1.toInt + 1) + 1) v1 (st 0 1) (st 1) _ _ _ (by omega) (by first | decide | omega) (by first | decide | omega) (by first | decide | omega) (by rw [show Int.toNat (v1.toInt + 1) = Int.toNat p0.toInt from by omega]) hP hD hS (lv_sub hl [0, 1, 3] rfl)
theorem fw_X10_at_11 : Cond.fieldLink RX10 11 "StillInAugust$Text" "bytes" "[B" ∈ wsX10_at := by decide +kernel
theorem fw_X10_at_15 : Cond.fieldLink RX10 15 "StillInAugust$Text" "length" "I" ∈ wsX10_at := by decide +kernel
theorem iw_X10_at_X10 : ∀ w ∈ u_ws RX10 TX10 2, w ∈ wsX10_at := fun _ h => List.mem_cons_of_mem _ (List.mem_append_right _ h)
def J_X10_at (st : Nat → Nat → Int32) (p0 : Int32) : Int32 := if p0 < 0 then ((-9) : Int32) else if (st 0 1) ≤ p0 then ((-9) : Int32) else (((st 1) (p0).toNatClampNeg) &&& (255 : Int32))
set_option maxHeartbeats 4000000 in
set_option maxRecDepth 100000 in
theorem c_X10_at (l : Launch) (D : va_G) (k : Nat → ClassId) (b : Nat → Nat) (qt : Nat → Nat) (st : Nat → Nat → Int32) (sz : Nat) (p0 : Int32) (h_len : 0 ≤ (st 0 1).toInt ∧ (st 0 1).toInt ≤ 64) : MetI l D k b yX10_at wsX10_at ({ frames := 0, cells := 0, slots := 0, locals := 0 } : Room) [cell49_ qt st, cell27_ k qt st] sz [.ref (qt 0), .int p0] (fun (r : Int32) (u : Unit) => (-9 ≤ r.toInt ∧ r.toInt ≤ 255) ∧ (r = J_X10_at st p0)) (fun u => [cell49_ qt st, cell27_ k qt st]) := by
  refine g_enter (cc := cX10_at) (maxL := 2) (ret := (some .int)) (by decide) rfl (Nat.le_of_ble_eq_true rfl) ?_
  intro p e s m below meth c A hsz hAe cx hr hP hD hS ls hl
  rw [hAe]
  refine g_q (fun Q hQ => ?_)
  have hx := cx.1.1
  have hb := cx.1.2.1
  have bp0 := i_rng p0
  have hl : lv_has ls 2 [(0, .ref (qt 0)), (1, .int p0)] := hl
  obtain ⟨H, eH⟩ : ∃ H : Heap, H = s.heap := ⟨_, rfl⟩
  obtain ⟨locs, el⟩ : ∃ L : List Loc, L = [] := ⟨_, rfl⟩
  have hP : va_P D vwCl [cell49_ qt st, cell27_ k qt st] H := by rw [eH]; exact hP
  have hD : va_D A [cell49_ qt st, cell27_ k qt st] := hD
  have hS : va_S A s.heap H locs := by rw [eH, el]; exact hS
  suffices goal : W p l e ({ frames := 0, cells := 0, slots := 0, locals := 0 } : Room) s m ([.ref (qt 0), .int p0] : List Value).toArray below meth c H locs 0 0 Q (F0 m 0 ls []) by rw [eH, el] at goal; exact goal
  refine lv_iload_n hx hb dX10_at_0 rfl (lv_at hl 1 rfl) ?_
  refine lv_if_lt (tgt := 25) hx hb dX10_at_1 (by decide) (fun c1 => ?_) (fun c1 => ?_)
  · have f1 : p0.toInt < 0 := f_lt rfl (by decide) c1
    refine lv_bipush (v := (-9)) hx hb dX10_at_25 (by decide) ?_
    have hlit2 : ((-9) : Int32).toInt = -9 := by decide
    rw [hQ]
    exact x_i cx hr () hP hD hS ⟨(show -9 ≤ ((-9) : Int32).toInt ∧ ((-9) : Int32).toInt ≤ 255 from by omega), (show ((-9) : Int32) = J_X10_at st p0 from by first | (refine Eq.symm ?_; refine Eq.trans (if_pos c1) ?_; rfl) | (unfold J_X10_at; try dsimp only; rw [if_pos c1]))⟩ dX10_at_27
  · have f1 : 0 ≤ p0.toInt := f_nlt rfl (by decide) c1
    refine lv_iload_n hx hb dX10_at_4 rfl (lv_at hl 1 rfl) ?_
    refine lv_aload_n hx hb dX10_at_5 rfl (lv_at hl 0 rfl) ?_
    refine g_get cx hP iw_X10_at_X10 0 rfl rfl 1 (by decide) rfl fw_X10_at_15 rfl dX10_at_6 ?_
    refine lv_icmp_ge (tgt := 25) hx hb dX10_at_9 (by decide) (fun c3 => ?_) (fun c3 => ?_)
    · have f3 : (st 0 1).toInt ≤ p0.toInt := f_le rfl rfl c3
      refine lv_bipush (v := (-9)) hx hb dX10_at_25 (by decide) ?_
      have hlit4 : ((-9) : Int32).toInt = -9 := by decide
      rw [hQ]
      exact x_i cx hr () hP hD hS ⟨(show -9 ≤ ((-9) : Int32).toInt ∧ ((-9) : Int32).toInt ≤ 255 from by omega), (show ((-9) : Int32) = J_X10_at st p0 from by first | (refine Eq.symm ?_; refine Eq.trans (if_neg c1) ?_; refine Eq.trans (if_pos c3) ?_; rfl) | (unfold J_X10_at; try dsimp only; rw [if_neg c1, if_pos c3]))⟩ dX10_at_27
    · have f3 : p0.toInt < (st 0 1).toInt := f_nle rfl rfl c3
      refine lv_aload_n hx hb dX10_at_12 rfl (lv_at hl 0 rfl) ?_
      refine g_get cx hP iw_X10_at_X10 0 rfl rfl 0 (by decide) rfl fw_X10_at_11 rfl dX10_at_13 ?_
      refine lv_iload_n hx hb dX10_at_16 rfl (lv_at hl 1 rfl) ?_
      have hn5 : vp_in p0 64 := f_in (a := p0.toInt) rfl (by omega) (by omega)
      refine va_bald hx hb cx.2.1 hP 1 2 rfl rfl hn5 dX10_at_17 (lv_topi (fun v6 e6 => ?_))
      refine lv_sipush (v := 255) hx hb dX10_at_18 (by decide) ?_
      refine lv_iand hx hb dX10_at_21 (lv_topi (fun v7 e7 => ?_))
      have t7 : 0 ≤ v7.toInt ∧ v7.toInt ≤ 255 := by rw [e7]; exact and_r (by decide) (by omega)
      refine lv_goto (tgt := 27) hx hb dX10_at_22 (by decide) ?_
      rw [hQ]
      exact x_i cx hr () hP hD hS ⟨(show -9 ≤ v7.toInt ∧ v7.toInt ≤ 255 from by omega), (show v7 = J_X10_at st p0 from by subst e6 e7; first | (refine Eq.symm ?_; refine Eq.trans (if_neg c1) ?_; refine Eq.trans (if_neg c3) ?_; rfl) | (unfold J_X10_at; try dsimp only; rw [if_neg c1, if_neg c3]))⟩ dX10_at_27
theorem fw_X2_start_15 : Cond.fieldLink RX2 15 "StillInAugust$Cursor" "place" "I" ∈ wsX2_start := by decide +kernel
theorem fw_X2_start_19 : Cond.fieldLink RX2 19 "StillInAugust$Cursor" "stopped" "Z" ∈ wsX2_start := by decide +kernel
theorem iw_X2_start_X2 : ∀ w ∈ u_ws RX2 TX2 3, w ∈ wsX2_start := fun _ h => List.mem_cons_of_mem _ (List.mem_append_right _ h)
def J_X2_start (sc : Nat → Nat → Int32) (st : Nat → Nat → Int32) : Int32 × Int32 := ((0 : Int32), (0 : Int32))
set_option maxHeartbeats 4000000 in
set_option maxRecDepth 100000 in
theorem c_X2_start (l : Launch) (D : va_G) (k : Nat → ClassId) (b : Nat → Nat) (qc : Nat → Nat) (sc : Nat → Nat → Int32) (qt : Nat → Nat) (st : Nat → Nat → Int32) (sz : Nat) : MetV l D k b yX2_start wsX2_start ({ frames := 0, cells := 0, slots := 0, locals := 0 } : Room) [cell58_ qc qt sc, cell49_ qt st, cell27_ k qt st] sz [.ref (qc 0)] (fun (u : Int32 × Int32) => ((u.1), (u.2)) = J_X2_start sc st) (fun u => [cell60_ qc qt (u.1) (u.2), cell49_ qt st, cell27_ k qt st]) := by
  refine g_enter (cc := cX2_start) (maxL := 1) (ret := none) (by decide) rfl (Nat.le_of_ble_eq_true rfl) ?_
  intro p e s m below meth c A hsz hAe cx hr hP hD hS ls hl
  rw [hAe]
  refine g_q (fun Q hQ => ?_)
  have hx := cx.1.1
  have hb := cx.1.2.1
  have hl : lv_has ls 1 [(0, .ref (qc 0))] := hl
  obtain ⟨H, eH⟩ : ∃ H : Heap, H = s.heap := ⟨_, rfl⟩
  obtain ⟨locs, el⟩ : ∃ L : List Loc, L = [] := ⟨_, rfl⟩
  have hP : va_P D vwCl [cell58_ qc qt sc, cell49_ qt st, cell27_ k qt st] H := by rw [eH]; exact hP
  have hD : va_D A [cell58_ qc qt sc, cell49_ qt st, cell27_ k qt st] := hD
  have hS : va_S A s.heap H locs := by rw [eH, el]; exact hS
  suffices goal : W p l e ({ frames := 0, cells := 0, slots := 0, locals := 0 } : Room) s m ([.ref (qc 0)] : List Value).toArray below meth c H locs 0 0 Q (F0 m 0 ls []) by rw [eH, el] at goal; exact goal
  refine lv_aload_n hx hb dX2_start_0 rfl (lv_at hl 0 rfl) ?_
  refine lv_iconst (v := 0) hx hb dX2_start_1 (by decide) ?_
  refine g_pt cx hP hD hS iw_X2_start_X2 tyX2 tyX2_ok nmX2 0 rfl rfl 1 (by decide) rfl fw_X2_start_15 (ty := .int) rfl rfl rfl (Nat.le_of_ble_eq_true rfl) dX2_start_2 (fun H locs hP hD hS => ?_)
  have hP : va_P D vwCl [cell101_ qc qt sc 0, cell49_ qt st, cell27_ k qt st] H := hP
  have hD : va_D A [cell101_ qc qt sc 0, cell49_ qt st, cell27_ k qt st] := hD
  have hlit1 : (0 : Int32).toInt = 0 := by decide
  refine lv_aload_n hx hb dX2_start_5 rfl (lv_at hl 0 rfl) ?_
  refine lv_iconst (v := 0) hx hb dX2_start_6 (by decide) ?_
  refine g_pt cx hP hD hS iw_X2_start_X2 tyX2 tyX2_ok nmX2 0 rfl rfl 2 (by decide) rfl fw_X2_start_19 (ty := .boolean) rfl rfl rfl (Nat.le_of_ble_eq_true rfl) dX2_start_7 (fun H locs hP hD hS => ?_)
  have hP : va_P D vwCl [cell60_ qc qt 0 0, cell49_ qt st, cell27_ k qt st] H := hP
  have hD : va_D A [cell60_ qc qt 0 0, cell49_ qt st, cell27_ k qt st] := hD
  have hlit2 : (0 : Int32).toInt = 0 := by decide
  have hlit3 : (0 : Int32).toInt = 0 := by decide
  have hlit4 : (0 : Int32).toInt = 0 := by decide
  rw [hQ]
  exact x_v cx hr (0, 0) hP hD hS (show ((0 : Int32), (0 : Int32)) = J_X2_start sc st from by rfl) dX2_start_10
theorem fw_X2_hasMore_15 : Cond.fieldLink RX2 15 "StillInAugust$Cursor" "place" "I" ∈ wsX2_hasMore := by decide +kernel
theorem fw_X2_hasMore_19 : Cond.fieldLink RX2 19 "StillInAugust$Cursor" "stopped" "Z" ∈ wsX2_hasMore := by decide +kernel
theorem fw_X2_hasMore_23 : Cond.fieldLink RX2 23 "StillInAugust$Text" "length" "I" ∈ wsX2_hasMore := by decide +kernel
theorem fw_X2_hasMore_9 : Cond.fieldLink RX2 9 "StillInAugust$Cursor" "text" "LStillInAugust$Text;" ∈ wsX2_hasMore := by decide +kernel
theorem iw_X2_hasMore_X10 : ∀ w ∈ u_ws RX10 TX10 2, w ∈ wsX2_hasMore := fun _ h => List.mem_cons_of_mem _ (List.mem_append_right _ h)
theorem iw_X2_hasMore_X2 : ∀ w ∈ u_ws RX2 TX2 3, w ∈ wsX2_hasMore := fun _ h => List.mem_cons_of_mem _ (List.mem_append_left _ (List.mem_append_right _ h))
def J_X2_hasMore (sc : Nat → Nat → Int32) (st : Nat → Nat → Int32) : Int32 := if (sc 0 2) = 0 then if (st 0 1) ≤ (sc 0 1) then (0 : Int32) else (1 : Int32) else (0 : Int32)
set_option maxHeartbeats 4000000 in
set_option maxRecDepth 100000 in
theorem c_X2_hasMore (l : Launch) (D : va_G) (k : Nat → ClassId) (b : Nat → Nat) (qc : Nat → Nat) (sc : Nat → Nat → Int32) (qt : Nat → Nat) (st : Nat → Nat → Int32) (sz : Nat) : MetI l D k b yX2_hasMore wsX2_hasMore ({ frames := 0, cells := 0, slots := 0, locals := 0 } : Room) [cell58_ qc qt sc, cell49_ qt st, cell27_ k qt st] sz [.ref (qc 0)] (fun (r : Int32) (u : Unit) => (0 ≤ r.toInt ∧ r.toInt ≤ 1) ∧ (r = J_X2_hasMore sc st)) (fun u => [cell58_ qc qt sc, cell49_ qt st, cell27_ k qt st]) := by
  refine g_enter (cc := cX2_hasMore) (maxL := 1) (ret := (some .boolean)) (by decide) rfl (Nat.le_of_ble_eq_true rfl) ?_
  intro p e s m below meth c A hsz hAe cx hr hP hD hS ls hl
  rw [hAe]
  refine g_q (fun Q hQ => ?_)
  have hx := cx.1.1
  have hb := cx.1.2.1
  have hl : lv_has ls 1 [(0, .ref (qc 0))] := hl
  obtain ⟨H, eH⟩ : ∃ H : Heap, H = s.heap := ⟨_, rfl⟩
  obtain ⟨locs, el⟩ : ∃ L : List Loc, L = [] := ⟨_, rfl⟩
  have hP : va_P D vwCl [cell58_ qc qt sc, cell49_ qt st, cell27_ k qt st] H := by rw [eH]; exact hP
  have hD : va_D A [cell58_ qc qt sc, cell49_ qt st, cell27_ k qt st] := hD
  have hS : va_S A s.heap H locs := by rw [eH, el]; exact hS
  suffices goal : W p l e ({ frames := 0, cells := 0, slots := 0, locals := 0 } : Room) s m ([.ref (qc 0)] : List Value).toArray below meth c H locs 0 0 Q (F0 m 0 ls []) by rw [eH, el] at goal; exact goal
  refine lv_aload_n hx hb dX2_hasMore_0 rfl (lv_at hl 0 rfl) ?_
  refine g_get cx hP iw_X2_hasMore_X2 0 rfl rfl 2 (by decide) rfl fw_X2_hasMore_19 rfl dX2_hasMore_1 ?_
  refine lv_if_ne (tgt := 25) hx hb dX2_hasMore_4 (by decide) (fun c1 => ?_) (fun c1 => ?_)
  · have f1 : ¬ (sc 0 2).toInt = 0 := f_ne rfl (by decide) c1
    refine lv_iconst (v := 0) hx hb dX2_hasMore_25 (by decide) ?_
    have hlit2 : (0 : Int32).toInt = 0 := by decide
    rw [hQ]
    exact x_z cx hr (by decide) () hP hD hS ⟨(show 0 ≤ (0 : Int32).toInt ∧ (0 : Int32).toInt ≤ 1 from by omega), (show (0 : Int32) = J_X2_hasMore sc st from by first | (refine Eq.symm ?_; refine Eq.trans (if_neg c1) ?_; rfl) | (unfold J_X2_hasMore; try dsimp only; rw [if_neg c1]))⟩ dX2_hasMore_26
  · have f1 : (sc 0 2).toInt = 0 := f_eq rfl (by decide) c1
    refine lv_aload_n hx hb dX2_hasMore_7 rfl (lv_at hl 0 rfl) ?_
    refine g_get cx hP iw_X2_hasMore_X2 0 rfl rfl 1 (by decide) rfl fw_X2_hasMore_15 rfl dX2_hasMore_8 ?_
    refine lv_aload_n hx hb dX2_hasMore_11 rfl (lv_at hl 0 rfl) ?_
    refine g_get cx hP iw_X2_hasMore_X2 0 rfl rfl 0 (by decide) rfl fw_X2_hasMore_9 rfl dX2_hasMore_12 ?_
    refine g_get cx hP iw_X2_hasMore_X10 1 rfl rfl 1 (by decide) rfl fw_X2_hasMore_23 rfl dX2_hasMore_15 ?_
    refine lv_icmp_ge (tgt := 25) hx hb dX2_hasMore_18 (by decide) (fun c3 => ?_) (fun c3 => ?_)
    · have f3 : (st 0 1).toInt ≤ (sc 0 1).toInt := f_le rfl rfl c3
      refine lv_iconst (v := 0) hx hb dX2_hasMore_25 (by decide) ?_
      have hlit4 : (0 : Int32).toInt = 0 := by decide
      rw [hQ]
      exact x_z cx hr (by decide) () hP hD hS ⟨(show 0 ≤ (0 : Int32).toInt ∧ (0 : Int32).toInt ≤ 1 from by omega), (show (0 : Int32) = J_X2_hasMore sc st from by first | (refine Eq.symm ?_; refine Eq.trans (if_pos c1) ?_; refine Eq.trans (if_pos c3) ?_; rfl) | (unfold J_X2_hasMore; try dsimp only; rw [if_pos c1, if_pos c3]))⟩ dX2_hasMore_26
    · have f3 : (sc 0 1).toInt < (st 0 1).toInt := f_nle rfl rfl c3
      refine lv_iconst (v := 1) hx hb dX2_hasMore_21 (by decide) ?_
      refine lv_goto (tgt := 26) hx hb dX2_hasMore_22 (by decide) ?_
      have hlit5 : (1 : Int32).toInt = 1 := by decide
      rw [hQ]
      exact x_z cx hr (by decide) () hP hD hS ⟨(show 0 ≤ (1 : Int32).toInt ∧ (1 : Int32).toInt ≤ 1 from by omega), (show (1 : Int32) = J_X2_hasMore sc st from by first | (refine Eq.symm ?_; refine Eq.trans (if_pos c1) ?_; refine Eq.trans (if_neg c3) ?_; rfl) | (unfold J_X2_hasMore; try dsimp only; rw [if_pos c1, if_neg c3]))⟩ dX2_hasMore_26
theorem fw_X2_here_15 : Cond.fieldLink RX2 15 "StillInAugust$Cursor" "place" "I" ∈ wsX2_here := by decide +kernel
theorem fw_X2_here_9 : Cond.fieldLink RX2 9 "StillInAugust$Cursor" "text" "LStillInAugust$Text;" ∈ wsX2_here := by decide +kernel
theorem nd_X10_at : yX10_at.cls = RX10 ∧ yX10_at.cls ≠ "java/lang/invoke/MethodHandle" ∧ yX10_at.cls ≠ "java/lang/invoke/VarHandle" ∧ (parseMethodDescriptor yX10_at.desc).map (fun d => d.parameters.length) = some 1 := by decide +kernel
theorem iw_X2_here_X2 : ∀ w ∈ u_ws RX2 TX2 3, w ∈ wsX2_here := fun _ h => List.mem_cons_of_mem _ (List.mem_append_left _ (List.mem_append_right _ h))
def J_X2_here (sc : Nat → Nat → Int32) (st : Nat → Nat → Int32) : Int32 := let y5 := J_X10_at st (sc 0 1); y5
set_option maxHeartbeats 4000000 in
set_option maxRecDepth 100000 in
theorem c_X2_here (l : Launch) (D : va_G) (k : Nat → ClassId) (b : Nat → Nat) (qc : Nat → Nat) (sc : Nat → Nat → Int32) (qt : Nat → Nat) (st : Nat → Nat → Int32) (sz : Nat) (h_len : 0 ≤ (st 0 1).toInt ∧ (st 0 1).toInt ≤ 64) : MetI l D k b yX2_here wsX2_here ({ frames := 1, cells := 0, slots := 0, locals := 21 } : Room) [cell58_ qc qt sc, cell49_ qt st, cell27_ k qt st] sz [.ref (qc 0)] (fun (r : Int32) (u : Unit) => (-9 ≤ r.toInt ∧ r.toInt ≤ 255) ∧ (r = J_X2_here sc st)) (fun u => [cell58_ qc qt sc, cell49_ qt st, cell27_ k qt st]) := by
  refine g_enter (cc := cX2_here) (maxL := 1) (ret := (some .int)) (by decide) rfl (Nat.le_of_ble_eq_true rfl) ?_
  intro p e s m below meth c A hsz hAe cx hr hP hD hS ls hl
  rw [hAe]
  refine g_q (fun Q hQ => ?_)
  have hx := cx.1.1
  have hb := cx.1.2.1
  have hl : lv_has ls 1 [(0, .ref (qc 0))] := hl
  obtain ⟨H, eH⟩ : ∃ H : Heap, H = s.heap := ⟨_, rfl⟩
  obtain ⟨locs, el⟩ : ∃ L : List Loc, L = [] := ⟨_, rfl⟩
  have hP : va_P D vwCl [cell58_ qc qt sc, cell49_ qt st, cell27_ k qt st] H := by rw [eH]; exact hP
  have hD : va_D A [cell58_ qc qt sc, cell49_ qt st, cell27_ k qt st] := hD
  have hS : va_S A s.heap H locs := by rw [eH, el]; exact hS
  suffices goal : W p l e ({ frames := 1, cells := 0, slots := 0, locals := 21 } : Room) s m ([.ref (qc 0)] : List Value).toArray below meth c H locs 0 0 Q (F0 m 0 ls []) by rw [eH, el] at goal; exact goal
  refine lv_aload_n hx hb dX2_here_0 rfl (lv_at hl 0 rfl) ?_
  refine g_get cx hP iw_X2_here_X2 0 rfl rfl 0 (by decide) rfl fw_X2_here_9 rfl dX2_here_1 ?_
  refine lv_aload_n hx hb dX2_here_4 rfl (lv_at hl 0 rfl) ?_
  refine g_get cx hP iw_X2_here_X2 0 rfl rfl 1 (by decide) rfl fw_X2_here_15 rfl dX2_here_5 ?_
  refine g_ir (g_runV (wc := [cell49_ qt st, cell27_ k qt st]) (rest := []) cx hP hD hS [1, 2] rfl (by decide) [.int (sc 0 1)] (c_X10_at l D k b qt st H.size (sc 0 1) (show 0 ≤ (st 0 1).toInt ∧ (st 0 1).toInt ≤ 64 from by first | decide | omega)) gX2_here_X10_at rfl rfl rfl nd_X10_at ⟨Nat.le_of_ble_eq_true rfl, Nat.le_of_ble_eq_true rfl⟩ (ci := 8) (q0 := 0) rfl rfl rfl hl.1 rfl (Nat.le_of_ble_eq_true rfl) ⟨Nat.zero_le _, Nat.zero_le _⟩ dX2_here_8) cx.2.2.1 hP hD hS [1, 2] rfl rfl (fun r2 H locs hw1 hP hS => ?_)
  replace hw1 : (-9 ≤ r2.toInt ∧ r2.toInt ≤ 255) ∧ (r2 = J_X10_at st (sc 0 1)) := hw1
  obtain ⟨w3, w4⟩ := hw1
  have k6 : r2 = (J_X10_at st (sc 0 1)) := congrArg (fun z => z) w4
  rw [hQ]
  exact x_i cx hr () hP hD hS ⟨(show -9 ≤ r2.toInt ∧ r2.toInt ≤ 255 from by omega), (show r2 = J_X2_here sc st from by subst k6; rfl)⟩ dX2_here_11
theorem fw_X2_step_15 : Cond.fieldLink RX2 15 "StillInAugust$Cursor" "place" "I" ∈ wsX2_step := by decide +kernel
theorem iw_X2_step_X2 : ∀ w ∈ u_ws RX2 TX2 3, w ∈ wsX2_step := fun _ h => List.mem_cons_of_mem _ (List.mem_append_right _ h)
def J_X2_step (sc : Nat → Nat → Int32) (st : Nat → Nat → Int32) : Int32 := ((sc 0 1) + (1 : Int32))
set_option maxHeartbeats 4000000 in
set_option maxRecDepth 100000 in
theorem c_X2_step (l : Launch) (D : va_G) (k : Nat → ClassId) (b : Nat → Nat) (qc : Nat → Nat) (sc : Nat → Nat → Int32) (qt : Nat → Nat) (st : Nat → Nat → Int32) (sz : Nat) : MetV l D k b yX2_step wsX2_step ({ frames := 0, cells := 0, slots := 0, locals := 0 } : Room) [cell58_ qc qt sc, cell49_ qt st, cell27_ k qt st] sz [.ref (qc 0)] (fun (u : Int32) => u = J_X2_step sc st) (fun u => [cell101_ qc qt sc u, cell49_ qt st, cell27_ k qt st]) := by
  refine g_enter (cc := cX2_step) (maxL := 1) (ret := none) (by decide) rfl (Nat.le_of_ble_eq_true rfl) ?_
  intro p e s m below meth c A hsz hAe cx hr hP hD hS ls hl
  rw [hAe]
  refine g_q (fun Q hQ => ?_)
  have hx := cx.1.1
  have hb := cx.1.2.1
  have hl : lv_has ls 1 [(0, .ref (qc 0))] := hl
  obtain ⟨H, eH⟩ : ∃ H : Heap, H = s.heap := ⟨_, rfl⟩
  obtain ⟨locs, el⟩ : ∃ L : List Loc, L = [] := ⟨_, rfl⟩
  have hP : va_P D vwCl [cell58_ qc qt sc, cell49_ qt st, cell27_ k qt st] H := by rw [eH]; exact hP
  have hD : va_D A [cell58_ qc qt sc, cell49_ qt st, cell27_ k qt st] := hD
  have hS : va_S A s.heap H locs := by rw [eH, el]; exact hS
  suffices goal : W p l e ({ frames := 0, cells := 0, slots := 0, locals := 0 } : Room) s m ([.ref (qc 0)] : List Value).toArray below meth c H locs 0 0 Q (F0 m 0 ls []) by rw [eH, el] at goal; exact goal
  refine lv_aload_n hx hb dX2_step_0 rfl (lv_at hl 0 rfl) ?_
  refine lv_dup hx hb dX2_step_1 rfl ?_
  refine g_get cx hP iw_X2_step_X2 0 rfl rfl 1 (by decide) rfl fw_X2_step_15 rfl dX2_step_2 ?_
  refine lv_iconst (v := 1) hx hb dX2_step_5 (by decide) ?_
  refine lv_iadd hx hb dX2_step_6 (lv_topi (fun v1 e1 => ?_))
  refine g_pt cx hP hD hS iw_X2_step_X2 tyX2 tyX2_ok nmX2 0 rfl rfl 1 (by decide) rfl fw_X2_step_15 (ty := .int) rfl rfl rfl (Nat.le_of_ble_eq_true rfl) dX2_step_7 (fun H locs hP hD hS => ?_)
  have hP : va_P D vwCl [cell101_ qc qt sc v1, cell49_ qt st, cell27_ k qt st] H := hP
  have hD : va_D A [cell101_ qc qt sc v1, cell49_ qt st, cell27_ k qt st] := hD
  rw [hQ]
  exact x_v cx hr v1 hP hD hS (show v1 = J_X2_step sc st from by subst e1; rfl) dX2_step_10
theorem fw_X2_stop_19 : Cond.fieldLink RX2 19 "StillInAugust$Cursor" "stopped" "Z" ∈ wsX2_stop := by decide +kernel
theorem iw_X2_stop_X2 : ∀ w ∈ u_ws RX2 TX2 3, w ∈ wsX2_stop := fun _ h => List.mem_cons_of_mem _ (List.mem_append_right _ h)
def J_X2_stop (sc : Nat → Nat → Int32) (st : Nat → Nat → Int32) : Int32 := (1 : Int32)
set_option maxHeartbeats 4000000 in
set_option maxRecDepth 100000 in
theorem c_X2_stop (l : Launch) (D : va_G) (k : Nat → ClassId) (b : Nat → Nat) (qc : Nat → Nat) (sc : Nat → Nat → Int32) (qt : Nat → Nat) (st : Nat → Nat → Int32) (sz : Nat) : MetV l D k b yX2_stop wsX2_stop ({ frames := 0, cells := 0, slots := 0, locals := 0 } : Room) [cell58_ qc qt sc, cell49_ qt st, cell27_ k qt st] sz [.ref (qc 0)] (fun (u : Int32) => u = J_X2_stop sc st) (fun u => [cell96_ qc qt sc u, cell49_ qt st, cell27_ k qt st]) := by
  refine g_enter (cc := cX2_stop) (maxL := 1) (ret := none) (by decide) rfl (Nat.le_of_ble_eq_true rfl) ?_
  intro p e s m below meth c A hsz hAe cx hr hP hD hS ls hl
  rw [hAe]
  refine g_q (fun Q hQ => ?_)
  have hx := cx.1.1
  have hb := cx.1.2.1
  have hl : lv_has ls 1 [(0, .ref (qc 0))] := hl
  obtain ⟨H, eH⟩ : ∃ H : Heap, H = s.heap := ⟨_, rfl⟩
  obtain ⟨locs, el⟩ : ∃ L : List Loc, L = [] := ⟨_, rfl⟩
  have hP : va_P D vwCl [cell58_ qc qt sc, cell49_ qt st, cell27_ k qt st] H := by rw [eH]; exact hP
  have hD : va_D A [cell58_ qc qt sc, cell49_ qt st, cell27_ k qt st] := hD
  have hS : va_S A s.heap H locs := by rw [eH, el]; exact hS
  suffices goal : W p l e ({ frames := 0, cells := 0, slots := 0, locals := 0 } : Room) s m ([.ref (qc 0)] : List Value).toArray below meth c H locs 0 0 Q (F0 m 0 ls []) by rw [eH, el] at goal; exact goal
  refine lv_aload_n hx hb dX2_stop_0 rfl (lv_at hl 0 rfl) ?_
  refine lv_iconst (v := 1) hx hb dX2_stop_1 (by decide) ?_
  refine g_pt cx hP hD hS iw_X2_stop_X2 tyX2 tyX2_ok nmX2 0 rfl rfl 2 (by decide) rfl fw_X2_stop_19 (ty := .boolean) rfl rfl rfl (Nat.le_of_ble_eq_true rfl) dX2_stop_2 (fun H locs hP hD hS => ?_)
  have hP : va_P D vwCl [cell96_ qc qt sc 1, cell49_ qt st, cell27_ k qt st] H := hP
  have hD : va_D A [cell96_ qc qt sc 1, cell49_ qt st, cell27_ k qt st] := hD
  have hlit1 : (1 : Int32).toInt = 1 := by decide
  have hlit2 : (1 : Int32).toInt = 1 := by decide
  rw [hQ]
  exact x_v cx hr 1 hP hD hS (show (1 : Int32) = J_X2_stop sc st from by rfl) dX2_stop_5
theorem fw_X2_stoppedAt_15 : Cond.fieldLink RX2 15 "StillInAugust$Cursor" "place" "I" ∈ wsX2_stoppedAt := by decide +kernel
theorem fw_X2_stoppedAt_19 : Cond.fieldLink RX2 19 "StillInAugust$Cursor" "stopped" "Z" ∈ wsX2_stoppedAt := by decide +kernel
theorem iw_X2_stoppedAt_X2 : ∀ w ∈ u_ws RX2 TX2 3, w ∈ wsX2_stoppedAt := fun _ h => List.mem_cons_of_mem _ (List.mem_append_right _ h)
def J_X2_stoppedAt (sc : Nat → Nat → Int32) (st : Nat → Nat → Int32) : Int32 := if (sc 0 2) = 0 then ((-9) : Int32) else (sc 0 1)
set_option maxHeartbeats 4000000 in
set_option maxRecDepth 100000 in
theorem c_X2_stoppedAt (l : Launch) (D : va_G) (k : Nat → ClassId) (b : Nat → Nat) (qc : Nat → Nat) (sc : Nat → Nat → Int32) (qt : Nat → Nat) (st : Nat → Nat → Int32) (sz : Nat) : MetI l D k b yX2_stoppedAt wsX2_stoppedAt ({ frames := 0, cells := 0, slots := 0, locals := 0 } : Room) [cell58_ qc qt sc, cell49_ qt st, cell27_ k qt st] sz [.ref (qc 0)] (fun (r : Int32) (u : Unit) => r = J_X2_stoppedAt sc st) (fun u => [cell58_ qc qt sc, cell49_ qt st, cell27_ k qt st]) := by
  refine g_enter (cc := cX2_stoppedAt) (maxL := 1) (ret := (some .int)) (by decide) rfl (Nat.le_of_ble_eq_true rfl) ?_
  intro p e s m below meth c A hsz hAe cx hr hP hD hS ls hl
  rw [hAe]
  refine g_q (fun Q hQ => ?_)
  have hx := cx.1.1
  have hb := cx.1.2.1
  have hl : lv_has ls 1 [(0, .ref (qc 0))] := hl
  obtain ⟨H, eH⟩ : ∃ H : Heap, H = s.heap := ⟨_, rfl⟩
  obtain ⟨locs, el⟩ : ∃ L : List Loc, L = [] := ⟨_, rfl⟩
  have hP : va_P D vwCl [cell58_ qc qt sc, cell49_ qt st, cell27_ k qt st] H := by rw [eH]; exact hP
  have hD : va_D A [cell58_ qc qt sc, cell49_ qt st, cell27_ k qt st] := hD
  have hS : va_S A s.heap H locs := by rw [eH, el]; exact hS
  suffices goal : W p l e ({ frames := 0, cells := 0, slots := 0, locals := 0 } : Room) s m ([.ref (qc 0)] : List Value).toArray below meth c H locs 0 0 Q (F0 m 0 ls []) by rw [eH, el] at goal; exact goal
  refine lv_aload_n hx hb dX2_stoppedAt_0 rfl (lv_at hl 0 rfl) ?_
  refine g_get cx hP iw_X2_stoppedAt_X2 0 rfl rfl 2 (by decide) rfl fw_X2_stoppedAt_19 rfl dX2_stoppedAt_1 ?_
  refine lv_if_eq (tgt := 14) hx hb dX2_stoppedAt_4 (by decide) (fun c1 => ?_) (fun c1 => ?_)
  · have f1 : (sc 0 2).toInt = 0 := f_eq rfl (by decide) c1
    refine lv_bipush (v := (-9)) hx hb dX2_stoppedAt_14 (by decide) ?_
    have hlit2 : ((-9) : Int32).toInt = -9 := by decide
    rw [hQ]
    exact x_i cx hr () hP hD hS (show ((-9) : Int32) = J_X2_stoppedAt sc st from by first | (refine Eq.symm ?_; refine Eq.trans (if_pos c1) ?_; rfl) | (unfold J_X2_stoppedAt; try dsimp only; rw [if_pos c1])) dX2_stoppedAt_16
  · have f1 : ¬ (sc 0 2).toInt = 0 := f_ne rfl (by decide) c1
    refine lv_aload_n hx hb dX2_stoppedAt_7 rfl (lv_at hl 0 rfl) ?_
    refine g_get cx hP iw_X2_stoppedAt_X2 0 rfl rfl 1 (by decide) rfl fw_X2_stoppedAt_15 rfl dX2_stoppedAt_8 ?_
    refine lv_goto (tgt := 16) hx hb dX2_stoppedAt_11 (by decide) ?_
    rw [hQ]
    exact x_i cx hr () hP hD hS (show (sc 0 1) = J_X2_stoppedAt sc st from by first | (refine Eq.symm ?_; refine Eq.trans (if_neg c1) ?_; rfl) | (unfold J_X2_stoppedAt; try dsimp only; rw [if_neg c1])) dX2_stoppedAt_16
theorem nd_X2_here : yX2_here.cls = RX2 ∧ yX2_here.cls ≠ "java/lang/invoke/MethodHandle" ∧ yX2_here.cls ≠ "java/lang/invoke/VarHandle" ∧ (parseMethodDescriptor yX2_here.desc).map (fun d => d.parameters.length) = some 0 := by decide +kernel
theorem nd_X2_step : yX2_step.cls = RX2 ∧ yX2_step.cls ≠ "java/lang/invoke/MethodHandle" ∧ yX2_step.cls ≠ "java/lang/invoke/VarHandle" ∧ (parseMethodDescriptor yX2_step.desc).map (fun d => d.parameters.length) = some 0 := by decide +kernel
theorem nd_X2_stop : yX2_stop.cls = RX2 ∧ yX2_stop.cls ≠ "java/lang/invoke/MethodHandle" ∧ yX2_stop.cls ≠ "java/lang/invoke/VarHandle" ∧ (parseMethodDescriptor yX2_stop.desc).map (fun d => d.parameters.length) = some 0 := by decide +kernel
def J_X2_figure (sc : Nat → Nat → Int32) (st : Nat → Nat → Int32) (p0 : Int32) : Int32 × Int32 × Int32 := let y5 := J_X2_here sc st; if (y5 - (48 : Int32)) < 0 then let y13 := J_X2_stop sc st; (((-9) : Int32), (sc 0 1), y13) else if 9 < (y5 - (48 : Int32)) then let y21 := J_X2_stop sc st; (((-9) : Int32), (sc 0 1), y21) else if ((p0 >>> ((y5 - (48 : Int32)) &&& 31)) &&& (1 : Int32)) = 0 then let y37 := J_X2_stop sc st; (((-9) : Int32), (sc 0 1), y37) else let y31 := J_X2_step sc st; ((y5 - (48 : Int32)), y31, (sc 0 2))
set_option maxHeartbeats 4000000 in
set_option maxRecDepth 100000 in
theorem c_X2_figure (l : Launch) (D : va_G) (k : Nat → ClassId) (b : Nat → Nat) (qc : Nat → Nat) (sc : Nat → Nat → Int32) (qt : Nat → Nat) (st : Nat → Nat → Int32) (sz : Nat) (p0 : Int32) (h_len : 0 ≤ (st 0 1).toInt ∧ (st 0 1).toInt ≤ 64) : MetI l D k b yX2_figure wsX2_figure ({ frames := 2, cells := 0, slots := 0, locals := 41 } : Room) [cell58_ qc qt sc, cell49_ qt st, cell27_ k qt st] sz [.ref (qc 0), .int p0] (fun (r : Int32) (u : Int32 × Int32) => (r.toInt = -9 ∨ (0 ≤ r.toInt ∧ r.toInt ≤ 9)) ∧ (Imp (0 ≤ p0.toInt ∧ p0.toInt ≤ 63) (r.toInt ≤ 5)) ∧ (Imp (0 ≤ p0.toInt ∧ p0.toInt ≤ 31) (r.toInt ≤ 4)) ∧ (Imp (0 ≤ p0.toInt ∧ p0.toInt ≤ 7) (r.toInt ≤ 2)) ∧ ((r, (u.1), (u.2)) = J_X2_figure sc st p0)) (fun u => [cell60_ qc qt (u.1) (u.2), cell49_ qt st, cell27_ k qt st]) := by
  refine g_enter (cc := cX2_figure) (maxL := 3) (ret := (some .int)) (by decide) rfl (Nat.le_of_ble_eq_true rfl) ?_
  intro p e s m below meth c A hsz hAe cx hr hP hD hS ls hl
  rw [hAe]
  refine g_q (fun Q hQ => ?_)
  have hx := cx.1.1
  have hb := cx.1.2.1
  have bp0 := i_rng p0
  have hl : lv_has ls 3 [(0, .ref (qc 0)), (1, .int p0)] := hl
  obtain ⟨H, eH⟩ : ∃ H : Heap, H = s.heap := ⟨_, rfl⟩
  obtain ⟨locs, el⟩ : ∃ L : List Loc, L = [] := ⟨_, rfl⟩
  have hP : va_P D vwCl [cell58_ qc qt sc, cell49_ qt st, cell27_ k qt st] H := by rw [eH]; exact hP
  have hD : va_D A [cell58_ qc qt sc, cell49_ qt st, cell27_ k qt st] := hD
  have hS : va_S A s.heap H locs := by rw [eH, el]; exact hS
  suffices goal : W p l e ({ frames := 2, cells := 0, slots := 0, locals := 41 } : Room) s m ([.ref (qc 0), .int p0] : List Value).toArray below meth c H locs 0 0 Q (F0 m 0 ls []) by rw [eH, el] at goal; exact goal
  refine lv_aload_n hx hb dX2_figure_0 rfl (lv_at hl 0 rfl) ?_
  refine g_iF (w1 := fun (_ : Unit) => [cell58_ qc qt sc, cell49_ qt st, cell27_ k qt st]) (g_runVF (ws := [cell58_ qc qt sc, cell49_ qt st, cell27_ k qt st]) (rest := []) cx hP hD hS [] (c_X2_here l D k b qc sc qt st H.size (show 0 ≤ (st 0 1).toInt ∧ (st 0 1).toInt ≤ 64 from by first | decide | omega)) gX2_figure_X2_here rfl rfl rfl nd_X2_here ⟨Nat.le_of_ble_eq_true rfl, Nat.le_of_ble_eq_true rfl⟩ (ci := 1) (q0 := 0) rfl rfl rfl hl.1 rfl (Nat.le_of_ble_eq_true rfl) ⟨Nat.zero_le _, Nat.zero_le _⟩ dX2_figure_1) cx.2.2.1 hD hS (fun r2 _ H locs hw1 hP hD hS => ?_)
  replace hw1 : (-9 ≤ r2.toInt ∧ r2.toInt ≤ 255) ∧ (r2 = J_X2_here sc st) := hw1
  obtain ⟨w3, w4⟩ := hw1
  have k6 : r2 = (J_X2_here sc st) := congrArg (fun z => z) w4
  refine lv_bipush (v := 48) hx hb dX2_figure_4 (by decide) ?_
  refine lv_isub hx hb dX2_figure_6 (lv_topi (fun v7 e7 => ?_))
  have t7 : v7.toInt = r2.toInt - 48 := by rw [e7]; exact i_sub rfl (by decide) (by omega) (by omega)
  refine lv_istore_n (lv' := [(2, .int v7), (0, .ref (qc 0)), (1, .int p0)]) hx hb dX2_figure_7 rfl hl (by decide) rfl (fun ls hl => ?_)
  refine lv_iload_n hx hb dX2_figure_8 rfl (lv_at hl 0 rfl) ?_
  refine lv_if_lt (tgt := 26) hx hb dX2_figure_9 (by decide) (fun c8 => ?_) (fun c8 => ?_)
  · have f8 : v7.toInt < 0 := f_lt rfl (by decide) c8
    refine lv_aload_n hx hb dX2_figure_26 rfl (lv_at hl 1 rfl) ?_
    refine g_vF (w1 := fun (u : Int32) => [cell96_ qc qt sc u, cell49_ qt st, cell27_ k qt st]) (g_runVF (ws := [cell58_ qc qt sc, cell49_ qt st, cell27_ k qt st]) (rest := []) cx hP hD hS [] (c_X2_stop l D k b qc sc qt st H.size) gX2_figure_X2_stop rfl rfl rfl nd_X2_stop ⟨Nat.le_of_ble_eq_true rfl, Nat.le_of_ble_eq_true rfl⟩ (ci := 1) (q0 := 0) rfl rfl rfl hl.1 rfl (Nat.le_of_ble_eq_true rfl) ⟨Nat.zero_le _, Nat.zero_le _⟩ dX2_figure_27) cx.2.2.1 hD hS (fun u10 H locs hw9 hP hD hS => ?_)
    obtain ⟨m11, rfl⟩ : ∃ z, z = u10 := ⟨_, rfl⟩
    have hP : va_P D vwCl [cell96_ qc qt sc m11, cell49_ qt st, cell27_ k qt st] H := hP
    have hD : va_D A [cell96_ qc qt sc m11, cell49_ qt st, cell27_ k qt st] := hD
    have w12 : m11 = J_X2_stop sc st := hw9
    clear hw9
    have k14 : m11 = (J_X2_stop sc st) := congrArg (fun z => z) w12
    refine lv_bipush (v := (-9)) hx hb dX2_figure_30 (by decide) ?_
    have hlit15 : ((-9) : Int32).toInt = -9 := by decide
    rw [hQ]
    exact x_i cx hr ((sc 0 1), m11) hP hD hS ⟨(show ((-9) : Int32).toInt = -9 ∨ (0 ≤ ((-9) : Int32).toInt ∧ ((-9) : Int32).toInt ≤ 9) from by omega), (show Imp (0 ≤ p0.toInt ∧ p0.toInt ≤ 63) (((-9) : Int32).toInt ≤ 5) from fun _ => by decide), (show Imp (0 ≤ p0.toInt ∧ p0.toInt ≤ 31) (((-9) : Int32).toInt ≤ 4) from fun _ => by decide), (show Imp (0 ≤ p0.toInt ∧ p0.toInt ≤ 7) (((-9) : Int32).toInt ≤ 2) from fun _ => by decide), (show (((-9) : Int32), (sc 0 1), m11) = J_X2_figure sc st p0 from by subst k6 e7 k14; first | (refine Eq.symm ?_; refine Eq.trans (if_pos c8) ?_; rfl) | (unfold J_X2_figure; try dsimp only; rw [if_pos c8]))⟩ dX2_figure_32
  · have f8 : 0 ≤ v7.toInt := f_nlt rfl (by decide) c8
    refine lv_iload_n hx hb dX2_figure_12 rfl (lv_at hl 0 rfl) ?_
    refine lv_bipush (v := 9) hx hb dX2_figure_13 (by decide) ?_
    refine lv_icmp_gt (tgt := 26) hx hb dX2_figure_15 (by decide) (fun c16 => ?_) (fun c16 => ?_)
    · have f16 : 9 < v7.toInt := f_lt (by decide) rfl c16
      refine lv_aload_n hx hb dX2_figure_26 rfl (lv_at hl 1 rfl) ?_
      refine g_vF (w1 := fun (u : Int32) => [cell96_ qc qt sc u, cell49_ qt st, cell27_ k qt st]) (g_runVF (ws := [cell58_ qc qt sc, cell49_ qt st, cell27_ k qt st]) (rest := []) cx hP hD hS [] (c_X2_stop l D k b qc sc qt st H.size) gX2_figure_X2_stop rfl rfl rfl nd_X2_stop ⟨Nat.le_of_ble_eq_true rfl, Nat.le_of_ble_eq_true rfl⟩ (ci := 1) (q0 := 0) rfl rfl rfl hl.1 rfl (Nat.le_of_ble_eq_true rfl) ⟨Nat.zero_le _, Nat.zero_le _⟩ dX2_figure_27) cx.2.2.1 hD hS (fun u18 H locs hw17 hP hD hS => ?_)
      obtain ⟨m19, rfl⟩ : ∃ z, z = u18 := ⟨_, rfl⟩
      have hP : va_P D vwCl [cell96_ qc qt sc m19, cell49_ qt st, cell27_ k qt st] H := hP
      have hD : va_D A [cell96_ qc qt sc m19, cell49_ qt st, cell27_ k qt st] := hD
      have w20 : m19 = J_X2_stop sc st := hw17
      clear hw17
      have k22 : m19 = (J_X2_stop sc st) := congrArg (fun z => z) w20
      refine lv_bipush (v := (-9)) hx hb dX2_figure_30 (by decide) ?_
      have hlit23 : ((-9) : Int32).toInt = -9 := by decide
      rw [hQ]
      exact x_i cx hr ((sc 0 1), m19) hP hD hS ⟨(show ((-9) : Int32).toInt = -9 ∨ (0 ≤ ((-9) : Int32).toInt ∧ ((-9) : Int32).toInt ≤ 9) from by omega), (show Imp (0 ≤ p0.toInt ∧ p0.toInt ≤ 63) (((-9) : Int32).toInt ≤ 5) from fun _ => by decide), (show Imp (0 ≤ p0.toInt ∧ p0.toInt ≤ 31) (((-9) : Int32).toInt ≤ 4) from fun _ => by decide), (show Imp (0 ≤ p0.toInt ∧ p0.toInt ≤ 7) (((-9) : Int32).toInt ≤ 2) from fun _ => by decide), (show (((-9) : Int32), (sc 0 1), m19) = J_X2_figure sc st p0 from by subst k6 e7 k22; first | (refine Eq.symm ?_; refine Eq.trans (if_neg c8) ?_; refine Eq.trans (if_pos c16) ?_; rfl) | (unfold J_X2_figure; try dsimp only; rw [if_neg c8, if_pos c16]))⟩ dX2_figure_32
    · have f16 : v7.toInt ≤ 9 := f_nlt (by decide) rfl c16
      refine lv_iload_n hx hb dX2_figure_18 rfl (lv_at hl 2 rfl) ?_
      refine lv_iload_n hx hb dX2_figure_19 rfl (lv_at hl 0 rfl) ?_
      refine lv_ishr hx hb dX2_figure_20 (lv_topi (fun v24 e24 => ?_))
      refine lv_iconst (v := 1) hx hb dX2_figure_21 (by decide) ?_
      refine lv_iand hx hb dX2_figure_22 (lv_topi (fun v25 e25 => ?_))
      have t25 : 0 ≤ v25.toInt ∧ v25.toInt ≤ 1 := by rw [e25]; exact and_r (by decide) (by omega)
      refine lv_if_ne (tgt := 33) hx hb dX2_figure_23 (by decide) (fun c26 => ?_) (fun c26 => ?_)
      · have f26 : ¬ v25.toInt = 0 := f_ne rfl (by decide) c26
        have bt := bitn e24 e25 c26 ⟨by omega, by omega⟩
        refine lv_aload_n hx hb dX2_figure_33 rfl (lv_at hl 1 rfl) ?_
        refine g_vF (w1 := fun (u : Int32) => [cell101_ qc qt sc u, cell49_ qt st, cell27_ k qt st]) (g_runVF (ws := [cell58_ qc qt sc, cell49_ qt st, cell27_ k qt st]) (rest := []) cx hP hD hS [] (c_X2_step l D k b qc sc qt st H.size) gX2_figure_X2_step rfl rfl rfl nd_X2_step ⟨Nat.le_of_ble_eq_true rfl, Nat.le_of_ble_eq_true rfl⟩ (ci := 1) (q0 := 0) rfl rfl rfl hl.1 rfl (Nat.le_of_ble_eq_true rfl) ⟨Nat.zero_le _, Nat.zero_le _⟩ dX2_figure_34) cx.2.2.1 hD hS (fun u28 H locs hw27 hP hD hS => ?_)
        obtain ⟨m29, rfl⟩ : ∃ z, z = u28 := ⟨_, rfl⟩
        have hP : va_P D vwCl [cell101_ qc qt sc m29, cell49_ qt st, cell27_ k qt st] H := hP
        have hD : va_D A [cell101_ qc qt sc m29, cell49_ qt st, cell27_ k qt st] := hD
        have w30 : m29 = J_X2_step sc st := hw27
        clear hw27
        have k32 : m29 = (J_X2_step sc st) := congrArg (fun z => z) w30
        refine lv_iload_n hx hb dX2_figure_37 rfl (lv_at hl 0 rfl) ?_
        rw [hQ]
        exact x_i cx hr (m29, (sc 0 2)) hP hD hS ⟨(show v7.toInt = -9 ∨ (0 ≤ v7.toInt ∧ v7.toInt ≤ 9) from by omega), (show Imp (0 ≤ p0.toInt ∧ p0.toInt ≤ 63) (v7.toInt ≤ 5) from fun h => bt.1 h), (show Imp (0 ≤ p0.toInt ∧ p0.toInt ≤ 31) (v7.toInt ≤ 4) from fun h => bt.2.1 h), (show Imp (0 ≤ p0.toInt ∧ p0.toInt ≤ 7) (v7.toInt ≤ 2) from fun h => bt.2.2 h), (show (v7, m29, (sc 0 2)) = J_X2_figure sc st p0 from by subst k6 e7 e24 e25 k32; first | (refine Eq.symm ?_; refine Eq.trans (if_neg c8) ?_; refine Eq.trans (if_neg c16) ?_; refine Eq.trans (if_neg c26) ?_; rfl) | (unfold J_X2_figure; try dsimp only; rw [if_neg c8, if_neg c16, if_neg c26]))⟩ dX2_figure_38
      · have f26 : v25.toInt = 0 := f_eq rfl (by decide) c26
        refine lv_aload_n hx hb dX2_figure_26 rfl (lv_at hl 1 rfl) ?_
        refine g_vF (w1 := fun (u : Int32) => [cell96_ qc qt sc u, cell49_ qt st, cell27_ k qt st]) (g_runVF (ws := [cell58_ qc qt sc, cell49_ qt st, cell27_ k qt st]) (rest := []) cx hP hD hS [] (c_X2_stop l D k b qc sc qt st H.size) gX2_figure_X2_stop rfl rfl rfl nd_X2_stop ⟨Nat.le_of_ble_eq_true rfl, Nat.le_of_ble_eq_true rfl⟩ (ci := 1) (q0 := 0) rfl rfl rfl hl.1 rfl (Nat.le_of_ble_eq_true rfl) ⟨Nat.zero_le _, Nat.zero_le _⟩ dX2_figure_27) cx.2.2.1 hD hS (fun u34 H locs hw33 hP hD hS => ?_)
        obtain ⟨m35, rfl⟩ : ∃ z, z = u34 := ⟨_, rfl⟩
        have hP : va_P D vwCl [cell96_ qc qt sc m35, cell49_ qt st, cell27_ k qt st] H := hP
        have hD : va_D A [cell96_ qc qt sc m35, cell49_ qt st, cell27_ k qt st] := hD
        have w36 : m35 = J_X2_stop sc st := hw33
        clear hw33
        have k38 : m35 = (J_X2_stop sc st) := congrArg (fun z => z) w36
        refine lv_bipush (v := (-9)) hx hb dX2_figure_30 (by decide) ?_
        have hlit39 : ((-9) : Int32).toInt = -9 := by decide
        rw [hQ]
        exact x_i cx hr ((sc 0 1), m35) hP hD hS ⟨(show ((-9) : Int32).toInt = -9 ∨ (0 ≤ ((-9) : Int32).toInt ∧ ((-9) : Int32).toInt ≤ 9) from by omega), (show Imp (0 ≤ p0.toInt ∧ p0.toInt ≤ 63) (((-9) : Int32).toInt ≤ 5) from fun _ => by decide), (show Imp (0 ≤ p0.toInt ∧ p0.toInt ≤ 31) (((-9) : Int32).toInt ≤ 4) from fun _ => by decide), (show Imp (0 ≤ p0.toInt ∧ p0.toInt ≤ 7) (((-9) : Int32).toInt ≤ 2) from fun _ => by decide), (show (((-9) : Int32), (sc 0 1), m35) = J_X2_figure sc st p0 from by subst k6 e7 e24 e25 k38; first | (refine Eq.symm ?_; refine Eq.trans (if_neg c8) ?_; refine Eq.trans (if_neg c16) ?_; refine Eq.trans (if_pos c26) ?_; rfl) | (unfold J_X2_figure; try dsimp only; rw [if_neg c8, if_neg c16, if_pos c26]))⟩ dX2_figure_32
