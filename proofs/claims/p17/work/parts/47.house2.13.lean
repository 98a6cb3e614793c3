theorem fw_X4_sumOf_1_32 : Cond.fieldLink RX4 32 "StillInAugust$House" "weeks" "I" ∈ wsX4_sumOf := by decide +kernel
theorem iw_X4_sumOf_1_X4 : ∀ w ∈ u_ws RX4 TX4 14, w ∈ wsX4_sumOf := fun _ h => List.mem_cons_of_mem _ (List.mem_append_right _ h)
def J_X4_sumOf_1 (sh : Nat → Nat → Int32) : Int32 := (SF (sh 1) (Int.toNat (sh 0 0).toInt))
set_option maxHeartbeats 4000000 in
set_option maxRecDepth 100000 in
theorem c_X4_sumOf_1 (l : Launch) (D : va_G) (k : Nat → ClassId) (b : Nat → Nat) (qh : Nat → Nat) (sh : Nat → Nat → Int32) (sz : Nat) (h_wk : 0 ≤ (sh 0 0).toInt ∧ (sh 0 0).toInt ≤ 5) : MetI l D k b yX4_sumOf wsX4_sumOf ({ frames := 0, cells := 0, slots := 0, locals := 0 } : Room) [cell32_ qh sh, cell0_ k qh sh, cell1_ k qh sh, cell4_ k qh sh, cell3_ k qh sh, cell2_ k qh sh] sz [.ref (qh 0), .ref (qh 1)] (fun (r : Int32) (u : Unit) => r = J_X4_sumOf_1 sh) (fun u => [cell32_ qh sh, cell0_ k qh sh, cell1_ k qh sh, cell4_ k qh sh, cell3_ k qh sh, cell2_ k qh sh]) := by
  refine g_enter (cc := cX4_sumOf) (maxL := 4) (ret := (some .int)) (by decide) rfl (Nat.le_of_ble_eq_true rfl) ?_
  intro p e s m below meth c A hsz hAe cx hr hP hD hS ls hl
  rw [hAe]
  refine g_q (fun Q hQ => ?_)
  have hx := cx.1.1
  have hb := cx.1.2.1
  have hl : lv_has ls 4 [(0, .ref (qh 0)), (1, .ref (qh 1))] := hl
  obtain ⟨H, eH⟩ : ∃ H : Heap, H = s.heap := ⟨_, rfl⟩
  obtain ⟨locs, el⟩ : ∃ L : List Loc, L = [] := ⟨_, rfl⟩
  have hP : va_P D vwCl [cell32_ qh sh, cell0_ k qh sh, cell1_ k qh sh, cell4_ k qh sh, cell3_ k qh sh, cell2_ k qh sh] H := by rw [eH]; exact hP
  have hD : va_D A [cell32_ qh sh, cell0_ k qh sh, cell1_ k qh sh, cell4_ k qh sh, cell3_ k qh sh, cell2_ k qh sh] := hD
  have hS : va_S A s.heap H locs := by rw [eH, el]; exact hS
  suffices goal : W p l e ({ frames := 0, cells := 0, slots := 0, locals := 0 } : Room) s m ([.ref (qh 0), .ref (qh 1)] : List Value).toArray below meth c H locs 0 0 Q (F0 m 0 ls []) by rw [eH, el] at goal; exact goal
  refine lv_iconst (v := 0) hx hb dX4_sumOf_0 (by decide) ?_
  refine lv_istore_n (lv' := [(2, .int 0), (0, .ref (qh 0)), (1, .ref (qh 1))]) hx hb dX4_sumOf_1 rfl hl (by decide) rfl (fun ls hl => ?_)
  refine lv_iconst (v := 0) hx hb dX4_sumOf_2 (by decide) ?_
  refine lv_istore_n (lv' := [(3, .int 0), (2, .int 0), (0, .ref (qh 0)), (1, .ref (qh 1))]) hx hb dX4_sumOf_3 rfl hl (by decide) rfl (fun ls hl => ?_)
  have hL4 : ∀ (n7 : Nat) (v5 : Int32) (v6 : Int32) (H : Heap) (locs : List Loc) (ls : Array Slot), 5 - v5.toInt < (n7 : Int) → (0 ≤ v5.toInt ∧ v5.toInt ≤ 5) → (v5.toInt ≤ (sh 0 0).toInt) → (v6 = SF (sh 1) (Int.toNat v5.toInt)) → va_P D vwCl [cell32_ qh sh, cell0_ k qh sh, cell1_ k qh sh, cell4_ k qh sh, cell3_ k qh sh, cell2_ k qh sh] H → va_D A [cell32_ qh sh, cell0_ k qh sh, cell1_ k qh sh, cell4_ k qh sh, cell3_ k qh sh, cell2_ k qh sh] → va_S A s.heap H locs → lv_has ls 4 [(3, .int v5), (2, .int v6), (0, .ref (qh 0)), (1, .ref (qh 1))] → W p l e ({ frames := 0, cells := 0, slots := 0, locals := 0 } : Room) s m ([.ref (qh 0), .ref (qh 1)] : List Value).toArray below meth c H locs 0 0 Q (F0 m 4 ls []) := by
    intro n7
    induction n7 with
    | zero => intro v5 v6 H locs ls hmn7 bv5 q3 qs1 hP hD hS hl; exact absurd hmn7 (by omega)
    | succ n7 ih4 =>
      intro v5 v6 H locs ls hmn7 bv5 q3 qs1 hP hD hS hl
      refine lv_iload_n hx hb dX4_sumOf_4 rfl (lv_at hl 0 rfl) ?_
      refine lv_aload_n hx hb dX4_sumOf_5 rfl (lv_at hl 2 rfl) ?_
      refine g_get cx hP iw_X4_sumOf_1_X4 0 rfl rfl 0 (by decide) rfl fw_X4_sumOf_1_32 rfl dX4_sumOf_6 ?_
      refine lv_icmp_ge (tgt := 30) hx hb dX4_sumOf_9 (by decide) (fun c8 => ?_) (fun c8 => ?_)
      · have f8 : (sh 0 0).toInt ≤ v5.toInt := f_le rfl rfl c8
        have qs1_e : v6 = (SF (sh 1) (Int.toNat (sh 0 0).toInt)) := by have q : Int.toNat v5.toInt = (Int.toNat (sh 0 0).toInt) := (by omega); rw [q] at qs1; exact qs1
        refine lv_iload_n hx hb dX4_sumOf_30 rfl (lv_at hl 1 rfl) ?_
        rw [hQ]
        exact x_i cx hr () hP hD hS (show v6 = J_X4_sumOf_1 sh from by subst qs1_e; rfl) dX4_sumOf_31
      · have f8 : v5.toInt < (sh 0 0).toInt := f_nle rfl rfl c8
        refine lv_iload_n hx hb dX4_sumOf_12 rfl (lv_at hl 0 rfl) ?_
        refine lv_aload_n hx hb dX4_sumOf_13 rfl (lv_at hl 3 rfl) ?_
        refine va_alen hx hb cx.2.1 hP 1 0 rfl rfl (v := 5) (show Int32.ofNat 5 = 5 from by decide) dX4_sumOf_14 ?_
        refine lv_icmp_ge (tgt := 30) hx hb dX4_sumOf_15 (by decide) (fun c9 => ?_) (fun c9 => ?_)
        · have f9 : 5 ≤ v5.toInt := f_le (by decide) rfl c9
          exact absurd f9 (by omega)
        · have f9 : v5.toInt < 5 := f_nle (by decide) rfl c9
          refine lv_iload_n hx hb dX4_sumOf_18 rfl (lv_at hl 1 rfl) ?_
          refine lv_aload_n hx hb dX4_sumOf_19 rfl (lv_at hl 3 rfl) ?_
          refine lv_iload_n hx hb dX4_sumOf_20 rfl (lv_at hl 0 rfl) ?_
          have hn10 : vp_in v5 5 := f_in (a := v5.toInt) rfl (by omega) (by omega)
          refine va_iald hx hb cx.2.1 hP 1 0 rfl rfl hn10 dX4_sumOf_21 (lv_topi (fun v11 e11 => ?_))
          have hv1_ : v11 = sh 1 (Int.toNat v5.toInt) := e11.trans (congrArg (sh 1) (cN_of (show v5.toInt = ((Int.toNat (v5.toInt) : Nat) : Int) from by omega)))
          refine lv_iadd hx hb dX4_sumOf_22 (lv_topi (fun v12 e12 => ?_))
          have hs1_ := e12
          refine lv_istore_n (lv' := [(2, .int v12), (3, .int v5), (0, .ref (qh 0)), (1, .ref (qh 1))]) hx hb dX4_sumOf_23 rfl hl (by decide) rfl (fun ls hl => ?_)
          obtain ⟨v13, e13⟩ : ∃ z : Int32, z = v5 + 1 := ⟨_, rfl⟩
          refine lv_iinc (v := v13) (lv' := [(3, .int v13), (2, .int v12), (0, .ref (qh 0)), (1, .ref (qh 1))]) hx hb dX4_sumOf_24 hl (k := 1) rfl (by rw [e13]; rfl) (by decide) rfl (fun ls hl => ?_)
          have t13 : v13.toInt = v5.toInt + 1 := by rw [e13]; exact i_add rfl (by decide) (by omega) (by omega)
          refine lv_goto (tgt := 4) hx hb dX4_sumOf_27 (by decide) ?_
          exact ih4 v13 v12 _ _ _ (by omega) (by first | decide | omega) (by first | decide | omega) (SF_st qs1 hv1_ hs1_ (by omega)) hP hD hS (lv_sub hl [0, 1, 2, 3] rfl)
  have hlit14 : (0 : Int32).toInt = 0 := by decide
  have hlit15 : (0 : Int32).toInt = 0 := by decide
  exact hL4 (Int.toNat (5 - 0) + 1) 0 0 _ _ _ (by omega) (by first | decide | omega) (by first | decide | omega) rfl hP hD hS (lv_sub hl [0, 1, 2, 3] rfl)
