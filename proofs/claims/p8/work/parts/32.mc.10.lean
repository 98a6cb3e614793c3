set_option maxHeartbeats 4000000 in
set_option maxRecDepth 100000 in
theorem c_X12_choose (l : Launch) (D : va_G) (k : Nat → ClassId) (b : Nat → Nat) (sz : Nat) (p0 : Int32) (p1 : Int32) : MetI l D k b yX12_choose wsX12_choose ({ frames := 0, cells := 0, slots := 0, locals := 0 } : Room) [] sz [.int p0, .int p1] (fun (r : Int32) (u : Unit) => True) (fun u => []) := by
  refine g_enter (cc := cX12_choose) (maxL := 4) (ret := (some .int)) (by decide) rfl (Nat.le_of_ble_eq_true rfl) ?_
  intro p e s m below meth c A hsz hAe cx hr hP hD hS ls hl
  rw [hAe]
  refine g_q (fun Q hQ => ?_)
  have hx := cx.1.1
  have hb := cx.1.2.1
  have bp0 := i_rng p0
  have bp1 := i_rng p1
  have hl : lv_has ls 4 [(0, .int p0), (1, .int p1)] := hl
  obtain ⟨H, eH⟩ : ∃ H : Heap, H = s.heap := ⟨_, rfl⟩
  obtain ⟨locs, el⟩ : ∃ L : List Loc, L = [] := ⟨_, rfl⟩
  have hP : va_P D vwCl [] H := by rw [eH]; exact hP
  have hD : va_D A [] := hD
  have hS : va_S A s.heap H locs := by rw [eH, el]; exact hS
  suffices goal : W p l e ({ frames := 0, cells := 0, slots := 0, locals := 0 } : Room) s m ([.int p0, .int p1] : List Value).toArray below meth c H locs 0 0 Q (F0 m 0 ls []) by rw [eH, el] at goal; exact goal
  refine lv_iconst (v := 1) hx hb dX12_choose_0 (by decide) ?_
  refine lv_istore_n (lv' := [(2, .int 1), (0, .int p0), (1, .int p1)]) hx hb dX12_choose_1 rfl hl (by decide) rfl (fun ls hl => ?_)
  refine lv_iconst (v := 0) hx hb dX12_choose_2 (by decide) ?_
  refine lv_istore_n (lv' := [(3, .int 0), (2, .int 1), (0, .int p0), (1, .int p1)]) hx hb dX12_choose_3 rfl hl (by decide) rfl (fun ls hl => ?_)
  have hL4 : ∀ (n8 : Nat) (v6 : Int32) (v7 : Int32) (H : Heap) (locs : List Loc) (ls : Array Slot), (p1.toInt - v6.toInt < (n8 : Int) ∧ 0 < (n8 : Int)) → (0 ≤ v6.toInt) → va_P D vwCl [] H → va_D A [] → va_S A s.heap H locs → lv_has ls 4 [(3, .int v6), (2, .int v7), (0, .int p0), (1, .int p1)] → W p l e ({ frames := 0, cells := 0, slots := 0, locals := 0 } : Room) s m ([.int p0, .int p1] : List Value).toArray below meth c H locs 0 0 Q (F0 m 4 ls []) := by
    intro n8
    induction n8 with
    | zero => intro v6 v7 H locs ls hmn8 bv6 hP hD hS hl; exact absurd hmn8 (by omega)
    | succ n8 ih4 =>
      intro v6 v7 H locs ls hmn8 bv6 hP hD hS hl
      refine lv_iload_n hx hb dX12_choose_4 rfl (lv_at hl 0 rfl) ?_
      refine lv_iload_n hx hb dX12_choose_5 rfl (lv_at hl 3 rfl) ?_
      refine lv_icmp_ge (tgt := 25) hx hb dX12_choose_6 (by decide) (fun c9 => ?_) (fun c9 => ?_)
      · have f9 : p1.toInt ≤ v6.toInt := f_le rfl rfl c9
        refine lv_iload_n hx hb dX12_choose_25 rfl (lv_at hl 1 rfl) ?_
        rw [hQ]
        exact x_i cx hr () hP hD hS trivial dX12_choose_26
      · have f9 : v6.toInt < p1.toInt := f_nle rfl rfl c9
        refine lv_iload_n hx hb dX12_choose_9 rfl (lv_at hl 1 rfl) ?_
        refine lv_iload_n hx hb dX12_choose_10 rfl (lv_at hl 2 rfl) ?_
        refine lv_iload_n hx hb dX12_choose_11 rfl (lv_at hl 0 rfl) ?_
        refine lv_isub hx hb dX12_choose_12 (lv_topi (fun v10 e10 => ?_))
        refine lv_imul hx hb dX12_choose_13 (lv_topi (fun v11 e11 => ?_))
        refine lv_iload_n hx hb dX12_choose_14 rfl (lv_at hl 0 rfl) ?_
        refine lv_iconst (v := 1) hx hb dX12_choose_15 (by decide) ?_
        refine lv_iadd hx hb dX12_choose_16 (lv_topi (fun v12 e12 => ?_))
        have t12 : v12.toInt = v6.toInt + 1 := by rw [e12]; exact i_add rfl (by decide) (by omega) (by omega)
        refine lv_idiv hx hb dX12_choose_17 (nz32 (by omega)) (lv_topi (fun v13 e13 => ?_))
        refine lv_istore_n (lv' := [(2, .int v13), (3, .int v6), (0, .int p0), (1, .int p1)]) hx hb dX12_choose_18 rfl hl (by decide) rfl (fun ls hl => ?_)
        obtain ⟨v14, e14⟩ : ∃ z : Int32, z = v6 + 1 := ⟨_, rfl⟩
        refine lv_iinc (v := v14) (lv' := [(3, .int v14), (2, .int v13), (0, .int p0), (1, .int p1)]) hx hb dX12_choose_19 hl (k := 1) rfl (by rw [e14]; rfl) (by decide) rfl (fun ls hl => ?_)
        have t14 : v14.toInt = v6.toInt + 1 := by rw [e14]; exact i_add rfl (by decide) (by omega) (by omega)
        refine lv_goto (tgt := 4) hx hb dX12_choose_22 (by decide) ?_
        exact ih4 v14 v13 _ _ _ (by omega) (by first | decide | omega) hP hD hS (lv_sub hl [0, 1, 2, 3] rfl)
  have hlit15 : (0 : Int32).toInt = 0 := by decide
  have hlit16 : (1 : Int32).toInt = 1 := by decide
  exact hL4 (Int.toNat p1.toInt + 1) 0 1 _ _ _ (by omega) (by first | decide | omega) hP hD hS (lv_sub hl [0, 1, 2, 3] rfl)
