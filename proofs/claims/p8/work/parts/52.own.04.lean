theorem kJ_X11_told_347 : Cond.constantLong RX11 347 (5) ∈ wsX11_told := by decide +kernel
set_option maxHeartbeats 4000000 in
set_option maxRecDepth 100000 in
theorem c_X11_told (l : Launch) (D : va_G) (k : Nat → ClassId) (b : Nat → Nat) (sz : Nat) (p0 : Int64) (p1 : Int64) (p2 : Int32) : MetL l D k b yX11_told wsX11_told ({ frames := 0, cells := 0, slots := 0, locals := 0 } : Room) [] sz [.long p0, .long p1, .int p2] (fun (r : Int64) (u : Unit) => True) (fun u => []) := by
  refine g_enter (cc := cX11_told) (maxL := 10) (ret := (some .long)) (by decide) rfl (Nat.le_of_ble_eq_true rfl) ?_
  intro p e s m below meth c A hsz hAe cx hr hP hD hS ls hl
  rw [hAe]
  refine g_q (fun Q hQ => ?_)
  have hx := cx.1.1
  have hb := cx.1.2.1
  have bp2 := i_rng p2
  have hl : lv_has ls 10 [(0, .long p0), (2, .long p1), (4, .int p2)] := hl
  obtain ⟨H, eH⟩ : ∃ H : Heap, H = s.heap := ⟨_, rfl⟩
  obtain ⟨locs, el⟩ : ∃ L : List Loc, L = [] := ⟨_, rfl⟩
  have hP : va_P D vwCl [] H := by rw [eH]; exact hP
  have hD : va_D A [] := hD
  have hS : va_S A s.heap H locs := by rw [eH, el]; exact hS
  suffices goal : W p l e ({ frames := 0, cells := 0, slots := 0, locals := 0 } : Room) s m ([.long p0, .long p1, .int p2] : List Value).toArray below meth c H locs 0 0 Q (F0 m 0 ls []) by rw [eH, el] at goal; exact goal
  refine lv_lload_n hx hb dX11_told_0 rfl (lv_at hl 0 rfl) ?_
  refine lv_lstore (lv' := [(5, .long p0), (0, .long p0), (2, .long p1), (4, .int p2)]) hx hb dX11_told_1 hl (by decide) rfl (fun ls hl => ?_)
  refine lv_lload_n hx hb dX11_told_3 rfl (lv_at hl 2 rfl) ?_
  refine lv_lstore (lv' := [(7, .long p1), (5, .long p0), (0, .long p0), (2, .long p1), (4, .int p2)]) hx hb dX11_told_4 hl (by decide) rfl (fun ls hl => ?_)
  refine lv_iconst (v := 0) hx hb dX11_told_6 (by decide) ?_
  refine lv_istore (lv' := [(9, .int 0), (7, .long p1), (5, .long p0), (0, .long p0), (2, .long p1), (4, .int p2)]) hx hb dX11_told_7 hl (by decide) rfl (fun ls hl => ?_)
  have hL9 : ∀ (n11 : Nat) (v8 : Int32) (v9 : Int64) (v10 : Int64) (H : Heap) (locs : List Loc) (ls : Array Slot), 20 - v8.toInt < (n11 : Int) → (0 ≤ v8.toInt ∧ v8.toInt ≤ 20) → va_P D vwCl [] H → va_D A [] → va_S A s.heap H locs → lv_has ls 10 [(9, .int v8), (7, .long v9), (5, .long v10), (4, .int p2)] → W p l e ({ frames := 0, cells := 0, slots := 0, locals := 0 } : Room) s m ([.long p0, .long p1, .int p2] : List Value).toArray below meth c H locs 0 0 Q (F0 m 9 ls []) := by
    intro n11
    induction n11 with
    | zero => intro v8 v9 v10 H locs ls hmn11 bv8 hP hD hS hl; exact absurd hmn11 (by omega)
    | succ n11 ih9 =>
      intro v8 v9 v10 H locs ls hmn11 bv8 hP hD hS hl
      refine lv_iload hx hb dX11_told_9 (lv_at hl 0 rfl) ?_
      refine lv_bipush (v := 20) hx hb dX11_told_11 (by decide) ?_
      refine lv_icmp_ge (tgt := 60) hx hb dX11_told_13 (by decide) (fun c12 => ?_) (fun c12 => ?_)
      · have f12 : 20 ≤ v8.toInt := f_le (by decide) rfl c12
        refine lv_iload hx hb dX11_told_60 (lv_at hl 3 rfl) ?_
        refine lv_if_eq (tgt := 70) hx hb dX11_told_62 (by decide) (fun c13 => ?_) (fun c13 => ?_)
        · have f13 : p2.toInt = 0 := f_eq rfl (by decide) c13
          refine lv_lload hx hb dX11_told_70 (lv_at hl 1 rfl) ?_
          rw [hQ]
          exact x_l cx hr () hP hD hS trivial dX11_told_72
        · have f13 : ¬ p2.toInt = 0 := f_ne rfl (by decide) c13
          refine lv_lload hx hb dX11_told_65 (lv_at hl 2 rfl) ?_
          refine lv_goto (tgt := 72) hx hb dX11_told_67 (by decide) ?_
          rw [hQ]
          exact x_l cx hr () hP hD hS trivial dX11_told_72
      · have f12 : v8.toInt < 20 := f_nle (by decide) rfl c12
        refine lv_lload hx hb dX11_told_16 (lv_at hl 2 rfl) ?_
        refine lv_ldc2 (v := 5) hx hb cx.1.2.2.2.1 (cx.1.2.2.2.2 _ kJ_X11_told_347) dX11_told_18 ?_
        refine lv_lrem hx hb dX11_told_21 (by decide) (lv_topl (fun v14 e14 => ?_))
        refine lv_lconst (v := 0) hx hb dX11_told_22 (by decide) ?_
        refine W.lcmp hx hb dX11_told_23 (lv_topi (fun v15 e15 => ?_))
        refine lv_if_ne (tgt := 60) hx hb dX11_told_24 (by decide) (fun c16 => ?_) (fun c16 => ?_)
        · have f16 : ¬ v15.toInt = 0 := f_ne rfl (by decide) c16
          refine lv_iload hx hb dX11_told_60 (lv_at hl 3 rfl) ?_
          refine lv_if_eq (tgt := 70) hx hb dX11_told_62 (by decide) (fun c17 => ?_) (fun c17 => ?_)
          · have f17 : p2.toInt = 0 := f_eq rfl (by decide) c17
            refine lv_lload hx hb dX11_told_70 (lv_at hl 1 rfl) ?_
            rw [hQ]
            exact x_l cx hr () hP hD hS trivial dX11_told_72
          · have f17 : ¬ p2.toInt = 0 := f_ne rfl (by decide) c17
            refine lv_lload hx hb dX11_told_65 (lv_at hl 2 rfl) ?_
            refine lv_goto (tgt := 72) hx hb dX11_told_67 (by decide) ?_
            rw [hQ]
            exact x_l cx hr () hP hD hS trivial dX11_told_72
        · have f16 : v15.toInt = 0 := f_eq rfl (by decide) c16
          refine lv_lload hx hb dX11_told_27 (lv_at hl 1 rfl) ?_
          refine lv_ldc2 (v := 5) hx hb cx.1.2.2.2.1 (cx.1.2.2.2.2 _ kJ_X11_told_347) dX11_told_29 ?_
          refine lv_lrem hx hb dX11_told_32 (by decide) (lv_topl (fun v18 e18 => ?_))
          refine lv_lconst (v := 0) hx hb dX11_told_33 (by decide) ?_
          refine W.lcmp hx hb dX11_told_34 (lv_topi (fun v19 e19 => ?_))
          refine lv_if_ne (tgt := 60) hx hb dX11_told_35 (by decide) (fun c20 => ?_) (fun c20 => ?_)
          · have f20 : ¬ v19.toInt = 0 := f_ne rfl (by decide) c20
            refine lv_iload hx hb dX11_told_60 (lv_at hl 3 rfl) ?_
            refine lv_if_eq (tgt := 70) hx hb dX11_told_62 (by decide) (fun c21 => ?_) (fun c21 => ?_)
            · have f21 : p2.toInt = 0 := f_eq rfl (by decide) c21
              refine lv_lload hx hb dX11_told_70 (lv_at hl 1 rfl) ?_
              rw [hQ]
              exact x_l cx hr () hP hD hS trivial dX11_told_72
            · have f21 : ¬ p2.toInt = 0 := f_ne rfl (by decide) c21
              refine lv_lload hx hb dX11_told_65 (lv_at hl 2 rfl) ?_
              refine lv_goto (tgt := 72) hx hb dX11_told_67 (by decide) ?_
              rw [hQ]
              exact x_l cx hr () hP hD hS trivial dX11_told_72
          · have f20 : v19.toInt = 0 := f_eq rfl (by decide) c20
            refine lv_lload hx hb dX11_told_38 (lv_at hl 2 rfl) ?_
            refine lv_ldc2 (v := 5) hx hb cx.1.2.2.2.1 (cx.1.2.2.2.2 _ kJ_X11_told_347) dX11_told_40 ?_
            refine lv_ldiv hx hb dX11_told_43 (by decide) (lv_topl (fun v22 e22 => ?_))
            refine lv_lstore (lv' := [(5, .long v22), (9, .int v8), (7, .long v9), (4, .int p2)]) hx hb dX11_told_44 hl (by decide) rfl (fun ls hl => ?_)
            refine lv_lload hx hb dX11_told_46 (lv_at hl 2 rfl) ?_
            refine lv_ldc2 (v := 5) hx hb cx.1.2.2.2.1 (cx.1.2.2.2.2 _ kJ_X11_told_347) dX11_told_48 ?_
            refine lv_ldiv hx hb dX11_told_51 (by decide) (lv_topl (fun v23 e23 => ?_))
            refine lv_lstore (lv' := [(7, .long v23), (5, .long v22), (9, .int v8), (4, .int p2)]) hx hb dX11_told_52 hl (by decide) rfl (fun ls hl => ?_)
            obtain ⟨v24, e24⟩ : ∃ z : Int32, z = v8 + 1 := ⟨_, rfl⟩
            refine lv_iinc (v := v24) (lv' := [(9, .int v24), (7, .long v23), (5, .long v22), (4, .int p2)]) hx hb dX11_told_54 hl (k := 2) rfl (by rw [e24]; rfl) (by decide) rfl (fun ls hl => ?_)
            have t24 : v24.toInt = v8.toInt + 1 := by rw [e24]; exact i_add rfl (by decide) (by omega) (by omega)
            refine lv_goto (tgt := 9) hx hb dX11_told_57 (by decide) ?_
            exact ih9 v24 v23 v22 _ _ _ (by omega) (by first | decide | omega) hP hD hS (lv_sub hl [0, 1, 2, 3] rfl)
  have hlit25 : (0 : Int32).toInt = 0 := by decide
  exact hL9 (Int.toNat (20 - 0) + 1) 0 p1 p0 _ _ _ (by omega) (by first | decide | omega) hP hD hS (lv_sub hl [0, 1, 2, 5] rfl)
