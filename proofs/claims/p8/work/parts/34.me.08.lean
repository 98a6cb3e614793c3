set_option maxHeartbeats 4000000 in
set_option maxRecDepth 100000 in
theorem c_X12_cheapest (l : Launch) (D : va_G) (k : Nat → ClassId) (b : Nat → Nat) (qm : Nat → Nat) (sm : Nat → Nat → Int32) (tm : Nat → Nat → Int64) (sz : Nat) (h_w0 : 0 ≤ (sm 2 0).toInt ∧ (sm 2 0).toInt ≤ 5) (h_k1 : 0 ≤ (sm 2 1).toInt ∧ (sm 2 1).toInt ≤ 4) : MetI l D k b yX12_cheapest wsX12_cheapest ({ frames := 5, cells := 0, slots := 0, locals := 127 } : Room) [cell22_ qm sm tm, cell5_ k qm sm, cell13_ k qm sm, cell8_ k qm sm, cell6_ k qm sm, cell14_ k qm sm, cell15_ k qm tm, cell12_ k qm tm, cell18_ k qm tm, cell17_ k qm tm, cell19_ k qm tm, cell21_ k qm tm, cell20_ k qm sm, cell16_ k qm sm, cell11_ k qm sm, cell10_ k qm sm, cell9_ k qm sm, cell7_ k qm sm] sz [.ref (qm 0)] (fun (r : Int32) (u : (Nat → Int64) × (Nat → Int64)) => True) (fun u => [cell22_ qm sm tm, cell5_ k qm sm, cell13_ k qm sm, cell8_ k qm sm, cell6_ k qm sm, cell14_ k qm sm, cell155_ k qm (u.1), cell156_ k qm (u.2), cell18_ k qm tm, cell17_ k qm tm, cell19_ k qm tm, cell21_ k qm tm, cell20_ k qm sm, cell16_ k qm sm, cell11_ k qm sm, cell10_ k qm sm, cell9_ k qm sm, cell7_ k qm sm]) := by
  refine g_enter (cc := cX12_cheapest) (maxL := 7) (ret := (some .int)) (by decide) rfl (Nat.le_of_ble_eq_true rfl) ?_
  intro p e s m below meth c A hsz hAe cx hr hP hD hS ls hl
  rw [hAe]
  refine g_q (fun Q hQ => ?_)
  have hx := cx.1.1
  have hb := cx.1.2.1
  have hl : lv_has ls 7 [(0, .ref (qm 0))] := hl
  obtain ⟨H, eH⟩ : ∃ H : Heap, H = s.heap := ⟨_, rfl⟩
  obtain ⟨locs, el⟩ : ∃ L : List Loc, L = [] := ⟨_, rfl⟩
  have hP : va_P D vwCl [cell22_ qm sm tm, cell5_ k qm sm, cell13_ k qm sm, cell8_ k qm sm, cell6_ k qm sm, cell14_ k qm sm, cell15_ k qm tm, cell12_ k qm tm, cell18_ k qm tm, cell17_ k qm tm, cell19_ k qm tm, cell21_ k qm tm, cell20_ k qm sm, cell16_ k qm sm, cell11_ k qm sm, cell10_ k qm sm, cell9_ k qm sm, cell7_ k qm sm] H := by rw [eH]; exact hP
  have hD : va_D A [cell22_ qm sm tm, cell5_ k qm sm, cell13_ k qm sm, cell8_ k qm sm, cell6_ k qm sm, cell14_ k qm sm, cell15_ k qm tm, cell12_ k qm tm, cell18_ k qm tm, cell17_ k qm tm, cell19_ k qm tm, cell21_ k qm tm, cell20_ k qm sm, cell16_ k qm sm, cell11_ k qm sm, cell10_ k qm sm, cell9_ k qm sm, cell7_ k qm sm] := hD
  have hS : va_S A s.heap H locs := by rw [eH, el]; exact hS
  suffices goal : W p l e ({ frames := 5, cells := 0, slots := 0, locals := 127 } : Room) s m ([.ref (qm 0)] : List Value).toArray below meth c H locs 0 0 Q (F0 m 0 ls []) by rw [eH, el] at goal; exact goal
  refine lv_iconst (v := 0) hx hb dX12_cheapest_0 (by decide) ?_
  refine lv_istore_n (lv' := [(1, .int 0), (0, .ref (qm 0))]) hx hb dX12_cheapest_1 rfl hl (by decide) rfl (fun ls hl => ?_)
  refine lv_aload_n hx hb dX12_cheapest_2 rfl (lv_at hl 1 rfl) ?_
  refine lv_iconst (v := 0) hx hb dX12_cheapest_3 (by decide) ?_
  refine lv_iconst (v := 0) hx hb dX12_cheapest_4 (by decide) ?_
  refine lv_iconst (v := 0) hx hb dX12_cheapest_5 (by decide) ?_
  refine lv_iconst (v := 0) hx hb dX12_cheapest_6 (by decide) ?_
  refine g_lF (w1 := fun (u : (Nat → Int64) × (Nat → Int64)) => [cell22_ qm sm tm, cell5_ k qm sm, cell13_ k qm sm, cell8_ k qm sm, cell6_ k qm sm, cell14_ k qm sm, cell155_ k qm (u.1), cell156_ k qm (u.2), cell18_ k qm tm, cell17_ k qm tm, cell19_ k qm tm, cell21_ k qm tm, cell20_ k qm sm, cell16_ k qm sm, cell11_ k qm sm, cell10_ k qm sm, cell9_ k qm sm, cell7_ k qm sm]) (g_runVF (ws := [cell22_ qm sm tm, cell5_ k qm sm, cell13_ k qm sm, cell8_ k qm sm, cell6_ k qm sm, cell14_ k qm sm, cell15_ k qm tm, cell12_ k qm tm, cell18_ k qm tm, cell17_ k qm tm, cell19_ k qm tm, cell21_ k qm tm, cell20_ k qm sm, cell16_ k qm sm, cell11_ k qm sm, cell10_ k qm sm, cell9_ k qm sm, cell7_ k qm sm]) (rest := []) cx hP hD hS [.int 0, .int 0, .int 0, .int 0] (c_X12_layMean l D k b qm sm tm H.size 0 0 0 0 (show 0 ≤ ((sm 2) 0).toInt ∧ ((sm 2) 0).toInt ≤ 5 from by first | decide | omega) (show 0 ≤ ((sm 2) 1).toInt ∧ ((sm 2) 1).toInt ≤ 4 from by first | decide | omega) (show 0 ≤ (0 : Int32).toInt ∧ (0 : Int32).toInt ≤ 2 from by first | decide | omega) (show 0 ≤ (0 : Int32).toInt ∧ (0 : Int32).toInt ≤ 4 from by first | decide | omega) (show 0 ≤ (0 : Int32).toInt ∧ (0 : Int32).toInt ≤ 999 from by first | decide | omega)) gX12_cheapest_X12_layMean rfl rfl rfl nd_X12_layMean ⟨Nat.le_of_ble_eq_true rfl, Nat.le_of_ble_eq_true rfl⟩ (ci := 10) (q0 := 0) rfl rfl rfl hl.1 rfl (Nat.le_of_ble_eq_true rfl) ⟨Nat.zero_le _, Nat.zero_le _⟩ dX12_cheapest_7) cx.2.2.1 hD hS (fun r3 u2 H locs hw1 hP hD hS => ?_)
  obtain ⟨m4, m5⟩ := u2
  have hP : va_P D vwCl [cell22_ qm sm tm, cell5_ k qm sm, cell13_ k qm sm, cell8_ k qm sm, cell6_ k qm sm, cell14_ k qm sm, (qm 6, .inl (k 1, 1000, .inr (.inl m4))), (qm 7, .inl (k 1, 1000, .inr (.inl m5))), cell18_ k qm tm, cell17_ k qm tm, cell19_ k qm tm, cell21_ k qm tm, cell20_ k qm sm, cell16_ k qm sm, cell11_ k qm sm, cell10_ k qm sm, cell9_ k qm sm, cell7_ k qm sm] H := hP
  have hD : va_D A [cell22_ qm sm tm, cell5_ k qm sm, cell13_ k qm sm, cell8_ k qm sm, cell6_ k qm sm, cell14_ k qm sm, (qm 6, .inl (k 1, 1000, .inr (.inl m4))), (qm 7, .inl (k 1, 1000, .inr (.inl m5))), cell18_ k qm tm, cell17_ k qm tm, cell19_ k qm tm, cell21_ k qm tm, cell20_ k qm sm, cell16_ k qm sm, cell11_ k qm sm, cell10_ k qm sm, cell9_ k qm sm, cell7_ k qm sm] := hD
  refine lv_lstore_n (lv' := [(2, .long r3), (1, .int 0), (0, .ref (qm 0))]) hx hb dX12_cheapest_10 rfl hl (by decide) rfl (fun ls hl => ?_)
  refine lv_iconst (v := 1) hx hb dX12_cheapest_11 (by decide) ?_
  refine lv_istore (lv' := [(4, .int 1), (2, .long r3), (1, .int 0), (0, .ref (qm 0))]) hx hb dX12_cheapest_12 hl (by decide) rfl (fun ls hl => ?_)
  have hL14 : ∀ (n19 : Nat) (v14 : Int32) (v15 : Int64) (v16 : Int32) (g17 : Nat → Int64) (g18 : Nat → Int64) (H : Heap) (locs : List Loc) (ls : Array Slot), 3 - v14.toInt < (n19 : Int) → (1 ≤ v14.toInt ∧ v14.toInt ≤ 3) → va_P D vwCl [cell22_ qm sm tm, cell5_ k qm sm, cell13_ k qm sm, cell8_ k qm sm, cell6_ k qm sm, cell14_ k qm sm, (qm 6, .inl (k 1, 1000, .inr (.inl g17))), (qm 7, .inl (k 1, 1000, .inr (.inl g18))), cell18_ k qm tm, cell17_ k qm tm, cell19_ k qm tm, cell21_ k qm tm, cell20_ k qm sm, cell16_ k qm sm, cell11_ k qm sm, cell10_ k qm sm, cell9_ k qm sm, cell7_ k qm sm] H → va_D A [cell22_ qm sm tm, cell5_ k qm sm, cell13_ k qm sm, cell8_ k qm sm, cell6_ k qm sm, cell14_ k qm sm, (qm 6, .inl (k 1, 1000, .inr (.inl g17))), (qm 7, .inl (k 1, 1000, .inr (.inl g18))), cell18_ k qm tm, cell17_ k qm tm, cell19_ k qm tm, cell21_ k qm tm, cell20_ k qm sm, cell16_ k qm sm, cell11_ k qm sm, cell10_ k qm sm, cell9_ k qm sm, cell7_ k qm sm] → va_S A s.heap H locs → lv_has ls 7 [(4, .int v14), (2, .long v15), (1, .int v16), (0, .ref (qm 0))] → W p l e ({ frames := 5, cells := 0, slots := 0, locals := 127 } : Room) s m ([.ref (qm 0)] : List Value).toArray below meth c H locs 0 0 Q (F0 m 14 ls []) := by
    intro n19
    induction n19 with
    | zero => intro v14 v15 v16 g17 g18 H locs ls hmn19 bv14 hP hD hS hl; exact absurd hmn19 (by omega)
    | succ n19 ih14 =>
      intro v14 v15 v16 g17 g18 H locs ls hmn19 bv14 hP hD hS hl
      refine lv_iload hx hb dX12_cheapest_14 (lv_at hl 0 rfl) ?_
      refine lv_iconst (v := 3) hx hb dX12_cheapest_16 (by decide) ?_
      refine lv_icmp_ge (tgt := 65) hx hb dX12_cheapest_17 (by decide) (fun c20 => ?_) (fun c20 => ?_)
      · have f20 : 3 ≤ v14.toInt := f_le (by decide) rfl c20
        refine lv_iload_n hx hb dX12_cheapest_65 rfl (lv_at hl 2 rfl) ?_
        rw [hQ]
        exact x_i cx hr (g17, g18) hP hD hS trivial dX12_cheapest_66
      · have f20 : v14.toInt < 3 := f_nle (by decide) rfl c20
        refine lv_aload_n hx hb dX12_cheapest_20 rfl (lv_at hl 3 rfl) ?_
        refine lv_iload hx hb dX12_cheapest_21 (lv_at hl 0 rfl) ?_
        refine lv_iconst (v := 0) hx hb dX12_cheapest_23 (by decide) ?_
        refine lv_iconst (v := 0) hx hb dX12_cheapest_24 (by decide) ?_
        refine lv_iconst (v := 0) hx hb dX12_cheapest_25 (by decide) ?_
        refine g_lF (w1 := fun (u : (Nat → Int64) × (Nat → Int64)) => [cell22_ qm sm tm, cell5_ k qm sm, cell13_ k qm sm, cell8_ k qm sm, cell6_ k qm sm, cell14_ k qm sm, cell155_ k qm (u.1), cell156_ k qm (u.2), cell18_ k qm tm, cell17_ k qm tm, cell19_ k qm tm, cell21_ k qm tm, cell20_ k qm sm, cell16_ k qm sm, cell11_ k qm sm, cell10_ k qm sm, cell9_ k qm sm, cell7_ k qm sm]) (g_runVF (ws := [cell22_ qm sm tm, cell5_ k qm sm, cell13_ k qm sm, cell8_ k qm sm, cell6_ k qm sm, cell14_ k qm sm, (qm 6, .inl (k 1, 1000, .inr (.inl g17))), (qm 7, .inl (k 1, 1000, .inr (.inl g18))), cell18_ k qm tm, cell17_ k qm tm, cell19_ k qm tm, cell21_ k qm tm, cell20_ k qm sm, cell16_ k qm sm, cell11_ k qm sm, cell10_ k qm sm, cell9_ k qm sm, cell7_ k qm sm]) (rest := []) cx hP hD hS [.int v14, .int 0, .int 0, .int 0] (c_X12_layMean l D k b qm sm (up2L (up2L tm 6 g17) 7 g18) H.size v14 0 0 0 (show 0 ≤ ((sm 2) 0).toInt ∧ ((sm 2) 0).toInt ≤ 5 from by first | decide | omega) (show 0 ≤ ((sm 2) 1).toInt ∧ ((sm 2) 1).toInt ≤ 4 from by first | decide | omega) (show 0 ≤ v14.toInt ∧ v14.toInt ≤ 2 from by first | decide | omega) (show 0 ≤ (0 : Int32).toInt ∧ (0 : Int32).toInt ≤ 4 from by first | decide | omega) (show 0 ≤ (0 : Int32).toInt ∧ (0 : Int32).toInt ≤ 999 from by first | decide | omega)) gX12_cheapest_X12_layMean rfl rfl rfl nd_X12_layMean ⟨Nat.le_of_ble_eq_true rfl, Nat.le_of_ble_eq_true rfl⟩ (ci := 10) (q0 := 0) rfl rfl rfl hl.1 rfl (Nat.le_of_ble_eq_true rfl) ⟨Nat.zero_le _, Nat.zero_le _⟩ dX12_cheapest_26) cx.2.2.1 hD hS (fun r23 u22 H locs hw21 hP hD hS => ?_)
        obtain ⟨m24, m25⟩ := u22
        have hP : va_P D vwCl [cell22_ qm sm tm, cell5_ k qm sm, cell13_ k qm sm, cell8_ k qm sm, cell6_ k qm sm, cell14_ k qm sm, (qm 6, .inl (k 1, 1000, .inr (.inl m24))), (qm 7, .inl (k 1, 1000, .inr (.inl m25))), cell18_ k qm tm, cell17_ k qm tm, cell19_ k qm tm, cell21_ k qm tm, cell20_ k qm sm, cell16_ k qm sm, cell11_ k qm sm, cell10_ k qm sm, cell9_ k qm sm, cell7_ k qm sm] H := hP
        have hD : va_D A [cell22_ qm sm tm, cell5_ k qm sm, cell13_ k qm sm, cell8_ k qm sm, cell6_ k qm sm, cell14_ k qm sm, (qm 6, .inl (k 1, 1000, .inr (.inl m24))), (qm 7, .inl (k 1, 1000, .inr (.inl m25))), cell18_ k qm tm, cell17_ k qm tm, cell19_ k qm tm, cell21_ k qm tm, cell20_ k qm sm, cell16_ k qm sm, cell11_ k qm sm, cell10_ k qm sm, cell9_ k qm sm, cell7_ k qm sm] := hD
        refine lv_lstore (lv' := [(5, .long r23), (4, .int v14), (2, .long v15), (1, .int v16), (0, .ref (qm 0))]) hx hb dX12_cheapest_29 hl (by decide) rfl (fun ls hl => ?_)
        refine lv_lload hx hb dX12_cheapest_31 (lv_at hl 0 rfl) ?_
        refine lv_lload_n hx hb dX12_cheapest_33 rfl (lv_at hl 2 rfl) ?_
        refine W.lcmp hx hb dX12_cheapest_34 (lv_topi (fun v26 e26 => ?_))
        have hJ44 : ∀ (v27 : Int32) (H : Heap) (locs : List Loc) (ls : Array Slot), va_P D vwCl [cell22_ qm sm tm, cell5_ k qm sm, cell13_ k qm sm, cell8_ k qm sm, cell6_ k qm sm, cell14_ k qm sm, (qm 6, .inl (k 1, 1000, .inr (.inl m24))), (qm 7, .inl (k 1, 1000, .inr (.inl m25))), cell18_ k qm tm, cell17_ k qm tm, cell19_ k qm tm, cell21_ k qm tm, cell20_ k qm sm, cell16_ k qm sm, cell11_ k qm sm, cell10_ k qm sm, cell9_ k qm sm, cell7_ k qm sm] H → va_D A [cell22_ qm sm tm, cell5_ k qm sm, cell13_ k qm sm, cell8_ k qm sm, cell6_ k qm sm, cell14_ k qm sm, (qm 6, .inl (k 1, 1000, .inr (.inl m24))), (qm 7, .inl (k 1, 1000, .inr (.inl m25))), cell18_ k qm tm, cell17_ k qm tm, cell19_ k qm tm, cell21_ k qm tm, cell20_ k qm sm, cell16_ k qm sm, cell11_ k qm sm, cell10_ k qm sm, cell9_ k qm sm, cell7_ k qm sm] → va_S A s.heap H locs → lv_has ls 7 [(5, .long r23), (4, .int v14), (2, .long v15), (0, .ref (qm 0))] → W p l e ({ frames := 5, cells := 0, slots := 0, locals := 127 } : Room) s m ([.ref (qm 0)] : List Value).toArray below meth c H locs 0 0 Q (F0 m 44 ls [.int v27]) := by
          intro v27 H locs ls  hP hD hS hl
          refine lv_istore_n (lv' := [(1, .int v27), (5, .long r23), (4, .int v14), (2, .long v15), (0, .ref (qm 0))]) hx hb dX12_cheapest_44 rfl hl (by decide) rfl (fun ls hl => ?_)
          refine lv_lload hx hb dX12_cheapest_45 (lv_at hl 1 rfl) ?_
          refine lv_lload_n hx hb dX12_cheapest_47 rfl (lv_at hl 3 rfl) ?_
          refine W.lcmp hx hb dX12_cheapest_48 (lv_topi (fun v28 e28 => ?_))
          have hJ58 : ∀ (v29 : Int64) (H : Heap) (locs : List Loc) (ls : Array Slot), va_P D vwCl [cell22_ qm sm tm, cell5_ k qm sm, cell13_ k qm sm, cell8_ k qm sm, cell6_ k qm sm, cell14_ k qm sm, (qm 6, .inl (k 1, 1000, .inr (.inl m24))), (qm 7, .inl (k 1, 1000, .inr (.inl m25))), cell18_ k qm tm, cell17_ k qm tm, cell19_ k qm tm, cell21_ k qm tm, cell20_ k qm sm, cell16_ k qm sm, cell11_ k qm sm, cell10_ k qm sm, cell9_ k qm sm, cell7_ k qm sm] H → va_D A [cell22_ qm sm tm, cell5_ k qm sm, cell13_ k qm sm, cell8_ k qm sm, cell6_ k qm sm, cell14_ k qm sm, (qm 6, .inl (k 1, 1000, .inr (.inl m24))), (qm 7, .inl (k 1, 1000, .inr (.inl m25))), cell18_ k qm tm, cell17_ k qm tm, cell19_ k qm tm, cell21_ k qm tm, cell20_ k qm sm, cell16_ k qm sm, cell11_ k qm sm, cell10_ k qm sm, cell9_ k qm sm, cell7_ k qm sm] → va_S A s.heap H locs → lv_has ls 7 [(1, .int v27), (4, .int v14), (0, .ref (qm 0))] → W p l e ({ frames := 5, cells := 0, slots := 0, locals := 127 } : Room) s m ([.ref (qm 0)] : List Value).toArray below meth c H locs 0 0 Q (F0 m 58 ls [.long v29]) := by
            intro v29 H locs ls  hP hD hS hl
            refine lv_lstore_n (lv' := [(2, .long v29), (1, .int v27), (4, .int v14), (0, .ref (qm 0))]) hx hb dX12_cheapest_58 rfl hl (by decide) rfl (fun ls hl => ?_)
            obtain ⟨v30, e30⟩ : ∃ z : Int32, z = v14 + 1 := ⟨_, rfl⟩
            refine lv_iinc (v := v30) (lv' := [(4, .int v30), (2, .long v29), (1, .int v27), (0, .ref (qm 0))]) hx hb dX12_cheapest_59 hl (k := 2) rfl (by rw [e30]; rfl) (by decide) rfl (fun ls hl => ?_)
            have t30 : v30.toInt = v14.toInt + 1 := by rw [e30]; exact i_add rfl (by decide) (by omega) (by omega)
            refine lv_goto (tgt := 14) hx hb dX12_cheapest_62 (by decide) ?_
            exact ih14 v30 v29 v27 m24 m25 _ _ _ (by omega) (by first | decide | omega) hP hD hS (lv_sub hl [0, 1, 2, 3] rfl)
          refine lv_if_ge (tgt := 57) hx hb dX12_cheapest_49 (by decide) (fun c31 => ?_) (fun c31 => ?_)
          · have f31 : 0 ≤ v28.toInt := f_le (by decide) rfl c31
            refine lv_lload_n hx hb dX12_cheapest_57 rfl (lv_at hl 3 rfl) ?_
            exact hJ58 v15 _ _ _  hP hD hS (lv_sub hl [0, 2, 4] rfl)
          · have f31 : v28.toInt < 0 := f_nle (by decide) rfl c31
            refine lv_lload hx hb dX12_cheapest_52 (lv_at hl 1 rfl) ?_
            refine lv_goto (tgt := 58) hx hb dX12_cheapest_54 (by decide) ?_
            exact hJ58 r23 _ _ _  hP hD hS (lv_sub hl [0, 2, 4] rfl)
        refine lv_if_ge (tgt := 43) hx hb dX12_cheapest_35 (by decide) (fun c32 => ?_) (fun c32 => ?_)
        · have f32 : 0 ≤ v26.toInt := f_le (by decide) rfl c32
          refine lv_iload_n hx hb dX12_cheapest_43 rfl (lv_at hl 3 rfl) ?_
          exact hJ44 v16 _ _ _  hP hD hS (lv_sub hl [0, 1, 2, 4] rfl)
        · have f32 : v26.toInt < 0 := f_nle (by decide) rfl c32
          refine lv_iload hx hb dX12_cheapest_38 (lv_at hl 1 rfl) ?_
          refine lv_goto (tgt := 44) hx hb dX12_cheapest_40 (by decide) ?_
          exact hJ44 v14 _ _ _  hP hD hS (lv_sub hl [0, 1, 2, 4] rfl)
  have hlit33 : (1 : Int32).toInt = 1 := by decide
  have hlit34 : (0 : Int32).toInt = 0 := by decide
  exact hL14 (Int.toNat (3 - 1) + 1) 1 r3 0 m4 m5 _ _ _ (by omega) (by first | decide | omega) hP hD hS (lv_sub hl [0, 1, 2, 3] rfl)

