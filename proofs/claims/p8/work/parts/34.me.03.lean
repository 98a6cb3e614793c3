theorem fw_X12_layLikely_32 : Cond.fieldLink RX12 32 "StillInAugustModel" "likely" "[J" ∈ wsX12_layLikely := by decide +kernel
theorem fw_X12_layLikely_35 : Cond.fieldLink RX12 35 "StillInAugustModel" "thenLikely" "[J" ∈ wsX12_layLikely := by decide +kernel
theorem iw_X12_layLikely_X12 : ∀ w ∈ u_ws RX12 TX12 33, w ∈ wsX12_layLikely := fun _ h => List.mem_cons_of_mem _ (List.mem_append_right _ h)
set_option maxHeartbeats 4000000 in
set_option maxRecDepth 100000 in
theorem c_X12_layLikely (l : Launch) (D : va_G) (k : Nat → ClassId) (b : Nat → Nat) (qm : Nat → Nat) (sm : Nat → Nat → Int32) (tm : Nat → Nat → Int64) (sz : Nat) (p0 : Int32) (p1 : Int32) (h_w0 : 0 ≤ (sm 2 0).toInt ∧ (sm 2 0).toInt ≤ 5) (h_k1 : 0 ≤ (sm 2 1).toInt ∧ (sm 2 1).toInt ≤ 4) (hp0 : 0 ≤ p0.toInt ∧ p0.toInt ≤ 2) (hp1 : 0 ≤ p1.toInt ∧ p1.toInt ≤ 5) : MetV l D k b yX12_layLikely wsX12_layLikely ({ frames := 3, cells := 0, slots := 0, locals := 75 } : Room) [cell22_ qm sm tm, cell5_ k qm sm, cell13_ k qm sm, cell8_ k qm sm, cell6_ k qm sm, cell14_ k qm sm, cell15_ k qm tm, cell12_ k qm tm, cell18_ k qm tm, cell17_ k qm tm, cell19_ k qm tm, cell21_ k qm tm, cell20_ k qm sm, cell16_ k qm sm, cell11_ k qm sm, cell10_ k qm sm, cell9_ k qm sm, cell7_ k qm sm] sz [.ref (qm 0), .int p0, .int p1] (fun (u : (Nat → Int64) × (Nat → Int64)) => True) (fun u => [cell22_ qm sm tm, cell5_ k qm sm, cell13_ k qm sm, cell8_ k qm sm, cell6_ k qm sm, cell14_ k qm sm, cell15_ k qm tm, cell12_ k qm tm, cell147_ k qm (u.1), cell148_ k qm (u.2), cell19_ k qm tm, cell21_ k qm tm, cell20_ k qm sm, cell16_ k qm sm, cell11_ k qm sm, cell10_ k qm sm, cell9_ k qm sm, cell7_ k qm sm]) := by
  refine g_enter (cc := cX12_layLikely) (maxL := 7) (ret := none) (by decide) rfl (Nat.le_of_ble_eq_true rfl) ?_
  intro p e s m below meth c A hsz hAe cx hr hP hD hS ls hl
  rw [hAe]
  refine g_q (fun Q hQ => ?_)
  have hx := cx.1.1
  have hb := cx.1.2.1
  have bp0 := i_rng p0
  have bp1 := i_rng p1
  have hl : lv_has ls 7 [(0, .ref (qm 0)), (1, .int p0), (2, .int p1)] := hl
  obtain ⟨H, eH⟩ : ∃ H : Heap, H = s.heap := ⟨_, rfl⟩
  obtain ⟨locs, el⟩ : ∃ L : List Loc, L = [] := ⟨_, rfl⟩
  have hP : va_P D vwCl [cell22_ qm sm tm, cell5_ k qm sm, cell13_ k qm sm, cell8_ k qm sm, cell6_ k qm sm, cell14_ k qm sm, cell15_ k qm tm, cell12_ k qm tm, cell18_ k qm tm, cell17_ k qm tm, cell19_ k qm tm, cell21_ k qm tm, cell20_ k qm sm, cell16_ k qm sm, cell11_ k qm sm, cell10_ k qm sm, cell9_ k qm sm, cell7_ k qm sm] H := by rw [eH]; exact hP
  have hD : va_D A [cell22_ qm sm tm, cell5_ k qm sm, cell13_ k qm sm, cell8_ k qm sm, cell6_ k qm sm, cell14_ k qm sm, cell15_ k qm tm, cell12_ k qm tm, cell18_ k qm tm, cell17_ k qm tm, cell19_ k qm tm, cell21_ k qm tm, cell20_ k qm sm, cell16_ k qm sm, cell11_ k qm sm, cell10_ k qm sm, cell9_ k qm sm, cell7_ k qm sm] := hD
  have hS : va_S A s.heap H locs := by rw [eH, el]; exact hS
  suffices goal : W p l e ({ frames := 3, cells := 0, slots := 0, locals := 75 } : Room) s m ([.ref (qm 0), .int p0, .int p1] : List Value).toArray below meth c H locs 0 0 Q (F0 m 0 ls []) by rw [eH, el] at goal; exact goal
  refine lv_iconst (v := 0) hx hb dX12_layLikely_0 (by decide) ?_
  refine lv_istore_n (lv' := [(3, .int 0), (0, .ref (qm 0)), (1, .int p0), (2, .int p1)]) hx hb dX12_layLikely_1 rfl hl (by decide) rfl (fun ls hl => ?_)
  have hL2 : ∀ (n6 : Nat) (v4 : Int32) (g5 : Nat → Int64) (H : Heap) (locs : List Loc) (ls : Array Slot), 50 - v4.toInt < (n6 : Int) → (0 ≤ v4.toInt ∧ v4.toInt ≤ 50) → va_P D vwCl [cell22_ qm sm tm, cell5_ k qm sm, cell13_ k qm sm, cell8_ k qm sm, cell6_ k qm sm, cell14_ k qm sm, cell15_ k qm tm, cell12_ k qm tm, (qm 8, .inl (k 1, 50, .inr (.inl g5))), cell17_ k qm tm, cell19_ k qm tm, cell21_ k qm tm, cell20_ k qm sm, cell16_ k qm sm, cell11_ k qm sm, cell10_ k qm sm, cell9_ k qm sm, cell7_ k qm sm] H → va_D A [cell22_ qm sm tm, cell5_ k qm sm, cell13_ k qm sm, cell8_ k qm sm, cell6_ k qm sm, cell14_ k qm sm, cell15_ k qm tm, cell12_ k qm tm, (qm 8, .inl (k 1, 50, .inr (.inl g5))), cell17_ k qm tm, cell19_ k qm tm, cell21_ k qm tm, cell20_ k qm sm, cell16_ k qm sm, cell11_ k qm sm, cell10_ k qm sm, cell9_ k qm sm, cell7_ k qm sm] → va_S A s.heap H locs → lv_has ls 7 [(3, .int v4), (0, .ref (qm 0)), (1, .int p0), (2, .int p1)] → W p l e ({ frames := 3, cells := 0, slots := 0, locals := 75 } : Room) s m ([.ref (qm 0), .int p0, .int p1] : List Value).toArray below meth c H locs 0 0 Q (F0 m 2 ls []) := by
    intro n6
    induction n6 with
    | zero => intro v4 g5 H locs ls hmn6 bv4 hP hD hS hl; exact absurd hmn6 (by omega)
    | succ n6 ih2 =>
      intro v4 g5 H locs ls hmn6 bv4 hP hD hS hl
      refine lv_iload_n hx hb dX12_layLikely_2 rfl (lv_at hl 0 rfl) ?_
      refine lv_bipush (v := 50) hx hb dX12_layLikely_3 (by decide) ?_
      refine lv_icmp_ge (tgt := 29) hx hb dX12_layLikely_5 (by decide) (fun c7 => ?_) (fun c7 => ?_)
      · have f7 : 50 ≤ v4.toInt := f_le (by decide) rfl c7
        refine lv_iconst (v := 0) hx hb dX12_layLikely_29 (by decide) ?_
        refine lv_istore_n (lv' := [(3, .int 0), (0, .ref (qm 0)), (1, .int p0), (2, .int p1)]) hx hb dX12_layLikely_30 rfl hl (by decide) rfl (fun ls hl => ?_)
        have hL31 : ∀ (n53 : Nat) (v50 : Int32) (g51 : Nat → Int64) (g52 : Nat → Int64) (H : Heap) (locs : List Loc) (ls : Array Slot), 5 - v50.toInt < (n53 : Int) → (0 ≤ v50.toInt ∧ v50.toInt ≤ 5) → va_P D vwCl [cell22_ qm sm tm, cell5_ k qm sm, cell13_ k qm sm, cell8_ k qm sm, cell6_ k qm sm, cell14_ k qm sm, cell15_ k qm tm, cell12_ k qm tm, (qm 8, .inl (k 1, 50, .inr (.inl g51))), (qm 9, .inl (k 1, 50, .inr (.inl g52))), cell19_ k qm tm, cell21_ k qm tm, cell20_ k qm sm, cell16_ k qm sm, cell11_ k qm sm, cell10_ k qm sm, cell9_ k qm sm, cell7_ k qm sm] H → va_D A [cell22_ qm sm tm, cell5_ k qm sm, cell13_ k qm sm, cell8_ k qm sm, cell6_ k qm sm, cell14_ k qm sm, cell15_ k qm tm, cell12_ k qm tm, (qm 8, .inl (k 1, 50, .inr (.inl g51))), (qm 9, .inl (k 1, 50, .inr (.inl g52))), cell19_ k qm tm, cell21_ k qm tm, cell20_ k qm sm, cell16_ k qm sm, cell11_ k qm sm, cell10_ k qm sm, cell9_ k qm sm, cell7_ k qm sm] → va_S A s.heap H locs → lv_has ls 7 [(3, .int v50), (0, .ref (qm 0)), (1, .int p0), (2, .int p1)] → W p l e ({ frames := 3, cells := 0, slots := 0, locals := 75 } : Room) s m ([.ref (qm 0), .int p0, .int p1] : List Value).toArray below meth c H locs 0 0 Q (F0 m 31 ls []) := by
          intro n53
          induction n53 with
          | zero => intro v50 g51 g52 H locs ls hmn53 bv50 hP hD hS hl; exact absurd hmn53 (by omega)
          | succ n53 ih31 =>
            intro v50 g51 g52 H locs ls hmn53 bv50 hP hD hS hl
            refine lv_iload_n hx hb dX12_layLikely_31 rfl (lv_at hl 0 rfl) ?_
            refine lv_iload_n hx hb dX12_layLikely_32 rfl (lv_at hl 3 rfl) ?_
            refine lv_icmp_ge (tgt := 197) hx hb dX12_layLikely_33 (by decide) (fun c54 => ?_) (fun c54 => ?_)
            · have f54 : p1.toInt ≤ v50.toInt := f_le rfl rfl c54
              rw [hQ]
              exact x_v cx hr (g51, g52) hP hD hS trivial dX12_layLikely_197
            · have f54 : v50.toInt < p1.toInt := f_nle rfl rfl c54
              refine lv_iconst (v := 0) hx hb dX12_layLikely_36 (by decide) ?_
              refine lv_istore (lv' := [(4, .int 0), (3, .int v50), (0, .ref (qm 0)), (1, .int p0), (2, .int p1)]) hx hb dX12_layLikely_37 hl (by decide) rfl (fun ls hl => ?_)
              have hL39 : ∀ (n60 : Nat) (v58 : Int32) (g59 : Nat → Int64) (H : Heap) (locs : List Loc) (ls : Array Slot), 50 - v58.toInt < (n60 : Int) → (0 ≤ v58.toInt ∧ v58.toInt ≤ 50) → va_P D vwCl [cell22_ qm sm tm, cell5_ k qm sm, cell13_ k qm sm, cell8_ k qm sm, cell6_ k qm sm, cell14_ k qm sm, cell15_ k qm tm, cell12_ k qm tm, (qm 8, .inl (k 1, 50, .inr (.inl g51))), (qm 9, .inl (k 1, 50, .inr (.inl g59))), cell19_ k qm tm, cell21_ k qm tm, cell20_ k qm sm, cell16_ k qm sm, cell11_ k qm sm, cell10_ k qm sm, cell9_ k qm sm, cell7_ k qm sm] H → va_D A [cell22_ qm sm tm, cell5_ k qm sm, cell13_ k qm sm, cell8_ k qm sm, cell6_ k qm sm, cell14_ k qm sm, cell15_ k qm tm, cell12_ k qm tm, (qm 8, .inl (k 1, 50, .inr (.inl g51))), (qm 9, .inl (k 1, 50, .inr (.inl g59))), cell19_ k qm tm, cell21_ k qm tm, cell20_ k qm sm, cell16_ k qm sm, cell11_ k qm sm, cell10_ k qm sm, cell9_ k qm sm, cell7_ k qm sm] → va_S A s.heap H locs → lv_has ls 7 [(4, .int v58), (3, .int v50), (0, .ref (qm 0)), (1, .int p0), (2, .int p1)] → W p l e ({ frames := 3, cells := 0, slots := 0, locals := 75 } : Room) s m ([.ref (qm 0), .int p0, .int p1] : List Value).toArray below meth c H locs 0 0 Q (F0 m 39 ls []) := by
                intro n60
                induction n60 with
                | zero => intro v58 g59 H locs ls hmn60 bv58 hP hD hS hl; exact absurd hmn60 (by omega)
                | succ n60 ih39 =>
                  intro v58 g59 H locs ls hmn60 bv58 hP hD hS hl
                  refine lv_iload hx hb dX12_layLikely_39 (lv_at hl 0 rfl) ?_
                  refine lv_bipush (v := 50) hx hb dX12_layLikely_41 (by decide) ?_
                  refine lv_icmp_ge (tgt := 60) hx hb dX12_layLikely_43 (by decide) (fun c61 => ?_) (fun c61 => ?_)
                  · have f61 : 50 ≤ v58.toInt := f_le (by decide) rfl c61
                    refine lv_iconst (v := 0) hx hb dX12_layLikely_60 (by decide) ?_
                    refine lv_istore (lv' := [(4, .int 0), (3, .int v50), (0, .ref (qm 0)), (1, .int p0), (2, .int p1)]) hx hb dX12_layLikely_61 hl (by decide) rfl (fun ls hl => ?_)
                    have hL63 : ∀ (n97 : Nat) (v95 : Int32) (g96 : Nat → Int64) (H : Heap) (locs : List Loc) (ls : Array Slot), 50 - v95.toInt < (n97 : Int) → (0 ≤ v95.toInt ∧ v95.toInt ≤ 50) → va_P D vwCl [cell22_ qm sm tm, cell5_ k qm sm, cell13_ k qm sm, cell8_ k qm sm, cell6_ k qm sm, cell14_ k qm sm, cell15_ k qm tm, cell12_ k qm tm, (qm 8, .inl (k 1, 50, .inr (.inl g51))), (qm 9, .inl (k 1, 50, .inr (.inl g96))), cell19_ k qm tm, cell21_ k qm tm, cell20_ k qm sm, cell16_ k qm sm, cell11_ k qm sm, cell10_ k qm sm, cell9_ k qm sm, cell7_ k qm sm] H → va_D A [cell22_ qm sm tm, cell5_ k qm sm, cell13_ k qm sm, cell8_ k qm sm, cell6_ k qm sm, cell14_ k qm sm, cell15_ k qm tm, cell12_ k qm tm, (qm 8, .inl (k 1, 50, .inr (.inl g51))), (qm 9, .inl (k 1, 50, .inr (.inl g96))), cell19_ k qm tm, cell21_ k qm tm, cell20_ k qm sm, cell16_ k qm sm, cell11_ k qm sm, cell10_ k qm sm, cell9_ k qm sm, cell7_ k qm sm] → va_S A s.heap H locs → lv_has ls 7 [(4, .int v95), (3, .int v50), (0, .ref (qm 0)), (1, .int p0), (2, .int p1)] → W p l e ({ frames := 3, cells := 0, slots := 0, locals := 75 } : Room) s m ([.ref (qm 0), .int p0, .int p1] : List Value).toArray below meth c H locs 0 0 Q (F0 m 63 ls []) := by
                      intro n97
                      induction n97 with
                      | zero => intro v95 g96 H locs ls hmn97 bv95 hP hD hS hl; exact absurd hmn97 (by omega)
                      | succ n97 ih63 =>
                        intro v95 g96 H locs ls hmn97 bv95 hP hD hS hl
                        refine lv_iload hx hb dX12_layLikely_63 (lv_at hl 0 rfl) ?_
                        refine lv_bipush (v := 50) hx hb dX12_layLikely_65 (by decide) ?_
                        refine lv_icmp_ge (tgt := 161) hx hb dX12_layLikely_67 (by decide) (fun c98 => ?_) (fun c98 => ?_)
                        · have f98 : 50 ≤ v95.toInt := f_le (by decide) rfl c98
                          refine lv_iconst (v := 0) hx hb dX12_layLikely_161 (by decide) ?_
                          refine lv_istore (lv' := [(4, .int 0), (3, .int v50), (0, .ref (qm 0)), (1, .int p0), (2, .int p1)]) hx hb dX12_layLikely_162 hl (by decide) rfl (fun ls hl => ?_)
                          have hL164 : ∀ (n106 : Nat) (v104 : Int32) (g105 : Nat → Int64) (H : Heap) (locs : List Loc) (ls : Array Slot), 50 - v104.toInt < (n106 : Int) → (0 ≤ v104.toInt ∧ v104.toInt ≤ 50) → va_P D vwCl [cell22_ qm sm tm, cell5_ k qm sm, cell13_ k qm sm, cell8_ k qm sm, cell6_ k qm sm, cell14_ k qm sm, cell15_ k qm tm, cell12_ k qm tm, (qm 8, .inl (k 1, 50, .inr (.inl g105))), (qm 9, .inl (k 1, 50, .inr (.inl g96))), cell19_ k qm tm, cell21_ k qm tm, cell20_ k qm sm, cell16_ k qm sm, cell11_ k qm sm, cell10_ k qm sm, cell9_ k qm sm, cell7_ k qm sm] H → va_D A [cell22_ qm sm tm, cell5_ k qm sm, cell13_ k qm sm, cell8_ k qm sm, cell6_ k qm sm, cell14_ k qm sm, cell15_ k qm tm, cell12_ k qm tm, (qm 8, .inl (k 1, 50, .inr (.inl g105))), (qm 9, .inl (k 1, 50, .inr (.inl g96))), cell19_ k qm tm, cell21_ k qm tm, cell20_ k qm sm, cell16_ k qm sm, cell11_ k qm sm, cell10_ k qm sm, cell9_ k qm sm, cell7_ k qm sm] → va_S A s.heap H locs → lv_has ls 7 [(4, .int v104), (3, .int v50), (0, .ref (qm 0)), (1, .int p0), (2, .int p1)] → W p l e ({ frames := 3, cells := 0, slots := 0, locals := 75 } : Room) s m ([.ref (qm 0), .int p0, .int p1] : List Value).toArray below meth c H locs 0 0 Q (F0 m 164 ls []) := by
                            intro n106
                            induction n106 with
                            | zero => intro v104 g105 H locs ls hmn106 bv104 hP hD hS hl; exact absurd hmn106 (by omega)
                            | succ n106 ih164 =>
                              intro v104 g105 H locs ls hmn106 bv104 hP hD hS hl
                              refine lv_iload hx hb dX12_layLikely_164 (lv_at hl 0 rfl) ?_
                              refine lv_bipush (v := 50) hx hb dX12_layLikely_166 (by decide) ?_
                              refine lv_icmp_ge (tgt := 191) hx hb dX12_layLikely_168 (by decide) (fun c107 => ?_) (fun c107 => ?_)
                              · have f107 : 50 ≤ v104.toInt := f_le (by decide) rfl c107
                                obtain ⟨v108, e108⟩ : ∃ z : Int32, z = v50 + 1 := ⟨_, rfl⟩
                                refine lv_iinc (v := v108) (lv' := [(3, .int v108), (4, .int v104), (0, .ref (qm 0)), (1, .int p0), (2, .int p1)]) hx hb dX12_layLikely_191 hl (k := 1) rfl (by rw [e108]; rfl) (by decide) rfl (fun ls hl => ?_)
                                have t108 : v108.toInt = v50.toInt + 1 := by rw [e108]; exact i_add rfl (by decide) (by omega) (by omega)
                                refine lv_goto (tgt := 31) hx hb dX12_layLikely_194 (by decide) ?_
                                exact ih31 v108 g105 g96 _ _ _ (by omega) (by first | decide | omega) hP hD hS (lv_sub hl [0, 2, 3, 4] rfl)
                              · have f107 : v104.toInt < 50 := f_nle (by decide) rfl c107
                                refine lv_aload_n hx hb dX12_layLikely_171 rfl (lv_at hl 2 rfl) ?_
                                refine g_get cx hP iw_X12_layLikely_X12 0 rfl rfl 16 (by decide) rfl fw_X12_layLikely_32 rfl dX12_layLikely_172 ?_
                                refine lv_iload hx hb dX12_layLikely_175 (lv_at hl 0 rfl) ?_
                                refine lv_aload_n hx hb dX12_layLikely_177 rfl (lv_at hl 2 rfl) ?_
                                refine g_get cx hP iw_X12_layLikely_X12 0 rfl rfl 17 (by decide) rfl fw_X12_layLikely_35 rfl dX12_layLikely_178 ?_
                                refine lv_iload hx hb dX12_layLikely_181 (lv_at hl 0 rfl) ?_
                                have hn109 : vp_in v104 50 := f_in (a := v104.toInt) rfl (by omega) (by omega)
                                refine va_lald hx hb cx.2.1 hP 9 1 rfl rfl hn109 dX12_layLikely_183 (lv_topl (fun v110 e110 => ?_))
                                have hn111 : vp_in v104 50 := f_in (a := v104.toInt) rfl (by omega) (by omega)
                                refine va_last hx hb cx.2.1 hP hD hS 8 1 rfl rfl hn111 dX12_layLikely_184 (fun H locs hP hD hS => ?_)
                                obtain ⟨g112, eg112⟩ : ∃ g : Nat → Int64, g = vp_updL g105 (v104).toNatClampNeg v110 := ⟨_, rfl⟩
                                rw [← eg112] at hP hD
                                have hP : va_P D vwCl [cell22_ qm sm tm, cell5_ k qm sm, cell13_ k qm sm, cell8_ k qm sm, cell6_ k qm sm, cell14_ k qm sm, cell15_ k qm tm, cell12_ k qm tm, (qm 8, .inl (k 1, 50, .inr (.inl g112))), (qm 9, .inl (k 1, 50, .inr (.inl g96))), cell19_ k qm tm, cell21_ k qm tm, cell20_ k qm sm, cell16_ k qm sm, cell11_ k qm sm, cell10_ k qm sm, cell9_ k qm sm, cell7_ k qm sm] H := hP
                                have hD : va_D A [cell22_ qm sm tm, cell5_ k qm sm, cell13_ k qm sm, cell8_ k qm sm, cell6_ k qm sm, cell14_ k qm sm, cell15_ k qm tm, cell12_ k qm tm, (qm 8, .inl (k 1, 50, .inr (.inl g112))), (qm 9, .inl (k 1, 50, .inr (.inl g96))), cell19_ k qm tm, cell21_ k qm tm, cell20_ k qm sm, cell16_ k qm sm, cell11_ k qm sm, cell10_ k qm sm, cell9_ k qm sm, cell7_ k qm sm] := hD
                                obtain ⟨v113, e113⟩ : ∃ z : Int32, z = v104 + 1 := ⟨_, rfl⟩
                                refine lv_iinc (v := v113) (lv' := [(4, .int v113), (3, .int v50), (0, .ref (qm 0)), (1, .int p0), (2, .int p1)]) hx hb dX12_layLikely_185 hl (k := 0) rfl (by rw [e113]; rfl) (by decide) rfl (fun ls hl => ?_)
                                have t113 : v113.toInt = v104.toInt + 1 := by rw [e113]; exact i_add rfl (by decide) (by omega) (by omega)
                                refine lv_goto (tgt := 164) hx hb dX12_layLikely_188 (by decide) ?_
                                exact ih164 v113 g112 _ _ _ (by omega) (by first | decide | omega) hP hD hS (lv_sub hl [0, 1, 2, 3, 4] rfl)
                          have hlit114 : (0 : Int32).toInt = 0 := by decide
                          exact hL164 (Int.toNat (50 - 0) + 1) 0 g51 _ _ _ (by omega) (by first | decide | omega) hP hD hS (lv_sub hl [0, 1, 2, 3, 4] rfl)
                        · have f98 : v95.toInt < 50 := f_nle (by decide) rfl c98
                          refine lv_aload_n hx hb dX12_layLikely_70 rfl (lv_at hl 2 rfl) ?_
                          refine g_get cx hP iw_X12_layLikely_X12 0 rfl rfl 16 (by decide) rfl fw_X12_layLikely_32 rfl dX12_layLikely_71 ?_
                          refine lv_iload hx hb dX12_layLikely_74 (lv_at hl 0 rfl) ?_
                          have hn115 : vp_in v95 50 := f_in (a := v95.toInt) rfl (by omega) (by omega)
                          refine va_lald hx hb cx.2.1 hP 8 1 rfl rfl hn115 dX12_layLikely_76 (lv_topl (fun v116 e116 => ?_))
                          refine lv_lconst (v := 0) hx hb dX12_layLikely_77 (by decide) ?_
                          refine W.lcmp hx hb dX12_layLikely_78 (lv_topi (fun v117 e117 => ?_))
                          have hJ155 : ∀ (g180 : Nat → Int64) (H : Heap) (locs : List Loc) (ls : Array Slot), va_P D vwCl [cell22_ qm sm tm, cell5_ k qm sm, cell13_ k qm sm, cell8_ k qm sm, cell6_ k qm sm, cell14_ k qm sm, cell15_ k qm tm, cell12_ k qm tm, (qm 8, .inl (k 1, 50, .inr (.inl g51))), (qm 9, .inl (k 1, 50, .inr (.inl g180))), cell19_ k qm tm, cell21_ k qm tm, cell20_ k qm sm, cell16_ k qm sm, cell11_ k qm sm, cell10_ k qm sm, cell9_ k qm sm, cell7_ k qm sm] H → va_D A [cell22_ qm sm tm, cell5_ k qm sm, cell13_ k qm sm, cell8_ k qm sm, cell6_ k qm sm, cell14_ k qm sm, cell15_ k qm tm, cell12_ k qm tm, (qm 8, .inl (k 1, 50, .inr (.inl g51))), (qm 9, .inl (k 1, 50, .inr (.inl g180))), cell19_ k qm tm, cell21_ k qm tm, cell20_ k qm sm, cell16_ k qm sm, cell11_ k qm sm, cell10_ k qm sm, cell9_ k qm sm, cell7_ k qm sm] → va_S A s.heap H locs → lv_has ls 7 [(4, .int v95), (3, .int v50), (0, .ref (qm 0)), (1, .int p0), (2, .int p1)] → W p l e ({ frames := 3, cells := 0, slots := 0, locals := 75 } : Room) s m ([.ref (qm 0), .int p0, .int p1] : List Value).toArray below meth c H locs 0 0 Q (F0 m 155 ls []) := by
                            intro g180 H locs ls  hP hD hS hl
                            obtain ⟨v181, e181⟩ : ∃ z : Int32, z = v95 + 1 := ⟨_, rfl⟩
                            refine lv_iinc (v := v181) (lv' := [(4, .int v181), (3, .int v50), (0, .ref (qm 0)), (1, .int p0), (2, .int p1)]) hx hb dX12_layLikely_155 hl (k := 0) rfl (by rw [e181]; rfl) (by decide) rfl (fun ls hl => ?_)
                            have t181 : v181.toInt = v95.toInt + 1 := by rw [e181]; exact i_add rfl (by decide) (by omega) (by omega)
                            refine lv_goto (tgt := 63) hx hb dX12_layLikely_158 (by decide) ?_
                            exact ih63 v181 g180 _ _ _ (by omega) (by first | decide | omega) hP hD hS (lv_sub hl [0, 1, 2, 3, 4] rfl)
                          refine lv_if_le (tgt := 155) hx hb dX12_layLikely_79 (by decide) (fun c182 => ?_) (fun c182 => ?_)
                          · have f182 : v117.toInt ≤ 0 := f_le rfl (by decide) c182
                            exact hJ155 g96 _ _ _  hP hD hS (lv_sub hl [0, 1, 2, 3, 4] rfl)
                          · have f182 : 0 < v117.toInt := f_nle rfl (by decide) c182
                            refine lv_aload_n hx hb dX12_layLikely_82 rfl (lv_at hl 2 rfl) ?_
                            refine lv_iload_n hx hb dX12_layLikely_83 rfl (lv_at hl 1 rfl) ?_
                            refine lv_iload hx hb dX12_layLikely_84 (lv_at hl 0 rfl) ?_
                            refine lv_aload_n hx hb dX12_layLikely_86 rfl (lv_at hl 2 rfl) ?_
                            refine lv_iload_n hx hb dX12_layLikely_87 rfl (lv_at hl 3 rfl) ?_
                            refine lv_iload_n hx hb dX12_layLikely_88 rfl (lv_at hl 1 rfl) ?_
                            refine lv_iload hx hb dX12_layLikely_89 (lv_at hl 0 rfl) ?_
                            refine g_iF (w1 := fun (_ : Unit) => [cell22_ qm sm tm, cell5_ k qm sm, cell13_ k qm sm, cell8_ k qm sm, cell6_ k qm sm, cell14_ k qm sm, cell15_ k qm tm, cell12_ k qm tm, (qm 8, .inl (k 1, 50, .inr (.inl g51))), (qm 9, .inl (k 1, 50, .inr (.inl g96))), cell19_ k qm tm, cell21_ k qm tm, cell20_ k qm sm, cell16_ k qm sm, cell11_ k qm sm, cell10_ k qm sm, cell9_ k qm sm, cell7_ k qm sm]) (g_runVF (ws := [cell22_ qm sm tm, cell5_ k qm sm, cell13_ k qm sm, cell8_ k qm sm, cell6_ k qm sm, cell14_ k qm sm, cell15_ k qm tm, cell12_ k qm tm, (qm 8, .inl (k 1, 50, .inr (.inl g51))), (qm 9, .inl (k 1, 50, .inr (.inl g96))), cell19_ k qm tm, cell21_ k qm tm, cell20_ k qm sm, cell16_ k qm sm, cell11_ k qm sm, cell10_ k qm sm, cell9_ k qm sm, cell7_ k qm sm]) (rest := [.int v95, .int v50, .ref (qm 0)]) cx hP hD hS [.int p0, .int v50, .int v95] (c_X12_ruleAct l D k b qm sm (up2L (up2L tm 8 g51) 9 g96) H.size p0 v50 v95 (show 0 ≤ p0.toInt ∧ p0.toInt ≤ 2 from by first | decide | omega) (show 0 ≤ v50.toInt ∧ v50.toInt ≤ 4 from by first | decide | omega)) gX12_layLikely_X12_ruleAct rfl rfl rfl nd_X12_ruleAct ⟨Nat.le_of_ble_eq_true rfl, Nat.le_of_ble_eq_true rfl⟩ (ci := 10) (q0 := 0) rfl rfl rfl hl.1 rfl (Nat.le_of_ble_eq_true rfl) ⟨Nat.zero_le _, Nat.zero_le _⟩ dX12_layLikely_91) cx.2.2.1 hD hS (fun r184 _ H locs hw183 hP hD hS => ?_)
                            have w185 : r184 = J_X12_ruleAct sm (up2L (up2L tm 8 g51) 9 g96) p0 v50 v95 := hw183
                            clear hw183
                            have k187 : r184 = (J_X12_ruleAct sm (up2L (up2L tm 8 g51) 9 g96) p0 v50 v95) := congrArg (fun z => z) w185
                            refine g_iF (w1 := fun (_ : Unit) => [cell22_ qm sm tm, cell5_ k qm sm, cell13_ k qm sm, cell8_ k qm sm, cell6_ k qm sm, cell14_ k qm sm, cell15_ k qm tm, cell12_ k qm tm, (qm 8, .inl (k 1, 50, .inr (.inl g51))), (qm 9, .inl (k 1, 50, .inr (.inl g96))), cell19_ k qm tm, cell21_ k qm tm, cell20_ k qm sm, cell16_ k qm sm, cell11_ k qm sm, cell10_ k qm sm, cell9_ k qm sm, cell7_ k qm sm]) (g_runVF (ws := [cell22_ qm sm tm, cell5_ k qm sm, cell13_ k qm sm, cell8_ k qm sm, cell6_ k qm sm, cell14_ k qm sm, cell15_ k qm tm, cell12_ k qm tm, (qm 8, .inl (k 1, 50, .inr (.inl g51))), (qm 9, .inl (k 1, 50, .inr (.inl g96))), cell19_ k qm tm, cell21_ k qm tm, cell20_ k qm sm, cell16_ k qm sm, cell11_ k qm sm, cell10_ k qm sm, cell9_ k qm sm, cell7_ k qm sm]) (rest := []) cx hP hD hS [.int v50, .int v95, .int r184] (c_X12_after l D k b qm sm (up2L (up2L tm 8 g51) 9 g96) H.size v50 v95 r184 (show 0 ≤ ((sm 2) 0).toInt ∧ ((sm 2) 0).toInt ≤ 5 from by first | decide | omega) (show 0 ≤ v50.toInt ∧ v50.toInt ≤ 4 from by first | decide | omega)) gX12_layLikely_X12_after rfl rfl rfl nd_X12_after ⟨Nat.le_of_ble_eq_true rfl, Nat.le_of_ble_eq_true rfl⟩ (ci := 10) (q0 := 0) rfl rfl rfl hl.1 rfl (Nat.le_of_ble_eq_true rfl) ⟨Nat.zero_le _, Nat.zero_le _⟩ dX12_layLikely_94) cx.2.2.1 hD hS (fun r189 _ H locs hw188 hP hD hS => ?_)
                            have w190 : r189 = J_X12_after sm (up2L (up2L tm 8 g51) 9 g96) v50 v95 r184 := hw188
                            clear hw188
                            have k192 : r189 = (J_X12_after sm (up2L (up2L tm 8 g51) 9 g96) v50 v95 r184) := congrArg (fun z => z) w190
                            refine lv_istore (lv' := [(5, .int r189), (4, .int v95), (3, .int v50), (0, .ref (qm 0)), (1, .int p0), (2, .int p1)]) hx hb dX12_layLikely_97 hl (by decide) rfl (fun ls hl => ?_)
                            refine lv_iconst (v := 0) hx hb dX12_layLikely_99 (by decide) ?_
                            refine lv_istore (lv' := [(6, .int 0), (5, .int r189), (4, .int v95), (3, .int v50), (0, .ref (qm 0)), (1, .int p0), (2, .int p1)]) hx hb dX12_layLikely_100 hl (by decide) rfl (fun ls hl => ?_)
                            have hL102 : ∀ (n214 : Nat) (v212 : Int32) (g213 : Nat → Int64) (H : Heap) (locs : List Loc) (ls : Array Slot), 50 - v212.toInt < (n214 : Int) → (0 ≤ v212.toInt ∧ v212.toInt ≤ 50) → va_P D vwCl [cell22_ qm sm tm, cell5_ k qm sm, cell13_ k qm sm, cell8_ k qm sm, cell6_ k qm sm, cell14_ k qm sm, cell15_ k qm tm, cell12_ k qm tm, (qm 8, .inl (k 1, 50, .inr (.inl g51))), (qm 9, .inl (k 1, 50, .inr (.inl g213))), cell19_ k qm tm, cell21_ k qm tm, cell20_ k qm sm, cell16_ k qm sm, cell11_ k qm sm, cell10_ k qm sm, cell9_ k qm sm, cell7_ k qm sm] H → va_D A [cell22_ qm sm tm, cell5_ k qm sm, cell13_ k qm sm, cell8_ k qm sm, cell6_ k qm sm, cell14_ k qm sm, cell15_ k qm tm, cell12_ k qm tm, (qm 8, .inl (k 1, 50, .inr (.inl g51))), (qm 9, .inl (k 1, 50, .inr (.inl g213))), cell19_ k qm tm, cell21_ k qm tm, cell20_ k qm sm, cell16_ k qm sm, cell11_ k qm sm, cell10_ k qm sm, cell9_ k qm sm, cell7_ k qm sm] → va_S A s.heap H locs → lv_has ls 7 [(6, .int v212), (5, .int r189), (4, .int v95), (3, .int v50), (0, .ref (qm 0)), (1, .int p0), (2, .int p1)] → W p l e ({ frames := 3, cells := 0, slots := 0, locals := 75 } : Room) s m ([.ref (qm 0), .int p0, .int p1] : List Value).toArray below meth c H locs 0 0 Q (F0 m 102 ls []) := by
                              intro n214
                              induction n214 with
                              | zero => intro v212 g213 H locs ls hmn214 bv212 hP hD hS hl; exact absurd hmn214 (by omega)
                              | succ n214 ih102 =>
                                intro v212 g213 H locs ls hmn214 bv212 hP hD hS hl
                                refine lv_iload hx hb dX12_layLikely_102 (lv_at hl 0 rfl) ?_
                                refine lv_bipush (v := 50) hx hb dX12_layLikely_104 (by decide) ?_
                                refine lv_icmp_ge (tgt := 155) hx hb dX12_layLikely_106 (by decide) (fun c215 => ?_) (fun c215 => ?_)
                                · have f215 : 50 ≤ v212.toInt := f_le (by decide) rfl c215
                                  exact hJ155 g213 _ _ _  hP hD hS (lv_sub hl [2, 3, 4, 5, 6] rfl)
                                · have f215 : v212.toInt < 50 := f_nle (by decide) rfl c215
                                  refine lv_aload_n hx hb dX12_layLikely_109 rfl (lv_at hl 4 rfl) ?_
                                  refine g_get cx hP iw_X12_layLikely_X12 0 rfl rfl 17 (by decide) rfl fw_X12_layLikely_35 rfl dX12_layLikely_110 ?_
                                  refine lv_iload hx hb dX12_layLikely_113 (lv_at hl 0 rfl) ?_
                                  refine lv_dup2_11 hx hb dX12_layLikely_115 rfl rfl ?_
                                  have hn216 : vp_in v212 50 := f_in (a := v212.toInt) rfl (by omega) (by omega)
                                  refine va_lald hx hb cx.2.1 hP 9 1 rfl rfl hn216 dX12_layLikely_116 (lv_topl (fun v217 e217 => ?_))
                                  refine lv_aload_n hx hb dX12_layLikely_117 rfl (lv_at hl 4 rfl) ?_
                                  refine lv_iload hx hb dX12_layLikely_118 (lv_at hl 0 rfl) ?_
                                  refine g_iF (w1 := fun (_ : Unit) => [cell22_ qm sm tm, cell5_ k qm sm, cell13_ k qm sm, cell8_ k qm sm, cell6_ k qm sm, cell14_ k qm sm, cell15_ k qm tm, cell12_ k qm tm, (qm 8, .inl (k 1, 50, .inr (.inl g51))), (qm 9, .inl (k 1, 50, .inr (.inl g213))), cell19_ k qm tm, cell21_ k qm tm, cell20_ k qm sm, cell16_ k qm sm, cell11_ k qm sm, cell10_ k qm sm, cell9_ k qm sm, cell7_ k qm sm]) (g_runVF (ws := [cell22_ qm sm tm, cell5_ k qm sm, cell13_ k qm sm, cell8_ k qm sm, cell6_ k qm sm, cell14_ k qm sm, cell15_ k qm tm, cell12_ k qm tm, (qm 8, .inl (k 1, 50, .inr (.inl g51))), (qm 9, .inl (k 1, 50, .inr (.inl g213))), cell19_ k qm tm, cell21_ k qm tm, cell20_ k qm sm, cell16_ k qm sm, cell11_ k qm sm, cell10_ k qm sm, cell9_ k qm sm, cell7_ k qm sm]) (rest := [.long v217, .int v212, .ref (qm 9)]) cx hP hD hS [.int v212] (c_X12_isHands l D k b qm sm (up2L (up2L tm 8 g51) 9 g213) H.size v212 (show 0 ≤ ((sm 2) 1).toInt ∧ ((sm 2) 1).toInt ≤ 4 from by first | decide | omega)) gX12_layLikely_X12_isHands rfl rfl rfl nd_X12_isHands ⟨Nat.le_of_ble_eq_true rfl, Nat.le_of_ble_eq_true rfl⟩ (ci := 10) (q0 := 0) rfl rfl rfl hl.1 rfl (Nat.le_of_ble_eq_true rfl) ⟨Nat.zero_le _, Nat.zero_le _⟩ dX12_layLikely_120) cx.2.2.1 hD hS (fun r219 _ H locs hw218 hP hD hS => ?_)
                                  replace hw218 : (0 ≤ r219.toInt ∧ r219.toInt ≤ 1) ∧ (Imp (r219.toInt = 1) (0 ≤ v212.toInt ∧ v212.toInt ≤ 400)) ∧ (r219 = J_X12_isHands sm (up2L (up2L tm 8 g51) 9 g213) v212) := hw218
                                  obtain ⟨w220, w221, w222⟩ := hw218
                                  have k224 : r219 = (J_X12_isHands sm (up2L (up2L tm 8 g51) 9 g213) v212) := congrArg (fun z => z) w222
                                  have zr219 : 0 ≤ r219.toInt ∧ r219.toInt ≤ 1 := w220
                                  have hJ147 : ∀ (v231 : Int64) (H : Heap) (locs : List Loc) (ls : Array Slot), va_P D vwCl [cell22_ qm sm tm, cell5_ k qm sm, cell13_ k qm sm, cell8_ k qm sm, cell6_ k qm sm, cell14_ k qm sm, cell15_ k qm tm, cell12_ k qm tm, (qm 8, .inl (k 1, 50, .inr (.inl g51))), (qm 9, .inl (k 1, 50, .inr (.inl g213))), cell19_ k qm tm, cell21_ k qm tm, cell20_ k qm sm, cell16_ k qm sm, cell11_ k qm sm, cell10_ k qm sm, cell9_ k qm sm, cell7_ k qm sm] H → va_D A [cell22_ qm sm tm, cell5_ k qm sm, cell13_ k qm sm, cell8_ k qm sm, cell6_ k qm sm, cell14_ k qm sm, cell15_ k qm tm, cell12_ k qm tm, (qm 8, .inl (k 1, 50, .inr (.inl g51))), (qm 9, .inl (k 1, 50, .inr (.inl g213))), cell19_ k qm tm, cell21_ k qm tm, cell20_ k qm sm, cell16_ k qm sm, cell11_ k qm sm, cell10_ k qm sm, cell9_ k qm sm, cell7_ k qm sm] → va_S A s.heap H locs → lv_has ls 7 [(6, .int v212), (5, .int r189), (4, .int v95), (3, .int v50), (0, .ref (qm 0)), (1, .int p0), (2, .int p1)] → W p l e ({ frames := 3, cells := 0, slots := 0, locals := 75 } : Room) s m ([.ref (qm 0), .int p0, .int p1] : List Value).toArray below meth c H locs 0 0 Q (F0 m 147 ls [.long v231, .long v217, .int v212, .ref (qm 9)]) := by
                                    intro v231 H locs ls  hP hD hS hl
                                    refine lv_ladd hx hb dX12_layLikely_147 (lv_topl (fun v232 e232 => ?_))
                                    have hn233 : vp_in v212 50 := f_in (a := v212.toInt) rfl (by omega) (by omega)
                                    refine va_last hx hb cx.2.1 hP hD hS 9 1 rfl rfl hn233 dX12_layLikely_148 (fun H locs hP hD hS => ?_)
                                    obtain ⟨g234, eg234⟩ : ∃ g : Nat → Int64, g = vp_updL g213 (v212).toNatClampNeg v232 := ⟨_, rfl⟩
                                    rw [← eg234] at hP hD
                                    have hP : va_P D vwCl [cell22_ qm sm tm, cell5_ k qm sm, cell13_ k qm sm, cell8_ k qm sm, cell6_ k qm sm, cell14_ k qm sm, cell15_ k qm tm, cell12_ k qm tm, (qm 8, .inl (k 1, 50, .inr (.inl g51))), (qm 9, .inl (k 1, 50, .inr (.inl g234))), cell19_ k qm tm, cell21_ k qm tm, cell20_ k qm sm, cell16_ k qm sm, cell11_ k qm sm, cell10_ k qm sm, cell9_ k qm sm, cell7_ k qm sm] H := hP
                                    have hD : va_D A [cell22_ qm sm tm, cell5_ k qm sm, cell13_ k qm sm, cell8_ k qm sm, cell6_ k qm sm, cell14_ k qm sm, cell15_ k qm tm, cell12_ k qm tm, (qm 8, .inl (k 1, 50, .inr (.inl g51))), (qm 9, .inl (k 1, 50, .inr (.inl g234))), cell19_ k qm tm, cell21_ k qm tm, cell20_ k qm sm, cell16_ k qm sm, cell11_ k qm sm, cell10_ k qm sm, cell9_ k qm sm, cell7_ k qm sm] := hD
                                    obtain ⟨v235, e235⟩ : ∃ z : Int32, z = v212 + 1 := ⟨_, rfl⟩
                                    refine lv_iinc (v := v235) (lv' := [(6, .int v235), (5, .int r189), (4, .int v95), (3, .int v50), (0, .ref (qm 0)), (1, .int p0), (2, .int p1)]) hx hb dX12_layLikely_149 hl (k := 0) rfl (by rw [e235]; rfl) (by decide) rfl (fun ls hl => ?_)
                                    have t235 : v235.toInt = v212.toInt + 1 := by rw [e235]; exact i_add rfl (by decide) (by omega) (by omega)
                                    refine lv_goto (tgt := 102) hx hb dX12_layLikely_152 (by decide) ?_
                                    exact ih102 v235 g234 _ _ _ (by omega) (by first | decide | omega) hP hD hS (lv_sub hl [0, 1, 2, 3, 4, 5, 6] rfl)
                                  refine lv_if_eq (tgt := 146) hx hb dX12_layLikely_123 (by decide) (fun c236 => ?_) (fun c236 => ?_)
                                  · have f236 : r219.toInt = 0 := f_eq rfl (by decide) c236
                                    refine lv_lconst (v := 0) hx hb dX12_layLikely_146 (by decide) ?_
                                    have hlit237 : (0 : Int32).toInt = 0 := by decide
                                    exact hJ147 0 _ _ _  hP hD hS (lv_sub hl [0, 1, 2, 3, 4, 5, 6] rfl)
                                  · have f236 : ¬ r219.toInt = 0 := f_ne rfl (by decide) c236
                                    have k236 : (0 ≤ v212.toInt ∧ v212.toInt ≤ 400) := w221 (by omega)
                                    refine lv_aload_n hx hb dX12_layLikely_126 rfl (lv_at hl 4 rfl) ?_
                                    refine g_get cx hP iw_X12_layLikely_X12 0 rfl rfl 16 (by decide) rfl fw_X12_layLikely_32 rfl dX12_layLikely_127 ?_
                                    refine lv_iload hx hb dX12_layLikely_130 (lv_at hl 2 rfl) ?_
                                    have hn238 : vp_in v95 50 := f_in (a := v95.toInt) rfl (by omega) (by omega)
                                    refine va_lald hx hb cx.2.1 hP 8 1 rfl rfl hn238 dX12_layLikely_132 (lv_topl (fun v239 e239 => ?_))
                                    obtain rfl : v116 = v239 := e116.trans e239.symm
                                    refine lv_aload_n hx hb dX12_layLikely_133 rfl (lv_at hl 4 rfl) ?_
                                    refine lv_iload hx hb dX12_layLikely_134 (lv_at hl 1 rfl) ?_
                                    refine lv_iload hx hb dX12_layLikely_136 (lv_at hl 0 rfl) ?_
                                    refine g_iF (w1 := fun (_ : Unit) => [cell22_ qm sm tm, cell5_ k qm sm, cell13_ k qm sm, cell8_ k qm sm, cell6_ k qm sm, cell14_ k qm sm, cell15_ k qm tm, cell12_ k qm tm, (qm 8, .inl (k 1, 50, .inr (.inl g51))), (qm 9, .inl (k 1, 50, .inr (.inl g213))), cell19_ k qm tm, cell21_ k qm tm, cell20_ k qm sm, cell16_ k qm sm, cell11_ k qm sm, cell10_ k qm sm, cell9_ k qm sm, cell7_ k qm sm]) (g_runVF (ws := [cell22_ qm sm tm, cell5_ k qm sm, cell13_ k qm sm, cell8_ k qm sm, cell6_ k qm sm, cell14_ k qm sm, cell15_ k qm tm, cell12_ k qm tm, (qm 8, .inl (k 1, 50, .inr (.inl g51))), (qm 9, .inl (k 1, 50, .inr (.inl g213))), cell19_ k qm tm, cell21_ k qm tm, cell20_ k qm sm, cell16_ k qm sm, cell11_ k qm sm, cell10_ k qm sm, cell9_ k qm sm, cell7_ k qm sm]) (rest := [.long v116, .long v217, .int v212, .ref (qm 9)]) cx hP hD hS [.int r189, .int v212] (c_X12_sundayOf l D k b qm sm (up2L (up2L tm 8 g51) 9 g213) H.size r189 v212) gX12_layLikely_X12_sundayOf rfl rfl rfl nd_X12_sundayOf ⟨Nat.le_of_ble_eq_true rfl, Nat.le_of_ble_eq_true rfl⟩ (ci := 10) (q0 := 0) rfl rfl rfl hl.1 rfl (Nat.le_of_ble_eq_true rfl) ⟨Nat.zero_le _, Nat.zero_le _⟩ dX12_layLikely_138) cx.2.2.1 hD hS (fun r241 _ H locs hw240 hP hD hS => ?_)
                                    obtain ⟨v242, e242⟩ : ∃ z : Int64, z = (r241 : Int32).toInt64 := ⟨_, rfl⟩
                                    refine lv_i2l (v := v242) hx hb dX12_layLikely_141 e242.symm ?_
                                    refine lv_lmul hx hb dX12_layLikely_142 (lv_topl (fun v243 e243 => ?_))
                                    refine lv_goto (tgt := 147) hx hb dX12_layLikely_143 (by decide) ?_
                                    exact hJ147 v243 _ _ _  hP hD hS (lv_sub hl [0, 1, 2, 3, 4, 5, 6] rfl)
                            have hlit244 : (0 : Int32).toInt = 0 := by decide
                            exact hL102 (Int.toNat (50 - 0) + 1) 0 g96 _ _ _ (by omega) (by first | decide | omega) hP hD hS (lv_sub hl [0, 1, 2, 3, 4, 5, 6] rfl)
                    have hlit245 : (0 : Int32).toInt = 0 := by decide
                    exact hL63 (Int.toNat (50 - 0) + 1) 0 g59 _ _ _ (by omega) (by first | decide | omega) hP hD hS (lv_sub hl [0, 1, 2, 3, 4] rfl)
                  · have f61 : v58.toInt < 50 := f_nle (by decide) rfl c61
                    refine lv_aload_n hx hb dX12_layLikely_46 rfl (lv_at hl 2 rfl) ?_
                    refine g_get cx hP iw_X12_layLikely_X12 0 rfl rfl 17 (by decide) rfl fw_X12_layLikely_35 rfl dX12_layLikely_47 ?_
                    refine lv_iload hx hb dX12_layLikely_50 (lv_at hl 0 rfl) ?_
                    refine lv_lconst (v := 0) hx hb dX12_layLikely_52 (by decide) ?_
                    have hn246 : vp_in v58 50 := f_in (a := v58.toInt) rfl (by omega) (by omega)
                    refine va_last hx hb cx.2.1 hP hD hS 9 1 rfl rfl hn246 dX12_layLikely_53 (fun H locs hP hD hS => ?_)
                    obtain ⟨g247, eg247⟩ : ∃ g : Nat → Int64, g = vp_updL g59 (v58).toNatClampNeg 0 := ⟨_, rfl⟩
                    rw [← eg247] at hP hD
                    have hP : va_P D vwCl [cell22_ qm sm tm, cell5_ k qm sm, cell13_ k qm sm, cell8_ k qm sm, cell6_ k qm sm, cell14_ k qm sm, cell15_ k qm tm, cell12_ k qm tm, (qm 8, .inl (k 1, 50, .inr (.inl g51))), (qm 9, .inl (k 1, 50, .inr (.inl g247))), cell19_ k qm tm, cell21_ k qm tm, cell20_ k qm sm, cell16_ k qm sm, cell11_ k qm sm, cell10_ k qm sm, cell9_ k qm sm, cell7_ k qm sm] H := hP
                    have hD : va_D A [cell22_ qm sm tm, cell5_ k qm sm, cell13_ k qm sm, cell8_ k qm sm, cell6_ k qm sm, cell14_ k qm sm, cell15_ k qm tm, cell12_ k qm tm, (qm 8, .inl (k 1, 50, .inr (.inl g51))), (qm 9, .inl (k 1, 50, .inr (.inl g247))), cell19_ k qm tm, cell21_ k qm tm, cell20_ k qm sm, cell16_ k qm sm, cell11_ k qm sm, cell10_ k qm sm, cell9_ k qm sm, cell7_ k qm sm] := hD
                    obtain ⟨v248, e248⟩ : ∃ z : Int32, z = v58 + 1 := ⟨_, rfl⟩
                    refine lv_iinc (v := v248) (lv' := [(4, .int v248), (3, .int v50), (0, .ref (qm 0)), (1, .int p0), (2, .int p1)]) hx hb dX12_layLikely_54 hl (k := 0) rfl (by rw [e248]; rfl) (by decide) rfl (fun ls hl => ?_)
                    have t248 : v248.toInt = v58.toInt + 1 := by rw [e248]; exact i_add rfl (by decide) (by omega) (by omega)
                    refine lv_goto (tgt := 39) hx hb dX12_layLikely_57 (by decide) ?_
                    exact ih39 v248 g247 _ _ _ (by omega) (by first | decide | omega) hP hD hS (lv_sub hl [0, 1, 2, 3, 4] rfl)
              have hlit249 : (0 : Int32).toInt = 0 := by decide
              exact hL39 (Int.toNat (50 - 0) + 1) 0 g52 _ _ _ (by omega) (by first | decide | omega) hP hD hS (lv_sub hl [0, 1, 2, 3, 4] rfl)
        have hlit250 : (0 : Int32).toInt = 0 := by decide
        exact hL31 (Int.toNat (5 - 0) + 1) 0 g5 (tm 9) _ _ _ (by omega) (by first | decide | omega) hP hD hS (lv_sub hl [0, 1, 2, 3] rfl)
      · have f7 : v4.toInt < 50 := f_nle (by decide) rfl c7
        refine lv_aload_n hx hb dX12_layLikely_8 rfl (lv_at hl 1 rfl) ?_
        refine g_get cx hP iw_X12_layLikely_X12 0 rfl rfl 16 (by decide) rfl fw_X12_layLikely_32 rfl dX12_layLikely_9 ?_
        refine lv_iload_n hx hb dX12_layLikely_12 rfl (lv_at hl 0 rfl) ?_
        refine lv_iload_n hx hb dX12_layLikely_13 rfl (lv_at hl 0 rfl) ?_
        have hJ22 : ∀ (v251 : Int64) (H : Heap) (locs : List Loc) (ls : Array Slot), va_P D vwCl [cell22_ qm sm tm, cell5_ k qm sm, cell13_ k qm sm, cell8_ k qm sm, cell6_ k qm sm, cell14_ k qm sm, cell15_ k qm tm, cell12_ k qm tm, (qm 8, .inl (k 1, 50, .inr (.inl g5))), cell17_ k qm tm, cell19_ k qm tm, cell21_ k qm tm, cell20_ k qm sm, cell16_ k qm sm, cell11_ k qm sm, cell10_ k qm sm, cell9_ k qm sm, cell7_ k qm sm] H → va_D A [cell22_ qm sm tm, cell5_ k qm sm, cell13_ k qm sm, cell8_ k qm sm, cell6_ k qm sm, cell14_ k qm sm, cell15_ k qm tm, cell12_ k qm tm, (qm 8, .inl (k 1, 50, .inr (.inl g5))), cell17_ k qm tm, cell19_ k qm tm, cell21_ k qm tm, cell20_ k qm sm, cell16_ k qm sm, cell11_ k qm sm, cell10_ k qm sm, cell9_ k qm sm, cell7_ k qm sm] → va_S A s.heap H locs → lv_has ls 7 [(3, .int v4), (0, .ref (qm 0)), (1, .int p0), (2, .int p1)] → W p l e ({ frames := 3, cells := 0, slots := 0, locals := 75 } : Room) s m ([.ref (qm 0), .int p0, .int p1] : List Value).toArray below meth c H locs 0 0 Q (F0 m 22 ls [.long v251, .int v4, .ref (qm 8)]) := by
          intro v251 H locs ls  hP hD hS hl
          have hn252 : vp_in v4 50 := f_in (a := v4.toInt) rfl (by omega) (by omega)
          refine va_last hx hb cx.2.1 hP hD hS 8 1 rfl rfl hn252 dX12_layLikely_22 (fun H locs hP hD hS => ?_)
          obtain ⟨g253, eg253⟩ : ∃ g : Nat → Int64, g = vp_updL g5 (v4).toNatClampNeg v251 := ⟨_, rfl⟩
          rw [← eg253] at hP hD
          have hP : va_P D vwCl [cell22_ qm sm tm, cell5_ k qm sm, cell13_ k qm sm, cell8_ k qm sm, cell6_ k qm sm, cell14_ k qm sm, cell15_ k qm tm, cell12_ k qm tm, (qm 8, .inl (k 1, 50, .inr (.inl g253))), cell17_ k qm tm, cell19_ k qm tm, cell21_ k qm tm, cell20_ k qm sm, cell16_ k qm sm, cell11_ k qm sm, cell10_ k qm sm, cell9_ k qm sm, cell7_ k qm sm] H := hP
          have hD : va_D A [cell22_ qm sm tm, cell5_ k qm sm, cell13_ k qm sm, cell8_ k qm sm, cell6_ k qm sm, cell14_ k qm sm, cell15_ k qm tm, cell12_ k qm tm, (qm 8, .inl (k 1, 50, .inr (.inl g253))), cell17_ k qm tm, cell19_ k qm tm, cell21_ k qm tm, cell20_ k qm sm, cell16_ k qm sm, cell11_ k qm sm, cell10_ k qm sm, cell9_ k qm sm, cell7_ k qm sm] := hD
          obtain ⟨v254, e254⟩ : ∃ z : Int32, z = v4 + 1 := ⟨_, rfl⟩
          refine lv_iinc (v := v254) (lv' := [(3, .int v254), (0, .ref (qm 0)), (1, .int p0), (2, .int p1)]) hx hb dX12_layLikely_23 hl (k := 0) rfl (by rw [e254]; rfl) (by decide) rfl (fun ls hl => ?_)
          have t254 : v254.toInt = v4.toInt + 1 := by rw [e254]; exact i_add rfl (by decide) (by omega) (by omega)
          refine lv_goto (tgt := 2) hx hb dX12_layLikely_26 (by decide) ?_
          exact ih2 v254 g253 _ _ _ (by omega) (by first | decide | omega) hP hD hS (lv_sub hl [0, 1, 2, 3] rfl)
        refine lv_if_ne (tgt := 21) hx hb dX12_layLikely_14 (by decide) (fun c255 => ?_) (fun c255 => ?_)
        · have f255 : ¬ v4.toInt = 0 := f_ne rfl (by decide) c255
          refine lv_lconst (v := 0) hx hb dX12_layLikely_21 (by decide) ?_
          have hlit256 : (0 : Int32).toInt = 0 := by decide
          exact hJ22 0 _ _ _  hP hD hS (lv_sub hl [0, 1, 2, 3] rfl)
        · have f255 : v4.toInt = 0 := f_eq rfl (by decide) c255
          refine lv_lconst (v := 1) hx hb dX12_layLikely_17 (by decide) ?_
          refine lv_goto (tgt := 22) hx hb dX12_layLikely_18 (by decide) ?_
          have hlit257 : (1 : Int32).toInt = 1 := by decide
          exact hJ22 1 _ _ _  hP hD hS (lv_sub hl [0, 1, 2, 3] rfl)
  have hlit258 : (0 : Int32).toInt = 0 := by decide
  exact hL2 (Int.toNat (50 - 0) + 1) 0 (tm 8) _ _ _ (by omega) (by first | decide | omega) hP hD hS (lv_sub hl [0, 1, 2, 3] rfl)
