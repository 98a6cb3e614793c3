set_option maxHeartbeats 4000000 in
set_option maxRecDepth 100000 in
theorem c_X12_common (l : Launch) (D : va_G) (k : Nat → ClassId) (b : Nat → Nat) (sz : Nat) (p0 : Int64) (p1 : Int64) (hz : ¬ p1.toInt = 0) : MetL l D k b yX12_common wsX12_common ({ frames := 0, cells := 0, slots := 0, locals := 0 } : Room) [] sz [.long p0, .long p1] (fun (r : Int64) (u : Unit) => ¬ r.toInt = 0) (fun u => []) := by
  refine g_enter (cc := cX12_common) (maxL := 10) (ret := (some .long)) (by decide) rfl (Nat.le_of_ble_eq_true rfl) ?_
  intro p e s m below meth c A hsz hAe cx hr hP hD hS ls hl
  rw [hAe]
  refine g_q (fun Q hQ => ?_)
  have hx := cx.1.1
  have hb := cx.1.2.1
  have hl : lv_has ls 10 [(0, .long p0), (2, .long p1)] := hl
  obtain ⟨H, eH⟩ : ∃ H : Heap, H = s.heap := ⟨_, rfl⟩
  obtain ⟨locs, el⟩ : ∃ L : List Loc, L = [] := ⟨_, rfl⟩
  have hP : va_P D vwCl [] H := by rw [eH]; exact hP
  have hD : va_D A [] := hD
  have hS : va_S A s.heap H locs := by rw [eH, el]; exact hS
  suffices goal : W p l e ({ frames := 0, cells := 0, slots := 0, locals := 0 } : Room) s m ([.long p0, .long p1] : List Value).toArray below meth c H locs 0 0 Q (F0 m 0 ls []) by rw [eH, el] at goal; exact goal
  refine lv_lload_n hx hb dX12_common_0 rfl (lv_at hl 0 rfl) ?_
  refine lv_lstore (lv' := [(4, .long p0), (0, .long p0), (2, .long p1)]) hx hb dX12_common_1 hl (by decide) rfl (fun ls hl => ?_)
  refine lv_lload_n hx hb dX12_common_3 rfl (lv_at hl 2 rfl) ?_
  refine lv_lstore (lv' := [(6, .long p1), (4, .long p0), (0, .long p0), (2, .long p1)]) hx hb dX12_common_4 hl (by decide) rfl (fun ls hl => ?_)
  have hL6 : ∀ (n5 : Nat) (v3 : Int64) (v4 : Int64) (H : Heap) (locs : List Loc) (ls : Array Slot), (v3.toInt.natAbs : Int) < (n5 : Int) → (¬ v4.toInt = 0 ∨ ¬ v3.toInt = 0) → va_P D vwCl [] H → va_D A [] → va_S A s.heap H locs → lv_has ls 10 [(6, .long v3), (4, .long v4)] → W p l e ({ frames := 0, cells := 0, slots := 0, locals := 0 } : Room) s m ([.long p0, .long p1] : List Value).toArray below meth c H locs 0 0 Q (F0 m 6 ls []) := by
    intro n5
    induction n5 with
    | zero => intro v3 v4 H locs ls hmn5 nz hP hD hS hl; exact absurd hmn5 (by omega)
    | succ n5 ih6 =>
      intro v3 v4 H locs ls hmn5 nz hP hD hS hl
      refine lv_lload hx hb dX12_common_6 (lv_at hl 0 rfl) ?_
      refine lv_lconst (v := 0) hx hb dX12_common_8 (by decide) ?_
      refine W.lcmp hx hb dX12_common_9 (lv_topi (fun v6 e6 => ?_))
      refine lv_if_eq (tgt := 31) hx hb dX12_common_10 (by decide) (fun c7 => ?_) (fun c7 => ?_)
      · have f7 : v6.toInt = 0 := f_eq rfl (by decide) c7
        have y0 := lcz e6 c7
        refine lv_lload hx hb dX12_common_31 (lv_at hl 1 rfl) ?_
        rw [hQ]
        exact x_l cx hr () hP hD hS (show ¬ v4.toInt = 0 from by omega) dX12_common_33
      · have f7 : ¬ v6.toInt = 0 := f_ne rfl (by decide) c7
        have y1 := lcnz e6 c7
        refine lv_lload hx hb dX12_common_13 (lv_at hl 1 rfl) ?_
        refine lv_lload hx hb dX12_common_15 (lv_at hl 0 rfl) ?_
        refine lv_lrem hx hb dX12_common_17 (nz64 (by omega)) (lv_topl (fun v8 e8 => ?_))
        have rm := rem64 e8 y1
        refine lv_lstore (lv' := [(8, .long v8), (6, .long v3), (4, .long v4)]) hx hb dX12_common_18 hl (by decide) rfl (fun ls hl => ?_)
        refine lv_lload hx hb dX12_common_20 (lv_at hl 1 rfl) ?_
        refine lv_lstore (lv' := [(4, .long v3), (8, .long v8), (6, .long v3)]) hx hb dX12_common_22 hl (by decide) rfl (fun ls hl => ?_)
        refine lv_lload hx hb dX12_common_24 (lv_at hl 1 rfl) ?_
        refine lv_lstore (lv' := [(6, .long v8), (4, .long v3), (8, .long v8)]) hx hb dX12_common_26 hl (by decide) rfl (fun ls hl => ?_)
        refine lv_goto (tgt := 6) hx hb dX12_common_28 (by decide) ?_
        exact ih6 v8 v3 _ _ _ (by omega) (by first | decide | omega) hP hD hS (lv_sub hl [0, 1] rfl)
  exact hL6 (Int.toNat ((p1.toInt.natAbs : Int)) + 1) p1 p0 _ _ _ (by omega) (by first | decide | omega) hP hD hS (lv_sub hl [0, 1] rfl)
