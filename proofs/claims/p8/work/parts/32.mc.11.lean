set_option maxHeartbeats 4000000 in
set_option maxRecDepth 100000 in
theorem c_X12_power (l : Launch) (D : va_G) (k : Nat → ClassId) (b : Nat → Nat) (sz : Nat) (p0 : Int32) (p1 : Int32) : MetI l D k b yX12_power wsX12_power ({ frames := 0, cells := 0, slots := 0, locals := 0 } : Room) [] sz [.int p0, .int p1] (fun (r : Int32) (u : Unit) => Imp (p0.toInt % 2 = 1) (r.toInt % 2 = 1)) (fun u => []) := by
  refine g_enter (cc := cX12_power) (maxL := 4) (ret := (some .int)) (by decide) rfl (Nat.le_of_ble_eq_true rfl) ?_
  intro p e s m below meth c A hsz hAe cx hr hP hD hS ls hl
  rw [hAe]
  refine g_q (fun Q hQ => ?_)
  have hx := cx.1.1
  have hb := cx.1.2.1
  have bp0 := i_rng p0
  have bp1 := i_rng p1
  have hl : lv_has ls 4 [(0, .int p0), (1, .int p1)] := hl
  obtain ⟨H, eH⟩ : ∃ H : Heap, H = s.heap := ⟨_, rfl⟩
  obtain ⟨locs, el⟩ : ∃ L : List Loc, L = [] := ⟨_, rfl⟩
  have hP : va_P D vwCl [] H := by rw [eH]; exact hP
  have hD : va_D A [] := hD
  have hS : va_S A s.heap H locs := by rw [eH, el]; exact hS
  suffices goal : W p l e ({ frames := 0, cells := 0, slots := 0, locals := 0 } : Room) s m ([.int p0, .int p1] : List Value).toArray below meth c H locs 0 0 Q (F0 m 0 ls []) by rw [eH, el] at goal; exact goal
  refine lv_iconst (v := 1) hx hb dX12_power_0 (by decide) ?_
  refine lv_istore_n (lv' := [(2, .int 1), (0, .int p0), (1, .int p1)]) hx hb dX12_power_1 rfl hl (by decide) rfl (fun ls hl => ?_)
  refine lv_iconst (v := 0) hx hb dX12_power_2 (by decide) ?_
  refine lv_istore_n (lv' := [(3, .int 0), (2, .int 1), (0, .int p0), (1, .int p1)]) hx hb dX12_power_3 rfl hl (by decide) rfl (fun ls hl => ?_)
  have hL4 : ∀ (n5 : Nat) (v3 : Int32) (v4 : Int32) (H : Heap) (locs : List Loc) (ls : Array Slot), (p1.toInt - v3.toInt < (n5 : Int) ∧ 0 < (n5 : Int)) → (0 ≤ v3.toInt) → (¬ p0.toInt % 2 = 1 ∨ v4.toInt % 2 = 1) → va_P D vwCl [] H → va_D A [] → va_S A s.heap H locs → lv_has ls 4 [(3, .int v3), (2, .int v4), (0, .int p0), (1, .int p1)] → W p l e ({ frames := 0, cells := 0, slots := 0, locals := 0 } : Room) s m ([.int p0, .int p1] : List Value).toArray below meth c H locs 0 0 Q (F0 m 4 ls []) := by
    intro n5
    induction n5 with
    | zero => intro v3 v4 H locs ls hmn5 bv3 qo hP hD hS hl; exact absurd hmn5 (by omega)
    | succ n5 ih4 =>
      intro v3 v4 H locs ls hmn5 bv3 qo hP hD hS hl
      refine lv_iload_n hx hb dX12_power_4 rfl (lv_at hl 0 rfl) ?_
      refine lv_iload_n hx hb dX12_power_5 rfl (lv_at hl 3 rfl) ?_
      refine lv_icmp_ge (tgt := 19) hx hb dX12_power_6 (by decide) (fun c6 => ?_) (fun c6 => ?_)
      · have f6 : p1.toInt ≤ v3.toInt := f_le rfl rfl c6
        refine lv_iload_n hx hb dX12_power_19 rfl (lv_at hl 1 rfl) ?_
        rw [hQ]
        exact x_i cx hr () hP hD hS (show Imp (p0.toInt % 2 = 1) (v4.toInt % 2 = 1) from fun h => by omega) dX12_power_20
      · have f6 : v3.toInt < p1.toInt := f_nle rfl rfl c6
        refine lv_iload_n hx hb dX12_power_9 rfl (lv_at hl 1 rfl) ?_
        refine lv_iload_n hx hb dX12_power_10 rfl (lv_at hl 2 rfl) ?_
        refine lv_imul hx hb dX12_power_11 (lv_topi (fun v7 e7 => ?_))
        have ov7 := oddm e7 (show ¬ p0.toInt % 2 = 1 ∨ v4.toInt % 2 = 1 from by omega)
        refine lv_istore_n (lv' := [(2, .int v7), (3, .int v3), (0, .int p0), (1, .int p1)]) hx hb dX12_power_12 rfl hl (by decide) rfl (fun ls hl => ?_)
        obtain ⟨v8, e8⟩ : ∃ z : Int32, z = v3 + 1 := ⟨_, rfl⟩
        refine lv_iinc (v := v8) (lv' := [(3, .int v8), (2, .int v7), (0, .int p0), (1, .int p1)]) hx hb dX12_power_13 hl (k := 1) rfl (by rw [e8]; rfl) (by decide) rfl (fun ls hl => ?_)
        have t8 : v8.toInt = v3.toInt + 1 := by rw [e8]; exact i_add rfl (by decide) (by omega) (by omega)
        refine lv_goto (tgt := 4) hx hb dX12_power_16 (by decide) ?_
        exact ih4 v8 v7 _ _ _ (by omega) (by first | decide | omega) (by first | decide | omega) hP hD hS (lv_sub hl [0, 1, 2, 3] rfl)
  have hlit9 : (0 : Int32).toInt = 0 := by decide
  have hlit10 : (1 : Int32).toInt = 1 := by decide
  exact hL4 (Int.toNat p1.toInt + 1) 0 1 _ _ _ (by omega) (by first | decide | omega) (by first | decide | omega) hP hD hS (lv_sub hl [0, 1, 2, 3] rfl)
