set_option maxHeartbeats 4000000 in
set_option maxRecDepth 100000 in
theorem c_J7_fill_53178_5 (l : Launch) (D : va_G) (k : Nat → ClassId) (b : Nat → Nat) (qa : Nat → Nat) (sa : Nat → Nat → Int32) (sz : Nat) (p0 : Int32) : MetV l D k b yJ7_fill_53178 wsJ7_fill_53178 ({ frames := 0, cells := 0, slots := 0, locals := 0 } : Room) [cell209_ k qa sa] sz [.ref (qa 0), .int p0] (fun (u : (Nat → Int32)) => (u = fillI 5 p0 (sa 0)) ∧ (u = J_J7_fill_53178_5 sa p0)) (fun u => [(qa 0, .inl (k 0, 5, .inl u))]) := by
  refine g_enter (cc := cJ7_fill_53178) (maxL := 4) (ret := none) (by decide) rfl (Nat.le_of_ble_eq_true rfl) ?_
  intro p e s m below meth c A hsz hAe cx hr hP hD hS ls hl
  rw [hAe]
  refine g_q (fun Q hQ => ?_)
  have hx := cx.1.1
  have hb := cx.1.2.1
  have bp0 := i_rng p0
  have hl : lv_has ls 4 [(0, .ref (qa 0)), (1, .int p0)] := hl
  obtain ⟨H, eH⟩ : ∃ H : Heap, H = s.heap := ⟨_, rfl⟩
  obtain ⟨locs, el⟩ : ∃ L : List Loc, L = [] := ⟨_, rfl⟩
  have hP : va_P D vwCl [cell209_ k qa sa] H := by rw [eH]; exact hP
  have hD : va_D A [cell209_ k qa sa] := hD
  have hS : va_S A s.heap H locs := by rw [eH, el]; exact hS
  suffices goal : W p l e ({ frames := 0, cells := 0, slots := 0, locals := 0 } : Room) s m ([.ref (qa 0), .int p0] : List Value).toArray below meth c H locs 0 0 Q (F0 m 0 ls []) by rw [eH, el] at goal; exact goal
  refine lv_iconst (v := 0) hx hb dJ7_fill_53178_0 (by decide) ?_
  refine lv_istore_n (lv' := [(2, .int 0), (0, .ref (qa 0)), (1, .int p0)]) hx hb dJ7_fill_53178_1 rfl hl (by decide) rfl (fun ls hl => ?_)
  refine lv_aload_n hx hb dJ7_fill_53178_2 rfl (lv_at hl 1 rfl) ?_
  refine va_alen hx hb cx.2.1 hP 0 0 rfl rfl (v := 5) (show Int32.ofNat 5 = 5 from by decide) dJ7_fill_53178_3 ?_
  refine lv_istore_n (lv' := [(3, .int 5), (2, .int 0), (0, .ref (qa 0)), (1, .int p0)]) hx hb dJ7_fill_53178_4 rfl hl (by decide) rfl (fun ls hl => ?_)
  have hL5 : ∀ (n6 : Nat) (v4 : Int32) (g5 : Nat → Int32) (H : Heap) (locs : List Loc) (ls : Array Slot), 5 - v4.toInt < (n6 : Int) → (0 ≤ v4.toInt ∧ v4.toInt ≤ 5) → (g5 = fillI (Int.toNat v4.toInt) p0 (sa 0)) → va_P D vwCl [(qa 0, .inl (k 0, 5, .inl g5))] H → va_D A [(qa 0, .inl (k 0, 5, .inl g5))] → va_S A s.heap H locs → lv_has ls 4 [(3, .int 5), (2, .int v4), (0, .ref (qa 0)), (1, .int p0)] → W p l e ({ frames := 0, cells := 0, slots := 0, locals := 0 } : Room) s m ([.ref (qa 0), .int p0] : List Value).toArray below meth c H locs 0 0 Q (F0 m 5 ls []) := by
    intro n6
    induction n6 with
    | zero => intro v4 g5 H locs ls hmn6 bv4 qf hP hD hS hl; exact absurd hmn6 (by omega)
    | succ n6 ih5 =>
      intro v4 g5 H locs ls hmn6 bv4 qf hP hD hS hl
      refine lv_iload_n hx hb dJ7_fill_53178_5 rfl (lv_at hl 1 rfl) ?_
      refine lv_iload_n hx hb dJ7_fill_53178_6 rfl (lv_at hl 0 rfl) ?_
      refine lv_icmp_ge (tgt := 20) hx hb dJ7_fill_53178_7 (by decide) (fun c7 => ?_) (fun c7 => ?_)
      · have f7 : 5 ≤ v4.toInt := f_le (by decide) rfl c7
        rw [hQ]
        exact x_v cx hr g5 hP hD hS ⟨(show g5 = fillI 5 p0 (sa 0) from by have q : Int.toNat v4.toInt = 5 := (by omega); rw [q] at qf; exact qf), (show g5 = J_J7_fill_53178_5 sa p0 from by have q : Int.toNat v4.toInt = 5 := (by omega); rw [q] at qf; exact qf)⟩ dJ7_fill_53178_20
      · have f7 : v4.toInt < 5 := f_nle (by decide) rfl c7
        refine lv_aload_n hx hb dJ7_fill_53178_10 rfl (lv_at hl 2 rfl) ?_
        refine lv_iload_n hx hb dJ7_fill_53178_11 rfl (lv_at hl 1 rfl) ?_
        refine lv_iload_n hx hb dJ7_fill_53178_12 rfl (lv_at hl 3 rfl) ?_
        have hn8 : vp_in v4 5 := f_in (a := v4.toInt) rfl (by omega) (by omega)
        refine va_iast hx hb cx.2.1 hP hD hS 0 0 rfl rfl hn8 dJ7_fill_53178_13 (fun H locs hP hD hS => ?_)
        obtain ⟨g9, eg9⟩ : ∃ g : Nat → Int32, g = upd g5 (v4).toNatClampNeg p0 := ⟨_, rfl⟩
        rw [← eg9] at hP hD
        have hP : va_P D vwCl [(qa 0, .inl (k 0, 5, .inl g9))] H := hP
        have hD : va_D A [(qa 0, .inl (k 0, 5, .inl g9))] := hD
        have flq := fillI_st eg9 (n := Int.toNat v4.toInt) (show v4.toInt = ((Int.toNat v4.toInt : Nat) : Int) from by omega) qf
        obtain ⟨v10, e10⟩ : ∃ z : Int32, z = v4 + 1 := ⟨_, rfl⟩
        refine lv_iinc (v := v10) (lv' := [(2, .int v10), (3, .int 5), (0, .ref (qa 0)), (1, .int p0)]) hx hb dJ7_fill_53178_14 hl (k := 1) rfl (by rw [e10]; rfl) (by decide) rfl (fun ls hl => ?_)
        have t10 : v10.toInt = v4.toInt + 1 := by rw [e10]; exact i_add rfl (by decide) (by omega) (by omega)
        refine lv_goto (tgt := 5) hx hb dJ7_fill_53178_17 (by decide) ?_
        exact ih5 v10 g9 _ _ _ (by omega) (by first | decide | omega) (flq.trans (congrArg (fun n => fillI n p0 (sa 0)) (by omega))) hP hD hS (lv_sub hl [1, 0, 2, 3] rfl)
  have hlit11 : (0 : Int32).toInt = 0 := by decide
  exact hL5 (Int.toNat (5 - 0) + 1) 0 (sa 0) _ _ _ (by omega) (by first | decide | omega) (fillI_0 p0 (sa 0)) hP hD hS (lv_sub hl [0, 1, 2, 3] rfl)
set_option maxHeartbeats 4000000 in
set_option maxRecDepth 100000 in
theorem c_J7_fill_53178_3 (l : Launch) (D : va_G) (k : Nat → ClassId) (b : Nat → Nat) (qa : Nat → Nat) (sa : Nat → Nat → Int32) (sz : Nat) (p0 : Int32) : MetV l D k b yJ7_fill_53178 wsJ7_fill_53178 ({ frames := 0, cells := 0, slots := 0, locals := 0 } : Room) [cell210_ k qa sa] sz [.ref (qa 0), .int p0] (fun (u : (Nat → Int32)) => (u = fillI 3 p0 (sa 0)) ∧ (u = J_J7_fill_53178_3 sa p0)) (fun u => [(qa 0, .inl (k 0, 3, .inl u))]) := by
  refine g_enter (cc := cJ7_fill_53178) (maxL := 4) (ret := none) (by decide) rfl (Nat.le_of_ble_eq_true rfl) ?_
  intro p e s m below meth c A hsz hAe cx hr hP hD hS ls hl
  rw [hAe]
  refine g_q (fun Q hQ => ?_)
  have hx := cx.1.1
  have hb := cx.1.2.1
  have bp0 := i_rng p0
  have hl : lv_has ls 4 [(0, .ref (qa 0)), (1, .int p0)] := hl
  obtain ⟨H, eH⟩ : ∃ H : Heap, H = s.heap := ⟨_, rfl⟩
  obtain ⟨locs, el⟩ : ∃ L : List Loc, L = [] := ⟨_, rfl⟩
  have hP : va_P D vwCl [cell210_ k qa sa] H := by rw [eH]; exact hP
  have hD : va_D A [cell210_ k qa sa] := hD
  have hS : va_S A s.heap H locs := by rw [eH, el]; exact hS
  suffices goal : W p l e ({ frames := 0, cells := 0, slots := 0, locals := 0 } : Room) s m ([.ref (qa 0), .int p0] : List Value).toArray below meth c H locs 0 0 Q (F0 m 0 ls []) by rw [eH, el] at goal; exact goal
  refine lv_iconst (v := 0) hx hb dJ7_fill_53178_0 (by decide) ?_
  refine lv_istore_n (lv' := [(2, .int 0), (0, .ref (qa 0)), (1, .int p0)]) hx hb dJ7_fill_53178_1 rfl hl (by decide) rfl (fun ls hl => ?_)
  refine lv_aload_n hx hb dJ7_fill_53178_2 rfl (lv_at hl 1 rfl) ?_
  refine va_alen hx hb cx.2.1 hP 0 0 rfl rfl (v := 3) (show Int32.ofNat 3 = 3 from by decide) dJ7_fill_53178_3 ?_
  refine lv_istore_n (lv' := [(3, .int 3), (2, .int 0), (0, .ref (qa 0)), (1, .int p0)]) hx hb dJ7_fill_53178_4 rfl hl (by decide) rfl (fun ls hl => ?_)
  have hL5 : ∀ (n6 : Nat) (v4 : Int32) (g5 : Nat → Int32) (H : Heap) (locs : List Loc) (ls : Array Slot), 3 - v4.toInt < (n6 : Int) → (0 ≤ v4.toInt ∧ v4.toInt ≤ 3) → (g5 = fillI (Int.toNat v4.toInt) p0 (sa 0)) → va_P D vwCl [(qa 0, .inl (k 0, 3, .inl g5))] H → va_D A [(qa 0, .inl (k 0, 3, .inl g5))] → va_S A s.heap H locs → lv_has ls 4 [(3, .int 3), (2, .int v4), (0, .ref (qa 0)), (1, .int p0)] → W p l e ({ frames := 0, cells := 0, slots := 0, locals := 0 } : Room) s m ([.ref (qa 0), .int p0] : List Value).toArray below meth c H locs 0 0 Q (F0 m 5 ls []) := by
    intro n6
    induction n6 with
    | zero => intro v4 g5 H locs ls hmn6 bv4 qf hP hD hS hl; exact absurd hmn6 (by omega)
    | succ n6 ih5 =>
      intro v4 g5 H locs ls hmn6 bv4 qf hP hD hS hl
      refine lv_iload_n hx hb dJ7_fill_53178_5 rfl (lv_at hl 1 rfl) ?_
      refine lv_iload_n hx hb dJ7_fill_53178_6 rfl (lv_at hl 0 rfl) ?_
      refine lv_icmp_ge (tgt := 20) hx hb dJ7_fill_53178_7 (by decide) (fun c7 => ?_) (fun c7 => ?_)
      · have f7 : 3 ≤ v4.toInt := f_le (by decide) rfl c7
        rw [hQ]
        exact x_v cx hr g5 hP hD hS ⟨(show g5 = fillI 3 p0 (sa 0) from by have q : Int.toNat v4.toInt = 3 := (by omega); rw [q] at qf; exact qf), (show g5 = J_J7_fill_53178_3 sa p0 from by have q : Int.toNat v4.toInt = 3 := (by omega); rw [q] at qf; exact qf)⟩ dJ7_fill_53178_20
      · have f7 : v4.toInt < 3 := f_nle (by decide) rfl c7
        refine lv_aload_n hx hb dJ7_fill_53178_10 rfl (lv_at hl 2 rfl) ?_
        refine lv_iload_n hx hb dJ7_fill_53178_11 rfl (lv_at hl 1 rfl) ?_
        refine lv_iload_n hx hb dJ7_fill_53178_12 rfl (lv_at hl 3 rfl) ?_
        have hn8 : vp_in v4 3 := f_in (a := v4.toInt) rfl (by omega) (by omega)
        refine va_iast hx hb cx.2.1 hP hD hS 0 0 rfl rfl hn8 dJ7_fill_53178_13 (fun H locs hP hD hS => ?_)
        obtain ⟨g9, eg9⟩ : ∃ g : Nat → Int32, g = upd g5 (v4).toNatClampNeg p0 := ⟨_, rfl⟩
        rw [← eg9] at hP hD
        have hP : va_P D vwCl [(qa 0, .inl (k 0, 3, .inl g9))] H := hP
        have hD : va_D A [(qa 0, .inl (k 0, 3, .inl g9))] := hD
        have flq := fillI_st eg9 (n := Int.toNat v4.toInt) (show v4.toInt = ((Int.toNat v4.toInt : Nat) : Int) from by omega) qf
        obtain ⟨v10, e10⟩ : ∃ z : Int32, z = v4 + 1 := ⟨_, rfl⟩
        refine lv_iinc (v := v10) (lv' := [(2, .int v10), (3, .int 3), (0, .ref (qa 0)), (1, .int p0)]) hx hb dJ7_fill_53178_14 hl (k := 1) rfl (by rw [e10]; rfl) (by decide) rfl (fun ls hl => ?_)
        have t10 : v10.toInt = v4.toInt + 1 := by rw [e10]; exact i_add rfl (by decide) (by omega) (by omega)
        refine lv_goto (tgt := 5) hx hb dJ7_fill_53178_17 (by decide) ?_
        exact ih5 v10 g9 _ _ _ (by omega) (by first | decide | omega) (flq.trans (congrArg (fun n => fillI n p0 (sa 0)) (by omega))) hP hD hS (lv_sub hl [1, 0, 2, 3] rfl)
  have hlit11 : (0 : Int32).toInt = 0 := by decide
  exact hL5 (Int.toNat (3 - 0) + 1) 0 (sa 0) _ _ _ (by omega) (by first | decide | omega) (fillI_0 p0 (sa 0)) hP hD hS (lv_sub hl [0, 1, 2, 3] rfl)
set_option maxHeartbeats 4000000 in
set_option maxRecDepth 100000 in
theorem c_J7_fill_53178_525 (l : Launch) (D : va_G) (k : Nat → ClassId) (b : Nat → Nat) (qa : Nat → Nat) (sa : Nat → Nat → Int32) (sz : Nat) (p0 : Int32) : MetV l D k b yJ7_fill_53178 wsJ7_fill_53178 ({ frames := 0, cells := 0, slots := 0, locals := 0 } : Room) [cell211_ k qa sa] sz [.ref (qa 0), .int p0] (fun (u : (Nat → Int32)) => (u = fillI 525 p0 (sa 0)) ∧ (u = J_J7_fill_53178_525 sa p0)) (fun u => [(qa 0, .inl (k 0, 525, .inl u))]) := by
  refine g_enter (cc := cJ7_fill_53178) (maxL := 4) (ret := none) (by decide) rfl (Nat.le_of_ble_eq_true rfl) ?_
  intro p e s m below meth c A hsz hAe cx hr hP hD hS ls hl
  rw [hAe]
  refine g_q (fun Q hQ => ?_)
  have hx := cx.1.1
  have hb := cx.1.2.1
  have bp0 := i_rng p0
  have hl : lv_has ls 4 [(0, .ref (qa 0)), (1, .int p0)] := hl
  obtain ⟨H, eH⟩ : ∃ H : Heap, H = s.heap := ⟨_, rfl⟩
  obtain ⟨locs, el⟩ : ∃ L : List Loc, L = [] := ⟨_, rfl⟩
  have hP : va_P D vwCl [cell211_ k qa sa] H := by rw [eH]; exact hP
  have hD : va_D A [cell211_ k qa sa] := hD
  have hS : va_S A s.heap H locs := by rw [eH, el]; exact hS
  suffices goal : W p l e ({ frames := 0, cells := 0, slots := 0, locals := 0 } : Room) s m ([.ref (qa 0), .int p0] : List Value).toArray below meth c H locs 0 0 Q (F0 m 0 ls []) by rw [eH, el] at goal; exact goal
  refine lv_iconst (v := 0) hx hb dJ7_fill_53178_0 (by decide) ?_
  refine lv_istore_n (lv' := [(2, .int 0), (0, .ref (qa 0)), (1, .int p0)]) hx hb dJ7_fill_53178_1 rfl hl (by decide) rfl (fun ls hl => ?_)
  refine lv_aload_n hx hb dJ7_fill_53178_2 rfl (lv_at hl 1 rfl) ?_
  refine va_alen hx hb cx.2.1 hP 0 0 rfl rfl (v := 525) (show Int32.ofNat 525 = 525 from by decide) dJ7_fill_53178_3 ?_
  refine lv_istore_n (lv' := [(3, .int 525), (2, .int 0), (0, .ref (qa 0)), (1, .int p0)]) hx hb dJ7_fill_53178_4 rfl hl (by decide) rfl (fun ls hl => ?_)
  have hL5 : ∀ (n6 : Nat) (v4 : Int32) (g5 : Nat → Int32) (H : Heap) (locs : List Loc) (ls : Array Slot), 525 - v4.toInt < (n6 : Int) → (0 ≤ v4.toInt ∧ v4.toInt ≤ 525) → (g5 = fillI (Int.toNat v4.toInt) p0 (sa 0)) → va_P D vwCl [(qa 0, .inl (k 0, 525, .inl g5))] H → va_D A [(qa 0, .inl (k 0, 525, .inl g5))] → va_S A s.heap H locs → lv_has ls 4 [(3, .int 525), (2, .int v4), (0, .ref (qa 0)), (1, .int p0)] → W p l e ({ frames := 0, cells := 0, slots := 0, locals := 0 } : Room) s m ([.ref (qa 0), .int p0] : List Value).toArray below meth c H locs 0 0 Q (F0 m 5 ls []) := by
    intro n6
    induction n6 with
    | zero => intro v4 g5 H locs ls hmn6 bv4 qf hP hD hS hl; exact absurd hmn6 (by omega)
    | succ n6 ih5 =>
      intro v4 g5 H locs ls hmn6 bv4 qf hP hD hS hl
      refine lv_iload_n hx hb dJ7_fill_53178_5 rfl (lv_at hl 1 rfl) ?_
      refine lv_iload_n hx hb dJ7_fill_53178_6 rfl (lv_at hl 0 rfl) ?_
      refine lv_icmp_ge (tgt := 20) hx hb dJ7_fill_53178_7 (by decide) (fun c7 => ?_) (fun c7 => ?_)
      · have f7 : 525 ≤ v4.toInt := f_le (by decide) rfl c7
        rw [hQ]
        exact x_v cx hr g5 hP hD hS ⟨(show g5 = fillI 525 p0 (sa 0) from by have q : Int.toNat v4.toInt = 525 := (by omega); rw [q] at qf; exact qf), (show g5 = J_J7_fill_53178_525 sa p0 from by have q : Int.toNat v4.toInt = 525 := (by omega); rw [q] at qf; exact qf)⟩ dJ7_fill_53178_20
      · have f7 : v4.toInt < 525 := f_nle (by decide) rfl c7
        refine lv_aload_n hx hb dJ7_fill_53178_10 rfl (lv_at hl 2 rfl) ?_
        refine lv_iload_n hx hb dJ7_fill_53178_11 rfl (lv_at hl 1 rfl) ?_
        refine lv_iload_n hx hb dJ7_fill_53178_12 rfl (lv_at hl 3 rfl) ?_
        have hn8 : vp_in v4 525 := f_in (a := v4.toInt) rfl (by omega) (by omega)
        refine va_iast hx hb cx.2.1 hP hD hS 0 0 rfl rfl hn8 dJ7_fill_53178_13 (fun H locs hP hD hS => ?_)
        obtain ⟨g9, eg9⟩ : ∃ g : Nat → Int32, g = upd g5 (v4).toNatClampNeg p0 := ⟨_, rfl⟩
        rw [← eg9] at hP hD
        have hP : va_P D vwCl [(qa 0, .inl (k 0, 525, .inl g9))] H := hP
        have hD : va_D A [(qa 0, .inl (k 0, 525, .inl g9))] := hD
        have flq := fillI_st eg9 (n := Int.toNat v4.toInt) (show v4.toInt = ((Int.toNat v4.toInt : Nat) : Int) from by omega) qf
        obtain ⟨v10, e10⟩ : ∃ z : Int32, z = v4 + 1 := ⟨_, rfl⟩
        refine lv_iinc (v := v10) (lv' := [(2, .int v10), (3, .int 525), (0, .ref (qa 0)), (1, .int p0)]) hx hb dJ7_fill_53178_14 hl (k := 1) rfl (by rw [e10]; rfl) (by decide) rfl (fun ls hl => ?_)
        have t10 : v10.toInt = v4.toInt + 1 := by rw [e10]; exact i_add rfl (by decide) (by omega) (by omega)
        refine lv_goto (tgt := 5) hx hb dJ7_fill_53178_17 (by decide) ?_
        exact ih5 v10 g9 _ _ _ (by omega) (by first | decide | omega) (flq.trans (congrArg (fun n => fillI n p0 (sa 0)) (by omega))) hP hD hS (lv_sub hl [1, 0, 2, 3] rfl)
  have hlit11 : (0 : Int32).toInt = 0 := by decide
  exact hL5 (Int.toNat (525 - 0) + 1) 0 (sa 0) _ _ _ (by omega) (by first | decide | omega) (fillI_0 p0 (sa 0)) hP hD hS (lv_sub hl [0, 1, 2, 3] rfl)
set_option maxHeartbeats 4000000 in
set_option maxRecDepth 100000 in
theorem c_J7_fill_d0a16_35 (l : Launch) (D : va_G) (k : Nat → ClassId) (b : Nat → Nat) (qa : Nat → Nat) (sa : Nat → Nat → Int32) (ta : Nat → Nat → Int64) (sz : Nat) (p0 : Int64) : MetV l D k b yJ7_fill_d0a16 wsJ7_fill_d0a16 ({ frames := 0, cells := 0, slots := 0, locals := 0 } : Room) [cell212_ k qa ta] sz [.ref (qa 0), .long p0] (fun (u : (Nat → Int64)) => (u = fillJ 35 p0 (ta 0)) ∧ (u = J_J7_fill_d0a16_35 sa ta p0)) (fun u => [(qa 0, .inl (k 1, 35, .inr (.inl u)))]) := by
  refine g_enter (cc := cJ7_fill_d0a16) (maxL := 5) (ret := none) (by decide) rfl (Nat.le_of_ble_eq_true rfl) ?_
  intro p e s m below meth c A hsz hAe cx hr hP hD hS ls hl
  rw [hAe]
  refine g_q (fun Q hQ => ?_)
  have hx := cx.1.1
  have hb := cx.1.2.1
  have hl : lv_has ls 5 [(0, .ref (qa 0)), (1, .long p0)] := hl
  obtain ⟨H, eH⟩ : ∃ H : Heap, H = s.heap := ⟨_, rfl⟩
  obtain ⟨locs, el⟩ : ∃ L : List Loc, L = [] := ⟨_, rfl⟩
  have hP : va_P D vwCl [cell212_ k qa ta] H := by rw [eH]; exact hP
  have hD : va_D A [cell212_ k qa ta] := hD
  have hS : va_S A s.heap H locs := by rw [eH, el]; exact hS
  suffices goal : W p l e ({ frames := 0, cells := 0, slots := 0, locals := 0 } : Room) s m ([.ref (qa 0), .long p0] : List Value).toArray below meth c H locs 0 0 Q (F0 m 0 ls []) by rw [eH, el] at goal; exact goal
  refine lv_iconst (v := 0) hx hb dJ7_fill_d0a16_0 (by decide) ?_
  refine lv_istore_n (lv' := [(3, .int 0), (0, .ref (qa 0)), (1, .long p0)]) hx hb dJ7_fill_d0a16_1 rfl hl (by decide) rfl (fun ls hl => ?_)
  refine lv_aload_n hx hb dJ7_fill_d0a16_2 rfl (lv_at hl 1 rfl) ?_
  refine va_alen hx hb cx.2.1 hP 0 1 rfl rfl (v := 35) (show Int32.ofNat 35 = 35 from by decide) dJ7_fill_d0a16_3 ?_
  refine lv_istore (lv' := [(4, .int 35), (3, .int 0), (0, .ref (qa 0)), (1, .long p0)]) hx hb dJ7_fill_d0a16_4 hl (by decide) rfl (fun ls hl => ?_)
  have hL6 : ∀ (n6 : Nat) (v4 : Int32) (g5 : Nat → Int64) (H : Heap) (locs : List Loc) (ls : Array Slot), 35 - v4.toInt < (n6 : Int) → (0 ≤ v4.toInt ∧ v4.toInt ≤ 35) → (g5 = fillJ (Int.toNat v4.toInt) p0 (ta 0)) → va_P D vwCl [(qa 0, .inl (k 1, 35, .inr (.inl g5)))] H → va_D A [(qa 0, .inl (k 1, 35, .inr (.inl g5)))] → va_S A s.heap H locs → lv_has ls 5 [(4, .int 35), (3, .int v4), (0, .ref (qa 0)), (1, .long p0)] → W p l e ({ frames := 0, cells := 0, slots := 0, locals := 0 } : Room) s m ([.ref (qa 0), .long p0] : List Value).toArray below meth c H locs 0 0 Q (F0 m 6 ls []) := by
    intro n6
    induction n6 with
    | zero => intro v4 g5 H locs ls hmn6 bv4 qf hP hD hS hl; exact absurd hmn6 (by omega)
    | succ n6 ih6 =>
      intro v4 g5 H locs ls hmn6 bv4 qf hP hD hS hl
      refine lv_iload_n hx hb dJ7_fill_d0a16_6 rfl (lv_at hl 1 rfl) ?_
      refine lv_iload hx hb dJ7_fill_d0a16_7 (lv_at hl 0 rfl) ?_
      refine lv_icmp_ge (tgt := 22) hx hb dJ7_fill_d0a16_9 (by decide) (fun c7 => ?_) (fun c7 => ?_)
      · have f7 : 35 ≤ v4.toInt := f_le (by decide) rfl c7
        rw [hQ]
        exact x_v cx hr g5 hP hD hS ⟨(show g5 = fillJ 35 p0 (ta 0) from by have q : Int.toNat v4.toInt = 35 := (by omega); rw [q] at qf; exact qf), (show g5 = J_J7_fill_d0a16_35 sa ta p0 from by have q : Int.toNat v4.toInt = 35 := (by omega); rw [q] at qf; exact qf)⟩ dJ7_fill_d0a16_22
      · have f7 : v4.toInt < 35 := f_nle (by decide) rfl c7
        refine lv_aload_n hx hb dJ7_fill_d0a16_12 rfl (lv_at hl 2 rfl) ?_
        refine lv_iload_n hx hb dJ7_fill_d0a16_13 rfl (lv_at hl 1 rfl) ?_
        refine lv_lload_n hx hb dJ7_fill_d0a16_14 rfl (lv_at hl 3 rfl) ?_
        have hn8 : vp_in v4 35 := f_in (a := v4.toInt) rfl (by omega) (by omega)
        refine va_last hx hb cx.2.1 hP hD hS 0 1 rfl rfl hn8 dJ7_fill_d0a16_15 (fun H locs hP hD hS => ?_)
        obtain ⟨g9, eg9⟩ : ∃ g : Nat → Int64, g = vp_updL g5 (v4).toNatClampNeg p0 := ⟨_, rfl⟩
        rw [← eg9] at hP hD
        have hP : va_P D vwCl [(qa 0, .inl (k 1, 35, .inr (.inl g9)))] H := hP
        have hD : va_D A [(qa 0, .inl (k 1, 35, .inr (.inl g9)))] := hD
        have flq := fillJ_st eg9 (n := Int.toNat v4.toInt) (show v4.toInt = ((Int.toNat v4.toInt : Nat) : Int) from by omega) qf
        obtain ⟨v10, e10⟩ : ∃ z : Int32, z = v4 + 1 := ⟨_, rfl⟩
        refine lv_iinc (v := v10) (lv' := [(3, .int v10), (4, .int 35), (0, .ref (qa 0)), (1, .long p0)]) hx hb dJ7_fill_d0a16_16 hl (k := 1) rfl (by rw [e10]; rfl) (by decide) rfl (fun ls hl => ?_)
        have t10 : v10.toInt = v4.toInt + 1 := by rw [e10]; exact i_add rfl (by decide) (by omega) (by omega)
        refine lv_goto (tgt := 6) hx hb dJ7_fill_d0a16_19 (by decide) ?_
        exact ih6 v10 g9 _ _ _ (by omega) (by first | decide | omega) (flq.trans (congrArg (fun n => fillJ n p0 (ta 0)) (by omega))) hP hD hS (lv_sub hl [1, 0, 2, 3] rfl)
  have hlit11 : (0 : Int32).toInt = 0 := by decide
  exact hL6 (Int.toNat (35 - 0) + 1) 0 (ta 0) _ _ _ (by omega) (by first | decide | omega) (fillJ_0 p0 (ta 0)) hP hD hS (lv_sub hl [0, 1, 2, 3] rfl)
theorem kI_J6_bitCount_0f7a4_265 : Cond.constant RJ6 265 (1431655765) ∈ wsJ6_bitCount_0f7a4 := by decide +kernel
theorem kI_J6_bitCount_0f7a4_266 : Cond.constant RJ6 266 (858993459) ∈ wsJ6_bitCount_0f7a4 := by decide +kernel
theorem kI_J6_bitCount_0f7a4_267 : Cond.constant RJ6 267 (252645135) ∈ wsJ6_bitCount_0f7a4 := by decide +kernel
def J_J6_bitCount_0f7a4 (p0 : Int32) : Int32 := ((((((((p0 - ((p0.toUInt32 >>> ((1 : Int32).toUInt32 &&& Int32.toUInt32 31)).toInt32 &&& 1431655765)) &&& 858993459) + (((p0 - ((p0.toUInt32 >>> ((1 : Int32).toUInt32 &&& Int32.toUInt32 31)).toInt32 &&& 1431655765)).toUInt32 >>> ((2 : Int32).toUInt32 &&& Int32.toUInt32 31)).toInt32 &&& 858993459)) + ((((p0 - ((p0.toUInt32 >>> ((1 : Int32).toUInt32 &&& Int32.toUInt32 31)).toInt32 &&& 1431655765)) &&& 858993459) + (((p0 - ((p0.toUInt32 >>> ((1 : Int32).toUInt32 &&& Int32.toUInt32 31)).toInt32 &&& 1431655765)).toUInt32 >>> ((2 : Int32).toUInt32 &&& Int32.toUInt32 31)).toInt32 &&& 858993459)).toUInt32 >>> ((4 : Int32).toUInt32 &&& Int32.toUInt32 31)).toInt32) &&& 252645135) + ((((((p0 - ((p0.toUInt32 >>> ((1 : Int32).toUInt32 &&& Int32.toUInt32 31)).toInt32 &&& 1431655765)) &&& 858993459) + (((p0 - ((p0.toUInt32 >>> ((1 : Int32).toUInt32 &&& Int32.toUInt32 31)).toInt32 &&& 1431655765)).toUInt32 >>> ((2 : Int32).toUInt32 &&& Int32.toUInt32 31)).toInt32 &&& 858993459)) + ((((p0 - ((p0.toUInt32 >>> ((1 : Int32).toUInt32 &&& Int32.toUInt32 31)).toInt32 &&& 1431655765)) &&& 858993459) + (((p0 - ((p0.toUInt32 >>> ((1 : Int32).toUInt32 &&& Int32.toUInt32 31)).toInt32 &&& 1431655765)).toUInt32 >>> ((2 : Int32).toUInt32 &&& Int32.toUInt32 31)).toInt32 &&& 858993459)).toUInt32 >>> ((4 : Int32).toUInt32 &&& Int32.toUInt32 31)).toInt32) &&& 252645135).toUInt32 >>> ((8 : Int32).toUInt32 &&& Int32.toUInt32 31)).toInt32) + (((((((p0 - ((p0.toUInt32 >>> ((1 : Int32).toUInt32 &&& Int32.toUInt32 31)).toInt32 &&& 1431655765)) &&& 858993459) + (((p0 - ((p0.toUInt32 >>> ((1 : Int32).toUInt32 &&& Int32.toUInt32 31)).toInt32 &&& 1431655765)).toUInt32 >>> ((2 : Int32).toUInt32 &&& Int32.toUInt32 31)).toInt32 &&& 858993459)) + ((((p0 - ((p0.toUInt32 >>> ((1 : Int32).toUInt32 &&& Int32.toUInt32 31)).toInt32 &&& 1431655765)) &&& 858993459) + (((p0 - ((p0.toUInt32 >>> ((1 : Int32).toUInt32 &&& Int32.toUInt32 31)).toInt32 &&& 1431655765)).toUInt32 >>> ((2 : Int32).toUInt32 &&& Int32.toUInt32 31)).toInt32 &&& 858993459)).toUInt32 >>> ((4 : Int32).toUInt32 &&& Int32.toUInt32 31)).toInt32) &&& 252645135) + ((((((p0 - ((p0.toUInt32 >>> ((1 : Int32).toUInt32 &&& Int32.toUInt32 31)).toInt32 &&& 1431655765)) &&& 858993459) + (((p0 - ((p0.toUInt32 >>> ((1 : Int32).toUInt32 &&& Int32.toUInt32 31)).toInt32 &&& 1431655765)).toUInt32 >>> ((2 : Int32).toUInt32 &&& Int32.toUInt32 31)).toInt32 &&& 858993459)) + ((((p0 - ((p0.toUInt32 >>> ((1 : Int32).toUInt32 &&& Int32.toUInt32 31)).toInt32 &&& 1431655765)) &&& 858993459) + (((p0 - ((p0.toUInt32 >>> ((1 : Int32).toUInt32 &&& Int32.toUInt32 31)).toInt32 &&& 1431655765)).toUInt32 >>> ((2 : Int32).toUInt32 &&& Int32.toUInt32 31)).toInt32 &&& 858993459)).toUInt32 >>> ((4 : Int32).toUInt32 &&& Int32.toUInt32 31)).toInt32) &&& 252645135).toUInt32 >>> ((8 : Int32).toUInt32 &&& Int32.toUInt32 31)).toInt32).toUInt32 >>> ((16 : Int32).toUInt32 &&& Int32.toUInt32 31)).toInt32) &&& 63)
set_option maxHeartbeats 4000000 in
set_option maxRecDepth 100000 in
theorem c_J6_bitCount_0f7a4 (l : Launch) (D : va_G) (k : Nat → ClassId) (b : Nat → Nat) (sz : Nat) (p0 : Int32) : MetI l D k b yJ6_bitCount_0f7a4 wsJ6_bitCount_0f7a4 ({ frames := 0, cells := 0, slots := 0, locals := 0 } : Room) [] sz [.int p0] (fun (r : Int32) (u : Unit) => r = J_J6_bitCount_0f7a4 p0) (fun u => []) := by
  refine g_enter (cc := cJ6_bitCount_0f7a4) (maxL := 1) (ret := (some .int)) (by decide) rfl (Nat.le_of_ble_eq_true rfl) ?_
  intro p e s m below meth c A hsz hAe cx hr hP hD hS ls hl
  rw [hAe]
  refine g_q (fun Q hQ => ?_)
  have hx := cx.1.1
  have hb := cx.1.2.1
  have hl : lv_has ls 1 [(0, .int p0)] := hl
  obtain ⟨H, eH⟩ : ∃ H : Heap, H = s.heap := ⟨_, rfl⟩
  obtain ⟨locs, el⟩ : ∃ L : List Loc, L = [] := ⟨_, rfl⟩
  have hP : va_P D vwCl [] H := by rw [eH]; exact hP
  have hD : va_D A [] := hD
  have hS : va_S A s.heap H locs := by rw [eH, el]; exact hS
  suffices goal : W p l e ({ frames := 0, cells := 0, slots := 0, locals := 0 } : Room) s m ([.int p0] : List Value).toArray below meth c H locs 0 0 Q (F0 m 0 ls []) by rw [eH, el] at goal; exact goal
  refine lv_iload_n hx hb dJ6_bitCount_0f7a4_0 rfl (lv_at hl 0 rfl) ?_
  refine lv_iload_n hx hb dJ6_bitCount_0f7a4_1 rfl (lv_at hl 0 rfl) ?_
  refine lv_iconst (v := 1) hx hb dJ6_bitCount_0f7a4_2 (by decide) ?_
  obtain ⟨v1, e1⟩ : ∃ z : Int32, (p0.toUInt32 >>> ((1 : Int32).toUInt32 &&& Int32.toUInt32 31)).toInt32 = z := ⟨_, rfl⟩
  refine lv_iushr (v := v1) hx hb dJ6_bitCount_0f7a4_3 e1 ?_
  refine lv_ldcw (v := 1431655765) hx hb cx.1.2.2.2.1 (cx.1.2.2.2.2 _ kI_J6_bitCount_0f7a4_265) dJ6_bitCount_0f7a4_4 ?_
  refine lv_iand hx hb dJ6_bitCount_0f7a4_7 (lv_topi (fun v2 e2 => ?_))
  refine lv_isub hx hb dJ6_bitCount_0f7a4_8 (lv_topi (fun v3 e3 => ?_))
  refine lv_istore_n (lv' := [(0, .int v3)]) hx hb dJ6_bitCount_0f7a4_9 rfl hl (by decide) rfl (fun ls hl => ?_)
  refine lv_iload_n hx hb dJ6_bitCount_0f7a4_10 rfl (lv_at hl 0 rfl) ?_
  refine lv_ldcw (v := 858993459) hx hb cx.1.2.2.2.1 (cx.1.2.2.2.2 _ kI_J6_bitCount_0f7a4_266) dJ6_bitCount_0f7a4_11 ?_
  refine lv_iand hx hb dJ6_bitCount_0f7a4_14 (lv_topi (fun v4 e4 => ?_))
  refine lv_iload_n hx hb dJ6_bitCount_0f7a4_15 rfl (lv_at hl 0 rfl) ?_
  refine lv_iconst (v := 2) hx hb dJ6_bitCount_0f7a4_16 (by decide) ?_
  obtain ⟨v5, e5⟩ : ∃ z : Int32, (v3.toUInt32 >>> ((2 : Int32).toUInt32 &&& Int32.toUInt32 31)).toInt32 = z := ⟨_, rfl⟩
  refine lv_iushr (v := v5) hx hb dJ6_bitCount_0f7a4_17 e5 ?_
  refine lv_ldcw (v := 858993459) hx hb cx.1.2.2.2.1 (cx.1.2.2.2.2 _ kI_J6_bitCount_0f7a4_266) dJ6_bitCount_0f7a4_18 ?_
  refine lv_iand hx hb dJ6_bitCount_0f7a4_21 (lv_topi (fun v6 e6 => ?_))
  refine lv_iadd hx hb dJ6_bitCount_0f7a4_22 (lv_topi (fun v7 e7 => ?_))
  refine lv_istore_n (lv' := [(0, .int v7)]) hx hb dJ6_bitCount_0f7a4_23 rfl hl (by decide) rfl (fun ls hl => ?_)
  refine lv_iload_n hx hb dJ6_bitCount_0f7a4_24 rfl (lv_at hl 0 rfl) ?_
  refine lv_iload_n hx hb dJ6_bitCount_0f7a4_25 rfl (lv_at hl 0 rfl) ?_
  refine lv_iconst (v := 4) hx hb dJ6_bitCount_0f7a4_26 (by decide) ?_
  obtain ⟨v8, e8⟩ : ∃ z : Int32, (v7.toUInt32 >>> ((4 : Int32).toUInt32 &&& Int32.toUInt32 31)).toInt32 = z := ⟨_, rfl⟩
  refine lv_iushr (v := v8) hx hb dJ6_bitCount_0f7a4_27 e8 ?_
  refine lv_iadd hx hb dJ6_bitCount_0f7a4_28 (lv_topi (fun v9 e9 => ?_))
  refine lv_ldcw (v := 252645135) hx hb cx.1.2.2.2.1 (cx.1.2.2.2.2 _ kI_J6_bitCount_0f7a4_267) dJ6_bitCount_0f7a4_29 ?_
  refine lv_iand hx hb dJ6_bitCount_0f7a4_32 (lv_topi (fun v10 e10 => ?_))
  refine lv_istore_n (lv' := [(0, .int v10)]) hx hb dJ6_bitCount_0f7a4_33 rfl hl (by decide) rfl (fun ls hl => ?_)
  refine lv_iload_n hx hb dJ6_bitCount_0f7a4_34 rfl (lv_at hl 0 rfl) ?_
  refine lv_iload_n hx hb dJ6_bitCount_0f7a4_35 rfl (lv_at hl 0 rfl) ?_
  refine lv_bipush (v := 8) hx hb dJ6_bitCount_0f7a4_36 (by decide) ?_
  obtain ⟨v11, e11⟩ : ∃ z : Int32, (v10.toUInt32 >>> ((8 : Int32).toUInt32 &&& Int32.toUInt32 31)).toInt32 = z := ⟨_, rfl⟩
  refine lv_iushr (v := v11) hx hb dJ6_bitCount_0f7a4_38 e11 ?_
  refine lv_iadd hx hb dJ6_bitCount_0f7a4_39 (lv_topi (fun v12 e12 => ?_))
  refine lv_istore_n (lv' := [(0, .int v12)]) hx hb dJ6_bitCount_0f7a4_40 rfl hl (by decide) rfl (fun ls hl => ?_)
  refine lv_iload_n hx hb dJ6_bitCount_0f7a4_41 rfl (lv_at hl 0 rfl) ?_
  refine lv_iload_n hx hb dJ6_bitCount_0f7a4_42 rfl (lv_at hl 0 rfl) ?_
  refine lv_bipush (v := 16) hx hb dJ6_bitCount_0f7a4_43 (by decide) ?_
  obtain ⟨v13, e13⟩ : ∃ z : Int32, (v12.toUInt32 >>> ((16 : Int32).toUInt32 &&& Int32.toUInt32 31)).toInt32 = z := ⟨_, rfl⟩
  refine lv_iushr (v := v13) hx hb dJ6_bitCount_0f7a4_45 e13 ?_
  refine lv_iadd hx hb dJ6_bitCount_0f7a4_46 (lv_topi (fun v14 e14 => ?_))
  refine lv_istore_n (lv' := [(0, .int v14)]) hx hb dJ6_bitCount_0f7a4_47 rfl hl (by decide) rfl (fun ls hl => ?_)
  refine lv_iload_n hx hb dJ6_bitCount_0f7a4_48 rfl (lv_at hl 0 rfl) ?_
  refine lv_bipush (v := 63) hx hb dJ6_bitCount_0f7a4_49 (by decide) ?_
  refine lv_iand hx hb dJ6_bitCount_0f7a4_51 (lv_topi (fun v15 e15 => ?_))
  rw [hQ]
  exact x_i cx hr () hP hD hS (show v15 = J_J6_bitCount_0f7a4 p0 from by subst e1 e2 e3 e4 e5 e6 e7 e8 e9 e10 e11 e12 e13 e14 e15; rfl) dJ6_bitCount_0f7a4_52
theorem fw_J0_coder_7d493_S0_15 : Cond.fieldLink RJ0 15 "java/lang/String" "coder" "B" ∈ wsJ0_coder_7d493 := by decide +kernel
theorem fw_J0_coder_7d493_S0_38 : Cond.fieldLink RJ0 38 "java/lang/String" "COMPACT_STRINGS" "Z" ∈ wsJ0_coder_7d493 := by decide +kernel
set_option maxHeartbeats 4000000 in
set_option maxRecDepth 100000 in
theorem c_J0_coder_7d493_S0 (l : Launch) (D : va_G) (k : Nat → ClassId) (b : Nat → Nat) (sz : Nat) : MetI l D k b yJ0_coder_7d493 wsJ0_coder_7d493 ({ frames := 0, cells := 0, slots := 0, locals := 0 } : Room) [] sz [.ref (b 10)] (fun (r : Int32) (u : Unit) => r.toInt = 0) (fun u => []) := by
  refine g_enter (cc := cJ0_coder_7d493) (maxL := 1) (ret := (some .byte)) (by decide) rfl (Nat.le_of_ble_eq_true rfl) ?_
  intro p e s m below meth c A hsz hAe cx hr hP hD hS ls hl
  rw [hAe]
  refine g_q (fun Q hQ => ?_)
  have hx := cx.1.1
  have hb := cx.1.2.1
  have hl : lv_has ls 1 [(0, .ref (b 10))] := hl
  obtain ⟨H, eH⟩ : ∃ H : Heap, H = s.heap := ⟨_, rfl⟩
  obtain ⟨locs, el⟩ : ∃ L : List Loc, L = [] := ⟨_, rfl⟩
  have hP : va_P D vwCl [] H := by rw [eH]; exact hP
  have hD : va_D A [] := hD
  have hS : va_S A s.heap H locs := by rw [eH, el]; exact hS
  suffices goal : W p l e ({ frames := 0, cells := 0, slots := 0, locals := 0 } : Room) s m ([.ref (b 10)] : List Value).toArray below meth c H locs 0 0 Q (F0 m 0 ls []) by rw [eH, el] at goal; exact goal
  refine va_gets hx hb cx.2.2.2.t5 hS cx.1.2.2.2.1 (cx.1.2.2.2.2 _ fw_J0_coder_7d493_S0_38) (fun _ h => h) dJ0_coder_7d493_0 ?_
  refine lv_if_eq (tgt := 13) hx hb dJ0_coder_7d493_3 (by decide) (fun c1 => ?_) (fun c1 => ?_)
  · exact absurd c1 (by decide)
  · refine lv_aload_n hx hb dJ0_coder_7d493_6 rfl (lv_at hl 0 rfl) ?_
    refine vk_getf hx hb (cx.2.2.2.t7.1 0 (Nat.le_of_ble_eq_true rfl)).2.1 hS cx.1.2.2.2.1 (cx.1.2.2.2.2 _ fw_J0_coder_7d493_S0_15) (fun _ h => h) dJ0_coder_7d493_7 ?_
    refine lv_goto (tgt := 14) hx hb dJ0_coder_7d493_10 (by decide) ?_
    have hlit2 : (0 : Int32).toInt = 0 := by decide
    rw [hQ]
    exact x_z cx hr (by decide) () hP hD hS (show (0 : Int32).toInt = 0 from by omega) dJ0_coder_7d493_14
theorem fw_J0_length_8abf5_S0_9 : Cond.fieldLink RJ0 9 "java/lang/String" "value" "[B" ∈ wsJ0_length_8abf5 := by decide +kernel
theorem nd_J0_coder_7d493 : yJ0_coder_7d493.cls = RJ0 ∧ yJ0_coder_7d493.cls ≠ "java/lang/invoke/MethodHandle" ∧ yJ0_coder_7d493.cls ≠ "java/lang/invoke/VarHandle" ∧ (parseMethodDescriptor yJ0_coder_7d493.desc).map (fun d => d.parameters.length) = some 0 := by decide +kernel
set_option maxHeartbeats 4000000 in
set_option maxRecDepth 100000 in
theorem c_J0_length_8abf5_S0 (l : Launch) (D : va_G) (k : Nat → ClassId) (b : Nat → Nat) (sz : Nat) : MetI l D k b yJ0_length_8abf5 wsJ0_length_8abf5 ({ frames := 1, cells := 0, slots := 0, locals := 20 } : Room) [] sz [.ref (b 10)] (fun (r : Int32) (u : Unit) => r.toInt = 7) (fun u => []) := by
  refine g_enter (cc := cJ0_length_8abf5) (maxL := 1) (ret := (some .int)) (by decide) rfl (Nat.le_of_ble_eq_true rfl) ?_
  intro p e s m below meth c A hsz hAe cx hr hP hD hS ls hl
  rw [hAe]
  refine g_q (fun Q hQ => ?_)
  have hx := cx.1.1
  have hb := cx.1.2.1
  have hl : lv_has ls 1 [(0, .ref (b 10))] := hl
  obtain ⟨H, eH⟩ : ∃ H : Heap, H = s.heap := ⟨_, rfl⟩
  obtain ⟨locs, el⟩ : ∃ L : List Loc, L = [] := ⟨_, rfl⟩
  have hP : va_P D vwCl [] H := by rw [eH]; exact hP
  have hD : va_D A [] := hD
  have hS : va_S A s.heap H locs := by rw [eH, el]; exact hS
  suffices goal : W p l e ({ frames := 1, cells := 0, slots := 0, locals := 20 } : Room) s m ([.ref (b 10)] : List Value).toArray below meth c H locs 0 0 Q (F0 m 0 ls []) by rw [eH, el] at goal; exact goal
  refine lv_aload_n hx hb dJ0_length_8abf5_0 rfl (lv_at hl 0 rfl) ?_
  refine vk_getf hx hb (cx.2.2.2.t7.1 0 (Nat.le_of_ble_eq_true rfl)).2.2.1 hS cx.1.2.2.2.1 (cx.1.2.2.2.2 _ fw_J0_length_8abf5_S0_9) (fun _ h => h) dJ0_length_8abf5_1 ?_
  refine va_tlen hx hb (cx.2.2.2.t7.1 0 (Nat.le_of_ble_eq_true rfl)).2.2.2 hS (v := 7) (by decide) dJ0_length_8abf5_4 ?_
  refine lv_aload_n hx hb dJ0_length_8abf5_5 rfl (lv_at hl 0 rfl) ?_
  refine g_ir (g_runK (rest := [.int 7]) cx hP hD hS (i := 0) (Nat.le_of_ble_eq_true rfl) [] (c_J0_coder_7d493_S0 l D k b H.size) gJ0_length_8abf5_J0_coder_7d493 rfl rfl rfl nd_J0_coder_7d493 ⟨Nat.le_of_ble_eq_true rfl, Nat.le_of_ble_eq_true rfl⟩ rfl hl.1 rfl (Nat.le_of_ble_eq_true rfl) ⟨Nat.zero_le _, Nat.zero_le _⟩ dJ0_length_8abf5_6) cx.2.2.1 hP hD hS [] rfl rfl (fun r2 H locs hw1 hP hS => ?_)
  have w3 : r2.toInt = 0 := hw1
  clear hw1
  refine lv_ishr hx hb dJ0_length_8abf5_9 (lv_topi (fun v4 e4 => ?_))
  have tv4 : v4.toInt = 7 := by rw [e4, show r2 = 0 from Int32.toInt_inj.mp w3]; decide
  rw [hQ]
  exact x_i cx hr () hP hD hS (show v4.toInt = 7 from by omega) dJ0_length_8abf5_10
theorem fw_J0_isLatin1_aae02_S0_15 : Cond.fieldLink RJ0 15 "java/lang/String" "coder" "B" ∈ wsJ0_isLatin1_aae02 := by decide +kernel
theorem fw_J0_isLatin1_aae02_S0_38 : Cond.fieldLink RJ0 38 "java/lang/String" "COMPACT_STRINGS" "Z" ∈ wsJ0_isLatin1_aae02 := by decide +kernel
set_option maxHeartbeats 4000000 in
set_option maxRecDepth 100000 in
theorem c_J0_isLatin1_aae02_S0 (l : Launch) (D : va_G) (k : Nat → ClassId) (b : Nat → Nat) (sz : Nat) : MetI l D k b yJ0_isLatin1_aae02 wsJ0_isLatin1_aae02 ({ frames := 0, cells := 0, slots := 0, locals := 0 } : Room) [] sz [.ref (b 10)] (fun (r : Int32) (u : Unit) => r.toInt = 1) (fun u => []) := by
  refine g_enter (cc := cJ0_isLatin1_aae02) (maxL := 1) (ret := (some .boolean)) (by decide) rfl (Nat.le_of_ble_eq_true rfl) ?_
  intro p e s m below meth c A hsz hAe cx hr hP hD hS ls hl
  rw [hAe]
  refine g_q (fun Q hQ => ?_)
  have hx := cx.1.1
  have hb := cx.1.2.1
  have hl : lv_has ls 1 [(0, .ref (b 10))] := hl
  obtain ⟨H, eH⟩ : ∃ H : Heap, H = s.heap := ⟨_, rfl⟩
  obtain ⟨locs, el⟩ : ∃ L : List Loc, L = [] := ⟨_, rfl⟩
  have hP : va_P D vwCl [] H := by rw [eH]; exact hP
  have hD : va_D A [] := hD
  have hS : va_S A s.heap H locs := by rw [eH, el]; exact hS
  suffices goal : W p l e ({ frames := 0, cells := 0, slots := 0, locals := 0 } : Room) s m ([.ref (b 10)] : List Value).toArray below meth c H locs 0 0 Q (F0 m 0 ls []) by rw [eH, el] at goal; exact goal
  refine va_gets hx hb cx.2.2.2.t5 hS cx.1.2.2.2.1 (cx.1.2.2.2.2 _ fw_J0_isLatin1_aae02_S0_38) (fun _ h => h) dJ0_isLatin1_aae02_0 ?_
  refine lv_if_eq (tgt := 17) hx hb dJ0_isLatin1_aae02_3 (by decide) (fun c1 => ?_) (fun c1 => ?_)
  · exact absurd c1 (by decide)
  · refine lv_aload_n hx hb dJ0_isLatin1_aae02_6 rfl (lv_at hl 0 rfl) ?_
    refine vk_getf hx hb (cx.2.2.2.t7.1 0 (Nat.le_of_ble_eq_true rfl)).2.1 hS cx.1.2.2.2.1 (cx.1.2.2.2.2 _ fw_J0_isLatin1_aae02_S0_15) (fun _ h => h) dJ0_isLatin1_aae02_7 ?_
    refine lv_if_ne (tgt := 17) hx hb dJ0_isLatin1_aae02_10 (by decide) (fun c2 => ?_) (fun c2 => ?_)
    · exact absurd c2 (by decide)
    · refine lv_iconst (v := 1) hx hb dJ0_isLatin1_aae02_13 (by decide) ?_
      refine lv_goto (tgt := 18) hx hb dJ0_isLatin1_aae02_14 (by decide) ?_
      have hlit3 : (1 : Int32).toInt = 1 := by decide
      rw [hQ]
      exact x_z cx hr (by decide) () hP hD hS (show (1 : Int32).toInt = 1 from by omega) dJ0_isLatin1_aae02_18
theorem fw_J0_coder_7d493_S1_15 : Cond.fieldLink RJ0 15 "java/lang/String" "coder" "B" ∈ wsJ0_coder_7d493 := by decide +kernel
theorem fw_J0_coder_7d493_S1_38 : Cond.fieldLink RJ0 38 "java/lang/String" "COMPACT_STRINGS" "Z" ∈ wsJ0_coder_7d493 := by decide +kernel
set_option maxHeartbeats 4000000 in
set_option maxRecDepth 100000 in
theorem c_J0_coder_7d493_S1 (l : Launch) (D : va_G) (k : Nat → ClassId) (b : Nat → Nat) (sz : Nat) : MetI l D k b yJ0_coder_7d493 wsJ0_coder_7d493 ({ frames := 0, cells := 0, slots := 0, locals := 0 } : Room) [] sz [.ref (b 11)] (fun (r : Int32) (u : Unit) => r.toInt = 0) (fun u => []) := by
  refine g_enter (cc := cJ0_coder_7d493) (maxL := 1) (ret := (some .byte)) (by decide) rfl (Nat.le_of_ble_eq_true rfl) ?_
  intro p e s m below meth c A hsz hAe cx hr hP hD hS ls hl
  rw [hAe]
  refine g_q (fun Q hQ => ?_)
  have hx := cx.1.1
  have hb := cx.1.2.1
  have hl : lv_has ls 1 [(0, .ref (b 11))] := hl
  obtain ⟨H, eH⟩ : ∃ H : Heap, H = s.heap := ⟨_, rfl⟩
  obtain ⟨locs, el⟩ : ∃ L : List Loc, L = [] := ⟨_, rfl⟩
  have hP : va_P D vwCl [] H := by rw [eH]; exact hP
  have hD : va_D A [] := hD
  have hS : va_S A s.heap H locs := by rw [eH, el]; exact hS
  suffices goal : W p l e ({ frames := 0, cells := 0, slots := 0, locals := 0 } : Room) s m ([.ref (b 11)] : List Value).toArray below meth c H locs 0 0 Q (F0 m 0 ls []) by rw [eH, el] at goal; exact goal
  refine va_gets hx hb cx.2.2.2.t5 hS cx.1.2.2.2.1 (cx.1.2.2.2.2 _ fw_J0_coder_7d493_S1_38) (fun _ h => h) dJ0_coder_7d493_0 ?_
  refine lv_if_eq (tgt := 13) hx hb dJ0_coder_7d493_3 (by decide) (fun c1 => ?_) (fun c1 => ?_)
  · exact absurd c1 (by decide)
  · refine lv_aload_n hx hb dJ0_coder_7d493_6 rfl (lv_at hl 0 rfl) ?_
    refine vk_getf hx hb (cx.2.2.2.t7.1 1 (Nat.le_of_ble_eq_true rfl)).2.1 hS cx.1.2.2.2.1 (cx.1.2.2.2.2 _ fw_J0_coder_7d493_S1_15) (fun _ h => h) dJ0_coder_7d493_7 ?_
    refine lv_goto (tgt := 14) hx hb dJ0_coder_7d493_10 (by decide) ?_
    have hlit2 : (0 : Int32).toInt = 0 := by decide
    rw [hQ]
    exact x_z cx hr (by decide) () hP hD hS (show (0 : Int32).toInt = 0 from by omega) dJ0_coder_7d493_14
theorem fw_J0_length_8abf5_S1_9 : Cond.fieldLink RJ0 9 "java/lang/String" "value" "[B" ∈ wsJ0_length_8abf5 := by decide +kernel
set_option maxHeartbeats 4000000 in
set_option maxRecDepth 100000 in
theorem c_J0_length_8abf5_S1 (l : Launch) (D : va_G) (k : Nat → ClassId) (b : Nat → Nat) (sz : Nat) : MetI l D k b yJ0_length_8abf5 wsJ0_length_8abf5 ({ frames := 1, cells := 0, slots := 0, locals := 20 } : Room) [] sz [.ref (b 11)] (fun (r : Int32) (u : Unit) => r.toInt = 2) (fun u => []) := by
  refine g_enter (cc := cJ0_length_8abf5) (maxL := 1) (ret := (some .int)) (by decide) rfl (Nat.le_of_ble_eq_true rfl) ?_
  intro p e s m below meth c A hsz hAe cx hr hP hD hS ls hl
  rw [hAe]
  refine g_q (fun Q hQ => ?_)
  have hx := cx.1.1
  have hb := cx.1.2.1
  have hl : lv_has ls 1 [(0, .ref (b 11))] := hl
  obtain ⟨H, eH⟩ : ∃ H : Heap, H = s.heap := ⟨_, rfl⟩
  obtain ⟨locs, el⟩ : ∃ L : List Loc, L = [] := ⟨_, rfl⟩
  have hP : va_P D vwCl [] H := by rw [eH]; exact hP
  have hD : va_D A [] := hD
  have hS : va_S A s.heap H locs := by rw [eH, el]; exact hS
  suffices goal : W p l e ({ frames := 1, cells := 0, slots := 0, locals := 20 } : Room) s m ([.ref (b 11)] : List Value).toArray below meth c H locs 0 0 Q (F0 m 0 ls []) by rw [eH, el] at goal; exact goal
  refine lv_aload_n hx hb dJ0_length_8abf5_0 rfl (lv_at hl 0 rfl) ?_
  refine vk_getf hx hb (cx.2.2.2.t7.1 1 (Nat.le_of_ble_eq_true rfl)).2.2.1 hS cx.1.2.2.2.1 (cx.1.2.2.2.2 _ fw_J0_length_8abf5_S1_9) (fun _ h => h) dJ0_length_8abf5_1 ?_
  refine va_tlen hx hb (cx.2.2.2.t7.1 1 (Nat.le_of_ble_eq_true rfl)).2.2.2 hS (v := 2) (by decide) dJ0_length_8abf5_4 ?_
  refine lv_aload_n hx hb dJ0_length_8abf5_5 rfl (lv_at hl 0 rfl) ?_
  refine g_ir (g_runK (rest := [.int 2]) cx hP hD hS (i := 1) (Nat.le_of_ble_eq_true rfl) [] (c_J0_coder_7d493_S1 l D k b H.size) gJ0_length_8abf5_J0_coder_7d493 rfl rfl rfl nd_J0_coder_7d493 ⟨Nat.le_of_ble_eq_true rfl, Nat.le_of_ble_eq_true rfl⟩ rfl hl.1 rfl (Nat.le_of_ble_eq_true rfl) ⟨Nat.zero_le _, Nat.zero_le _⟩ dJ0_length_8abf5_6) cx.2.2.1 hP hD hS [] rfl rfl (fun r2 H locs hw1 hP hS => ?_)
  have w3 : r2.toInt = 0 := hw1
  clear hw1
  refine lv_ishr hx hb dJ0_length_8abf5_9 (lv_topi (fun v4 e4 => ?_))
  have tv4 : v4.toInt = 2 := by rw [e4, show r2 = 0 from Int32.toInt_inj.mp w3]; decide
  rw [hQ]
  exact x_i cx hr () hP hD hS (show v4.toInt = 2 from by omega) dJ0_length_8abf5_10
theorem fw_J0_isLatin1_aae02_S1_15 : Cond.fieldLink RJ0 15 "java/lang/String" "coder" "B" ∈ wsJ0_isLatin1_aae02 := by decide +kernel
theorem fw_J0_isLatin1_aae02_S1_38 : Cond.fieldLink RJ0 38 "java/lang/String" "COMPACT_STRINGS" "Z" ∈ wsJ0_isLatin1_aae02 := by decide +kernel
set_option maxHeartbeats 4000000 in
set_option maxRecDepth 100000 in
theorem c_J0_isLatin1_aae02_S1 (l : Launch) (D : va_G) (k : Nat → ClassId) (b : Nat → Nat) (sz : Nat) : MetI l D k b yJ0_isLatin1_aae02 wsJ0_isLatin1_aae02 ({ frames := 0, cells := 0, slots := 0, locals := 0 } : Room) [] sz [.ref (b 11)] (fun (r : Int32) (u : Unit) => r.toInt = 1) (fun u => []) := by
  refine g_enter (cc := cJ0_isLatin1_aae02) (maxL := 1) (ret := (some .boolean)) (by decide) rfl (Nat.le_of_ble_eq_true rfl) ?_
  intro p e s m below meth c A hsz hAe cx hr hP hD hS ls hl
  rw [hAe]
  refine g_q (fun Q hQ => ?_)
  have hx := cx.1.1
  have hb := cx.1.2.1
  have hl : lv_has ls 1 [(0, .ref (b 11))] := hl
  obtain ⟨H, eH⟩ : ∃ H : Heap, H = s.heap := ⟨_, rfl⟩
  obtain ⟨locs, el⟩ : ∃ L : List Loc, L = [] := ⟨_, rfl⟩
  have hP : va_P D vwCl [] H := by rw [eH]; exact hP
  have hD : va_D A [] := hD
  have hS : va_S A s.heap H locs := by rw [eH, el]; exact hS
  suffices goal : W p l e ({ frames := 0, cells := 0, slots := 0, locals := 0 } : Room) s m ([.ref (b 11)] : List Value).toArray below meth c H locs 0 0 Q (F0 m 0 ls []) by rw [eH, el] at goal; exact goal
  refine va_gets hx hb cx.2.2.2.t5 hS cx.1.2.2.2.1 (cx.1.2.2.2.2 _ fw_J0_isLatin1_aae02_S1_38) (fun _ h => h) dJ0_isLatin1_aae02_0 ?_
  refine lv_if_eq (tgt := 17) hx hb dJ0_isLatin1_aae02_3 (by decide) (fun c1 => ?_) (fun c1 => ?_)
  · exact absurd c1 (by decide)
  · refine lv_aload_n hx hb dJ0_isLatin1_aae02_6 rfl (lv_at hl 0 rfl) ?_
    refine vk_getf hx hb (cx.2.2.2.t7.1 1 (Nat.le_of_ble_eq_true rfl)).2.1 hS cx.1.2.2.2.1 (cx.1.2.2.2.2 _ fw_J0_isLatin1_aae02_S1_15) (fun _ h => h) dJ0_isLatin1_aae02_7 ?_
    refine lv_if_ne (tgt := 17) hx hb dJ0_isLatin1_aae02_10 (by decide) (fun c2 => ?_) (fun c2 => ?_)
    · exact absurd c2 (by decide)
    · refine lv_iconst (v := 1) hx hb dJ0_isLatin1_aae02_13 (by decide) ?_
      refine lv_goto (tgt := 18) hx hb dJ0_isLatin1_aae02_14 (by decide) ?_
      have hlit3 : (1 : Int32).toInt = 1 := by decide
      rw [hQ]
      exact x_z cx hr (by decide) () hP hD hS (show (1 : Int32).toInt = 1 from by omega) dJ0_isLatin1_aae02_18
theorem fw_J0_coder_7d493_S2_15 : Cond.fieldLink RJ0 15 "java/lang/String" "coder" "B" ∈ wsJ0_coder_7d493 := by decide +kernel
theorem fw_J0_coder_7d493_S2_38 : Cond.fieldLink RJ0 38 "java/lang/String" "COMPACT_STRINGS" "Z" ∈ wsJ0_coder_7d493 := by decide +kernel
set_option maxHeartbeats 4000000 in
set_option maxRecDepth 100000 in
theorem c_J0_coder_7d493_S2 (l : Launch) (D : va_G) (k : Nat → ClassId) (b : Nat → Nat) (sz : Nat) : MetI l D k b yJ0_coder_7d493 wsJ0_coder_7d493 ({ frames := 0, cells := 0, slots := 0, locals := 0 } : Room) [] sz [.ref (b 12)] (fun (r : Int32) (u : Unit) => r.toInt = 0) (fun u => []) := by
  refine g_enter (cc := cJ0_coder_7d493) (maxL := 1) (ret := (some .byte)) (by decide) rfl (Nat.le_of_ble_eq_true rfl) ?_
  intro p e s m below meth c A hsz hAe cx hr hP hD hS ls hl
  rw [hAe]
  refine g_q (fun Q hQ => ?_)
  have hx := cx.1.1
  have hb := cx.1.2.1
  have hl : lv_has ls 1 [(0, .ref (b 12))] := hl
  obtain ⟨H, eH⟩ : ∃ H : Heap, H = s.heap := ⟨_, rfl⟩
  obtain ⟨locs, el⟩ : ∃ L : List Loc, L = [] := ⟨_, rfl⟩
  have hP : va_P D vwCl [] H := by rw [eH]; exact hP
  have hD : va_D A [] := hD
  have hS : va_S A s.heap H locs := by rw [eH, el]; exact hS
  suffices goal : W p l e ({ frames := 0, cells := 0, slots := 0, locals := 0 } : Room) s m ([.ref (b 12)] : List Value).toArray below meth c H locs 0 0 Q (F0 m 0 ls []) by rw [eH, el] at goal; exact goal
  refine va_gets hx hb cx.2.2.2.t5 hS cx.1.2.2.2.1 (cx.1.2.2.2.2 _ fw_J0_coder_7d493_S2_38) (fun _ h => h) dJ0_coder_7d493_0 ?_
  refine lv_if_eq (tgt := 13) hx hb dJ0_coder_7d493_3 (by decide) (fun c1 => ?_) (fun c1 => ?_)
  · exact absurd c1 (by decide)
  · refine lv_aload_n hx hb dJ0_coder_7d493_6 rfl (lv_at hl 0 rfl) ?_
    refine vk_getf hx hb (cx.2.2.2.t7.1 2 (Nat.le_of_ble_eq_true rfl)).2.1 hS cx.1.2.2.2.1 (cx.1.2.2.2.2 _ fw_J0_coder_7d493_S2_15) (fun _ h => h) dJ0_coder_7d493_7 ?_
    refine lv_goto (tgt := 14) hx hb dJ0_coder_7d493_10 (by decide) ?_
    have hlit2 : (0 : Int32).toInt = 0 := by decide
    rw [hQ]
    exact x_z cx hr (by decide) () hP hD hS (show (0 : Int32).toInt = 0 from by omega) dJ0_coder_7d493_14
theorem fw_J0_length_8abf5_S2_9 : Cond.fieldLink RJ0 9 "java/lang/String" "value" "[B" ∈ wsJ0_length_8abf5 := by decide +kernel
set_option maxHeartbeats 4000000 in
set_option maxRecDepth 100000 in
theorem c_J0_length_8abf5_S2 (l : Launch) (D : va_G) (k : Nat → ClassId) (b : Nat → Nat) (sz : Nat) : MetI l D k b yJ0_length_8abf5 wsJ0_length_8abf5 ({ frames := 1, cells := 0, slots := 0, locals := 20 } : Room) [] sz [.ref (b 12)] (fun (r : Int32) (u : Unit) => r.toInt = 2) (fun u => []) := by
  refine g_enter (cc := cJ0_length_8abf5) (maxL := 1) (ret := (some .int)) (by decide) rfl (Nat.le_of_ble_eq_true rfl) ?_
  intro p e s m below meth c A hsz hAe cx hr hP hD hS ls hl
  rw [hAe]
  refine g_q (fun Q hQ => ?_)
  have hx := cx.1.1
  have hb := cx.1.2.1
  have hl : lv_has ls 1 [(0, .ref (b 12))] := hl
  obtain ⟨H, eH⟩ : ∃ H : Heap, H = s.heap := ⟨_, rfl⟩
  obtain ⟨locs, el⟩ : ∃ L : List Loc, L = [] := ⟨_, rfl⟩
  have hP : va_P D vwCl [] H := by rw [eH]; exact hP
  have hD : va_D A [] := hD
  have hS : va_S A s.heap H locs := by rw [eH, el]; exact hS
  suffices goal : W p l e ({ frames := 1, cells := 0, slots := 0, locals := 20 } : Room) s m ([.ref (b 12)] : List Value).toArray below meth c H locs 0 0 Q (F0 m 0 ls []) by rw [eH, el] at goal; exact goal
  refine lv_aload_n hx hb dJ0_length_8abf5_0 rfl (lv_at hl 0 rfl) ?_
  refine vk_getf hx hb (cx.2.2.2.t7.1 2 (Nat.le_of_ble_eq_true rfl)).2.2.1 hS cx.1.2.2.2.1 (cx.1.2.2.2.2 _ fw_J0_length_8abf5_S2_9) (fun _ h => h) dJ0_length_8abf5_1 ?_
  refine va_tlen hx hb (cx.2.2.2.t7.1 2 (Nat.le_of_ble_eq_true rfl)).2.2.2 hS (v := 2) (by decide) dJ0_length_8abf5_4 ?_
  refine lv_aload_n hx hb dJ0_length_8abf5_5 rfl (lv_at hl 0 rfl) ?_
  refine g_ir (g_runK (rest := [.int 2]) cx hP hD hS (i := 2) (Nat.le_of_ble_eq_true rfl) [] (c_J0_coder_7d493_S2 l D k b H.size) gJ0_length_8abf5_J0_coder_7d493 rfl rfl rfl nd_J0_coder_7d493 ⟨Nat.le_of_ble_eq_true rfl, Nat.le_of_ble_eq_true rfl⟩ rfl hl.1 rfl (Nat.le_of_ble_eq_true rfl) ⟨Nat.zero_le _, Nat.zero_le _⟩ dJ0_length_8abf5_6) cx.2.2.1 hP hD hS [] rfl rfl (fun r2 H locs hw1 hP hS => ?_)
  have w3 : r2.toInt = 0 := hw1
  clear hw1
  refine lv_ishr hx hb dJ0_length_8abf5_9 (lv_topi (fun v4 e4 => ?_))
  have tv4 : v4.toInt = 2 := by rw [e4, show r2 = 0 from Int32.toInt_inj.mp w3]; decide
  rw [hQ]
  exact x_i cx hr () hP hD hS (show v4.toInt = 2 from by omega) dJ0_length_8abf5_10
theorem fw_J0_isLatin1_aae02_S2_15 : Cond.fieldLink RJ0 15 "java/lang/String" "coder" "B" ∈ wsJ0_isLatin1_aae02 := by decide +kernel
theorem fw_J0_isLatin1_aae02_S2_38 : Cond.fieldLink RJ0 38 "java/lang/String" "COMPACT_STRINGS" "Z" ∈ wsJ0_isLatin1_aae02 := by decide +kernel
set_option maxHeartbeats 4000000 in
set_option maxRecDepth 100000 in
theorem c_J0_isLatin1_aae02_S2 (l : Launch) (D : va_G) (k : Nat → ClassId) (b : Nat → Nat) (sz : Nat) : MetI l D k b yJ0_isLatin1_aae02 wsJ0_isLatin1_aae02 ({ frames := 0, cells := 0, slots := 0, locals := 0 } : Room) [] sz [.ref (b 12)] (fun (r : Int32) (u : Unit) => r.toInt = 1) (fun u => []) := by
  refine g_enter (cc := cJ0_isLatin1_aae02) (maxL := 1) (ret := (some .boolean)) (by decide) rfl (Nat.le_of_ble_eq_true rfl) ?_
  intro p e s m below meth c A hsz hAe cx hr hP hD hS ls hl
  rw [hAe]
  refine g_q (fun Q hQ => ?_)
  have hx := cx.1.1
  have hb := cx.1.2.1
  have hl : lv_has ls 1 [(0, .ref (b 12))] := hl
  obtain ⟨H, eH⟩ : ∃ H : Heap, H = s.heap := ⟨_, rfl⟩
  obtain ⟨locs, el⟩ : ∃ L : List Loc, L = [] := ⟨_, rfl⟩
  have hP : va_P D vwCl [] H := by rw [eH]; exact hP
  have hD : va_D A [] := hD
  have hS : va_S A s.heap H locs := by rw [eH, el]; exact hS
  suffices goal : W p l e ({ frames := 0, cells := 0, slots := 0, locals := 0 } : Room) s m ([.ref (b 12)] : List Value).toArray below meth c H locs 0 0 Q (F0 m 0 ls []) by rw [eH, el] at goal; exact goal
  refine va_gets hx hb cx.2.2.2.t5 hS cx.1.2.2.2.1 (cx.1.2.2.2.2 _ fw_J0_isLatin1_aae02_S2_38) (fun _ h => h) dJ0_isLatin1_aae02_0 ?_
  refine lv_if_eq (tgt := 17) hx hb dJ0_isLatin1_aae02_3 (by decide) (fun c1 => ?_) (fun c1 => ?_)
  · exact absurd c1 (by decide)
  · refine lv_aload_n hx hb dJ0_isLatin1_aae02_6 rfl (lv_at hl 0 rfl) ?_
    refine vk_getf hx hb (cx.2.2.2.t7.1 2 (Nat.le_of_ble_eq_true rfl)).2.1 hS cx.1.2.2.2.1 (cx.1.2.2.2.2 _ fw_J0_isLatin1_aae02_S2_15) (fun _ h => h) dJ0_isLatin1_aae02_7 ?_
    refine lv_if_ne (tgt := 17) hx hb dJ0_isLatin1_aae02_10 (by decide) (fun c2 => ?_) (fun c2 => ?_)
    · exact absurd c2 (by decide)
    · refine lv_iconst (v := 1) hx hb dJ0_isLatin1_aae02_13 (by decide) ?_
      refine lv_goto (tgt := 18) hx hb dJ0_isLatin1_aae02_14 (by decide) ?_
      have hlit3 : (1 : Int32).toInt = 1 := by decide
      rw [hQ]
      exact x_z cx hr (by decide) () hP hD hS (show (1 : Int32).toInt = 1 from by omega) dJ0_isLatin1_aae02_18
set_option maxHeartbeats 4000000 in
set_option maxRecDepth 100000 in
theorem c_J3_checkIndex_8e157_N (l : Launch) (D : va_G) (k : Nat → ClassId) (b : Nat → Nat) (sz : Nat) (p0 : Int32) (p1 : Int32) (hi : 0 ≤ p0.toInt ∧ p0.toInt < p1.toInt) : MetI l D k b yJ3_checkIndex_8e157 wsJ3_checkIndex_8e157 ({ frames := 0, cells := 0, slots := 0, locals := 0 } : Room) [] sz [.int p0, .int p1, .null] (fun (r : Int32) (u : Unit) => True) (fun u => []) := by
  refine g_enter (cc := cJ3_checkIndex_8e157) (maxL := 3) (ret := (some .int)) (by decide) rfl (Nat.le_of_ble_eq_true rfl) ?_
  intro p e s m below meth c A hsz hAe cx hr hP hD hS ls hl
  rw [hAe]
  refine g_q (fun Q hQ => ?_)
  have hx := cx.1.1
  have hb := cx.1.2.1
  have bp0 := i_rng p0
  have bp1 := i_rng p1
  have hl : lv_has ls 3 [(0, .int p0), (1, .int p1), (2, .null)] := hl
  obtain ⟨H, eH⟩ : ∃ H : Heap, H = s.heap := ⟨_, rfl⟩
  obtain ⟨locs, el⟩ : ∃ L : List Loc, L = [] := ⟨_, rfl⟩
  have hP : va_P D vwCl [] H := by rw [eH]; exact hP
  have hD : va_D A [] := hD
  have hS : va_S A s.heap H locs := by rw [eH, el]; exact hS
  suffices goal : W p l e ({ frames := 0, cells := 0, slots := 0, locals := 0 } : Room) s m ([.int p0, .int p1, .null] : List Value).toArray below meth c H locs 0 0 Q (F0 m 0 ls []) by rw [eH, el] at goal; exact goal
  refine lv_iload_n hx hb dJ3_checkIndex_8e157_0 rfl (lv_at hl 0 rfl) ?_
  refine lv_if_lt (tgt := 9) hx hb dJ3_checkIndex_8e157_1 (by decide) (fun c1 => ?_) (fun c1 => ?_)
  · have f1 : p0.toInt < 0 := f_lt rfl (by decide) c1
    exact absurd f1 (by omega)
  · have f1 : 0 ≤ p0.toInt := f_nlt rfl (by decide) c1
    refine lv_iload_n hx hb dJ3_checkIndex_8e157_4 rfl (lv_at hl 0 rfl) ?_
    refine lv_iload_n hx hb dJ3_checkIndex_8e157_5 rfl (lv_at hl 1 rfl) ?_
    refine lv_icmp_lt (tgt := 16) hx hb dJ3_checkIndex_8e157_6 (by decide) (fun c2 => ?_) (fun c2 => ?_)
    · have f2 : p0.toInt < p1.toInt := f_lt rfl rfl c2
      refine lv_iload_n hx hb dJ3_checkIndex_8e157_16 rfl (lv_at hl 0 rfl) ?_
      rw [hQ]
      exact x_i cx hr () hP hD hS trivial dJ3_checkIndex_8e157_17
    · have f2 : p1.toInt ≤ p0.toInt := f_nlt rfl rfl c2
      exact absurd f2 (by omega)
set_option maxHeartbeats 4000000 in
set_option maxRecDepth 100000 in
theorem c_J3_checkIndex_8e157_R (l : Launch) (D : va_G) (k : Nat → ClassId) (b : Nat → Nat) (sz : Nat) (p0 : Int32) (p1 : Int32) (p2 : Nat) (hi : 0 ≤ p0.toInt ∧ p0.toInt < p1.toInt) : MetI l D k b yJ3_checkIndex_8e157 wsJ3_checkIndex_8e157 ({ frames := 0, cells := 0, slots := 0, locals := 0 } : Room) [] sz [.int p0, .int p1, .ref p2] (fun (r : Int32) (u : Unit) => True) (fun u => []) := by
  refine g_enter (cc := cJ3_checkIndex_8e157) (maxL := 3) (ret := (some .int)) (by decide) rfl (Nat.le_of_ble_eq_true rfl) ?_
  intro p e s m below meth c A hsz hAe cx hr hP hD hS ls hl
  rw [hAe]
  refine g_q (fun Q hQ => ?_)
  have hx := cx.1.1
  have hb := cx.1.2.1
  have bp0 := i_rng p0
  have bp1 := i_rng p1
  have hl : lv_has ls 3 [(0, .int p0), (1, .int p1), (2, .ref p2)] := hl
  obtain ⟨H, eH⟩ : ∃ H : Heap, H = s.heap := ⟨_, rfl⟩
  obtain ⟨locs, el⟩ : ∃ L : List Loc, L = [] := ⟨_, rfl⟩
  have hP : va_P D vwCl [] H := by rw [eH]; exact hP
  have hD : va_D A [] := hD
  have hS : va_S A s.heap H locs := by rw [eH, el]; exact hS
  suffices goal : W p l e ({ frames := 0, cells := 0, slots := 0, locals := 0 } : Room) s m ([.int p0, .int p1, .ref p2] : List Value).toArray below meth c H locs 0 0 Q (F0 m 0 ls []) by rw [eH, el] at goal; exact goal
  refine lv_iload_n hx hb dJ3_checkIndex_8e157_0 rfl (lv_at hl 0 rfl) ?_
  refine lv_if_lt (tgt := 9) hx hb dJ3_checkIndex_8e157_1 (by decide) (fun c1 => ?_) (fun c1 => ?_)
  · have f1 : p0.toInt < 0 := f_lt rfl (by decide) c1
    exact absurd f1 (by omega)
  · have f1 : 0 ≤ p0.toInt := f_nlt rfl (by decide) c1
    refine lv_iload_n hx hb dJ3_checkIndex_8e157_4 rfl (lv_at hl 0 rfl) ?_
    refine lv_iload_n hx hb dJ3_checkIndex_8e157_5 rfl (lv_at hl 1 rfl) ?_
    refine lv_icmp_lt (tgt := 16) hx hb dJ3_checkIndex_8e157_6 (by decide) (fun c2 => ?_) (fun c2 => ?_)
    · have f2 : p0.toInt < p1.toInt := f_lt rfl rfl c2
      refine lv_iload_n hx hb dJ3_checkIndex_8e157_16 rfl (lv_at hl 0 rfl) ?_
      rw [hQ]
      exact x_i cx hr () hP hD hS trivial dJ3_checkIndex_8e157_17
    · have f2 : p1.toInt ≤ p0.toInt := f_nlt rfl rfl c2
      exact absurd f2 (by omega)
theorem fw_J0_checkIndex_df160_1053 : Cond.fieldLink RJ0 1053 "jdk/internal/util/Preconditions" "SIOOBE_FORMATTER" "Ljava/util/function/BiFunction;" ∈ wsJ0_checkIndex_df160 := by decide +kernel
theorem nd_J3_checkIndex_8e157 : yJ3_checkIndex_8e157.cls ≠ "java/lang/invoke/MethodHandle" ∧ yJ3_checkIndex_8e157.cls ≠ "java/lang/invoke/VarHandle" ∧ (parseMethodDescriptor yJ3_checkIndex_8e157.desc).map (fun d => d.parameters.length) = some 3 := by decide +kernel
set_option maxHeartbeats 4000000 in
set_option maxRecDepth 100000 in
theorem c_J0_checkIndex_df160 (l : Launch) (D : va_G) (k : Nat → ClassId) (b : Nat → Nat) (sz : Nat) (p0 : Int32) (p1 : Int32) (hi : 0 ≤ p0.toInt ∧ p0.toInt < p1.toInt) : MetV l D k b yJ0_checkIndex_df160 wsJ0_checkIndex_df160 ({ frames := 1, cells := 0, slots := 0, locals := 22 } : Room) [] sz [.int p0, .int p1] (fun (u : Unit) => True) (fun u => []) := by
  refine g_enter (cc := cJ0_checkIndex_df160) (maxL := 2) (ret := none) (by decide) rfl (Nat.le_of_ble_eq_true rfl) ?_
  intro p e s m below meth c A hsz hAe cx hr hP hD hS ls hl
  rw [hAe]
  refine g_q (fun Q hQ => ?_)
  have hx := cx.1.1
  have hb := cx.1.2.1
  have bp0 := i_rng p0
  have bp1 := i_rng p1
  have hl : lv_has ls 2 [(0, .int p0), (1, .int p1)] := hl
  obtain ⟨H, eH⟩ : ∃ H : Heap, H = s.heap := ⟨_, rfl⟩
  obtain ⟨locs, el⟩ : ∃ L : List Loc, L = [] := ⟨_, rfl⟩
  have hP : va_P D vwCl [] H := by rw [eH]; exact hP
  have hD : va_D A [] := hD
  have hS : va_S A s.heap H locs := by rw [eH, el]; exact hS
  suffices goal : W p l e ({ frames := 1, cells := 0, slots := 0, locals := 22 } : Room) s m ([.int p0, .int p1] : List Value).toArray below meth c H locs 0 0 Q (F0 m 0 ls []) by rw [eH, el] at goal; exact goal
  refine lv_iload_n hx hb dJ0_checkIndex_df160_0 rfl (lv_at hl 0 rfl) ?_
  refine lv_iload_n hx hb dJ0_checkIndex_df160_1 rfl (lv_at hl 1 rfl) ?_
  rcases cx.2.2.2.t6 with hz | ⟨tq, hz⟩
  · refine va_gets hx hb hz hS cx.1.2.2.2.1 (cx.1.2.2.2.2 _ fw_J0_checkIndex_df160_1053) (fun _ h => h) dJ0_checkIndex_df160_2 ?_
    refine g_ir (g_runS (wc := []) (rest := []) cx hP hD hS [] rfl (by decide) [.int p0, .int p1, .null] (c_J3_checkIndex_8e157_N l D k b H.size p0 p1 (show 0 ≤ p0.toInt ∧ p0.toInt < p1.toInt from by first | decide | omega)) gJ0_checkIndex_df160_J3_checkIndex_8e157 rfl rfl rfl nd_J3_checkIndex_8e157 ⟨Nat.le_of_ble_eq_true rfl, Nat.le_of_ble_eq_true rfl⟩ rfl hl.1 rfl (Nat.le_of_ble_eq_true rfl) ⟨Nat.zero_le _, Nat.zero_le _⟩ dJ0_checkIndex_df160_5) cx.2.2.1 hP hD hS [] rfl rfl (fun r2 H locs hw1 hP hS => ?_)
    clear hw1
    refine lv_pop hx hb dJ0_checkIndex_df160_8 rfl ?_
    rw [hQ]
    exact x_v cx hr () hP hD hS trivial dJ0_checkIndex_df160_9
  · refine va_gets hx hb hz hS cx.1.2.2.2.1 (cx.1.2.2.2.2 _ fw_J0_checkIndex_df160_1053) (fun _ h => h) dJ0_checkIndex_df160_2 ?_
    refine g_ir (g_runS (wc := []) (rest := []) cx hP hD hS [] rfl (by decide) [.int p0, .int p1, .ref tq] (c_J3_checkIndex_8e157_R l D k b H.size p0 p1 tq (show 0 ≤ p0.toInt ∧ p0.toInt < p1.toInt from by first | decide | omega)) gJ0_checkIndex_df160_J3_checkIndex_8e157 rfl rfl rfl nd_J3_checkIndex_8e157 ⟨Nat.le_of_ble_eq_true rfl, Nat.le_of_ble_eq_true rfl⟩ rfl hl.1 rfl (Nat.le_of_ble_eq_true rfl) ⟨Nat.zero_le _, Nat.zero_le _⟩ dJ0_checkIndex_df160_5) cx.2.2.1 hP hD hS [] rfl rfl (fun r4 H locs hw3 hP hS => ?_)
    clear hw3
    refine lv_pop hx hb dJ0_checkIndex_df160_8 rfl ?_
    rw [hQ]
    exact x_v cx hr () hP hD hS trivial dJ0_checkIndex_df160_9
theorem nd_J0_checkIndex_df160 : yJ0_checkIndex_df160.cls ≠ "java/lang/invoke/MethodHandle" ∧ yJ0_checkIndex_df160.cls ≠ "java/lang/invoke/VarHandle" ∧ (parseMethodDescriptor yJ0_checkIndex_df160.desc).map (fun d => d.parameters.length) = some 2 := by decide +kernel
set_option maxHeartbeats 4000000 in
set_option maxRecDepth 100000 in
theorem c_J1_charAt_3b067_B0 (l : Launch) (D : va_G) (k : Nat → ClassId) (b : Nat → Nat) (sz : Nat) (p0 : Int32) (hp0 : 0 ≤ p0.toInt ∧ p0.toInt ≤ 6) : MetI l D k b yJ1_charAt_3b067 wsJ1_charAt_3b067 ({ frames := 2, cells := 0, slots := 0, locals := 43 } : Room) [] sz [.ref (b 20), .int p0] (fun (r : Int32) (u : Unit) => (65 ≤ r.toInt ∧ r.toInt ≤ 90) ∧ (¬ 0 = 1 ∨ r.toInt = 87 ∨ r.toInt = 79) ∧ (r = (zBYT.getD 0 []).getD (Int.toNat p0.toInt) 0)) (fun u => []) := by
  refine g_enter (cc := cJ1_charAt_3b067) (maxL := 2) (ret := (some .char)) (by decide) rfl (Nat.le_of_ble_eq_true rfl) ?_
  intro p e s m below meth c A hsz hAe cx hr hP hD hS ls hl
  rw [hAe]
  refine g_q (fun Q hQ => ?_)
  have hx := cx.1.1
  have hb := cx.1.2.1
  have bp0 := i_rng p0
  have hl : lv_has ls 2 [(0, .ref (b 20)), (1, .int p0)] := hl
  obtain ⟨H, eH⟩ : ∃ H : Heap, H = s.heap := ⟨_, rfl⟩
  obtain ⟨locs, el⟩ : ∃ L : List Loc, L = [] := ⟨_, rfl⟩
  have hP : va_P D vwCl [] H := by rw [eH]; exact hP
  have hD : va_D A [] := hD
  have hS : va_S A s.heap H locs := by rw [eH, el]; exact hS
  suffices goal : W p l e ({ frames := 2, cells := 0, slots := 0, locals := 43 } : Room) s m ([.ref (b 20), .int p0] : List Value).toArray below meth c H locs 0 0 Q (F0 m 0 ls []) by rw [eH, el] at goal; exact goal
  refine lv_iload_n hx hb dJ1_charAt_3b067_0 rfl (lv_at hl 1 rfl) ?_
  refine lv_aload_n hx hb dJ1_charAt_3b067_1 rfl (lv_at hl 0 rfl) ?_
  refine va_tlen hx hb (cx.2.2.2.t7.1 0 (Nat.le_of_ble_eq_true rfl)).2.2.2 hS (v := 7) (by decide) dJ1_charAt_3b067_2 ?_
  have hlit1 : (7 : Int32).toInt = 7 := by decide
  refine g_vr (g_runS (wc := []) (rest := []) cx hP hD hS [] rfl (by decide) [.int p0, .int 7] (c_J0_checkIndex_df160 l D k b H.size p0 7 (show 0 ≤ p0.toInt ∧ p0.toInt < (7 : Int32).toInt from by first | decide | omega)) gJ1_charAt_3b067_J0_checkIndex_df160 rfl rfl rfl nd_J0_checkIndex_df160 ⟨Nat.le_of_ble_eq_true rfl, Nat.le_of_ble_eq_true rfl⟩ rfl hl.1 rfl (Nat.le_of_ble_eq_true rfl) ⟨Nat.zero_le _, Nat.zero_le _⟩ dJ1_charAt_3b067_3) cx.2.2.1 hP hD hS [] rfl rfl (fun H locs hw2 hP hS => ?_)
  clear hw2
  refine lv_aload_n hx hb dJ1_charAt_3b067_6 rfl (lv_at hl 0 rfl) ?_
  refine lv_iload_n hx hb dJ1_charAt_3b067_7 rfl (lv_at hl 1 rfl) ?_
  have hn3 : vp_in p0 7 := f_in (a := p0.toInt) rfl (by omega) (by omega)
  refine va_tb (N := 7) hx hb (cx.2.2.2.t7.1 0 (Nat.le_of_ble_eq_true rfl)).2.2.2 hS hn3 rfl dJ1_charAt_3b067_8 (lv_topi (fun v4 e4 => ?_))
  refine lv_sipush (v := 255) hx hb dJ1_charAt_3b067_9 (by decide) ?_
  refine lv_iand hx hb dJ1_charAt_3b067_12 (lv_topi (fun v5 e5 => ?_))
  have t5 : 0 ≤ v5.toInt ∧ v5.toInt ≤ 255 := by rw [e5]; exact and_r (by decide) (by omega)
  obtain ⟨v6, e6⟩ : ∃ z : Int32, z = ((v5 : Int32).toUInt32 % 65536).toInt32 := ⟨_, rfl⟩
  refine lv_i2c (v := v6) hx hb dJ1_charAt_3b067_13 e6.symm ?_
  have ch := chr_t (i := 0) (n := 7) (by decide) rfl (x := p0) ⟨by omega, by omega⟩ (by decide) e4 e5 e6
  have chx_ := chr_x (i := 0) (n := 7) (by decide) rfl (x := p0) ⟨by omega, by omega⟩ (by decide) e4 e5 e6
  rw [hQ]
  exact x_z cx hr (nar_c ⟨by omega, by omega⟩) () hP hD hS ⟨(show 65 ≤ v6.toInt ∧ v6.toInt ≤ 90 from ch.1), (show ¬ 0 = 1 ∨ v6.toInt = 87 ∨ v6.toInt = 79 from ch.2), (show v6 = (zBYT.getD 0 []).getD (Int.toNat p0.toInt) 0 from chx_)⟩ dJ1_charAt_3b067_14
set_option maxHeartbeats 4000000 in
set_option maxRecDepth 100000 in
theorem c_J1_charAt_3b067_B1 (l : Launch) (D : va_G) (k : Nat → ClassId) (b : Nat → Nat) (sz : Nat) (p0 : Int32) (hp0 : 0 ≤ p0.toInt ∧ p0.toInt ≤ 1) : MetI l D k b yJ1_charAt_3b067 wsJ1_charAt_3b067 ({ frames := 2, cells := 0, slots := 0, locals := 43 } : Room) [] sz [.ref (b 21), .int p0] (fun (r : Int32) (u : Unit) => (65 ≤ r.toInt ∧ r.toInt ≤ 90) ∧ (¬ 1 = 1 ∨ r.toInt = 87 ∨ r.toInt = 79) ∧ (r = (zBYT.getD 1 []).getD (Int.toNat p0.toInt) 0)) (fun u => []) := by
  refine g_enter (cc := cJ1_charAt_3b067) (maxL := 2) (ret := (some .char)) (by decide) rfl (Nat.le_of_ble_eq_true rfl) ?_
  intro p e s m below meth c A hsz hAe cx hr hP hD hS ls hl
  rw [hAe]
  refine g_q (fun Q hQ => ?_)
  have hx := cx.1.1
  have hb := cx.1.2.1
  have bp0 := i_rng p0
  have hl : lv_has ls 2 [(0, .ref (b 21)), (1, .int p0)] := hl
  obtain ⟨H, eH⟩ : ∃ H : Heap, H = s.heap := ⟨_, rfl⟩
  obtain ⟨locs, el⟩ : ∃ L : List Loc, L = [] := ⟨_, rfl⟩
  have hP : va_P D vwCl [] H := by rw [eH]; exact hP
  have hD : va_D A [] := hD
  have hS : va_S A s.heap H locs := by rw [eH, el]; exact hS
  suffices goal : W p l e ({ frames := 2, cells := 0, slots := 0, locals := 43 } : Room) s m ([.ref (b 21), .int p0] : List Value).toArray below meth c H locs 0 0 Q (F0 m 0 ls []) by rw [eH, el] at goal; exact goal
  refine lv_iload_n hx hb dJ1_charAt_3b067_0 rfl (lv_at hl 1 rfl) ?_
  refine lv_aload_n hx hb dJ1_charAt_3b067_1 rfl (lv_at hl 0 rfl) ?_
  refine va_tlen hx hb (cx.2.2.2.t7.1 1 (Nat.le_of_ble_eq_true rfl)).2.2.2 hS (v := 2) (by decide) dJ1_charAt_3b067_2 ?_
  have hlit1 : (2 : Int32).toInt = 2 := by decide
  refine g_vr (g_runS (wc := []) (rest := []) cx hP hD hS [] rfl (by decide) [.int p0, .int 2] (c_J0_checkIndex_df160 l D k b H.size p0 2 (show 0 ≤ p0.toInt ∧ p0.toInt < (2 : Int32).toInt from by first | decide | omega)) gJ1_charAt_3b067_J0_checkIndex_df160 rfl rfl rfl nd_J0_checkIndex_df160 ⟨Nat.le_of_ble_eq_true rfl, Nat.le_of_ble_eq_true rfl⟩ rfl hl.1 rfl (Nat.le_of_ble_eq_true rfl) ⟨Nat.zero_le _, Nat.zero_le _⟩ dJ1_charAt_3b067_3) cx.2.2.1 hP hD hS [] rfl rfl (fun H locs hw2 hP hS => ?_)
  clear hw2
  refine lv_aload_n hx hb dJ1_charAt_3b067_6 rfl (lv_at hl 0 rfl) ?_
  refine lv_iload_n hx hb dJ1_charAt_3b067_7 rfl (lv_at hl 1 rfl) ?_
  have hn3 : vp_in p0 2 := f_in (a := p0.toInt) rfl (by omega) (by omega)
  refine va_tb (N := 2) hx hb (cx.2.2.2.t7.1 1 (Nat.le_of_ble_eq_true rfl)).2.2.2 hS hn3 rfl dJ1_charAt_3b067_8 (lv_topi (fun v4 e4 => ?_))
  refine lv_sipush (v := 255) hx hb dJ1_charAt_3b067_9 (by decide) ?_
  refine lv_iand hx hb dJ1_charAt_3b067_12 (lv_topi (fun v5 e5 => ?_))
  have t5 : 0 ≤ v5.toInt ∧ v5.toInt ≤ 255 := by rw [e5]; exact and_r (by decide) (by omega)
  obtain ⟨v6, e6⟩ : ∃ z : Int32, z = ((v5 : Int32).toUInt32 % 65536).toInt32 := ⟨_, rfl⟩
  refine lv_i2c (v := v6) hx hb dJ1_charAt_3b067_13 e6.symm ?_
  have ch := chr_t (i := 1) (n := 2) (by decide) rfl (x := p0) ⟨by omega, by omega⟩ (by decide) e4 e5 e6
  have chx_ := chr_x (i := 1) (n := 2) (by decide) rfl (x := p0) ⟨by omega, by omega⟩ (by decide) e4 e5 e6
  rw [hQ]
  exact x_z cx hr (nar_c ⟨by omega, by omega⟩) () hP hD hS ⟨(show 65 ≤ v6.toInt ∧ v6.toInt ≤ 90 from ch.1), (show ¬ 1 = 1 ∨ v6.toInt = 87 ∨ v6.toInt = 79 from ch.2), (show v6 = (zBYT.getD 1 []).getD (Int.toNat p0.toInt) 0 from chx_)⟩ dJ1_charAt_3b067_14
set_option maxHeartbeats 4000000 in
set_option maxRecDepth 100000 in
theorem c_J1_charAt_3b067_B2 (l : Launch) (D : va_G) (k : Nat → ClassId) (b : Nat → Nat) (sz : Nat) (p0 : Int32) (hp0 : 0 ≤ p0.toInt ∧ p0.toInt ≤ 1) : MetI l D k b yJ1_charAt_3b067 wsJ1_charAt_3b067 ({ frames := 2, cells := 0, slots := 0, locals := 43 } : Room) [] sz [.ref (b 22), .int p0] (fun (r : Int32) (u : Unit) => (65 ≤ r.toInt ∧ r.toInt ≤ 90) ∧ (¬ 2 = 1 ∨ r.toInt = 87 ∨ r.toInt = 79) ∧ (r = (zBYT.getD 2 []).getD (Int.toNat p0.toInt) 0)) (fun u => []) := by
  refine g_enter (cc := cJ1_charAt_3b067) (maxL := 2) (ret := (some .char)) (by decide) rfl (Nat.le_of_ble_eq_true rfl) ?_
  intro p e s m below meth c A hsz hAe cx hr hP hD hS ls hl
  rw [hAe]
  refine g_q (fun Q hQ => ?_)
  have hx := cx.1.1
  have hb := cx.1.2.1
  have bp0 := i_rng p0
  have hl : lv_has ls 2 [(0, .ref (b 22)), (1, .int p0)] := hl
  obtain ⟨H, eH⟩ : ∃ H : Heap, H = s.heap := ⟨_, rfl⟩
  obtain ⟨locs, el⟩ : ∃ L : List Loc, L = [] := ⟨_, rfl⟩
  have hP : va_P D vwCl [] H := by rw [eH]; exact hP
  have hD : va_D A [] := hD
  have hS : va_S A s.heap H locs := by rw [eH, el]; exact hS
  suffices goal : W p l e ({ frames := 2, cells := 0, slots := 0, locals := 43 } : Room) s m ([.ref (b 22), .int p0] : List Value).toArray below meth c H locs 0 0 Q (F0 m 0 ls []) by rw [eH, el] at goal; exact goal
  refine lv_iload_n hx hb dJ1_charAt_3b067_0 rfl (lv_at hl 1 rfl) ?_
  refine lv_aload_n hx hb dJ1_charAt_3b067_1 rfl (lv_at hl 0 rfl) ?_
  refine va_tlen hx hb (cx.2.2.2.t7.1 2 (Nat.le_of_ble_eq_true rfl)).2.2.2 hS (v := 2) (by decide) dJ1_charAt_3b067_2 ?_
  have hlit1 : (2 : Int32).toInt = 2 := by decide
  refine g_vr (g_runS (wc := []) (rest := []) cx hP hD hS [] rfl (by decide) [.int p0, .int 2] (c_J0_checkIndex_df160 l D k b H.size p0 2 (show 0 ≤ p0.toInt ∧ p0.toInt < (2 : Int32).toInt from by first | decide | omega)) gJ1_charAt_3b067_J0_checkIndex_df160 rfl rfl rfl nd_J0_checkIndex_df160 ⟨Nat.le_of_ble_eq_true rfl, Nat.le_of_ble_eq_true rfl⟩ rfl hl.1 rfl (Nat.le_of_ble_eq_true rfl) ⟨Nat.zero_le _, Nat.zero_le _⟩ dJ1_charAt_3b067_3) cx.2.2.1 hP hD hS [] rfl rfl (fun H locs hw2 hP hS => ?_)
  clear hw2
  refine lv_aload_n hx hb dJ1_charAt_3b067_6 rfl (lv_at hl 0 rfl) ?_
  refine lv_iload_n hx hb dJ1_charAt_3b067_7 rfl (lv_at hl 1 rfl) ?_
  have hn3 : vp_in p0 2 := f_in (a := p0.toInt) rfl (by omega) (by omega)
  refine va_tb (N := 2) hx hb (cx.2.2.2.t7.1 2 (Nat.le_of_ble_eq_true rfl)).2.2.2 hS hn3 rfl dJ1_charAt_3b067_8 (lv_topi (fun v4 e4 => ?_))
  refine lv_sipush (v := 255) hx hb dJ1_charAt_3b067_9 (by decide) ?_
  refine lv_iand hx hb dJ1_charAt_3b067_12 (lv_topi (fun v5 e5 => ?_))
  have t5 : 0 ≤ v5.toInt ∧ v5.toInt ≤ 255 := by rw [e5]; exact and_r (by decide) (by omega)
  obtain ⟨v6, e6⟩ : ∃ z : Int32, z = ((v5 : Int32).toUInt32 % 65536).toInt32 := ⟨_, rfl⟩
  refine lv_i2c (v := v6) hx hb dJ1_charAt_3b067_13 e6.symm ?_
  have ch := chr_t (i := 2) (n := 2) (by decide) rfl (x := p0) ⟨by omega, by omega⟩ (by decide) e4 e5 e6
  have chx_ := chr_x (i := 2) (n := 2) (by decide) rfl (x := p0) ⟨by omega, by omega⟩ (by decide) e4 e5 e6
  rw [hQ]
  exact x_z cx hr (nar_c ⟨by omega, by omega⟩) () hP hD hS ⟨(show 65 ≤ v6.toInt ∧ v6.toInt ≤ 90 from ch.1), (show ¬ 2 = 1 ∨ v6.toInt = 87 ∨ v6.toInt = 79 from ch.2), (show v6 = (zBYT.getD 2 []).getD (Int.toNat p0.toInt) 0 from chx_)⟩ dJ1_charAt_3b067_14
theorem fw_J0_charAt_5068e_S0_9 : Cond.fieldLink RJ0 9 "java/lang/String" "value" "[B" ∈ wsJ0_charAt_5068e := by decide +kernel
theorem nd_J0_isLatin1_aae02 : yJ0_isLatin1_aae02.cls = RJ0 ∧ yJ0_isLatin1_aae02.cls ≠ "java/lang/invoke/MethodHandle" ∧ yJ0_isLatin1_aae02.cls ≠ "java/lang/invoke/VarHandle" ∧ (parseMethodDescriptor yJ0_isLatin1_aae02.desc).map (fun d => d.parameters.length) = some 0 := by decide +kernel
theorem nd_J1_charAt_3b067 : yJ1_charAt_3b067.cls ≠ "java/lang/invoke/MethodHandle" ∧ yJ1_charAt_3b067.cls ≠ "java/lang/invoke/VarHandle" ∧ (parseMethodDescriptor yJ1_charAt_3b067.desc).map (fun d => d.parameters.length) = some 2 := by decide +kernel
set_option maxHeartbeats 4000000 in
set_option maxRecDepth 100000 in
theorem c_J0_charAt_5068e_S0 (l : Launch) (D : va_G) (k : Nat → ClassId) (b : Nat → Nat) (sz : Nat) (p0 : Int32) (hp0 : 0 ≤ p0.toInt ∧ p0.toInt ≤ 6) : MetI l D k b yJ0_charAt_5068e wsJ0_charAt_5068e ({ frames := 3, cells := 0, slots := 0, locals := 64 } : Room) [] sz [.ref (b 10), .int p0] (fun (r : Int32) (u : Unit) => (65 ≤ r.toInt ∧ r.toInt ≤ 90) ∧ (¬ 0 = 1 ∨ r.toInt = 87 ∨ r.toInt = 79) ∧ (r = (zBYT.getD 0 []).getD (Int.toNat p0.toInt) 0)) (fun u => []) := by
  refine g_enter (cc := cJ0_charAt_5068e) (maxL := 2) (ret := (some .char)) (by decide) rfl (Nat.le_of_ble_eq_true rfl) ?_
  intro p e s m below meth c A hsz hAe cx hr hP hD hS ls hl
  rw [hAe]
  refine g_q (fun Q hQ => ?_)
  have hx := cx.1.1
  have hb := cx.1.2.1
  have bp0 := i_rng p0
  have hl : lv_has ls 2 [(0, .ref (b 10)), (1, .int p0)] := hl
  obtain ⟨H, eH⟩ : ∃ H : Heap, H = s.heap := ⟨_, rfl⟩
  obtain ⟨locs, el⟩ : ∃ L : List Loc, L = [] := ⟨_, rfl⟩
  have hP : va_P D vwCl [] H := by rw [eH]; exact hP
  have hD : va_D A [] := hD
  have hS : va_S A s.heap H locs := by rw [eH, el]; exact hS
  suffices goal : W p l e ({ frames := 3, cells := 0, slots := 0, locals := 64 } : Room) s m ([.ref (b 10), .int p0] : List Value).toArray below meth c H locs 0 0 Q (F0 m 0 ls []) by rw [eH, el] at goal; exact goal
  refine lv_aload_n hx hb dJ0_charAt_5068e_0 rfl (lv_at hl 0 rfl) ?_
  refine g_ir (g_runK (rest := []) cx hP hD hS (i := 0) (Nat.le_of_ble_eq_true rfl) [] (c_J0_isLatin1_aae02_S0 l D k b H.size) gJ0_charAt_5068e_J0_isLatin1_aae02 rfl rfl rfl nd_J0_isLatin1_aae02 ⟨Nat.le_of_ble_eq_true rfl, Nat.le_of_ble_eq_true rfl⟩ rfl hl.1 rfl (Nat.le_of_ble_eq_true rfl) ⟨Nat.zero_le _, Nat.zero_le _⟩ dJ0_charAt_5068e_1) cx.2.2.1 hP hD hS [] rfl rfl (fun r2 H locs hw1 hP hS => ?_)
  have w3 : r2.toInt = 1 := hw1
  clear hw1
  refine lv_if_eq (tgt := 16) hx hb dJ0_charAt_5068e_4 (by decide) (fun c4 => ?_) (fun c4 => ?_)
  · have f4 : r2.toInt = 0 := f_eq rfl (by decide) c4
    exact absurd f4 (by omega)
  · have f4 : ¬ r2.toInt = 0 := f_ne rfl (by decide) c4
    refine lv_aload_n hx hb dJ0_charAt_5068e_7 rfl (lv_at hl 0 rfl) ?_
    refine vk_getf hx hb (cx.2.2.2.t7.1 0 (Nat.le_of_ble_eq_true rfl)).2.2.1 hS cx.1.2.2.2.1 (cx.1.2.2.2.2 _ fw_J0_charAt_5068e_S0_9) (fun _ h => h) dJ0_charAt_5068e_8 ?_
    refine lv_iload_n hx hb dJ0_charAt_5068e_11 rfl (lv_at hl 1 rfl) ?_
    refine g_ir (g_runS (wc := []) (rest := []) cx hP hD hS [] rfl (by decide) [.ref (b 20), .int p0] (c_J1_charAt_3b067_B0 l D k b H.size p0 (show 0 ≤ p0.toInt ∧ p0.toInt ≤ 6 from by first | decide | omega)) gJ0_charAt_5068e_J1_charAt_3b067 rfl rfl rfl nd_J1_charAt_3b067 ⟨Nat.le_of_ble_eq_true rfl, Nat.le_of_ble_eq_true rfl⟩ rfl hl.1 rfl (Nat.le_of_ble_eq_true rfl) ⟨Nat.zero_le _, Nat.zero_le _⟩ dJ0_charAt_5068e_12) cx.2.2.1 hP hD hS [] rfl rfl (fun r6 H locs hw5 hP hS => ?_)
    replace hw5 : (65 ≤ r6.toInt ∧ r6.toInt ≤ 90) ∧ (¬ 0 = 1 ∨ r6.toInt = 87 ∨ r6.toInt = 79) ∧ (r6 = (zBYT.getD 0 []).getD (Int.toNat p0.toInt) 0) := hw5
    obtain ⟨w7, w8, w9⟩ := hw5
    rw [hQ]
    exact x_z cx hr (nar_c ⟨by omega, by omega⟩) () hP hD hS ⟨(show 65 ≤ r6.toInt ∧ r6.toInt ≤ 90 from by omega), (show ¬ 0 = 1 ∨ r6.toInt = 87 ∨ r6.toInt = 79 from by omega), (show r6 = (zBYT.getD 0 []).getD (Int.toNat p0.toInt) 0 from by assumption)⟩ dJ0_charAt_5068e_15
theorem fw_J0_charAt_5068e_S1_9 : Cond.fieldLink RJ0 9 "java/lang/String" "value" "[B" ∈ wsJ0_charAt_5068e := by decide +kernel
set_option maxHeartbeats 4000000 in
set_option maxRecDepth 100000 in
theorem c_J0_charAt_5068e_S1 (l : Launch) (D : va_G) (k : Nat → ClassId) (b : Nat → Nat) (sz : Nat) (p0 : Int32) (hp0 : 0 ≤ p0.toInt ∧ p0.toInt ≤ 1) : MetI l D k b yJ0_charAt_5068e wsJ0_charAt_5068e ({ frames := 3, cells := 0, slots := 0, locals := 64 } : Room) [] sz [.ref (b 11), .int p0] (fun (r : Int32) (u : Unit) => (65 ≤ r.toInt ∧ r.toInt ≤ 90) ∧ (¬ 1 = 1 ∨ r.toInt = 87 ∨ r.toInt = 79) ∧ (r = (zBYT.getD 1 []).getD (Int.toNat p0.toInt) 0)) (fun u => []) := by
  refine g_enter (cc := cJ0_charAt_5068e) (maxL := 2) (ret := (some .char)) (by decide) rfl (Nat.le_of_ble_eq_true rfl) ?_
  intro p e s m below meth c A hsz hAe cx hr hP hD hS ls hl
  rw [hAe]
  refine g_q (fun Q hQ => ?_)
  have hx := cx.1.1
  have hb := cx.1.2.1
  have bp0 := i_rng p0
  have hl : lv_has ls 2 [(0, .ref (b 11)), (1, .int p0)] := hl
  obtain ⟨H, eH⟩ : ∃ H : Heap, H = s.heap := ⟨_, rfl⟩
  obtain ⟨locs, el⟩ : ∃ L : List Loc, L = [] := ⟨_, rfl⟩
  have hP : va_P D vwCl [] H := by rw [eH]; exact hP
  have hD : va_D A [] := hD
  have hS : va_S A s.heap H locs := by rw [eH, el]; exact hS
  suffices goal : W p l e ({ frames := 3, cells := 0, slots := 0, locals := 64 } : Room) s m ([.ref (b 11), .int p0] : List Value).toArray below meth c H locs 0 0 Q (F0 m 0 ls []) by rw [eH, el] at goal; exact goal
  refine lv_aload_n hx hb dJ0_charAt_5068e_0 rfl (lv_at hl 0 rfl) ?_
  refine g_ir (g_runK (rest := []) cx hP hD hS (i := 1) (Nat.le_of_ble_eq_true rfl) [] (c_J0_isLatin1_aae02_S1 l D k b H.size) gJ0_charAt_5068e_J0_isLatin1_aae02 rfl rfl rfl nd_J0_isLatin1_aae02 ⟨Nat.le_of_ble_eq_true rfl, Nat.le_of_ble_eq_true rfl⟩ rfl hl.1 rfl (Nat.le_of_ble_eq_true rfl) ⟨Nat.zero_le _, Nat.zero_le _⟩ dJ0_charAt_5068e_1) cx.2.2.1 hP hD hS [] rfl rfl (fun r2 H locs hw1 hP hS => ?_)
  have w3 : r2.toInt = 1 := hw1
  clear hw1
  refine lv_if_eq (tgt := 16) hx hb dJ0_charAt_5068e_4 (by decide) (fun c4 => ?_) (fun c4 => ?_)
  · have f4 : r2.toInt = 0 := f_eq rfl (by decide) c4
    exact absurd f4 (by omega)
  · have f4 : ¬ r2.toInt = 0 := f_ne rfl (by decide) c4
    refine lv_aload_n hx hb dJ0_charAt_5068e_7 rfl (lv_at hl 0 rfl) ?_
    refine vk_getf hx hb (cx.2.2.2.t7.1 1 (Nat.le_of_ble_eq_true rfl)).2.2.1 hS cx.1.2.2.2.1 (cx.1.2.2.2.2 _ fw_J0_charAt_5068e_S1_9) (fun _ h => h) dJ0_charAt_5068e_8 ?_
    refine lv_iload_n hx hb dJ0_charAt_5068e_11 rfl (lv_at hl 1 rfl) ?_
    refine g_ir (g_runS (wc := []) (rest := []) cx hP hD hS [] rfl (by decide) [.ref (b 21), .int p0] (c_J1_charAt_3b067_B1 l D k b H.size p0 (show 0 ≤ p0.toInt ∧ p0.toInt ≤ 1 from by first | decide | omega)) gJ0_charAt_5068e_J1_charAt_3b067 rfl rfl rfl nd_J1_charAt_3b067 ⟨Nat.le_of_ble_eq_true rfl, Nat.le_of_ble_eq_true rfl⟩ rfl hl.1 rfl (Nat.le_of_ble_eq_true rfl) ⟨Nat.zero_le _, Nat.zero_le _⟩ dJ0_charAt_5068e_12) cx.2.2.1 hP hD hS [] rfl rfl (fun r6 H locs hw5 hP hS => ?_)
    replace hw5 : (65 ≤ r6.toInt ∧ r6.toInt ≤ 90) ∧ (¬ 1 = 1 ∨ r6.toInt = 87 ∨ r6.toInt = 79) ∧ (r6 = (zBYT.getD 1 []).getD (Int.toNat p0.toInt) 0) := hw5
    obtain ⟨w7, w8, w9⟩ := hw5
    rw [hQ]
    exact x_z cx hr (nar_c ⟨by omega, by omega⟩) () hP hD hS ⟨(show 65 ≤ r6.toInt ∧ r6.toInt ≤ 90 from by omega), (show ¬ 1 = 1 ∨ r6.toInt = 87 ∨ r6.toInt = 79 from by omega), (show r6 = (zBYT.getD 1 []).getD (Int.toNat p0.toInt) 0 from by assumption)⟩ dJ0_charAt_5068e_15
theorem fw_J0_charAt_5068e_S2_9 : Cond.fieldLink RJ0 9 "java/lang/String" "value" "[B" ∈ wsJ0_charAt_5068e := by decide +kernel
set_option maxHeartbeats 4000000 in
set_option maxRecDepth 100000 in
theorem c_J0_charAt_5068e_S2 (l : Launch) (D : va_G) (k : Nat → ClassId) (b : Nat → Nat) (sz : Nat) (p0 : Int32) (hp0 : 0 ≤ p0.toInt ∧ p0.toInt ≤ 1) : MetI l D k b yJ0_charAt_5068e wsJ0_charAt_5068e ({ frames := 3, cells := 0, slots := 0, locals := 64 } : Room) [] sz [.ref (b 12), .int p0] (fun (r : Int32) (u : Unit) => (65 ≤ r.toInt ∧ r.toInt ≤ 90) ∧ (¬ 2 = 1 ∨ r.toInt = 87 ∨ r.toInt = 79) ∧ (r = (zBYT.getD 2 []).getD (Int.toNat p0.toInt) 0)) (fun u => []) := by
  refine g_enter (cc := cJ0_charAt_5068e) (maxL := 2) (ret := (some .char)) (by decide) rfl (Nat.le_of_ble_eq_true rfl) ?_
  intro p e s m below meth c A hsz hAe cx hr hP hD hS ls hl
  rw [hAe]
  refine g_q (fun Q hQ => ?_)
  have hx := cx.1.1
  have hb := cx.1.2.1
  have bp0 := i_rng p0
  have hl : lv_has ls 2 [(0, .ref (b 12)), (1, .int p0)] := hl
  obtain ⟨H, eH⟩ : ∃ H : Heap, H = s.heap := ⟨_, rfl⟩
  obtain ⟨locs, el⟩ : ∃ L : List Loc, L = [] := ⟨_, rfl⟩
  have hP : va_P D vwCl [] H := by rw [eH]; exact hP
  have hD : va_D A [] := hD
  have hS : va_S A s.heap H locs := by rw [eH, el]; exact hS
  suffices goal : W p l e ({ frames := 3, cells := 0, slots := 0, locals := 64 } : Room) s m ([.ref (b 12), .int p0] : List Value).toArray below meth c H locs 0 0 Q (F0 m 0 ls []) by rw [eH, el] at goal; exact goal
  refine lv_aload_n hx hb dJ0_charAt_5068e_0 rfl (lv_at hl 0 rfl) ?_
  refine g_ir (g_runK (rest := []) cx hP hD hS (i := 2) (Nat.le_of_ble_eq_true rfl) [] (c_J0_isLatin1_aae02_S2 l D k b H.size) gJ0_charAt_5068e_J0_isLatin1_aae02 rfl rfl rfl nd_J0_isLatin1_aae02 ⟨Nat.le_of_ble_eq_true rfl, Nat.le_of_ble_eq_true rfl⟩ rfl hl.1 rfl (Nat.le_of_ble_eq_true rfl) ⟨Nat.zero_le _, Nat.zero_le _⟩ dJ0_charAt_5068e_1) cx.2.2.1 hP hD hS [] rfl rfl (fun r2 H locs hw1 hP hS => ?_)
  have w3 : r2.toInt = 1 := hw1
  clear hw1
  refine lv_if_eq (tgt := 16) hx hb dJ0_charAt_5068e_4 (by decide) (fun c4 => ?_) (fun c4 => ?_)
  · have f4 : r2.toInt = 0 := f_eq rfl (by decide) c4
    exact absurd f4 (by omega)
  · have f4 : ¬ r2.toInt = 0 := f_ne rfl (by decide) c4
    refine lv_aload_n hx hb dJ0_charAt_5068e_7 rfl (lv_at hl 0 rfl) ?_
    refine vk_getf hx hb (cx.2.2.2.t7.1 2 (Nat.le_of_ble_eq_true rfl)).2.2.1 hS cx.1.2.2.2.1 (cx.1.2.2.2.2 _ fw_J0_charAt_5068e_S2_9) (fun _ h => h) dJ0_charAt_5068e_8 ?_
    refine lv_iload_n hx hb dJ0_charAt_5068e_11 rfl (lv_at hl 1 rfl) ?_
    refine g_ir (g_runS (wc := []) (rest := []) cx hP hD hS [] rfl (by decide) [.ref (b 22), .int p0] (c_J1_charAt_3b067_B2 l D k b H.size p0 (show 0 ≤ p0.toInt ∧ p0.toInt ≤ 1 from by first | decide | omega)) gJ0_charAt_5068e_J1_charAt_3b067 rfl rfl rfl nd_J1_charAt_3b067 ⟨Nat.le_of_ble_eq_true rfl, Nat.le_of_ble_eq_true rfl⟩ rfl hl.1 rfl (Nat.le_of_ble_eq_true rfl) ⟨Nat.zero_le _, Nat.zero_le _⟩ dJ0_charAt_5068e_12) cx.2.2.1 hP hD hS [] rfl rfl (fun r6 H locs hw5 hP hS => ?_)
    replace hw5 : (65 ≤ r6.toInt ∧ r6.toInt ≤ 90) ∧ (¬ 2 = 1 ∨ r6.toInt = 87 ∨ r6.toInt = 79) ∧ (r6 = (zBYT.getD 2 []).getD (Int.toNat p0.toInt) 0) := hw5
    obtain ⟨w7, w8, w9⟩ := hw5
    rw [hQ]
    exact x_z cx hr (nar_c ⟨by omega, by omega⟩) () hP hD hS ⟨(show 65 ≤ r6.toInt ∧ r6.toInt ≤ 90 from by omega), (show ¬ 2 = 1 ∨ r6.toInt = 87 ∨ r6.toInt = 79 from by omega), (show r6 = (zBYT.getD 2 []).getD (Int.toNat p0.toInt) 0 from by assumption)⟩ dJ0_charAt_5068e_15
