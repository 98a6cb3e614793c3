theorem nd_X12_readHouse : yX12_readHouse.cls = RX12 ∧ yX12_readHouse.cls ≠ "java/lang/invoke/MethodHandle" ∧ yX12_readHouse.cls ≠ "java/lang/invoke/VarHandle" ∧ (parseMethodDescriptor yX12_readHouse.desc).map (fun d => d.parameters.length) = some 0 := by decide +kernel
theorem nd_X12_readRule : yX12_readRule.cls = RX12 ∧ yX12_readRule.cls ≠ "java/lang/invoke/MethodHandle" ∧ yX12_readRule.cls ≠ "java/lang/invoke/VarHandle" ∧ (parseMethodDescriptor yX12_readRule.desc).map (fun d => d.parameters.length) = some 0 := by decide +kernel
def J_X12_fault (sm : Nat → Nat → Int32) (tm : Nat → Nat → Int64) (p0 : Int32) : Int32 × (Nat → Int32) × Int32 × Int32 × Int32 × Int32 × Int32 × Int32 × Int32 × Int32 × (Nat → Int32) := if p0 = 0 then let y17 := J_X12_readHouse sm tm; ((y17.1), (y17.2.1), (y17.2.2.1), (y17.2.2.2.1), (y17.2.2.2.2.1), (y17.2.2.2.2.2.1), (y17.2.2.2.2.2.2.1), (y17.2.2.2.2.2.2.2.1), (y17.2.2.2.2.2.2.2.2), (sm 0 13), (sm 5)) else let y36 := J_X12_readRule sm tm; ((y36.1), (sm 1), (y36.2.1), (y36.2.2.1), (sm 0 6), (sm 0 7), (sm 0 8), (sm 0 9), (sm 0 10), (y36.2.2.2.1), (y36.2.2.2.2))
set_option maxHeartbeats 4000000 in
set_option maxRecDepth 100000 in
theorem c_X12_fault (l : Launch) (D : va_G) (k : Nat → ClassId) (b : Nat → Nat) (qm : Nat → Nat) (sm : Nat → Nat → Int32) (tm : Nat → Nat → Int64) (sz : Nat) (p0 : Int32) (h_len : 0 ≤ (sm 0 3).toInt ∧ (sm 0 3).toInt ≤ 64) (h_at : 0 ≤ (sm 0 4).toInt ∧ (sm 0 4).toInt ≤ 64) (h_r0 : 0 ≤ (sm 1 0).toInt ∧ (sm 1 0).toInt ≤ 5) (h_r1 : 0 ≤ (sm 1 1).toInt ∧ (sm 1 1).toInt ≤ 4) : MetI l D k b yX12_fault wsX12_fault ({ frames := 4, cells := 0, slots := 0, locals := 92 } : Room) [z22_ qm sm tm, z5_ k qm sm, z13_ k qm sm, z8_ k qm sm, z6_ k qm sm, z14_ k qm sm, z15_ k qm tm, z12_ k qm tm, z18_ k qm tm, z17_ k qm tm, z19_ k qm tm, z21_ k qm tm, z20_ k qm sm, z16_ k qm sm, z11_ k qm sm, z10_ k qm sm, z9_ k qm sm, z7_ k qm sm] sz [.ref (qm 0), .int p0] (fun (r : Int32) (u : (Nat → Int32) × Int32 × Int32 × Int32 × Int32 × Int32 × Int32 × Int32 × Int32 × (Nat → Int32)) => (0 ≤ ((u.1) 0).toInt ∧ ((u.1) 0).toInt ≤ 5) ∧ (0 ≤ ((u.1) 1).toInt ∧ ((u.1) 1).toInt ≤ 4) ∧ (0 ≤ (u.2.1).toInt ∧ (u.2.1).toInt ≤ 64) ∧ ((r, (u.1), (u.2.1), (u.2.2.1), (u.2.2.2.1), (u.2.2.2.2.1), (u.2.2.2.2.2.1), (u.2.2.2.2.2.2.1), (u.2.2.2.2.2.2.2.1), (u.2.2.2.2.2.2.2.2.1), (u.2.2.2.2.2.2.2.2.2)) = J_X12_fault sm tm p0)) (fun u => [z167_ qm sm tm (u.2.1) (u.2.2.1) (u.2.2.2.1) (u.2.2.2.2.1) (u.2.2.2.2.2.1) (u.2.2.2.2.2.2.1) (u.2.2.2.2.2.2.2.1) (u.2.2.2.2.2.2.2.2.1), z107_ k qm (u.1), z13_ k qm sm, z8_ k qm sm, z6_ k qm sm, z162_ k qm (u.2.2.2.2.2.2.2.2.2), z15_ k qm tm, z12_ k qm tm, z18_ k qm tm, z17_ k qm tm, z19_ k qm tm, z21_ k qm tm, z20_ k qm sm, z16_ k qm sm, z11_ k qm sm, z10_ k qm sm, z9_ k qm sm, z7_ k qm sm]) := by
  refine g_enter (cc := cX12_fault) (maxL := 2) (ret := (some .int)) (by decide) rfl (Nat.le_of_ble_eq_true rfl) ?_
  intro p e s m below meth c A hsz hAe cx hr hP hD hS ls hl
  rw [hAe]
  refine g_q (fun Q hQ => ?_)
  have hx := cx.1.1
  have hb := cx.1.2.1
  have bp0 := i_rng p0
  have hl : lv_has ls 2 [(0, .ref (qm 0)), (1, .int p0)] := hl
  obtain ⟨H, eH⟩ : ∃ H : Heap, H = s.heap := ⟨_, rfl⟩
  obtain ⟨locs, el⟩ : ∃ L : List Loc, L = [] := ⟨_, rfl⟩
  have hP : va_P D vwCl [z22_ qm sm tm, z5_ k qm sm, z13_ k qm sm, z8_ k qm sm, z6_ k qm sm, z14_ k qm sm, z15_ k qm tm, z12_ k qm tm, z18_ k qm tm, z17_ k qm tm, z19_ k qm tm, z21_ k qm tm, z20_ k qm sm, z16_ k qm sm, z11_ k qm sm, z10_ k qm sm, z9_ k qm sm, z7_ k qm sm] H := by rw [eH]; exact hP
  have hD : va_D A [z22_ qm sm tm, z5_ k qm sm, z13_ k qm sm, z8_ k qm sm, z6_ k qm sm, z14_ k qm sm, z15_ k qm tm, z12_ k qm tm, z18_ k qm tm, z17_ k qm tm, z19_ k qm tm, z21_ k qm tm, z20_ k qm sm, z16_ k qm sm, z11_ k qm sm, z10_ k qm sm, z9_ k qm sm, z7_ k qm sm] := hD
  have hS : va_S A s.heap H locs := by rw [eH, el]; exact hS
  suffices goal : W p l e ({ frames := 4, cells := 0, slots := 0, locals := 92 } : Room) s m ([.ref (qm 0), .int p0] : List Value).toArray below meth c H locs 0 0 Q (F0 m 0 ls []) by rw [eH, el] at goal; exact goal
  refine lv_iload_n hx hb dX12_fault_0 rfl (lv_at hl 1 rfl) ?_
  refine lv_if_eq (tgt := 11) hx hb dX12_fault_1 (by decide) (fun c1 => ?_) (fun c1 => ?_)
  · have f1 : p0.toInt = 0 := f_eq rfl (by decide) c1
    refine lv_aload_n hx hb dX12_fault_11 rfl (lv_at hl 0 rfl) ?_
    refine g_iF (w1 := fun (u : (Nat → Int32) × Int32 × Int32 × Int32 × Int32 × Int32 × Int32 × Int32) => [z85_ qm sm tm (u.2.1) (u.2.2.1) (u.2.2.2.1) (u.2.2.2.2.1) (u.2.2.2.2.2.1) (u.2.2.2.2.2.2.1) (u.2.2.2.2.2.2.2), z107_ k qm (u.1), z13_ k qm sm, z8_ k qm sm, z6_ k qm sm, z14_ k qm sm, z15_ k qm tm, z12_ k qm tm, z18_ k qm tm, z17_ k qm tm, z19_ k qm tm, z21_ k qm tm, z20_ k qm sm, z16_ k qm sm, z11_ k qm sm, z10_ k qm sm, z9_ k qm sm, z7_ k qm sm]) (g_runVF (ws := [z22_ qm sm tm, z5_ k qm sm, z13_ k qm sm, z8_ k qm sm, z6_ k qm sm, z14_ k qm sm, z15_ k qm tm, z12_ k qm tm, z18_ k qm tm, z17_ k qm tm, z19_ k qm tm, z21_ k qm tm, z20_ k qm sm, z16_ k qm sm, z11_ k qm sm, z10_ k qm sm, z9_ k qm sm, z7_ k qm sm]) (rest := []) cx hP hD hS [] (c_X12_readHouse l D k b qm sm tm H.size (show 0 ≤ (sm 0 3).toInt ∧ (sm 0 3).toInt ≤ 64 from by first | decide | omega)) gX12_fault_X12_readHouse rfl rfl rfl nd_X12_readHouse ⟨Nat.le_of_ble_eq_true rfl, Nat.le_of_ble_eq_true rfl⟩ (ci := 10) (q0 := 0) rfl rfl rfl hl.1 rfl (Nat.le_of_ble_eq_true rfl) ⟨Nat.zero_le _, Nat.zero_le _⟩ dX12_fault_12) cx.2.2.1 hD hS (fun r4 u3 H locs hw2 hP hD hS => ?_)
    obtain ⟨m5, m6, m7, m8, m9, m10, m11, m12⟩ := u3
    have hP : va_P D vwCl [z85_ qm sm tm m6 m7 m8 m9 m10 m11 m12, (qm 1, .inl (k 0, 26, .inl m5)), z13_ k qm sm, z8_ k qm sm, z6_ k qm sm, z14_ k qm sm, z15_ k qm tm, z12_ k qm tm, z18_ k qm tm, z17_ k qm tm, z19_ k qm tm, z21_ k qm tm, z20_ k qm sm, z16_ k qm sm, z11_ k qm sm, z10_ k qm sm, z9_ k qm sm, z7_ k qm sm] H := hP
    have hD : va_D A [z85_ qm sm tm m6 m7 m8 m9 m10 m11 m12, (qm 1, .inl (k 0, 26, .inl m5)), z13_ k qm sm, z8_ k qm sm, z6_ k qm sm, z14_ k qm sm, z15_ k qm tm, z12_ k qm tm, z18_ k qm tm, z17_ k qm tm, z19_ k qm tm, z21_ k qm tm, z20_ k qm sm, z16_ k qm sm, z11_ k qm sm, z10_ k qm sm, z9_ k qm sm, z7_ k qm sm] := hD
    replace hw2 : (0 ≤ (m5 0).toInt ∧ (m5 0).toInt ≤ 5) ∧ (0 ≤ (m5 1).toInt ∧ (m5 1).toInt ≤ 4) ∧ (0 ≤ m6.toInt ∧ m6.toInt ≤ 64) ∧ ((r4, m5, m6, m7, m8, m9, m10, m11, m12) = J_X12_readHouse sm tm) := hw2
    obtain ⟨w13, w14, w15, w16⟩ := hw2
    have k18 : r4 = ((J_X12_readHouse sm tm).1) := congrArg (fun z => (z.1)) w16
    have k19 : m5 = ((J_X12_readHouse sm tm).2.1) := congrArg (fun z => (z.2.1)) w16
    have k20 : m6 = ((J_X12_readHouse sm tm).2.2.1) := congrArg (fun z => (z.2.2.1)) w16
    have k21 : m7 = ((J_X12_readHouse sm tm).2.2.2.1) := congrArg (fun z => (z.2.2.2.1)) w16
    have k22 : m8 = ((J_X12_readHouse sm tm).2.2.2.2.1) := congrArg (fun z => (z.2.2.2.2.1)) w16
    have k23 : m9 = ((J_X12_readHouse sm tm).2.2.2.2.2.1) := congrArg (fun z => (z.2.2.2.2.2.1)) w16
    have k24 : m10 = ((J_X12_readHouse sm tm).2.2.2.2.2.2.1) := congrArg (fun z => (z.2.2.2.2.2.2.1)) w16
    have k25 : m11 = ((J_X12_readHouse sm tm).2.2.2.2.2.2.2.1) := congrArg (fun z => (z.2.2.2.2.2.2.2.1)) w16
    have k26 : m12 = ((J_X12_readHouse sm tm).2.2.2.2.2.2.2.2) := congrArg (fun z => (z.2.2.2.2.2.2.2.2)) w16
    rw [hQ]
    exact x_i cx hr (m5, m6, m7, m8, m9, m10, m11, m12, (sm 0 13), (sm 5)) hP hD hS ⟨(show 0 ≤ (m5 0).toInt ∧ (m5 0).toInt ≤ 5 from by omega), (show 0 ≤ (m5 1).toInt ∧ (m5 1).toInt ≤ 4 from by omega), (show 0 ≤ m6.toInt ∧ m6.toInt ≤ 64 from by omega), (show (r4, m5, m6, m7, m8, m9, m10, m11, m12, (sm 0 13), (sm 5)) = J_X12_fault sm tm p0 from by subst k18 k19 k20 k21 k22 k23 k24 k25 k26; first | (refine Eq.symm ?_; refine Eq.trans (if_pos c1) ?_; rfl) | (unfold J_X12_fault; try dsimp only; rw [if_pos c1]))⟩ dX12_fault_15
  · have f1 : ¬ p0.toInt = 0 := f_ne rfl (by decide) c1
    refine lv_aload_n hx hb dX12_fault_4 rfl (lv_at hl 0 rfl) ?_
    refine g_iF (w1 := fun (u : Int32 × Int32 × Int32 × (Nat → Int32)) => [z76_ qm sm tm (u.1) (u.2.1) (u.2.2.1), z5_ k qm sm, z13_ k qm sm, z8_ k qm sm, z6_ k qm sm, z162_ k qm (u.2.2.2), z15_ k qm tm, z12_ k qm tm, z18_ k qm tm, z17_ k qm tm, z19_ k qm tm, z21_ k qm tm, z20_ k qm sm, z16_ k qm sm, z11_ k qm sm, z10_ k qm sm, z9_ k qm sm, z7_ k qm sm]) (g_runVF (ws := [z22_ qm sm tm, z5_ k qm sm, z13_ k qm sm, z8_ k qm sm, z6_ k qm sm, z14_ k qm sm, z15_ k qm tm, z12_ k qm tm, z18_ k qm tm, z17_ k qm tm, z19_ k qm tm, z21_ k qm tm, z20_ k qm sm, z16_ k qm sm, z11_ k qm sm, z10_ k qm sm, z9_ k qm sm, z7_ k qm sm]) (rest := []) cx hP hD hS [] (c_X12_readRule l D k b qm sm tm H.size (show 0 ≤ (sm 0 3).toInt ∧ (sm 0 3).toInt ≤ 64 from by first | decide | omega)) gX12_fault_X12_readRule rfl rfl rfl nd_X12_readRule ⟨Nat.le_of_ble_eq_true rfl, Nat.le_of_ble_eq_true rfl⟩ (ci := 10) (q0 := 0) rfl rfl rfl hl.1 rfl (Nat.le_of_ble_eq_true rfl) ⟨Nat.zero_le _, Nat.zero_le _⟩ dX12_fault_5) cx.2.2.1 hD hS (fun r29 u28 H locs hw27 hP hD hS => ?_)
    obtain ⟨m30, m31, m32, m33⟩ := u28
    have hP : va_P D vwCl [z76_ qm sm tm m30 m31 m32, z5_ k qm sm, z13_ k qm sm, z8_ k qm sm, z6_ k qm sm, (qm 5, .inl (k 0, 5, .inl m33)), z15_ k qm tm, z12_ k qm tm, z18_ k qm tm, z17_ k qm tm, z19_ k qm tm, z21_ k qm tm, z20_ k qm sm, z16_ k qm sm, z11_ k qm sm, z10_ k qm sm, z9_ k qm sm, z7_ k qm sm] H := hP
    have hD : va_D A [z76_ qm sm tm m30 m31 m32, z5_ k qm sm, z13_ k qm sm, z8_ k qm sm, z6_ k qm sm, (qm 5, .inl (k 0, 5, .inl m33)), z15_ k qm tm, z12_ k qm tm, z18_ k qm tm, z17_ k qm tm, z19_ k qm tm, z21_ k qm tm, z20_ k qm sm, z16_ k qm sm, z11_ k qm sm, z10_ k qm sm, z9_ k qm sm, z7_ k qm sm] := hD
    replace hw27 : (0 ≤ m30.toInt ∧ m30.toInt ≤ 64) ∧ ((r29, m30, m31, m32, m33) = J_X12_readRule sm tm) := hw27
    obtain ⟨w34, w35⟩ := hw27
    have k37 : r29 = ((J_X12_readRule sm tm).1) := congrArg (fun z => (z.1)) w35
    have k38 : m30 = ((J_X12_readRule sm tm).2.1) := congrArg (fun z => (z.2.1)) w35
    have k39 : m31 = ((J_X12_readRule sm tm).2.2.1) := congrArg (fun z => (z.2.2.1)) w35
    have k40 : m32 = ((J_X12_readRule sm tm).2.2.2.1) := congrArg (fun z => (z.2.2.2.1)) w35
    have k41 : m33 = ((J_X12_readRule sm tm).2.2.2.2) := congrArg (fun z => (z.2.2.2.2)) w35
    refine lv_goto (tgt := 15) hx hb dX12_fault_8 (by decide) ?_
    rw [hQ]
    exact x_i cx hr ((sm 1), m30, m31, (sm 0 6), (sm 0 7), (sm 0 8), (sm 0 9), (sm 0 10), m32, m33) hP hD hS ⟨(show 0 ≤ ((sm 1) 0).toInt ∧ ((sm 1) 0).toInt ≤ 5 from by omega), (show 0 ≤ ((sm 1) 1).toInt ∧ ((sm 1) 1).toInt ≤ 4 from by omega), (show 0 ≤ m30.toInt ∧ m30.toInt ≤ 64 from by omega), (show (r29, (sm 1), m30, m31, (sm 0 6), (sm 0 7), (sm 0 8), (sm 0 9), (sm 0 10), m32, m33) = J_X12_fault sm tm p0 from by subst k37 k38 k39 k40 k41; first | (refine Eq.symm ?_; refine Eq.trans (if_neg c1) ?_; rfl) | (unfold J_X12_fault; try dsimp only; rw [if_neg c1]))⟩ dX12_fault_15
