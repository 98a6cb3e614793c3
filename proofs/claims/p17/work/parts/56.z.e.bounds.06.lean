theorem mean_alike {sx sh sm sco : Nat → Nat → Int32} {tm tco : Nat → Nat → Int64} {p0 p1 p2 p3 p4 q0 q1 q2 q3 q4 : Int32} {t : Int64 × (Nat → Int64) × (Nat → Int64) × Int64 × Int64 × Int64 × Int64} {t2 : Int64 × (Nat → Int64) × (Nat → Int64)} (h1 : t = J_X11_mean sx sh sco tco p0 p1 p2 p3 p4) (h2 : t2 = J_X12_mean sm tm q0 q1 q2 q3 q4) (e0 : q0 = p0) (e1 : q1 = p1) (e2 : q2 = p2) (e3 : q3 = p3) (e4 : q4 = p4) (K : HOK sh sm) (hL : LVL (sx 1) (sm 4)) (T : TBL sh) (N : HNT (HT sh)) : t.1 = t2.1 := by
  subst h1 h2 e0 e1 e2 e3 e4
  have wk := K.2.2.1
  have V0 : (sm 2) (0 : Int32).toNatClampNeg = sh 0 0 := by rw [n0_]; exact K.1.1
  unfold J_X11_mean J_X12_mean
  dsimp only [LetF]
  by_cases c0 : J_X11_isRule sx q0 = 0
  · rw [if_pos c0, if_pos (ir_iff.mp c0)]
  · rw [if_neg c0, if_neg (fun q => c0 (ir_iff.mpr q))]
    have n10 : ¬ (-1 : Int32) = 0 := by decide
    have n20 : ¬ (-2 : Int32) = 0 := by decide
    rcases rs_cases (sx := sx) (sh := SHX sh) (tm := tm) (w := q1) (h := q2) (c := q3) (hok_x K) with ⟨r1, r2⟩ | ⟨r1, r2, r3⟩ | ⟨r1, r2, r3, r4, r5, r6, r7, r8⟩
    · rw [r1, if_neg n10, if_pos r2]; rfl
    · rw [r1, if_neg n20, if_neg r2]
      rcases r3 with r3 | r3
      · rw [if_pos r3]; rfl
      · by_cases z : J_X12_isHands sm tm q2 = 0
        · rw [if_pos z]; rfl
        · rw [if_neg z, if_pos r3]; rfl
    · rw [r1, if_pos rfl, if_neg r2, if_neg r3, if_neg r4]
      have r5 : 0 ≤ q1.toInt ∧ q1.toInt < (sh 0 0).toInt := r5
      have r7 : tot q2 ≤ (sh 0 1).toInt := r7
      have r0 : 0 ≤ q0.toInt ∧ q0.toInt ≤ 2 := by rw [ir_z] at c0; omega
      obtain ⟨P, hP, rfl⟩ := nat_of (N := 5) (x := q1) ⟨r5.1, by omega⟩
      have pt : (Int32.ofNat P).toInt = (P : Int) := ofn_t (by omega)
      obtain ⟨W, hW, w0⟩ := nat_of (N := 5) (x := sh 0 0) ⟨wk.1, wk.2⟩
      have wt : (sh 0 0).toInt = (W : Int) := by rw [w0, ofn_t (by omega)]
      obtain ⟨H, hH, rfl⟩ := nat_of (N := 400) (x := q2) ⟨r6.1, r6.2.1⟩
      have hc : (Int32.ofNat H).toNatClampNeg = H := ofn_c (by omega)
      obtain ⟨k1, k2⟩ := parts_v (W := W - P) (by omega)
      obtain ⟨g1, g2⟩ := ge_v (sx := sx) (sh := SHX sh) (sco := SC0) (tco := lT [(lJ [0, 0, (tco 0 2), (tco 0 3), (tco 0 4), (tco 0 5)]), (tco 1), (tco 2)]) (tm := tm) (r := q0) (p2 := Int32.ofNat H) (p3 := q3) (P := P) (W := W) (hok_x K) hL r0 r8 (tbl_x T) wt (by omega) r6 r7
      have l := lm_v (sm := sm) (tm := tm) (p0 := q0) (p2 := Int32.ofNat H) (p3 := q3) (W := W) (P := P) (by rw [V0, w0]) hW (by omega) (by rw [hc]; exact ⟨by omega, r3⟩)
      have ep : J_X12_parts ((sm 2) (0 : Int32).toNatClampNeg - Int32.ofNat P) = SCN (W - P) 1 := by
        rw [V0, w0, show Int32.ofNat W - Int32.ofNat P = Int32.ofNat (W - P) from Int32.toInt_inj.mp (by rw [i_sub (ofn_t (k := W) (by omega)) pt (by omega) (by omega), ofn_t (by omega)]; omega)]
        exact k1
      obtain ⟨x, x1, _⟩ := val_n (sx := sx) (tm := tm) (r := q0) K hL r0 T N wt (W - P) q3 H (by omega) r8 (by omega) r6 r7
      rw [l, ep, g1, g2, hc]
      have z := told_alike (p := q4) (tlk_1 x1 k2 (by omega))
      rw [z]

