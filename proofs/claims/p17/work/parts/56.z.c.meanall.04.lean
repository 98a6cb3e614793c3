set_option maxHeartbeats 4000000 in
theorem ge_w {sx sh sm sco : Nat → Nat → Int32} {tm tco : Nat → Nat → Int64} {r p2 p3 : Int32} {P W : Nat} {y8 : (Nat → Int64) × Int64 × Int64} (K : HOK sh sm) (hL : LVL (sx 1) (sm 4)) (hr : 0 ≤ r.toInt ∧ r.toInt ≤ 2) (h3 : 0 ≤ p3.toInt ∧ p3.toInt ≤ 2) (T : TBL sh) (hW : (sh 0 0).toInt = (W : Int)) (hP : P ≤ W) : ∀ (n v f : Nat) (sc cs ss si : Int64) (A D : Nat → Int64), P ≤ v → v + n = W → n + 1 ≤ f → AVK sh A → ∃ (A2 D2 : Nat → Int64) (ss2 si2 : Int64), LTs default (B_X11_goToTheEnd_11 sx sh sco tco r (Int32.ofNat P) p2 p3 y8) f (Int32.ofNat v, sc, cs, ss, si, A, D) = (A2, D2, SCN n sc, cs * SCN n 1 + SML (fun k => A k * VAL sm tm r W n (if v = P then p3 else 0) (nAL k)) 35 0, ss2, si2)
  | 0, v, f, sc, cs, ss, si, A, D, h0, h1, h2, HA => by
    have wk := K.2.2.1
    have w0 : sh 0 0 = Int32.ofNat v := Int32.toInt_inj.mp (by rw [hW, ofn_t (by omega)]; omega)
    obtain ⟨f2, rfl⟩ : ∃ f2, f = f2 + 1 := ⟨f - 1, by omega⟩
    have e2 : B_X11_goToTheEnd_11 sx sh sco tco r (Int32.ofNat P) p2 p3 y8 (Int32.ofNat v, sc, cs, ss, si, A, D) = Sum.inr (A, D, sc, J_X1_payBonus SC0 (lT [(lJ [0, 0, sc, cs, ss, si]), A, D]) (SHX sh), ss, si) := by
      unfold B_X11_goToTheEnd_11
      try dsimp only [LetF]
      exact if_pos (by rw [w0]; exact Int32.le_iff_toInt_le.mpr (Int.le_refl _))
    have e3 : J_X1_payBonus SC0 (lT [(lJ [0, 0, sc, cs, ss, si]), A, D]) (SHX sh) = cs + SML (fun k => A k * (J_X4_bonusFor (SHX sh) (zALL.getD k 0)).toInt64) 35 0 := pb_v 35 0 cs rfl
    have e4 : SML (fun k => A k * (J_X4_bonusFor (SHX sh) (zALL.getD k 0)).toInt64) 35 0 = SML (fun k => A k * VAL sm tm r W 0 (if v = P then p3 else 0) (nAL k)) 35 0 := sml_c 35 0 (fun k _ hk => by
      show A k * (J_X4_bonusFor (SHX sh) (zALL.getD k 0)).toInt64 = A k * (J_X12_bonus sm tm (Int32.ofNat (nAL k))).toInt64
      rw [nk_v (by omega), bonus_alike (tm := tm) (hok_x K)])
    refine ⟨A, D, ss, si, ?_⟩
    rw [LT_en e2, e3, e4]
    show (A, D, sc, cs + _, ss, si) = (A, D, sc, cs * 1 + _, ss, si)
    rw [Int64.mul_one]
  | n + 1, v, f, sc, cs, ss, si, A, D, h0, h1, h2, HA => by
    have wk := K.2.2.1
    obtain ⟨f2, rfl⟩ : ∃ f2, f = f2 + 1 := ⟨f - 1, by omega⟩
    have vt : (Int32.ofNat v).toInt = (v : Int) := ofn_t (by omega)
    have c : ¬ sh 0 0 ≤ Int32.ofNat v := fun q => by have := f_le rfl vt q; omega
    obtain ⟨cm, hcm, ecm, e2⟩ : ∃ cm : Int32, (0 ≤ cm.toInt ∧ cm.toInt ≤ 2) ∧ cm = (if v = P then p3 else 0) ∧ B_X11_goToTheEnd_11 sx sh sco tco r (Int32.ofNat P) p2 p3 y8 (Int32.ofNat v, sc, cs, ss, si, A, D) = geF sh sc A (Int32.ofNat v) (J_X1_passWeek SC0 (lT [(lJ [0, 0, sc, cs, ss, si]), A, D]) (SHX sh) (Int32.ofNat v) (J_X11_levelBy sx r (Int32.ofNat v)) cm) := by
      by_cases q : v = P
      · exact ⟨p3, h3, by rw [if_pos q], ge_1 c (by rw [q])⟩
      · have nv : ¬ Int32.ofNat v = Int32.ofNat P := fun z => q (by
          have y := congrArg Int32.toInt z
          rw [vt, ofn_t (by omega)] at y
          omega)
        exact ⟨0, by decide, by rw [if_neg q], ge_2 c nv⟩
    obtain ⟨Q, G, b1, b2, b3, b4⟩ := ge_b (sx := sx) (sh := sh) (r := r) (v := Int32.ofNat v) (cm := cm) (sc := sc) (cs := cs) (ss := ss) (si := si) (A := A) (D := D)
    obtain ⟨HG, eq⟩ := ge_st (sx := sx) (sh := SHX sh) (sm := sm) (tm := tm) (r := r) (c := cm) (v := v) (n := n) (W := W) (A := A) (P := Q) (G := G) (cs := cs) (hok_x K) hL hr hcm (tbl_x T) hW h1 HA b2 b3 b4
    obtain ⟨A2, D2, ss2, si2, r1⟩ := ge_w (sco := sco) (tm := tm) (tco := tco) (p2 := p2) (y8 := y8) K hL hr h3 T hW hP n (v + 1) f2 (sc * 625) ((cs + SML (wC (SHX sh) (Int32.ofNat v) (J_X11_levelBy sx r (Int32.ofNat v)) cm A) 35 0) * 625) _ _ G Q (by omega) (by omega) (by omega) HG
    rw [if_neg (by omega)] at r1
    refine ⟨A2, D2, ss2, si2, ?_⟩
    rw [LT_st (e2.trans b1), ofn_s (by omega), ← ecm, ← eq]
    exact r1
