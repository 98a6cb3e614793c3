/-! there, shortly, idle: alike -/
theorem there_alike {sx sh sm sco : Nat → Nat → Int32} {tm tco : Nat → Nat → Int64} {p0 p1 p2 p3 q0 q1 q2 q3 : Int32} {t : Int64 × (Nat → Int64) × (Nat → Int64) × Int64 × Int64 × Int64 × Int64} {t2 : Int64 × (Nat → Int64) × (Nat → Int64)} (h1 : t = J_X11_there sx sh sco tco p0 p1 p2 p3) (h2 : t2 = J_X12_there sm tm q0 q1 q2 q3) (e0 : q0 = p0) (e1 : q1 = p1) (e2 : q2 = p2) (e3 : q3 = p3) (K : HOK sh sm) (hL : LVL (sx 1) (sm 4)) (T : TBL sh) : t.1 = t2.1 := by
  subst h1 h2 e0 e1 e2 e3
  have wk := K.2.2.1
  have V0 : (sm 2) (0 : Int32).toNatClampNeg = sh 0 0 := by rw [n0_]; exact K.1.1
  have i4 : J_X12_in (q2.toInt64) 0 4 = 0 ↔ (q2.toInt < 0 ∨ 4 < q2.toInt) := in_z (K := 4) (by decide)
  have iw : J_X12_isWeek sm tm q1 = 0 ↔ (q1.toInt < 0 ∨ (sh 0 0).toInt ≤ q1.toInt) := iw_y K
  have core : ¬ J_X11_isRule sx q0 = 0 → (0 ≤ q1.toInt ∧ q1.toInt ≤ (sh 0 0).toInt) → ∀ y13, LetF (J_X11_goAheadOf sx (SHX sh) SC0 (lT [(lJ [0, 0, (tco 0 2), (tco 0 3), (tco 0 4), (tco 0 5)]), (tco 1), (tco 2)]) q0 q1) (fun y22 => LetF (J_X1_shareOf SC0 (lT [(lJ [0, 0, (y22.2.2.1), (y22.2.2.2.1), (y22.2.2.2.2.1), (y22.2.2.2.2.2)]), (y22.1), (y22.2.1)]) q2) (fun y26 => J_X11_told y26 (y22.2.2.1) q3)) = LetF (J_X12_layLikely sm tm q0 q1) (fun y => (LTs default (B_X12_there_57 sm tm q0 q1 q2 q3 (J_X12_isRule q0) y13 y) 51 ((0 : Int32), (0 : Int64))).1) := by
    intro c0 r1 y13
    have r0 : 0 ≤ q0.toInt ∧ q0.toInt ≤ 2 := by rw [ir_z] at c0; omega
    obtain ⟨W, hW, rfl⟩ := nat_of (N := 5) (x := q1) ⟨r1.1, by omega⟩
    have wt : (Int32.ofNat W).toInt = (W : Int) := ofn_t (by omega)
    obtain ⟨A, D, L, L2, cs, ss, si, g1, g2, g3⟩ := ga_v (sx := sx) (sh := SHX sh) (sco := SC0) (tco := lT [(lJ [0, 0, (tco 0 2), (tco 0 3), (tco 0 4), (tco 0 5)]), (tco 1), (tco 2)]) (tm := tm) (W := W) (hok_x K) hL r0 (tbl_x T) (by rw [wt] at r1; exact r1.2)
    obtain ⟨k1, k2⟩ := parts_v hW
    dsimp only [LetF]
    rw [g1, g2]
    have s1 : J_X1_shareOf SC0 (lT [(lJ [0, 0, (SCN W 1), cs, ss, si]), A, D]) q2 = 0 + SML (fun k => if J_X3_total (zALL.getD k 0) = q2 then A k else 0) 35 0 := so_v 35 0 0 rfl
    have s2 := th_v (sm := sm) (tm := tm) (p0 := q0) (p1 := Int32.ofNat W) (p2 := q2) (p3 := q3) (y6 := J_X12_isRule q0) (y13 := y13) (y := (L, L2)) 50 0 0 rfl
    have s3 : (LTs default (B_X12_there_57 sm tm q0 (Int32.ofNat W) q2 q3 (J_X12_isRule q0) y13 (L, L2)) 51 ((0 : Int32), (0 : Int64))).1 = J_X12_told (0 + SML (fun x => if J_X12_all (Int32.ofNat x) = q2 then L x else 0) 50 0) (J_X12_parts (Int32.ofNat W)) q3 := s2
    have f0 : ∀ k, k < 35 → A k = 0 → (if J_X3_total (zALL.getD k 0) = q2 then A k else 0) = 0 := fun k _ q => by
      rw [q]
      by_cases z : J_X3_total (zALL.getD k 0) = q2
      · exact if_pos z
      · exact if_neg z
    have eq : SML (fun k => if J_X3_total (zALL.getD k 0) = q2 then A k else 0) 35 0 = SML (fun x => if J_X12_all (Int32.ofNat x) = q2 then L x else 0) 50 0 := by
      refine ahk_s g3 K.2.2.2.1.2 f0 (fun x _ q => ?_) (fun b hb _ => ?_)
      · show (if J_X12_all (Int32.ofNat x) = q2 then L x else 0) = 0
        rw [q]
        by_cases z : J_X12_all (Int32.ofNat x) = q2
        · exact if_pos z
        · exact if_neg z
      · show (if J_X3_total (zALL.getD b 0) = q2 then A b else 0) = (if J_X12_all (Int32.ofNat (nAL b)) = q2 then L (nAL b) else 0)
        rw [show J_X3_total (zALL.getD b 0) = J_X12_all (Int32.ofNat (nAL b)) from ta_dec ⟨b, hb⟩, g3.1 b hb]
    obtain ⟨x, hx⟩ := ahk_n g3 hW (m := 1) (by omega) f0 (fun b N hb q _ => by
      by_cases z : J_X3_total (zALL.getD b 0) = q2
      · exact ⟨1, Nat.le_refl 1, by rw [if_pos z, Nat.mul_one]; exact q⟩
      · exact ⟨0, by omega, by rw [if_neg z]; rfl⟩)
    show J_X11_told (J_X1_shareOf SC0 (lT [(lJ [0, 0, (SCN W 1), cs, ss, si]), A, D]) q2) (SCN W 1) q3 = _
    rw [s3, s1, ← eq, Int64.zero_add, k1]
    exact told_alike (tlk_1 hx k2 hW)
  unfold J_X11_there J_X12_there
  dsimp only [LetF] at core ⊢
  by_cases c0 : J_X11_isRule sx q0 = 0
  · rw [if_pos c0, if_pos (ir_iff.mp c0)]
  · rw [if_neg c0, if_neg (fun q => c0 (ir_iff.mpr q)), V0]
    by_cases c1 : q1 < 0
    · have d1 := f_lt rfl (by decide : (0 : Int32).toInt = 0) c1
      have n1 : ¬ q1 = sh 0 0 := fun q => by rw [q] at d1; omega
      rw [if_pos c1, if_pos (iw.mpr (Or.inl d1)), if_neg n1]
    · have d1 := f_nlt rfl (by decide : (0 : Int32).toInt = 0) c1
      rw [if_neg c1]
      by_cases c2 : q1 ≤ sh 0 0
      · have d2 := f_le rfl rfl c2
        rw [if_pos c2]
        by_cases c3 : q2 < 0
        · have d3 := f_lt rfl (by decide : (0 : Int32).toInt = 0) c3
          rw [if_pos c3]
          by_cases c4 : J_X12_isWeek sm tm q1 = 0
          · have d4 : q1 = sh 0 0 := Int32.toInt_inj.mp (by have := iw.mp c4; omega)
            rw [if_pos c4, if_pos d4, if_pos (i4.mpr (Or.inl d3))]
          · rw [if_neg c4, if_pos (i4.mpr (Or.inl d3))]
        · have d3 := f_nlt rfl (by decide : (0 : Int32).toInt = 0) c3
          rw [if_neg c3]
          by_cases c5 : q2 ≤ 4
          · have d5 := f_le rfl (by decide : (4 : Int32).toInt = 4) c5
            have n5 : ¬ J_X12_in (q2.toInt64) 0 4 = 0 := fun q => by have := i4.mp q; omega
            rw [if_pos c5]
            by_cases c4 : J_X12_isWeek sm tm q1 = 0
            · have d4 : q1 = sh 0 0 := Int32.toInt_inj.mp (by have := iw.mp c4; omega)
              rw [if_pos c4, if_pos d4, if_neg n5, th_2]
              exact core c0 ⟨by omega, d2⟩ _
            · rw [if_neg c4, if_neg n5]
              exact core c0 ⟨by omega, d2⟩ _
          · have d5 := f_nle rfl (by decide : (4 : Int32).toInt = 4) c5
            rw [if_neg c5]
            by_cases c4 : J_X12_isWeek sm tm q1 = 0
            · have d4 : q1 = sh 0 0 := Int32.toInt_inj.mp (by have := iw.mp c4; omega)
              rw [if_pos c4, if_pos d4, if_pos (i4.mpr (Or.inr d5))]
            · rw [if_neg c4, if_pos (i4.mpr (Or.inr d5))]
      · have d2 := f_nle rfl rfl c2
        have n1 : ¬ q1 = sh 0 0 := fun q => by rw [q] at d2; omega
        rw [if_neg c2, if_pos (iw.mpr (Or.inr (by omega))), if_neg n1]
/-- into a WEEK: both sides -/
theorem gi_v {sx sh sm sco : Nat → Nat → Int32} {tm tco : Nat → Nat → Int64} {r : Int32} {W : Nat} (K : HOK sh sm) (hL : LVL (sx 1) (sm 4)) (hr : 0 ≤ r.toInt ∧ r.toInt ≤ 2) (T : TBL sh) (hW : (W : Int) < (sh 0 0).toInt) : ∃ (A L L2 : Nat → Int64), (J_X11_goInto sx sh sco tco r (Int32.ofNat W)).2.2.1 = SCN W 1 ∧ (J_X11_goInto sx sh sco tco r (Int32.ofNat W)).2.2.2.2.1 = SML (wS sh (Int32.ofNat W) (J_X11_levelBy sx r (Int32.ofNat W)) 0 A) 35 0 ∧ (J_X11_goInto sx sh sco tco r (Int32.ofNat W)).2.2.2.2.2 = SML (wI sh (Int32.ofNat W) (J_X11_levelBy sx r (Int32.ofNat W)) 0 A) 35 0 ∧ J_X12_layLikely sm tm r (Int32.ofNat W) = (L, L2) ∧ AHK sh A L W := by
  obtain ⟨A, D, L, L2, cs, ss, si, g1, g2, g3⟩ := ga_v (sx := sx) (sh := SHX sh) (sco := SC0) (tco := lT [(lJ [0, 0, (tco 0 2), (tco 0 3), (tco 0 4), (tco 0 5)]), (tco 1), (tco 2)]) (tm := tm) (W := W) (hok_x K) hL hr (tbl_x T) (Int.le_of_lt hW)
  obtain ⟨P, p1, p2⟩ := pw_v (sco := SC0) (sh := SHX sh) (tco := lT [(lJ [0, 0, SCN W 1, cs, ss, si]), A, D]) (w := Int32.ofNat W) (lv := J_X11_levelBy sx r (Int32.ofNat W)) (c := 0)
  have e : J_X11_goInto sx sh sco tco r (Int32.ofNat W) = (fun y11 : (Nat → Int64) × (Nat → Int64) × Int64 × Int64 × Int64 × Int64 => (fun y25 : (Nat → Int64) × Int64 × Int64 × Int64 => (y11.1, y25.1, y11.2.2.1, y25.2.1, y25.2.2.1, y25.2.2.2)) (J_X1_passWeek SC0 (lT [(lJ [0, 0, y11.2.2.1, y11.2.2.2.1, y11.2.2.2.2.1, y11.2.2.2.2.2]), y11.1, y11.2.1]) (SHX sh) (Int32.ofNat W) (J_X11_levelBy sx r (Int32.ofNat W)) 0)) (J_X11_goAheadOf sx (SHX sh) SC0 (lT [(lJ [0, 0, (tco 0 2), (tco 0 3), (tco 0 4), (tco 0 5)]), (tco 1), (tco 2)]) r (Int32.ofNat W)) := rfl
  rw [g1] at e
  have e2 := e.trans (congrArg (fun y25 : (Nat → Int64) × Int64 × Int64 × Int64 => (A, y25.1, SCN W 1, y25.2.1, y25.2.2.1, y25.2.2.2)) p1)
  rw [e2]
  exact ⟨A, L, L2, rfl, rfl, rfl, g2, g3⟩
/-- by a RULE, of one kind: SHORT and IDLE -/
theorem kd_w {sx sh sm : Nat → Nat → Int32} {tm : Nat → Nat → Int64} {r : Int32} {W b : Nat} {A l : Nat → Int64} {n : Nat} (K : HOK sh sm) (hL : LVL (sx 1) (sm 4)) (hr : 0 ≤ r.toInt ∧ r.toInt ≤ 2) (hW : (W : Int) < (sh 0 0).toInt) (H : AHK sh A l n) (hb : b < 15) (q : ¬ A b = 0) : (J_X4_lack sh (Int32.ofNat W) (kp sh (Int32.ofNat W) (J_X11_levelBy sx r (Int32.ofNat W)) b) 0 0).toInt = -(J_X12_overBy sm tm r (Int32.ofNat W) (Int32.ofNat (nAL b))).toInt ∧ -999 ≤ (J_X4_lack sh (Int32.ofNat W) (kp sh (Int32.ofNat W) (J_X11_levelBy sx r (Int32.ofNat W)) b) 0 0).toInt ∧ (J_X4_lack sh (Int32.ofNat W) (kp sh (Int32.ofNat W) (J_X11_levelBy sx r (Int32.ofNat W)) b) 0 0).toInt ≤ 999 := by
  have wk := K.2.2.1
  have wt : (Int32.ofNat W).toInt = (W : Int) := ofn_t (by omega)
  obtain ⟨_, t2⟩ := ahk_t H (by omega) q
  obtain ⟨q1, _, _, q4⟩ := rule_v (sx := sx) (tm := tm) (r := r) (w := Int32.ofNat W) (c := 0) (h := zALL.getD b 0) K hL hr ⟨by omega, by omega⟩ (by decide) (ak (k := b) (by omega)).1 t2
  have e0 : zALL.getD b 0 = Int32.ofNat (nAL b) := (ak (k := b) (by omega)).2.2.1
  have e1 : J_X12_overBy sm tm r (Int32.ofNat W) (Int32.ofNat (nAL b)) = J_X12_over sm tm (Int32.ofNat W) (J_X12_after sm tm (Int32.ofNat W) (Int32.ofNat (nAL b)) (J_X12_ruleAct sm tm r (Int32.ofNat W) (Int32.ofNat (nAL b)))) 0 (J_X12_ruleAct sm tm r (Int32.ofNat W) (Int32.ofNat (nAL b))) := rfl
  rw [e1, ← e0, q1]
  exact q4
def shT (sm : Nat → Nat → Int32) (tm : Nat → Nat → Int64) (r w : Int32) (l : Nat → Int64) (x : Nat) : Int64 := if lg_cmp (l x) 0 ≤ 0 then 0 else if 0 ≤ J_X12_overBy sm tm r w (Int32.ofNat x) then 0 else l x
def idT (sm : Nat → Nat → Int32) (tm : Nat → Nat → Int64) (r w : Int32) (l : Nat → Int64) (x : Nat) : Int64 := if lg_cmp (l x) 0 ≤ 0 then 0 else if J_X12_overBy sm tm r w (Int32.ofNat x) ≤ 0 then 0 else (J_X12_overBy sm tm r w (Int32.ofNat x)).toInt64 * l x
theorem sh_v {sm : Nat → Nat → Int32} {tm : Nat → Nat → Int64} {p0 p1 p2 y6 y13 : Int32} {y : (Nat → Int64) × (Nat → Int64)} : ∀ (n x : Nat) (s : Int64), x + n = 50 → (LTs default (B_X12_shortly_31 sm tm p0 p1 p2 y6 y13 y) (n + 1) (Int32.ofNat x, s)).1 = J_X12_told (s + SML (shT sm tm p0 p1 y.1) n x) (J_X12_parts p1) p2
  | 0, x, s, h => by
    have e : x = 50 := by omega
    subst e
    have e2 : B_X12_shortly_31 sm tm p0 p1 p2 y6 y13 y (Int32.ofNat 50, s) = Sum.inr (J_X12_told s (J_X12_parts p1) p2, y.1, y.2) := rfl
    rw [LT_en e2]
    show J_X12_told s _ _ = J_X12_told (s + 0) _ _
    rw [Int64.add_zero]
  | n + 1, x, s, h => by
    have cx : ¬ (50 : Int32) ≤ Int32.ofNat x := fun q => by have := f_le (by decide : (50 : Int32).toInt = 50) (ofn_t (k := x) (by omega)) q; omega
    have ex : (Int32.ofNat x).toNatClampNeg = x := ofn_c (by omega)
    have e2 : B_X12_shortly_31 sm tm p0 p1 p2 y6 y13 y (Int32.ofNat x, s) = Sum.inl (Int32.ofNat x + 1, s + shT sm tm p0 p1 y.1 x) := by
      unfold shT
      by_cases q : lg_cmp (y.1 x) 0 ≤ 0
      · have z : B_X12_shortly_31 sm tm p0 p1 p2 y6 y13 y (Int32.ofNat x, s) = Sum.inl (Int32.ofNat x + 1, s + 0) := by
          unfold B_X12_shortly_31
          try dsimp only [LetF]
          exact (if_neg cx).trans (if_pos (by rw [ex]; exact q))
        rw [z, if_pos q]
      · rw [if_neg q]
        by_cases q2 : 0 ≤ J_X12_overBy sm tm p0 p1 (Int32.ofNat x)
        · have z : B_X12_shortly_31 sm tm p0 p1 p2 y6 y13 y (Int32.ofNat x, s) = Sum.inl (Int32.ofNat x + 1, s + 0) := by
            unfold B_X12_shortly_31
            try dsimp only [LetF]
            exact (if_neg cx).trans ((if_neg (by rw [ex]; exact q)).trans (if_pos q2))
          rw [z, if_pos q2]
        · have z : B_X12_shortly_31 sm tm p0 p1 p2 y6 y13 y (Int32.ofNat x, s) = Sum.inl (Int32.ofNat x + 1, s + y.1 (Int32.ofNat x).toNatClampNeg) := by
            unfold B_X12_shortly_31
            try dsimp only [LetF]
            exact (if_neg cx).trans ((if_neg (by rw [ex]; exact q)).trans (if_neg q2))
          rw [z, if_neg q2, ex]
    rw [LT_st e2, ofn_s (by omega), sh_v n (x + 1) _ (by omega), sml_s, Int64.add_assoc]
theorem id_v {sm : Nat → Nat → Int32} {tm : Nat → Nat → Int64} {p0 p1 p2 y6 y13 : Int32} {y : (Nat → Int64) × (Nat → Int64)} : ∀ (n x : Nat) (s : Int64), x + n = 50 → (LTs default (B_X12_idle_31 sm tm p0 p1 p2 y6 y13 y) (n + 1) (Int32.ofNat x, s)).1 = J_X12_told (s + SML (idT sm tm p0 p1 y.1) n x) (J_X12_parts p1) p2
  | 0, x, s, h => by
    have e : x = 50 := by omega
    subst e
    have e2 : B_X12_idle_31 sm tm p0 p1 p2 y6 y13 y (Int32.ofNat 50, s) = Sum.inr (J_X12_told s (J_X12_parts p1) p2, y.1, y.2) := rfl
    rw [LT_en e2]
    show J_X12_told s _ _ = J_X12_told (s + 0) _ _
    rw [Int64.add_zero]
  | n + 1, x, s, h => by
    have cx : ¬ (50 : Int32) ≤ Int32.ofNat x := fun q => by have := f_le (by decide : (50 : Int32).toInt = 50) (ofn_t (k := x) (by omega)) q; omega
    have ex : (Int32.ofNat x).toNatClampNeg = x := ofn_c (by omega)
    have e2 : B_X12_idle_31 sm tm p0 p1 p2 y6 y13 y (Int32.ofNat x, s) = Sum.inl (Int32.ofNat x + 1, s + idT sm tm p0 p1 y.1 x) := by
      unfold idT
      by_cases q : lg_cmp (y.1 x) 0 ≤ 0
      · have z : B_X12_idle_31 sm tm p0 p1 p2 y6 y13 y (Int32.ofNat x, s) = Sum.inl (Int32.ofNat x + 1, s + 0) := by
          unfold B_X12_idle_31
          try dsimp only [LetF]
          exact (if_neg cx).trans (if_pos (by rw [ex]; exact q))
        rw [z, if_pos q]
      · rw [if_neg q]
        by_cases q2 : J_X12_overBy sm tm p0 p1 (Int32.ofNat x) ≤ 0
        · have z : B_X12_idle_31 sm tm p0 p1 p2 y6 y13 y (Int32.ofNat x, s) = Sum.inl (Int32.ofNat x + 1, s + 0) := by
            unfold B_X12_idle_31
            try dsimp only [LetF]
            exact (if_neg cx).trans ((if_neg (by rw [ex]; exact q)).trans (if_pos q2))
          rw [z, if_pos q2]
        · have z : B_X12_idle_31 sm tm p0 p1 p2 y6 y13 y (Int32.ofNat x, s) = Sum.inl (Int32.ofNat x + 1, s + (J_X12_overBy sm tm p0 p1 (Int32.ofNat x)).toInt64 * y.1 (Int32.ofNat x).toNatClampNeg) := by
            unfold B_X12_idle_31
            try dsimp only [LetF]
            exact (if_neg cx).trans ((if_neg (by rw [ex]; exact q)).trans (if_neg q2))
          rw [z, if_neg q2, ex]
    rw [LT_st e2, ofn_s (by omega), id_v n (x + 1) _ (by omega), sml_s, Int64.add_assoc]
theorem neg_t {a : Int32} {x : Int} (h : a.toInt = x) (hx : -999 ≤ x ∧ x ≤ 999) : (-a).toInt = -x := by
  rw [Int32.toInt_neg, h]
  exact Int.bmod_eq_of_le (by omega) (by omega)
theorem shortly_alike {sx sh sm sco : Nat → Nat → Int32} {tm tco : Nat → Nat → Int64} {p0 p1 p2 q0 q1 q2 : Int32} {t : Int64 × (Nat → Int64) × (Nat → Int64) × Int64 × Int64 × Int64 × Int64} {t2 : Int64 × (Nat → Int64) × (Nat → Int64)} (h1 : t = J_X11_shortly sx sh sco tco p0 p1 p2) (h2 : t2 = J_X12_shortly sm tm q0 q1 q2) (e0 : q0 = p0) (e1 : q1 = p1) (e2 : q2 = p2) (K : HOK sh sm) (hL : LVL (sx 1) (sm 4)) (T : TBL sh) : t.1 = t2.1 := by
  subst h1 h2 e0 e1 e2
  have wk := K.2.2.1
  unfold J_X11_shortly J_X12_shortly
  dsimp only [LetF]
  by_cases c0 : J_X11_isRule sx q0 = 0
  · rw [if_pos c0, if_pos (ir_iff.mp c0)]
  · rw [if_neg c0, if_neg (fun q => c0 (ir_iff.mpr q))]
    by_cases c1 : J_X11_isWeek sx (SHX sh) q1 = 0
    · rw [if_pos c1, if_pos ((iw_iff (hok_x K)).mp c1)]
    · rw [if_neg c1, if_neg (fun q => c1 ((iw_iff (hok_x K)).mpr q))]
      have r1 : 0 ≤ q1.toInt ∧ q1.toInt < (sh 0 0).toInt := iw_r (sx := sx) (sh := SHX sh) c1
      have r0 : 0 ≤ q0.toInt ∧ q0.toInt ≤ 2 := by rw [ir_z] at c0; omega
      obtain ⟨W, hW, rfl⟩ := nat_of (N := 5) (x := q1) ⟨r1.1, by omega⟩
      have wt : (Int32.ofNat W).toInt = (W : Int) := ofn_t (by omega)
      rw [wt] at r1
      obtain ⟨k1, k2⟩ := parts_v hW
      obtain ⟨A, L, L2, g1, g2, g3, g4, g5⟩ := gi_v (sx := sx) (sh := SHX sh) (sco := SC0) (tco := lT [(lJ [0, 0, (tco 0 2), (tco 0 3), (tco 0 4), (tco 0 5)]), (tco 1), (tco 2)]) (tm := tm) (W := W) (hok_x K) hL r0 (tbl_x T) r1.2
      have s2 := sh_v (sm := sm) (tm := tm) (p0 := q0) (p1 := Int32.ofNat W) (p2 := q2) (y6 := J_X12_isRule q0) (y13 := J_X12_isWeek sm tm (Int32.ofNat W)) (y := (L, L2)) 50 0 0 rfl
      have s3 : (LTs default (B_X12_shortly_31 sm tm q0 (Int32.ofNat W) q2 (J_X12_isRule q0) (J_X12_isWeek sm tm (Int32.ofNat W)) (L, L2)) 51 ((0 : Int32), (0 : Int64))).1 = J_X12_told (0 + SML (shT sm tm q0 (Int32.ofNat W) L) 50 0) (J_X12_parts (Int32.ofNat W)) q2 := s2
      have f0 : ∀ k, k < 35 → A k = 0 → wS (SHX sh) (Int32.ofNat W) (J_X11_levelBy sx q0 (Int32.ofNat W)) 0 A k = 0 := fun k _ q => by
        unfold wS
        rw [q]
        by_cases z : J_X4_lack (SHX sh) (Int32.ofNat W) (kp (SHX sh) (Int32.ofNat W) (J_X11_levelBy sx q0 (Int32.ofNat W)) k) 0 0 ≤ 0
        · exact if_pos z
        · exact if_neg z
      have eq : SML (wS (SHX sh) (Int32.ofNat W) (J_X11_levelBy sx q0 (Int32.ofNat W)) 0 A) 35 0 = SML (shT sm tm q0 (Int32.ofNat W) L) 50 0 := by
        refine ahk_s g5 K.2.2.2.1.2 f0 (fun x _ q => if_pos (by rw [q]; exact lg_z)) (fun b hb q => ?_)
        obtain ⟨w1, w2, w3⟩ := kd_w (sh := SHX sh) (tm := tm) (hok_x K) hL r0 r1.2 g5 hb q
        obtain ⟨_, _, _, N, n1, _⟩ := id g5
        have np : ¬ lg_cmp (L (nAL b)) 0 ≤ 0 := by
          rw [← g5.1 b hb]
          exact lg_p (n1 b hb) (fun z => q (l0 (by rw [n1 b hb, z])))
        unfold wS shT
        rw [if_neg np, ← g5.1 b hb]
        by_cases z : J_X4_lack (SHX sh) (Int32.ofNat W) (kp (SHX sh) (Int32.ofNat W) (J_X11_levelBy sx q0 (Int32.ofNat W)) b) 0 0 ≤ 0
        · have := f_le rfl (by decide : (0 : Int32).toInt = 0) z
          rw [if_pos z, if_pos (Int32.le_iff_toInt_le.mpr (by rw [show (0 : Int32).toInt = 0 from by decide]; omega))]
        · have := f_nle rfl (by decide : (0 : Int32).toInt = 0) z
          rw [if_neg z, if_neg (fun y => by have := f_le (by decide : (0 : Int32).toInt = 0) rfl y; omega)]
      obtain ⟨x, hx⟩ := ahk_n g5 hW (m := 1) (by omega) f0 (fun b N hb q _ => by
        unfold wS
        by_cases z : J_X4_lack (SHX sh) (Int32.ofNat W) (kp (SHX sh) (Int32.ofNat W) (J_X11_levelBy sx q0 (Int32.ofNat W)) b) 0 0 ≤ 0
        · exact ⟨0, by omega, by rw [if_pos z]; rfl⟩
        · exact ⟨1, Nat.le_refl 1, by rw [if_neg z, Nat.mul_one]; exact q⟩)
      rw [g4]
      rw [s3, g1, g2, ← eq, Int64.zero_add, k1]
      have z := told_alike (p := q2) (tlk_1 hx k2 hW)
      rw [z]
theorem idle_alike {sx sh sm sco : Nat → Nat → Int32} {tm tco : Nat → Nat → Int64} {p0 p1 p2 q0 q1 q2 : Int32} {t : Int64 × (Nat → Int64) × (Nat → Int64) × Int64 × Int64 × Int64 × Int64} {t2 : Int64 × (Nat → Int64) × (Nat → Int64)} (h1 : t = J_X11_idle sx sh sco tco p0 p1 p2) (h2 : t2 = J_X12_idle sm tm q0 q1 q2) (e0 : q0 = p0) (e1 : q1 = p1) (e2 : q2 = p2) (K : HOK sh sm) (hL : LVL (sx 1) (sm 4)) (T : TBL sh) : t.1 = t2.1 := by
  subst h1 h2 e0 e1 e2
  have wk := K.2.2.1
  unfold J_X11_idle J_X12_idle
  dsimp only [LetF]
  by_cases c0 : J_X11_isRule sx q0 = 0
  · rw [if_pos c0, if_pos (ir_iff.mp c0)]
  · rw [if_neg c0, if_neg (fun q => c0 (ir_iff.mpr q))]
    by_cases c1 : J_X11_isWeek sx (SHX sh) q1 = 0
    · rw [if_pos c1, if_pos ((iw_iff (hok_x K)).mp c1)]
    · rw [if_neg c1, if_neg (fun q => c1 ((iw_iff (hok_x K)).mpr q))]
      have r1 : 0 ≤ q1.toInt ∧ q1.toInt < (sh 0 0).toInt := iw_r (sx := sx) (sh := SHX sh) c1
      have r0 : 0 ≤ q0.toInt ∧ q0.toInt ≤ 2 := by rw [ir_z] at c0; omega
      obtain ⟨W, hW, rfl⟩ := nat_of (N := 5) (x := q1) ⟨r1.1, by omega⟩
      have wt : (Int32.ofNat W).toInt = (W : Int) := ofn_t (by omega)
      rw [wt] at r1
      obtain ⟨k1, k2⟩ := parts_v hW
      obtain ⟨A, L, L2, g1, g2, g3, g4, g5⟩ := gi_v (sx := sx) (sh := SHX sh) (sco := SC0) (tco := lT [(lJ [0, 0, (tco 0 2), (tco 0 3), (tco 0 4), (tco 0 5)]), (tco 1), (tco 2)]) (tm := tm) (W := W) (hok_x K) hL r0 (tbl_x T) r1.2
      have s2 := id_v (sm := sm) (tm := tm) (p0 := q0) (p1 := Int32.ofNat W) (p2 := q2) (y6 := J_X12_isRule q0) (y13 := J_X12_isWeek sm tm (Int32.ofNat W)) (y := (L, L2)) 50 0 0 rfl
      have s3 : (LTs default (B_X12_idle_31 sm tm q0 (Int32.ofNat W) q2 (J_X12_isRule q0) (J_X12_isWeek sm tm (Int32.ofNat W)) (L, L2)) 51 ((0 : Int32), (0 : Int64))).1 = J_X12_told (0 + SML (idT sm tm q0 (Int32.ofNat W) L) 50 0) (J_X12_parts (Int32.ofNat W)) q2 := s2
      have f0 : ∀ k, k < 35 → A k = 0 → wI (SHX sh) (Int32.ofNat W) (J_X11_levelBy sx q0 (Int32.ofNat W)) 0 A k = 0 := fun k _ q => by unfold wI; rw [q, Int64.zero_mul]
      have ng : ∀ b, b < 15 → ¬ A b = 0 → (if 0 < (-(J_X4_lack (SHX sh) (Int32.ofNat W) (kp (SHX sh) (Int32.ofNat W) (J_X11_levelBy sx q0 (Int32.ofNat W)) b) 0 0)) then (-(J_X4_lack (SHX sh) (Int32.ofNat W) (kp (SHX sh) (Int32.ofNat W) (J_X11_levelBy sx q0 (Int32.ofNat W)) b) 0 0)) else (0 : Int32)) = (if J_X12_overBy sm tm q0 (Int32.ofNat W) (Int32.ofNat (nAL b)) ≤ 0 then (0 : Int32) else J_X12_overBy sm tm q0 (Int32.ofNat W) (Int32.ofNat (nAL b))) ∧ (J_X12_overBy sm tm q0 (Int32.ofNat W) (Int32.ofNat (nAL b))).toInt ≤ 999 := fun b hb q => by
        obtain ⟨w1, w2, w3⟩ := kd_w (sh := SHX sh) (tm := tm) (hok_x K) hL r0 r1.2 g5 hb q
        generalize J_X4_lack (SHX sh) (Int32.ofNat W) (kp (SHX sh) (Int32.ofNat W) (J_X11_levelBy sx q0 (Int32.ofNat W)) b) 0 0 = la at w1 w2 w3 ⊢
        generalize J_X12_overBy sm tm q0 (Int32.ofNat W) (Int32.ofNat (nAL b)) = ov at w1 ⊢
        have nt := neg_t (a := la) rfl ⟨w2, w3⟩
        have no : (-la) = ov := Int32.toInt_inj.mp (by rw [nt]; omega)
        rw [no]
        refine ⟨?_, by omega⟩
        by_cases z : 0 < ov
        · have := f_lt (by decide : (0 : Int32).toInt = 0) rfl z
          rw [if_pos z, if_neg (fun y => by have := f_le rfl (by decide : (0 : Int32).toInt = 0) y; omega)]
        · have := f_nlt (by decide : (0 : Int32).toInt = 0) rfl z
          rw [if_neg z, if_pos (Int32.le_iff_toInt_le.mpr (by rw [show (0 : Int32).toInt = 0 from by decide]; omega))]
      have eq : SML (wI (SHX sh) (Int32.ofNat W) (J_X11_levelBy sx q0 (Int32.ofNat W)) 0 A) 35 0 = SML (idT sm tm q0 (Int32.ofNat W) L) 50 0 := by
        refine ahk_s g5 K.2.2.2.1.2 f0 (fun x _ q => if_pos (by rw [q]; exact lg_z)) (fun b hb q => ?_)
        obtain ⟨_, _, _, N, n1, _⟩ := id g5
        have np : ¬ lg_cmp (L (nAL b)) 0 ≤ 0 := by
          rw [← g5.1 b hb]
          exact lg_p (n1 b hb) (fun z => q (l0 (by rw [n1 b hb, z])))
        unfold wI idT
        rw [if_neg np, (ng b hb q).1, ← g5.1 b hb]
        by_cases z : J_X12_overBy sm tm q0 (Int32.ofNat W) (Int32.ofNat (nAL b)) ≤ 0
        · rw [if_pos z, if_pos z]; exact Int64.mul_zero
        · rw [if_neg z, if_neg z, Int64.mul_comm]
      obtain ⟨x, hx⟩ := ahk_n g5 hW (m := 1000) (by omega) f0 (fun b N hb q hN => by
        by_cases a0 : A b = 0
        · refine ⟨0, by omega, ?_⟩
          rw [f0 b (by omega) a0]; rfl
        · obtain ⟨n1, n2⟩ := ng b hb a0
          unfold wI
          rw [n1]
          by_cases z : J_X12_overBy sm tm q0 (Int32.ofNat W) (Int32.ofNat (nAL b)) ≤ 0
          · exact ⟨0, by omega, by rw [if_pos z, show (0 : Int32).toInt64 = 0 from by decide, Int64.mul_zero]; rfl⟩
          · have z2 := f_nle rfl (by decide : (0 : Int32).toInt = 0) z
            rw [if_neg z]
            generalize J_X12_overBy sm tm q0 (Int32.ofNat W) (Int32.ofNat (nAL b)) = ov at n2 z2 ⊢
            have o1 : ov.toInt64.toInt = ((ov.toInt.toNat : Nat) : Int) := by rw [Int32.toInt_toInt64]; omega
            refine ⟨ov.toInt.toNat, by omega, l_mulN q o1 ?_⟩
            exact Nat.le_trans (Nat.mul_le_mul hN (show ov.toInt.toNat ≤ 1000 by omega)) (by decide))
      rw [g4]
      rw [s3, g1, g3, ← eq, Int64.zero_add, k1]
      have z := told_alike (p := q2) (tlk_1 hx k2 hW)
      rw [z]
