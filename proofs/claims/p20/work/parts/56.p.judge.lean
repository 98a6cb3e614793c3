/-! THE ROW judged: both alike -/
def ROWG (n : Int32) (f f2 : Nat → Int32) : Prop := ∀ j : Nat, (j : Int) < n.toInt → 0 ≤ (f j).toInt ∧ ¬ J_X3_areLeavers (f2 j) = 0
theorem rw_start {n : Int32} {f f2 : Nat → Int32} (h : n.toInt = 0) : ROWG n f f2 := fun j hj => by omega
theorem tell_g {sx sro spa : Nat → Nat → Int32} {tro : Nat → Nat → Int64} {p0 p1 : Int32} {t : Int32 × (Nat → Int32) × (Nat → Int32) × Int32} (h1 : t = J_X11_tell sx sro tro spa p0 p1) (hb : 0 ≤ (sro 0 2).toInt ∧ (sro 0 2).toInt ≤ 5) (hr : ROWG (sro 0 2) (sro 1) (sro 2)) : ROWG t.2.2.2 t.2.1 t.2.2.1 := by
  subst h1
  dsimp only [J_X11_tell]
  by_cases c1 : p0 < 0
  · rw [if_pos c1]; exact hr
  · have a1 := f_nlt rfl (by decide : (0 : Int32).toInt = 0) c1
    rw [if_neg c1]
    by_cases c2 : 9999 < p0
    · rw [if_pos c2]; exact hr
    · rw [if_neg c2]
      by_cases c3 : J_X3_areLeavers p1 = 0
      · rw [if_pos c3]; exact hr
      · rw [if_neg c3]
        by_cases c4 : sro 0 2 < 5
        · have a4 := f_lt rfl (by decide : (5 : Int32).toInt = 5) c4
          have s : (sro 0 2 + 1).toInt = (sro 0 2).toInt + 1 := i_add rfl (by decide) (by omega) (by omega)
          rw [if_pos c4]
          intro j hj
          have hj2 : (j : Int) < (sro 0 2 + 1).toInt := hj
          show 0 ≤ (upd (sro 1) (sro 0 2).toNatClampNeg p0 j).toInt ∧ ¬ J_X3_areLeavers (upd (sro 2) (sro 0 2).toNatClampNeg p1 j) = 0
          by_cases e : j = (sro 0 2).toNatClampNeg
          · rw [e, pk_us, pk_us]; exact ⟨a1, c3⟩
          · rw [pk_un e, pk_un e]
            exact hr j (by have e2 : ¬ j = (sro 0 2).toInt.toNat := e; omega)
        · rw [if_neg c4]; exact hr
def BON (sh : Nat → Nat → Int32) (w h : Int32) : Int32 := if w = sh 0 0 then J_X4_bonusFor sh h else 0
def RES (t : Int32 × Int32 × Int32 × Int32 × Int32 × Int32 × Int32 × Int32 × Int32 × Int64 × Int64) (r : Int32 × Int64 × Int64 × Int64 × Int32) : Prop := t.2.2.2.2.2.2.1 = r.1 ∧ (r.1 = -9 → t.2.2.2.2.2.1 = r.2.1.toInt32 ∧ t.2.2.2.2.2.2.2.1 = r.2.2.2.2 ∧ TLK t.2.2.2.2.2.2.2.2.2.1 t.2.2.2.2.2.2.2.2.2.2 r.2.2.1 r.2.2.2.1)
theorem l_mul {X Y : Int64} {a b : Nat} (hX : X.toInt = (a : Int)) (hY : Y.toInt = (b : Int)) (h : a * b ≤ 95367431640625) : (X * Y).toInt = ((a * b : Nat) : Int) := by
  rw [Int64.toInt_mul, hX, hY, ← Int.natCast_mul]
  generalize a * b = q at h ⊢
  exact Int.bmod_eq_of_le (by omega) (by omega)
theorem i64n {x : Int32} {a : Nat} (h : x.toInt = (a : Int)) : x.toInt64.toInt = (a : Int) := i2l_t h rfl
theorem p20 {n : Nat} (h : n ≤ 20) : 5 ^ n ≤ 95367431640625 := Nat.pow_le_pow_right (n := 5) (by decide) h
theorem w_ne {w : Int32} {k : Nat} (h : w.toInt = (k : Int)) : ¬ w = -9 := fun q => by rw [q, show (-9 : Int32).toInt = -9 from by decide] at h; omega
theorem wn_k {w : Int32} {k : Nat} (h : w.toInt = (k : Int)) : w.toNatClampNeg = k := by show w.toInt.toNat = k; omega
theorem lost_c {sh sm : Nat → Nat → Int32} {mo lk ov : Int32} (K : HOK sh sm) (h : lk.toInt = -ov.toInt ∧ -999 ≤ lk.toInt ∧ lk.toInt ≤ 999) (hm : 0 ≤ mo.toInt) : (0 ≤ ov ∧ sh 0 7 * lk ≤ mo) ∨ (¬ 0 ≤ ov ∧ (-ov) * ((sm 2) (3 : Int32).toNatClampNeg) = sh 0 7 * lk) := by
  have e3 : (sm 2) (3 : Int32).toNatClampNeg = sh 0 7 := by rw [show (3 : Int32).toNatClampNeg = 3 from by decide]; exact K.1.2.2.2.1
  have r7 : 0 ≤ (sh 0 7).toInt ∧ (sh 0 7).toInt ≤ 9 := K.2.1.2.2.2.1
  rw [e3]
  by_cases c : 0 ≤ ov
  · have c2 := f_le (by decide : (0 : Int32).toInt = 0) rfl c
    refine Or.inl ⟨c, ?_⟩
    have l0 : lk.toInt ≤ 0 := by omega
    have p1 : (sh 0 7).toInt * lk.toInt ≤ 0 := by
      have z := Int.mul_le_mul_of_nonneg_left l0 r7.1
      rw [Int.mul_zero] at z; exact z
    have p2 : -9000 ≤ (sh 0 7).toInt * lk.toInt := by
      have z1 : (sh 0 7).toInt * (-999) ≤ (sh 0 7).toInt * lk.toInt := Int.mul_le_mul_of_nonneg_left h.2.1 r7.1
      omega
    have pm : (sh 0 7 * lk).toInt = (sh 0 7).toInt * lk.toInt := i_mul rfl rfl (by omega) (by omega)
    rw [Int32.le_iff_toInt_le, pm]; omega
  · refine Or.inr ⟨c, ?_⟩
    have en : -ov = lk := by
      have c2 := f_nle (by decide : (0 : Int32).toInt = 0) rfl c
      exact Int32.toInt_inj.mp (by rw [i_neg rfl (by omega) (by omega), h.1])
    rw [en]; exact Int32.mul_comm _ _
theorem ma_e {sp sh : Nat → Nat → Int32} {w ph pc po cs a : Int32} : J_X9_mayAct (SPc sp w ph pc po 0 cs) sh a = if sh 0 0 ≤ w then (0 : Int32) else if J_X4_allows sh w ph a = 0 then (0 : Int32) else 1 := if_pos rfl
theorem beh_r {d g : Int32} (hd : 0 ≤ d.toInt ∧ d.toInt ≤ 400 ∧ tot d ≤ 4) (hg : ¬ J_X3_areLeavers g = 0) (h : J_X3_has d g = 1) : 0 ≤ (J_X3_behindSunday d g).toInt ∧ (J_X3_behindSunday d g).toInt ≤ 400 ∧ tot (J_X3_behindSunday d g) ≤ 4 := by
  have g0 : 0 ≤ g.toInt := by
    obtain ⟨a, b, c, _, _, _, rfl⟩ := lev_d hg
    rw [ofn_t (by omega)]; omega
  obtain ⟨x1, x2, x3⟩ := dg hd.1
  obtain ⟨y1, y2, y3⟩ := dg g0
  unfold J_X3_has at h
  have q1 : ¬ (d / 100) < (g / 100) := fun q => by rw [if_pos q] at h; exact absurd h (by decide)
  rw [if_neg q1] at h
  have q2 : ¬ (d / 10 - d / 10 / 10 * 10) < (g / 10 - g / 10 / 10 * 10) := fun q => by rw [if_pos q] at h; exact absurd h (by decide)
  rw [if_neg q2] at h
  have q3 : ¬ (d - d / 10 * 10) < (g - g / 10 * 10) := fun q => by rw [if_pos q] at h; exact absurd h (by decide)
  exact (bs_t rfl hd g0 ⟨f_nlt x1 y1 q1, f_nlt x2 y2 q2, f_nlt x3 y3 q3⟩).1
theorem jd_sim {sr sp sh sm : Nat → Nat → Int32} {tr tm : Nat → Nat → Int64} {y12 : Int32 × Int32 × Int32 × Int32 × Int32 × Int32} (K : HOK sh sm) (hn : sm 0 26 = sr 0 2) (hb : 0 ≤ (sr 0 2).toInt ∧ (sr 0 2).toInt ≤ 5) (hr : ROWK (sr 0 2) (sr 1) (sm 16) (sr 2) (sm 17)) (hg : ROWG (sr 0 2) (sr 1) (sr 2)) : ∀ (f k : Nat) (w wo mo pc ph po cs : Int32) (ch sc rc up dn : Int64) (m d u : Nat), f + k = 6 → w.toInt = (k : Int) → (k : Int) ≤ (sr 0 2).toInt → 0 ≤ mo.toInt → (0 ≤ ph.toInt ∧ ph.toInt ≤ 400 ∧ tot ph ≤ 4) → (0 ≤ pc.toInt ∧ pc.toInt ≤ 2) → cs = rc.toInt32 + BON sh w ph → ch.toInt = ((5 ^ m * u : Nat) : Int) → sc.toInt = ((5 ^ (4 * k) : Nat) : Int) → up.toInt = (u : Int) → dn.toInt = ((5 ^ d : Nat) : Int) → m + d = 4 * k → 0 < u → u ≤ 5 ^ d → RES (LTs default (B_X7_judgeBy_36 sr tr sp sh y12) f (w, -9, wo, mo, ch, sc, w, ph, pc, po, 0, cs)) (LTs default (B_X12_goThrough_30 sm tm) f (w, mo, pc, ph, rc, up, dn, wo))
  | 0, k, _, _, _, _, _, _, _, _, _, _, _, _, _, _, _, h6, _, hk, _, _, _, _, _, _, _, _, _, _, _ => by omega
  | f + 1, k, w, wo, mo, pc, ph, po, cs, ch, sc, rc, up, dn, m, d, u, h6, hw, hk, hm, hh, hc, hcs, hch, hsc, hup, hdn, hmd, hu, hud => by
    have wk := K.2.2.1
    by_cases he : sr 0 2 ≤ w
    · have he1 := f_le rfl hw he
      have he2 : sm 0 26 ≤ w := by rw [hn]; exact he
      obtain ⟨rc2, e2, e3⟩ := gt_end (sm := sm) (tm := tm) (w := w) (mo := mo) (co := pc) (ha := ph) (wo := wo) (rc := rc) (up := up) (dn := dn) he2
      have e1 : B_X7_judgeBy_36 sr tr sp sh y12 (w, -9, wo, mo, ch, sc, w, ph, pc, po, 0, cs) = Sum.inr (w, ph, pc, po, 0, cs, -9, wo, mo, ch, sc) := if_pos he
      have wn : w = sr 0 2 := Int32.toInt_inj.mp (by omega)
      have V0 : (sm 2) (0 : Int32).toNatClampNeg = sh 0 0 := by rw [show (0 : Int32).toNatClampNeg = 0 from by decide]; exact K.1.1
      rw [LT_en e1, LT_en e2]
      refine ⟨rfl, fun _ => ⟨?_, rfl, ?_⟩⟩
      · show cs = rc2.toInt32
        rw [e3, hcs, hn, ← wn, V0, ← bonus_alike (tm := tm) K]
        rfl
      · refine ⟨5 ^ m, u, 5 ^ d, 4 * k, Nat.pow_pos (by decide), Nat.pow_pos (by decide), hup, hdn, hch, ?_, ?_, by omega⟩
        · show sc.toInt = _
          rw [hsc, ← Nat.pow_add, hmd]
        · rw [← Nat.pow_add, hmd]
    · have he1 := f_nle rfl hw he
      have he2 : ¬ sm 0 26 ≤ w := by rw [hn]; exact he
      have ek := wn_k hw
      obtain ⟨r1, r2⟩ := hr k he1
      obtain ⟨g1, g2⟩ := hg k he1
      have eA : (sr 1) w.toNatClampNeg = (sm 16) w.toNatClampNeg := by rw [ek]; exact r1
      have eG : (sr 2) w.toNatClampNeg = (sm 17) w.toNatClampNeg := by rw [ek]; exact r2
      have hA : 0 ≤ ((sm 16) w.toNatClampNeg).toInt := by rw [ek, ← r1]; exact g1
      have hG : ¬ J_X3_areLeavers ((sm 17) w.toNatClampNeg) = 0 := by rw [ek, ← r2]; exact g2
      have f1 : ∃ f2, f = f2 + 1 := ⟨f - 1, by omega⟩
      obtain ⟨f2, rfl⟩ := f1
      have iw : J_X12_isWeek (SXr sm wo) (TXr tm rc up dn) w = 0 ↔ (w.toInt < 0 ∨ (sh 0 0).toInt ≤ w.toInt) := iw_y (sm := SXr sm wo) K
      by_cases cw : sh 0 0 ≤ w
      · have cw2 := f_le rfl hw cw
        have m0 : J_X9_mayAct (SPc sp w ph pc po 0 cs) sh ((sr 1) w.toNatClampNeg) = 0 := by rw [ma_e, if_pos cw]
        rw [LT_st (jb_a he m0), LT_en (jb_w (w_ne hw)), LT_en (gt_no he2 (Or.inl (iw.mpr (Or.inr (by omega)))))]
        exact ⟨rfl, fun q => absurd q (w_ne hw)⟩
      · have cw2 := f_nle rfl hw cw
        have nw : ¬ J_X12_isWeek (SXr sm wo) (TXr tm rc up dn) w = 0 := fun q => by have := iw.mp q; omega
        rcases al_full (sm := SXr sm wo) (tm := TXr tm rc up dn) (w := w) (h := ph) (c := pc) (a := (sm 16) w.toNatClampNeg) K ⟨by omega, by omega⟩ hh hc hA with ⟨x1, x2⟩ | ⟨x1, x2, x3, x4, x5, x6, x7⟩
        · have m0 : J_X9_mayAct (SPc sp w ph pc po 0 cs) sh ((sr 1) w.toNatClampNeg) = 0 := by rw [ma_e, if_neg cw, eA, if_pos x1]
          rw [LT_st (jb_a he m0), LT_en (jb_w (w_ne hw)), LT_en (gt_no he2 (Or.inr ⟨nw, Or.inl x2⟩))]
          exact ⟨rfl, fun q => absurd q (w_ne hw)⟩
        · have m1 : ¬ J_X9_mayAct (SPc sp w ph pc po 0 cs) sh ((sm 16) w.toNatClampNeg) = 0 := by rw [ma_e, if_neg cw, x1]; decide
          rw [x2] at x3
          rcases left_alike x4.1 hG with ⟨y1, y2⟩ | ⟨y1, y2, y3⟩
          · have z0 : J_X4_leaving sh (J_X0_done ph ((sm 16) w.toNatClampNeg)) ((sm 17) w.toNatClampNeg) = 0 := if_pos y1
            rw [LT_st (jb_b he (by rw [eA]; exact m1) (by rw [eA, eG]; exact z0)), LT_en (jb_w (w_ne hw)), LT_en (gt_no he2 (Or.inr ⟨nw, Or.inr ⟨by rw [x2]; exact x3, Or.inl (by rw [x2]; exact y2)⟩⟩))]
            exact ⟨rfl, fun q => absurd q (w_ne hw)⟩
          · obtain ⟨T, c, t4, tc, c1, c2, c3⟩ := lv_c (sm := SXr sm wo) (tm := TXr tm rc up dn) K x4.1 hG y1
            by_cases cz : c = 0
            · have z0 : J_X4_leaving sh (J_X0_done ph ((sm 16) w.toNatClampNeg)) ((sm 17) w.toNatClampNeg) = 0 := Int32.toInt_inj.mp (by rw [c2, cz, Nat.mul_zero]; decide)
              have z1 : CHN (SXr sm wo) (TXr tm rc up dn) (J_X0_done ph ((sm 16) w.toNatClampNeg)) ((sm 17) w.toNatClampNeg) = 0 := Int32.toInt_inj.mp (by rw [c1, cz]; decide)
              rw [LT_st (jb_b he (by rw [eA]; exact m1) (by rw [eA, eG]; exact z0)), LT_en (jb_w (w_ne hw)), LT_en (gt_no he2 (Or.inr ⟨nw, Or.inr ⟨by rw [x2]; exact x3, Or.inr ⟨by rw [x2]; exact y3, by rw [x2]; exact z1⟩⟩⟩))]
              exact ⟨rfl, fun q => absurd q (w_ne hw)⟩
            · have pc0 : 0 < c := Nat.pos_of_ne_zero cz
              have pl : 0 < 5 ^ (4 - T) * c := Nat.mul_pos (Nat.pow_pos (by decide)) pc0
              have z0 : ¬ J_X4_leaving sh (J_X0_done ph ((sm 16) w.toNatClampNeg)) ((sm 17) w.toNatClampNeg) = 0 := fun q => by rw [q, show (0 : Int32).toInt = 0 from by decide] at c2; omega
              have z1 : ¬ CHN (SXr sm wo) (TXr tm rc up dn) (J_X0_done ph ((sm 16) w.toNatClampNeg)) ((sm 17) w.toNatClampNeg) = 0 := fun q => by rw [q, show (0 : Int32).toInt = 0 from by decide] at c1; omega
              have LC := lost_c (mo := mo) (sm := SXr sm wo) K x6 hm
              have m2 : 0 ≤ mo := Int32.le_iff_toInt_le.mpr (by rw [show (0 : Int32).toInt = 0 from by decide]; exact hm)
              rw [LT_st (jb_c he eA eG m1 z0 rfl), LT_st (gt_go he2 nw x2 x3 y3 z1 m2 LC)]
              have w1 : (w + 1).toInt = ((k + 1 : Nat) : Int) := by rw [i_add rfl (by decide : (1 : Int32).toInt = 1) (by omega) (by omega)]; omega
              have nb : BON sh w ph = 0 := if_neg (fun q => cw (by rw [q]; exact Int32.le_iff_toInt_le.mpr (Int.le_refl _)))
              have mn : 0 ≤ (if sh 0 7 * J_X4_lack sh w (J_X0_done ph ((sm 16) w.toNatClampNeg)) pc (J_X0_taught ((sm 16) w.toNatClampNeg)) ≤ mo then mo else sh 0 7 * J_X4_lack sh w (J_X0_done ph ((sm 16) w.toNatClampNeg)) pc (J_X0_taught ((sm 16) w.toNatClampNeg))).toInt := by
                generalize sh 0 7 * J_X4_lack sh w (J_X0_done ph ((sm 16) w.toNatClampNeg)) pc (J_X0_taught ((sm 16) w.toNatClampNeg)) = LL
                by_cases q : LL ≤ mo
                · rw [if_pos q]; exact hm
                · have := f_nle rfl rfl q
                  rw [if_neg q]; omega
              have bh : (0 ≤ (J_X3_behindSunday (J_X0_done ph ((sm 16) w.toNatClampNeg)) ((sm 17) w.toNatClampNeg)).toInt ∧ (J_X3_behindSunday (J_X0_done ph ((sm 16) w.toNatClampNeg)) ((sm 17) w.toNatClampNeg)).toInt ≤ 400 ∧ tot (J_X3_behindSunday (J_X0_done ph ((sm 16) w.toNatClampNeg)) ((sm 17) w.toNatClampNeg)) ≤ 4) := beh_r x4.1 hG y1
              have ud : u * c ≤ 5 ^ (d + T) := pmul hud tc
              have q1 : 5 ^ m * u ≤ 5 ^ (4 * k) := by
                have z := Nat.mul_le_mul (Nat.le_refl (5 ^ m)) hud
                rw [← Nat.pow_add, hmd] at z; exact z
              have q2 : 5 ^ (4 - T) * c ≤ 5 ^ 4 := by
                have z := Nat.mul_le_mul (Nat.le_refl (5 ^ (4 - T))) tc
                rw [← Nat.pow_add, show 4 - T + T = 4 from by omega] at z; exact z
              have q3 : 5 ^ m * u * (5 ^ (4 - T) * c) ≤ 5 ^ (4 * k + 4) := pmul q1 q2
              have q4 : 5 ^ (4 * k + 4) ≤ 95367431640625 := p20 (by omega)
              have q5 : 5 ^ (d + T) ≤ 95367431640625 := p20 (by omega)
              rw [y2]
              refine jd_sim K hn hb hr hg (f2 + 1) (k + 1) (w + 1) _ _ _ _ _ _ _ _ _ _ _ (m + (4 - T)) (d + T) (u * c) (by omega) w1 (by omega) mn bh x7 ?_ ?_ ?_ ?_ ?_ (by omega) (Nat.mul_pos hu pc0) ud
              · rw [hcs, nb, Int64.toInt32_add, Int32.toInt32_toInt64, ← x5]
                unfold BON
                by_cases ce : w + 1 = sh 0 0
                · rw [if_pos ce, if_pos ce, Int32.add_zero]
                · rw [if_neg ce, if_neg ce, Int32.add_zero, Int32.add_zero]
              · rw [l_mul hch (i64n c2) (Nat.le_trans q3 q4), Nat.mul_mul_mul_comm, ← Nat.pow_add]
              · rw [show 4 * (k + 1) = 4 * k + 4 from by omega, l_mul hsc (show (625 : Int64).toInt = ((5 ^ 4 : Nat) : Int) from by decide) (by rw [← Nat.pow_add]; exact q4), ← Nat.pow_add]
              · exact l_mul hup (i64n c1) (Nat.le_trans ud q5)
              · rw [l_mul hdn (i64n c3) (by rw [← Nat.pow_add]; exact q5), ← Nat.pow_add]
theorem jd_all {sx sro spa sh sm : Nat → Nat → Int32} {tro tm : Nat → Nat → Int64} (K : HOK sh sm) (hn : (sm 0 26).toInt = (sro 0 2).toInt) (hb : 0 ≤ (sro 0 2).toInt ∧ (sro 0 2).toInt ≤ 5) (hr : ROWK (sro 0 2) (sro 1) (sm 16) (sro 2) (sm 17)) (hg : ROWG (sro 0 2) (sro 1) (sro 2)) : RES (J_X7_judgeBy (lS [(lI [0, 0, (sro 0 2), 0, (sro 0 4), (sro 0 5), (sro 0 6)]), (sro 1), (sro 2)]) (lT [(lJ [0, 0, 0, 0, 0, 0, 0, (tro 0 7), (tro 0 8)]), (fun _ => 0), (fun _ => 0)]) spa (lS [(lI [(sh 0 0), (sh 0 1), 0, 0, 0, 0, (sh 0 6), (sh 0 7), (sh 0 8), (sh 0 9), (sh 0 10), (sh 0 11), (sh 0 12)]), (sh 1), (sh 2), (sh 3), (sh 4), (sh 5)])) (J_X12_goThrough sm tm) := by
  have en : sm 0 26 = sro 0 2 := Int32.toInt_inj.mp hn
  have t0 : J_X3_total 0 = 0 := by decide
  have bz : ∀ s : Nat → Nat → Int32, BON s 0 0 = 0 := fun s => by
    unfold BON J_X4_bonusFor
    rw [t0, Int32.mul_zero]
    by_cases c1 : (0 : Int32) = s 0 0
    · rw [if_pos c1]
      by_cases c2 : s 0 11 = -9
      · exact if_pos c2
      · exact if_neg c2
    · exact if_neg c1
  exact jd_sim (sr := lS [(lI [0, 0, (sro 0 2), 0, (sro 0 4), (sro 0 5), (sro 0 6)]), (sro 1), (sro 2)]) (sh := lS [(lI [(sh 0 0), (sh 0 1), 0, 0, 0, 0, (sh 0 6), (sh 0 7), (sh 0 8), (sh 0 9), (sh 0 10), (sh 0 11), (sh 0 12)]), (sh 1), (sh 2), (sh 3), (sh 4), (sh 5)]) (sm := sm) (tr := lT [(lJ [0, 0, 0, 0, 0, 0, 0, (tro 0 7), (tro 0 8)]), (fun _ => 0), (fun _ => 0)]) (tm := tm) (hok_x K) en hb hr hg 6 0 0 (-9) 0 0 0 0 0 1 1 0 1 1 0 0 1 rfl (by decide) hb.1 (by decide) (by decide) (by decide) (by rw [bz]; decide) (by decide) (by decide) (by decide) (by decide) rfl (by decide) (by decide)
theorem judge_alike {sx sro spa sh sm : Nat → Nat → Int32} {tro tm : Nat → Nat → Int64} {t : Int32 × Int32 × Int32 × Int32 × Int32 × Int32 × Int32 × Int32 × Int32 × Int32 × Int64 × Int64} {t2 : Int32 × Int64 × Int64 × Int64 × Int32} (h1 : t = J_X11_judge sx sro tro spa sh) (h2 : t2 = J_X12_judge sm tm) (K : HOK sh sm) (hn : (sm 0 26).toInt = (sro 0 2).toInt) (hb : 0 ≤ (sro 0 2).toInt ∧ (sro 0 2).toInt ≤ 5) (hr : ROWK (sro 0 2) (sro 1) (sm 16) (sro 2) (sm 17)) (hg : ROWG (sro 0 2) (sro 1) (sro 2)) : t.1 = t2.1 := by
  have R := jd_all (sx := sx) (spa := spa) (tro := tro) (tm := tm) K hn hb hr hg
  subst h1 h2
  exact R.1
theorem paid_alike {sx sro spa sh sm : Nat → Nat → Int32} {tro tm : Nat → Nat → Int64} {t : Int32 × Int32 × Int32 × Int32 × Int32 × Int32 × Int32 × Int32 × Int32 × Int32 × Int64 × Int64} {t2 : Int32 × Int64 × Int64 × Int64 × Int32} (h1 : t = J_X11_paid sx sro tro spa sh) (h2 : t2 = J_X12_paid sm tm) (K : HOK sh sm) (hn : (sm 0 26).toInt = (sro 0 2).toInt) (hb : 0 ≤ (sro 0 2).toInt ∧ (sro 0 2).toInt ≤ 5) (hr : ROWK (sro 0 2) (sro 1) (sm 16) (sro 2) (sm 17)) (hg : ROWG (sro 0 2) (sro 1) (sro 2)) : t.1 = t2.1 := by
  obtain ⟨r1, r2⟩ := jd_all (sx := sx) (spa := spa) (tro := tro) (tm := tm) K hn hb hr hg
  subst h1 h2
  by_cases c : (J_X12_goThrough sm tm).1 = -9
  · rw [show J_X12_paid sm tm = _ from if_pos c, show J_X11_paid sx sro tro spa sh = _ from if_pos (r1.trans c)]
    exact (r2 c).1
  · rw [show J_X12_paid sm tm = _ from if_neg c, show J_X11_paid sx sro tro spa sh = _ from if_neg (fun q => c (r1.symm.trans q))]
theorem worst_alike {sx sro spa sh sm : Nat → Nat → Int32} {tro tm : Nat → Nat → Int64} {t : Int32 × Int32 × Int32 × Int32 × Int32 × Int32 × Int32 × Int32 × Int32 × Int32 × Int64 × Int64} {t2 : Int32 × Int64 × Int64 × Int64 × Int32} (h1 : t = J_X11_worst sx sro tro spa sh) (h2 : t2 = J_X12_worst sm tm) (K : HOK sh sm) (hn : (sm 0 26).toInt = (sro 0 2).toInt) (hb : 0 ≤ (sro 0 2).toInt ∧ (sro 0 2).toInt ≤ 5) (hr : ROWK (sro 0 2) (sro 1) (sm 16) (sro 2) (sm 17)) (hg : ROWG (sro 0 2) (sro 1) (sro 2)) : t.1 = t2.1 := by
  obtain ⟨r1, r2⟩ := jd_all (sx := sx) (spa := spa) (tro := tro) (tm := tm) K hn hb hr hg
  subst h1 h2
  by_cases c : (J_X12_goThrough sm tm).1 = -9
  · rw [show J_X12_worst sm tm = _ from if_pos c, show J_X11_worst sx sro tro spa sh = _ from if_pos (r1.trans c)]
    exact (r2 c).2.1
  · rw [show J_X12_worst sm tm = _ from if_neg c, show J_X11_worst sx sro tro spa sh = _ from if_neg (fun q => c (r1.symm.trans q))]
theorem luck_alike {sx sro spa sh sm : Nat → Nat → Int32} {tro tm : Nat → Nat → Int64} {p q : Int32} {t : Int64 × Int32 × Int32 × Int32 × Int32 × Int32 × Int32 × Int32 × Int32 × Int32 × Int64 × Int64} {t2 : Int64 × Int64 × Int64 × Int64 × Int32} (h1 : t = J_X11_luck sx sro tro spa sh p) (h2 : t2 = J_X12_luck sm tm q) (e0 : q = p) (K : HOK sh sm) (hn : (sm 0 26).toInt = (sro 0 2).toInt) (hb : 0 ≤ (sro 0 2).toInt ∧ (sro 0 2).toInt ≤ 5) (hr : ROWK (sro 0 2) (sro 1) (sm 16) (sro 2) (sm 17)) (hg : ROWG (sro 0 2) (sro 1) (sro 2)) : t.1 = t2.1 := by
  obtain ⟨r1, r2⟩ := jd_all (sx := sx) (spa := spa) (tro := tro) (tm := tm) K hn hb hr hg
  subst h1 h2 e0
  by_cases c : (J_X12_goThrough sm tm).1 = -9
  · rw [show J_X12_luck sm tm q = _ from if_pos c, show J_X11_luck sx sro tro spa sh q = _ from if_pos (r1.trans c)]
    exact told_alike (r2 c).2.2
  · rw [show J_X12_luck sm tm q = _ from if_neg c, show J_X11_luck sx sro tro spa sh q = _ from if_neg (fun z => c (r1.symm.trans z))]
