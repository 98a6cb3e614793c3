/-! THE ROW gone through: alike -/
def SPc (sp : Nat → Nat → Int32) (a b c d e g : Int32) : Nat → Nat → Int32 := up2 sp 0 (upd (upd (upd (upd (upd (upd (sp 0) 0 a) 1 b) 2 c) 3 d) 4 e) 5 g)
def SRc (sr : Nat → Nat → Int32) (x y z : Int32) : Nat → Nat → Int32 := up2 sr 0 (upd (upd (upd (sr 0) 4 x) 5 y) 6 z)
def TRc (tr : Nat → Nat → Int64) (x y : Int64) : Nat → Nat → Int64 := up2L tr 0 (vp_updL (vp_updL (tr 0) 7 x) 8 y)
def SXr (sm : Nat → Nat → Int32) (wo : Int32) : Nat → Nat → Int32 := up2 sm 0 (upd (sm 0) 32 wo)
def TXr (tm : Nat → Nat → Int64) (rc up dn : Int64) : Nat → Nat → Int64 := up2L tm 0 (vp_updL (vp_updL (vp_updL (tm 0) 29 rc) 30 up) 31 dn)
def SPw (sp : Nat → Nat → Int32) (D O C : Int32) : Nat → Nat → Int32 := up2 sp 0 (upd (upd (upd (upd (sp 0) 1 D) 3 O) 4 1) 5 C)
def JWC (o r4 : Int32) (ch sc : Int64) (x : Int32 × Int32) (y : Int32 × Int32 × Int32 × Int32 × Int32) : Int32 × Int32 × Int32 × Int32 × Int32 × Int32 × Int32 × Int32 × Int32 × Int64 × Int64 := (y.1, y.2.1, y.2.2.1, o, y.2.2.2.1, y.2.2.2.2, r4, x.1, x.2, ch, sc)
theorem jb_st {sr sp sh : Nat → Nat → Int32} {tr : Nat → Nat → Int64} {y12 : Int32 × Int32 × Int32 × Int32 × Int32 × Int32} {i wo mo a b c d e g : Int32} {ch sc : Int64} {Y : Int32 × Int32 × Int32 × Int32 × Int32 × Int32 × Int32 × Int32 × Int32 × Int64 × Int64} (h : ¬ sr 0 2 ≤ i) (hY : J_X7_judgeWeek (SRc sr (-9) wo mo) (TRc tr ch sc) (SPc sp a b c d e g) sh ((sr 1) i.toNatClampNeg) ((sr 2) i.toNatClampNeg) = Y) : B_X7_judgeBy_36 sr tr sp sh y12 (i, -9, wo, mo, ch, sc, a, b, c, d, e, g) = Sum.inl (i + 1, Y.2.2.2.2.2.2.1, Y.2.2.2.2.2.2.2.1, Y.2.2.2.2.2.2.2.2.1, Y.2.2.2.2.2.2.2.2.2.1, Y.2.2.2.2.2.2.2.2.2.2, Y.1, Y.2.1, Y.2.2.1, Y.2.2.2.1, Y.2.2.2.2.1, Y.2.2.2.2.2.1) := by
  subst hY
  exact (if_neg h).trans (if_pos rfl)
theorem jb_w {sr sp sh : Nat → Nat → Int32} {tr : Nat → Nat → Int64} {y12 : Int32 × Int32 × Int32 × Int32 × Int32 × Int32} {i wr wo mo a b c d e g : Int32} {ch sc : Int64} (h : ¬ wr = -9) : B_X7_judgeBy_36 sr tr sp sh y12 (i, wr, wo, mo, ch, sc, a, b, c, d, e, g) = Sum.inr (a, b, c, d, e, g, wr, wo, mo, ch, sc) := by
  by_cases q : sr 0 2 ≤ i
  · exact if_pos q
  · exact (if_neg q).trans (if_neg h)
theorem jw_a {sr sp sh : Nat → Nat → Int32} {tr : Nat → Nat → Int64} {p0 p1 : Int32} (h : J_X9_mayAct sp sh p0 = 0) : J_X7_judgeWeek sr tr sp sh p0 p1 = (sp 0 0, sp 0 1, sp 0 2, sp 0 3, sp 0 4, sp 0 5, sp 0 0, sr 0 5, sr 0 6, tr 0 7, tr 0 8) := if_pos h
theorem jw_b {sr sp sh : Nat → Nat → Int32} {tr : Nat → Nat → Int64} {p0 p1 : Int32} (h : ¬ J_X9_mayAct sp sh p0 = 0) (h2 : J_X4_leaving sh (J_X0_done (sp 0 1) p0) p1 = 0) : J_X7_judgeWeek sr tr sp sh p0 p1 = (sp 0 0, J_X0_done (sp 0 1) p0, sp 0 2, J_X0_ordered p0, 1, sp 0 5 + J_X4_weekCost sh (sp 0 0) (J_X0_done (sp 0 1) p0) (sp 0 2) p0, sp 0 0, sr 0 5, sr 0 6, tr 0 7, tr 0 8) := (if_neg h).trans (if_pos h2)
theorem jw_c {sr sp sh : Nat → Nat → Int32} {tr : Nat → Nat → Int64} {p0 p1 : Int32} (h : ¬ J_X9_mayAct sp sh p0 = 0) (h2 : ¬ J_X4_leaving sh (J_X0_done (sp 0 1) p0) p1 = 0) : J_X7_judgeWeek sr tr sp sh p0 p1 = (sp 0 0 + 1, J_X3_behindSunday (J_X0_done (sp 0 1) p0) p1, J_X0_ordered p0, J_X0_ordered p0, 0, (if sp 0 0 + 1 = sh 0 0 then (sp 0 5 + J_X4_weekCost sh (sp 0 0) (J_X0_done (sp 0 1) p0) (sp 0 2) p0) + J_X4_bonusFor sh (J_X3_behindSunday (J_X0_done (sp 0 1) p0) p1) else sp 0 5 + J_X4_weekCost sh (sp 0 0) (J_X0_done (sp 0 1) p0) (sp 0 2) p0), sr 0 4, (if sh 0 7 * J_X4_lack sh (sp 0 0) (J_X0_done (sp 0 1) p0) (sp 0 2) (J_X0_taught p0) ≤ sr 0 6 then sr 0 5 else sp 0 0), (if sh 0 7 * J_X4_lack sh (sp 0 0) (J_X0_done (sp 0 1) p0) (sp 0 2) (J_X0_taught p0) ≤ sr 0 6 then sr 0 6 else sh 0 7 * J_X4_lack sh (sp 0 0) (J_X0_done (sp 0 1) p0) (sp 0 2) (J_X0_taught p0)), tr 0 7 * (J_X4_leaving sh (J_X0_done (sp 0 1) p0) p1).toInt64, tr 0 8 * 625) := by
  have e : ∃ T2 S2, J_X7_judgeWeek sr tr sp sh p0 p1 = JWC (J_X0_ordered p0) (sr 0 4) (tr 0 7 * (J_X4_leaving sh (J_X0_done (sp 0 1) p0) p1).toInt64) (tr 0 8 * 625) (J_X7_noteLoss sr T2 S2 (sp 0 0) (sh 0 7 * J_X4_lack sh (sp 0 0) (J_X0_done (sp 0 1) p0) (sp 0 2) (J_X0_taught p0))) (J_X9_passSunday (SPw sp (J_X0_done (sp 0 1) p0) (J_X0_ordered p0) (sp 0 5 + J_X4_weekCost sh (sp 0 0) (J_X0_done (sp 0 1) p0) (sp 0 2) p0)) sh p1) := ⟨_, _, (if_neg h).trans (if_neg h2)⟩
  obtain ⟨T2, S2, e⟩ := e
  rw [e]
  generalize J_X4_weekCost sh (sp 0 0) (J_X0_done (sp 0 1) p0) (sp 0 2) p0 = C
  generalize sh 0 7 * J_X4_lack sh (sp 0 0) (J_X0_done (sp 0 1) p0) (sp 0 2) (J_X0_taught p0) = L
  generalize J_X4_leaving sh (J_X0_done (sp 0 1) p0) p1 = lv
  generalize J_X0_done (sp 0 1) p0 = D
  have n : J_X7_noteLoss sr T2 S2 (sp 0 0) L = (if L ≤ sr 0 6 then sr 0 5 else sp 0 0, if L ≤ sr 0 6 then sr 0 6 else L) := by
    by_cases c : L ≤ sr 0 6
    · rw [if_pos c, if_pos c]; exact if_pos c
    · rw [if_neg c, if_neg c]; exact if_neg c
  have s : J_X9_passSunday (SPw sp D (J_X0_ordered p0) (sp 0 5 + C)) sh p1 = (sp 0 0 + 1, J_X3_behindSunday D p1, J_X0_ordered p0, 0, if sp 0 0 + 1 = sh 0 0 then (sp 0 5 + C) + J_X4_bonusFor sh (J_X3_behindSunday D p1) else sp 0 5 + C) := by
    by_cases c : sp 0 0 + 1 = sh 0 0
    · rw [if_pos c]; exact if_pos c
    · rw [if_neg c]; exact if_neg c
  rw [n, s]
  rfl
theorem jb_a {sr sp sh : Nat → Nat → Int32} {tr : Nat → Nat → Int64} {y12 : Int32 × Int32 × Int32 × Int32 × Int32 × Int32} {w wo mo ph pc po cs : Int32} {ch sc : Int64} (h : ¬ sr 0 2 ≤ w) (hm : J_X9_mayAct (SPc sp w ph pc po 0 cs) sh ((sr 1) w.toNatClampNeg) = 0) : B_X7_judgeBy_36 sr tr sp sh y12 (w, -9, wo, mo, ch, sc, w, ph, pc, po, 0, cs) = Sum.inl (w + 1, w, wo, mo, ch, sc, w, ph, pc, po, 0, cs) := jb_st h (jw_a hm)
theorem jb_b {sr sp sh : Nat → Nat → Int32} {tr : Nat → Nat → Int64} {y12 : Int32 × Int32 × Int32 × Int32 × Int32 × Int32} {w wo mo ph pc po cs : Int32} {ch sc : Int64} (h : ¬ sr 0 2 ≤ w) (hm : ¬ J_X9_mayAct (SPc sp w ph pc po 0 cs) sh ((sr 1) w.toNatClampNeg) = 0) (h2 : J_X4_leaving sh (J_X0_done ph ((sr 1) w.toNatClampNeg)) ((sr 2) w.toNatClampNeg) = 0) : B_X7_judgeBy_36 sr tr sp sh y12 (w, -9, wo, mo, ch, sc, w, ph, pc, po, 0, cs) = Sum.inl (w + 1, w, wo, mo, ch, sc, w, J_X0_done ph ((sr 1) w.toNatClampNeg), pc, J_X0_ordered ((sr 1) w.toNatClampNeg), 1, cs + J_X4_weekCost sh w (J_X0_done ph ((sr 1) w.toNatClampNeg)) pc ((sr 1) w.toNatClampNeg)) := jb_st h (jw_b hm h2)
theorem jb_c {sr sp sh : Nat → Nat → Int32} {tr : Nat → Nat → Int64} {y12 : Int32 × Int32 × Int32 × Int32 × Int32 × Int32} {w wo mo ph pc po cs A G L : Int32} {ch sc : Int64} (h : ¬ sr 0 2 ≤ w) (eA : (sr 1) w.toNatClampNeg = A) (eG : (sr 2) w.toNatClampNeg = G) (hm : ¬ J_X9_mayAct (SPc sp w ph pc po 0 cs) sh A = 0) (h2 : ¬ J_X4_leaving sh (J_X0_done ph A) G = 0) (hL : sh 0 7 * J_X4_lack sh w (J_X0_done ph A) pc (J_X0_taught A) = L) : B_X7_judgeBy_36 sr tr sp sh y12 (w, -9, wo, mo, ch, sc, w, ph, pc, po, 0, cs) = Sum.inl (w + 1, -9, (if L ≤ mo then wo else w), (if L ≤ mo then mo else L), ch * (J_X4_leaving sh (J_X0_done ph A) G).toInt64, sc * 625, w + 1, J_X3_behindSunday (J_X0_done ph A) G, J_X0_ordered A, J_X0_ordered A, 0, (if w + 1 = sh 0 0 then (cs + J_X4_weekCost sh w (J_X0_done ph A) pc A) + J_X4_bonusFor sh (J_X3_behindSunday (J_X0_done ph A) G) else cs + J_X4_weekCost sh w (J_X0_done ph A) pc A)) := by
  subst eA eG hL
  exact jb_st h (jw_c hm h2)
theorem gt_end {sm : Nat → Nat → Int32} {tm : Nat → Nat → Int64} {w mo co ha wo : Int32} {rc up dn : Int64} (h : sm 0 26 ≤ w) : ∃ rc2 : Int64, B_X12_goThrough_30 sm tm (w, mo, co, ha, rc, up, dn, wo) = Sum.inr (-9, rc2, up, dn, wo) ∧ rc2.toInt32 = rc.toInt32 + (if sm 0 26 = (sm 2) (0 : Int32).toNatClampNeg then J_X12_bonus sm tm ha else 0) := by
  by_cases c : sm 0 26 = (sm 2) (0 : Int32).toNatClampNeg
  · refine ⟨rc + (J_X12_bonus sm tm ha).toInt64, (if_pos h).trans (if_pos c), ?_⟩
    rw [if_pos c, Int64.toInt32_add, Int32.toInt32_toInt64]
  · refine ⟨rc + (0 : Int64), (if_pos h).trans (if_neg c), ?_⟩
    rw [if_neg c, Int64.toInt32_add, show (0 : Int64).toInt32 = 0 from by decide]
theorem gt_no {sm : Nat → Nat → Int32} {tm : Nat → Nat → Int64} {w mo co ha wo : Int32} {rc up dn : Int64} (h : ¬ sm 0 26 ≤ w) (q : J_X12_isWeek (SXr sm wo) (TXr tm rc up dn) w = 0 ∨ (¬ J_X12_isWeek (SXr sm wo) (TXr tm rc up dn) w = 0 ∧ (J_X12_after (SXr sm wo) (TXr tm rc up dn) w ha ((sm 16) w.toNatClampNeg) = -9 ∨ (¬ J_X12_after (SXr sm wo) (TXr tm rc up dn) w ha ((sm 16) w.toNatClampNeg) = -9 ∧ (J_X12_left (J_X12_after (SXr sm wo) (TXr tm rc up dn) w ha ((sm 16) w.toNatClampNeg)) ((sm 17) w.toNatClampNeg) = -9 ∨ (¬ J_X12_left (J_X12_after (SXr sm wo) (TXr tm rc up dn) w ha ((sm 16) w.toNatClampNeg)) ((sm 17) w.toNatClampNeg) = -9 ∧ CHN (SXr sm wo) (TXr tm rc up dn) (J_X12_after (SXr sm wo) (TXr tm rc up dn) w ha ((sm 16) w.toNatClampNeg)) ((sm 17) w.toNatClampNeg) = 0)))))) : B_X12_goThrough_30 sm tm (w, mo, co, ha, rc, up, dn, wo) = Sum.inr (w, rc, up, dn, wo) := by
  unfold SXr TXr CHN at q
  unfold B_X12_goThrough_30
  dsimp only [LetF]
  rcases q with q | ⟨q1, q | ⟨q2, q | ⟨q3, q⟩⟩⟩
  · rw [if_neg h, if_pos q]
  · rw [if_neg h, if_neg q1, if_pos q]
  · rw [if_neg h, if_neg q1, if_neg q2, if_pos q]
  · rw [if_neg h, if_neg q1, if_neg q2, if_neg q3, if_pos q]
theorem cost_tm {sm : Nat → Nat → Int32} {t1 t2 : Nat → Nat → Int64} {w D co a : Int32} : J_X12_costOf sm t1 w D co a = J_X12_costOf sm t2 w D co a := by
  unfold J_X12_costOf J_X12_over
  rfl
theorem over_tm {sm : Nat → Nat → Int32} {t1 t2 : Nat → Nat → Int64} {w D co a : Int32} : J_X12_over sm t1 w D co a = J_X12_over sm t2 w D co a := by
  unfold J_X12_over
  rfl
theorem gt_go {sm : Nat → Nat → Int32} {tm : Nat → Nat → Int64} {w mo co ha wo D L : Int32} {rc up dn : Int64} (h : ¬ sm 0 26 ≤ w) (q1 : ¬ J_X12_isWeek (SXr sm wo) (TXr tm rc up dn) w = 0) (hD : J_X12_after (SXr sm wo) (TXr tm rc up dn) w ha ((sm 16) w.toNatClampNeg) = D) (q2 : ¬ D = -9) (q3 : ¬ J_X12_left D ((sm 17) w.toNatClampNeg) = -9) (q4 : ¬ CHN (SXr sm wo) (TXr tm rc up dn) D ((sm 17) w.toNatClampNeg) = 0) (hm : 0 ≤ mo) (hL : (0 ≤ J_X12_over (SXr sm wo) (TXr tm rc up dn) w D co ((sm 16) w.toNatClampNeg) ∧ L ≤ mo) ∨ (¬ 0 ≤ J_X12_over (SXr sm wo) (TXr tm rc up dn) w D co ((sm 16) w.toNatClampNeg) ∧ (-(J_X12_over (SXr sm wo) (TXr tm rc up dn) w D co ((sm 16) w.toNatClampNeg))) * ((sm 2) (3 : Int32).toNatClampNeg) = L)) : B_X12_goThrough_30 sm tm (w, mo, co, ha, rc, up, dn, wo) = Sum.inl (w + 1, (if L ≤ mo then mo else L), ((sm 16) w.toNatClampNeg) - ((sm 16) w.toNatClampNeg) / 10 * 10, J_X12_left D ((sm 17) w.toNatClampNeg), rc + (J_X12_costOf (SXr sm wo) (TXr tm rc up dn) w D co ((sm 16) w.toNatClampNeg)).toInt64, up * (CHN (SXr sm wo) (TXr tm rc up dn) D ((sm 17) w.toNatClampNeg)).toInt64, dn * (J_X12_power 5 (J_X12_all D)).toInt64, (if L ≤ mo then wo else w)) := by
  subst hD
  unfold B_X12_goThrough_30
  dsimp only [LetF]
  rw [cost_tm (t2 := TXr tm rc up dn), over_tm (t2 := TXr tm rc up dn)]
  unfold SXr TXr at q1 q2 q3 q4 hL ⊢
  unfold CHN at q4 ⊢
  rcases hL with ⟨c, l⟩ | ⟨c, l⟩
  · rw [if_pos l, if_pos l, if_neg h, if_neg q1, if_neg q2, if_neg q3, if_neg q4, if_pos c, if_pos hm]
  · subst l
    rw [if_neg h, if_neg q1, if_neg q2, if_neg q3, if_neg q4, if_neg c]
    by_cases z : (-(J_X12_over (up2 sm 0 (upd (sm 0) 32 wo)) (up2L tm 0 (vp_updL (vp_updL (vp_updL (tm 0) 29 rc) 30 up) 31 dn)) w (J_X12_after (up2 sm 0 (upd (sm 0) 32 wo)) (up2L tm 0 (vp_updL (vp_updL (vp_updL (tm 0) 29 rc) 30 up) 31 dn)) w ha ((sm 16) w.toNatClampNeg)) co ((sm 16) w.toNatClampNeg))) * ((sm 2) (3 : Int32).toNatClampNeg) ≤ mo
    · rw [if_pos z, if_pos z, if_pos z, if_pos z]
    · rw [if_neg z, if_neg z, if_neg z, if_neg z]
