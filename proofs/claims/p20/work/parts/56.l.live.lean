/-! LIVE, SLOTS, THE ROW: alike -/
theorem k01 {k : Int32} (h : 0 ≤ k.toInt ∧ k.toInt ≤ 1) : k = 0 ∨ k = 1 := by
  rcases (show k.toInt = 0 ∨ k.toInt = 1 by omega) with q | q
  · exact Or.inl (Int32.toInt_inj.mp (by rw [q]; decide))
  · exact Or.inr (Int32.toInt_inj.mp (by rw [q]; decide))
theorem live_alike {sx ssu sm : Nat → Nat → Int32} {tm : Nat → Nat → Int64} {p : Int32} (h : LIV (sm 13) (sm 0 22) (sm 0 23) (ssu 0 0) (ssu 0 1) (ssu 0 2) (ssu 0 3) (ssu 0 4) (ssu 0 5)) (hk1 : 0 ≤ (ssu 0 4).toInt ∧ (ssu 0 4).toInt ≤ 1) : J_X11_live sx ssu p = J_X12_live sm tm p := by
  have z := in_z (p := p) (K := 4) (k := 4) (by decide)
  obtain ⟨h0, h1, h2, h3, h4, _⟩ := h
  unfold J_X11_live J_X12_live
  have k3 : (if ssu 0 4 = 0 then (0 : Int32) else 1) = ssu 0 4 := by
    rcases k01 hk1 with q | q
    · rw [if_pos q, q]
    · rw [if_neg (by rw [q]; decide), q]
  by_cases c0 : p = 0
  · have nz : ¬ J_X12_in p.toInt64 0 4 = 0 := fun q => by have := z.mp q; rw [c0, show (0 : Int32).toInt = 0 from by decide] at this; omega
    rw [if_pos c0, if_neg nz, c0, show (0 : Int32).toNatClampNeg = 0 from by decide]; exact h0.symm
  rw [if_neg c0]
  by_cases c1 : p = 1
  · have nz : ¬ J_X12_in p.toInt64 0 4 = 0 := fun q => by have := z.mp q; rw [c1, show (1 : Int32).toInt = 1 from by decide] at this; omega
    rw [if_pos c1, if_neg nz, c1, show (1 : Int32).toNatClampNeg = 1 from by decide]; exact h1.symm
  rw [if_neg c1]
  by_cases c2 : p = 2
  · have nz : ¬ J_X12_in p.toInt64 0 4 = 0 := fun q => by have := z.mp q; rw [c2, show (2 : Int32).toInt = 2 from by decide] at this; omega
    rw [if_pos c2, if_neg nz, c2, show (2 : Int32).toNatClampNeg = 2 from by decide]; exact h2.symm
  rw [if_neg c2]
  by_cases c3 : p = 3
  · have nz : ¬ J_X12_in p.toInt64 0 4 = 0 := fun q => by have := z.mp q; rw [c3, show (3 : Int32).toInt = 3 from by decide] at this; omega
    rw [if_pos c3, if_neg nz, c3, show (3 : Int32).toNatClampNeg = 3 from by decide]; rw [k3]; exact h3.symm
  rw [if_neg c3]
  by_cases c4 : p = 4
  · have nz : ¬ J_X12_in p.toInt64 0 4 = 0 := fun q => by have := z.mp q; rw [c4, show (4 : Int32).toInt = 4 from by decide] at this; omega
    rw [if_pos c4, if_neg nz, c4, show (4 : Int32).toNatClampNeg = 4 from by decide]; exact h4.symm
  rw [if_neg c4]
  refine (if_pos (z.mpr ?_)).symm
  have d0 : ¬ p.toInt = 0 := f_ne rfl (by decide) c0
  have d1 : ¬ p.toInt = 1 := f_ne rfl (by decide) c1
  have d2 : ¬ p.toInt = 2 := f_ne rfl (by decide) c2
  have d3 : ¬ p.toInt = 3 := f_ne rfl (by decide) c3
  have d4 : ¬ p.toInt = 4 := f_ne rfl (by decide) c4
  omega
theorem bonus_alike {sh sm : Nat → Nat → Int32} {tm : Nat → Nat → Int64} {x : Int32} (K : HOK sh sm) : J_X4_bonusFor sh x = J_X12_bonus sm tm x := by
  have e7 : (sm 2) (7 : Int32).toNatClampNeg = sh 0 11 := by rw [show (7 : Int32).toNatClampNeg = 7 from by decide]; exact K.1.2.2.2.2.2.2.2.1
  unfold J_X4_bonusFor J_X12_bonus
  rw [e7]; rfl
theorem u_n {f : Nat → Int32} {x : Int32} {i j : Nat} (h : ¬ j = i) : upd f i x j = f j := pk_un h
/-- a MONDAY'S ACT, refused or not -/
theorem ma_cases {sp sh sm : Nat → Nat → Int32} {tm : Nat → Nat → Int64} {a : Int32} (K : HOK sh sm) (hs : 0 ≤ (sp 0 1).toInt ∧ (sp 0 1).toInt ≤ 400 ∧ tot (sp 0 1) ≤ 4) (hw : 0 ≤ (sp 0 0).toInt ∧ (sp 0 0).toInt ≤ 5) (hc : 0 ≤ (sp 0 2).toInt ∧ (sp 0 2).toInt ≤ 2) (hk : sp 0 4 = 0 ∨ sp 0 4 = 1) (ha : 0 ≤ a.toInt) :
    (J_X9_mayAct sp sh a = 0 ∧ (sp 0 4 = 1 ∨ (sp 0 4 = 0 ∧ J_X12_isWeek sm tm (sp 0 0) = 0) ∨ (sp 0 4 = 0 ∧ ¬ J_X12_isWeek sm tm (sp 0 0) = 0 ∧ J_X12_after sm tm (sp 0 0) (sp 0 1) a = -9))) ∨ (J_X9_mayAct sp sh a = 1 ∧ sp 0 4 = 0 ∧ ¬ J_X12_isWeek sm tm (sp 0 0) = 0 ∧ (sp 0 0).toInt < (sh 0 0).toInt ∧ J_X12_after sm tm (sp 0 0) (sp 0 1) a = J_X0_done (sp 0 1) a ∧ ¬ J_X12_after sm tm (sp 0 0) (sp 0 1) a = -9 ∧ ((0 ≤ (J_X0_done (sp 0 1) a).toInt ∧ (J_X0_done (sp 0 1) a).toInt ≤ 400 ∧ tot (J_X0_done (sp 0 1) a) ≤ 4) ∧ tot (J_X0_done (sp 0 1) a) ≤ (sh 0 1).toInt) ∧ J_X4_weekCost sh (sp 0 0) (J_X0_done (sp 0 1) a) (sp 0 2) a = J_X12_costOf sm tm (sp 0 0) (J_X0_done (sp 0 1) a) (sp 0 2) a ∧ ((J_X4_lack sh (sp 0 0) (J_X0_done (sp 0 1) a) (sp 0 2) (J_X0_taught a)).toInt = -(J_X12_over sm tm (sp 0 0) (J_X0_done (sp 0 1) a) (sp 0 2) a).toInt ∧ -999 ≤ (J_X4_lack sh (sp 0 0) (J_X0_done (sp 0 1) a) (sp 0 2) (J_X0_taught a)).toInt ∧ (J_X4_lack sh (sp 0 0) (J_X0_done (sp 0 1) a) (sp 0 2) (J_X0_taught a)).toInt ≤ 999) ∧ (0 ≤ (J_X0_ordered a).toInt ∧ (J_X0_ordered a).toInt ≤ 2)) := by
  have iw : J_X12_isWeek sm tm (sp 0 0) = 0 ↔ ((sp 0 0).toInt < 0 ∨ (sh 0 0).toInt ≤ (sp 0 0).toInt) := iw_y K
  dsimp only [J_X9_mayAct]
  rcases hk with ck | ck
  · rw [if_pos ck]
    by_cases cw : sh 0 0 ≤ sp 0 0
    · have cw2 := f_le rfl rfl cw
      rw [if_pos cw]; exact Or.inl ⟨rfl, Or.inr (Or.inl ⟨ck, iw.mpr (Or.inr cw2)⟩)⟩
    · have cw2 := f_nle rfl rfl cw
      have nw : ¬ J_X12_isWeek sm tm (sp 0 0) = 0 := fun z => by have := iw.mp z; omega
      rw [if_neg cw]
      rcases al_full (tm := tm) (c := sp 0 2) K ⟨hw.1, cw2⟩ hs hc ha with ⟨x1, x2⟩ | ⟨x1, x2, x3, x4, x5, x6, x7⟩
      · rw [if_pos x1]; exact Or.inl ⟨rfl, Or.inr (Or.inr ⟨ck, nw, x2⟩)⟩
      · rw [if_neg (by rw [x1]; decide)]; exact Or.inr ⟨rfl, ck, nw, cw2, x2, x3, x4, x5, x6, x7⟩
  · rw [if_neg (by rw [ck]; decide)]; exact Or.inl ⟨rfl, Or.inl ck⟩
theorem act_alike {sx ssu sh sm : Nat → Nat → Int32} {tm : Nat → Nat → Int64} {p q : Int32} {t : Int32 × Int32 × Int32 × Int32 × Int32} {t2 : Int32 × (Nat → Int32) × Int32 × Int32} (h1 : t = J_X11_act sx ssu sh p) (h2 : t2 = J_X12_act sm tm q) (e0 : q = p) (K : HOK sh sm) (L : LIV (sm 13) (sm 0 22) (sm 0 23) (ssu 0 0) (ssu 0 1) (ssu 0 2) (ssu 0 3) (ssu 0 4) (ssu 0 5)) (hl : WLT (ssu 0 4) (ssu 0 0) (sh 0 0)) (hs : 0 ≤ (ssu 0 1).toInt ∧ (ssu 0 1).toInt ≤ 400 ∧ tot (ssu 0 1) ≤ 4) (hw : 0 ≤ (ssu 0 0).toInt ∧ (ssu 0 0).toInt ≤ 5) (hk1 : 0 ≤ (ssu 0 4).toInt ∧ (ssu 0 4).toInt ≤ 1) : t.1 = t2.1 ∧ LIV t2.2.1 t2.2.2.1 t2.2.2.2 (ssu 0 0) t.2.1 (ssu 0 2) t.2.2.1 t.2.2.2.1 t.2.2.2.2 ∧ WLT t.2.2.2.1 (ssu 0 0) (sh 0 0) := by
  subst e0
  have KX := hok_x K
  obtain ⟨l0, l1, l2, l3, l4, l5, l6, l7, l8⟩ := id L
  subst h1 h2
  have n0 : (0 : Int32).toNatClampNeg = 0 := by decide
  have n1 : (1 : Int32).toNatClampNeg = 1 := by decide
  have n2 : (2 : Int32).toNatClampNeg = 2 := by decide
  have n3 : (3 : Int32).toNatClampNeg = 3 := by decide
  have n4 : (4 : Int32).toNatClampNeg = 4 := by decide
  dsimp only [J_X11_act, J_X12_act]
  rw [n0, n1, n2, n3, n4, l0, l1, l2, l3]
  by_cases ca : 0 ≤ q
  · have ha := f_le (by decide : (0 : Int32).toInt = 0) rfl ca
    rw [if_pos ca, if_pos ca]
    rcases ma_cases (sp := (lS [(lI [(ssu 0 0), (ssu 0 1), (ssu 0 2), (ssu 0 3), (ssu 0 4), (ssu 0 5)])])) (tm := tm) (a := q) KX hs hw l7 (k01 hk1) ha with ⟨e, c⟩ | ⟨e, c1, c2, c3, c4, c5, c6, c7, c8, c9⟩
    · rw [if_pos e]
      rcases c with c | ⟨c, c2⟩ | ⟨c, c2, c3⟩
      · have d1 : ssu 0 4 = 1 := c
        rw [if_pos d1]; exact ⟨rfl, L, hl⟩
      · have d1 : ssu 0 4 = 0 := c
        have d2 : J_X12_isWeek sm tm (ssu 0 0) = 0 := c2
        rw [if_neg (show ¬ ssu 0 4 = 1 from by rw [d1]; decide), if_pos d2]; exact ⟨rfl, L, hl⟩
      · have d1 : ssu 0 4 = 0 := c
        have d2 : ¬ J_X12_isWeek sm tm (ssu 0 0) = 0 := c2
        have d3 : J_X12_after sm tm (ssu 0 0) (ssu 0 1) q = -9 := c3
        rw [if_neg (show ¬ ssu 0 4 = 1 from by rw [d1]; decide), if_neg d2, if_pos d3]; exact ⟨rfl, L, hl⟩
    · have d1 : ssu 0 4 = 0 := c1
      have d2 : ¬ J_X12_isWeek sm tm (ssu 0 0) = 0 := c2
      have d5 : ¬ J_X12_after sm tm (ssu 0 0) (ssu 0 1) q = -9 := c5
      have e' : ¬ J_X9_mayAct (lS [(lI [(ssu 0 0), (ssu 0 1), (ssu 0 2), (ssu 0 3), (ssu 0 4), (ssu 0 5)])]) (lS [(lI [(sh 0 0), (sh 0 1), 0, 0, 0, 0, (sh 0 6), (sh 0 7), (sh 0 8), (sh 0 9), (sh 0 10), (sh 0 11), (sh 0 12)]), (sh 1), (sh 2), (sh 3), (sh 4), (sh 5)]) q = 0 := by rw [e]; decide
      rw [if_neg e', if_neg (show ¬ ssu 0 4 = 1 from by rw [d1]; decide), if_neg d2, if_neg d5]
      have c4' : J_X12_after sm tm (ssu 0 0) (ssu 0 1) q = J_X0_done (ssu 0 1) q := c4
      have c7' : J_X4_weekCost (lS [(lI [(sh 0 0), (sh 0 1), 0, 0, 0, 0, (sh 0 6), (sh 0 7), (sh 0 8), (sh 0 9), (sh 0 10), (sh 0 11), (sh 0 12)]), (sh 1), (sh 2), (sh 3), (sh 4), (sh 5)]) (ssu 0 0) (J_X0_done (ssu 0 1) q) (ssu 0 2) q = J_X12_costOf sm tm (ssu 0 0) (J_X0_done (ssu 0 1) q) (ssu 0 2) q := c7
      rw [c4']
      dsimp only [J_X9_passWeek]
      have e7 : J_X4_weekCost (lS [(lI [(sh 0 0), (sh 0 1), 0, 0, 0, 0, (sh 0 6), (sh 0 7), (sh 0 8), (sh 0 9), (sh 0 10), (sh 0 11), (sh 0 12)]), (sh 1), (sh 2), (sh 3), (sh 4), (sh 5)]) ((lS [(lI [(ssu 0 0), (ssu 0 1), (ssu 0 2), (ssu 0 3), (ssu 0 4), (ssu 0 5)])]) 0 0) (J_X0_done ((lS [(lI [(ssu 0 0), (ssu 0 1), (ssu 0 2), (ssu 0 3), (ssu 0 4), (ssu 0 5)])]) 0 1) q) ((lS [(lI [(ssu 0 0), (ssu 0 1), (ssu 0 2), (ssu 0 3), (ssu 0 4), (ssu 0 5)])]) 0 2) q = J_X12_costOf sm tm (ssu 0 0) (J_X0_done (ssu 0 1) q) (ssu 0 2) q := c7'
      rw [e7]
      have u4 : upd (upd (sm 13) 1 (J_X0_done (ssu 0 1) q)) 3 1 4 = ssu 0 5 := (u_n (by decide)).trans ((u_n (by decide)).trans l4)
      rw [u4]
      exact ⟨rfl, ⟨(u_n (by decide)).trans ((u_n (by decide)).trans ((u_n (by decide)).trans l0)), (u_n (by decide)).trans ((u_n (by decide)).trans pk_us), (u_n (by decide)).trans ((u_n (by decide)).trans ((u_n (by decide)).trans l2)), (u_n (by decide)).trans pk_us, pk_us, rfl, fun _ => rfl, l7, c9⟩, fun _ => c3⟩
  · rw [if_neg ca, if_neg ca]
    exact ⟨rfl, L, hl⟩
theorem isg_eq (p : Int32) : J_X12_isGone p = J_X3_areLeavers p := Int32.toInt_inj.mp (isg_lev p)
/-- who is left: by what both sides reckon -/
theorem left_dec : ∀ n : Fin 401, n.val / 100 + n.val / 10 % 10 + n.val % 10 ≤ 4 → ∀ a b c : Fin 5, (J_X3_has (Int32.ofNat n.val) (Int32.ofNat (100 * a.val + 10 * b.val + c.val)) = 0 ∧ J_X12_left (Int32.ofNat n.val) (Int32.ofNat (100 * a.val + 10 * b.val + c.val)) = -9) ∨ (J_X3_has (Int32.ofNat n.val) (Int32.ofNat (100 * a.val + 10 * b.val + c.val)) = 1 ∧ J_X12_left (Int32.ofNat n.val) (Int32.ofNat (100 * a.val + 10 * b.val + c.val)) = J_X3_behindSunday (Int32.ofNat n.val) (Int32.ofNat (100 * a.val + 10 * b.val + c.val)) ∧ ¬ J_X12_left (Int32.ofNat n.val) (Int32.ofNat (100 * a.val + 10 * b.val + c.val)) = -9) := by decide +kernel
theorem lev_d {g : Int32} (h : ¬ J_X3_areLeavers g = 0) : ∃ a b c : Nat, a < 5 ∧ b < 5 ∧ c < 5 ∧ g = Int32.ofNat (100 * a + 10 * b + c) := by
  unfold J_X3_areLeavers at h
  repeat' split at h
  all_goals first | exact absurd rfl h | skip
  rename_i q1 q2 q3 q4
  have g0 : 0 ≤ g.toInt := f_nlt rfl (by decide) q1
  have g4 : g.toInt ≤ 444 := f_nlt (by decide) rfl q2
  obtain ⟨d1, d2, d3⟩ := dg g0
  have e3 := f_nlt (by decide : (4 : Int32).toInt = 4) d2 q3
  have e4 := f_nlt (by decide : (4 : Int32).toInt = 4) d3 q4
  obtain ⟨p, q, r, k1, k2, k3, k4, k5, k6, k7⟩ := dgo g.toInt g0
  rw [k6] at e3
  rw [k7] at e4
  clear d1 d2 d3 k5 k6 k7
  refine ⟨p.toNat, q.toNat, r.toNat, by omega, by omega, by omega, ?_⟩
  exact Int32.toInt_inj.mp (by rw [ofn_t (by omega)]; omega)
theorem left_alike {h g : Int32} (hh : 0 ≤ h.toInt ∧ h.toInt ≤ 400 ∧ tot h ≤ 4) (hg : ¬ J_X3_areLeavers g = 0) : (J_X3_has h g = 0 ∧ J_X12_left h g = -9) ∨ (J_X3_has h g = 1 ∧ J_X12_left h g = J_X3_behindSunday h g ∧ ¬ J_X12_left h g = -9) := by
  obtain ⟨n, hn, rfl⟩ := nat_of (N := 400) (x := h) ⟨hh.1, hh.2.1⟩
  obtain ⟨a, b, c, ha, hb, hc, rfl⟩ := lev_d hg
  have e : (Int32.ofNat n).toInt = (n : Int) := ofn_t (by omega)
  have t : tot (Int32.ofNat n) = (n : Int) / 100 + (n : Int) / 10 % 10 + (n : Int) % 10 := by unfold tot; rw [e]
  have h3 := hh.2.2
  rw [t] at h3
  exact left_dec ⟨n, by omega⟩ (by show n / 100 + n / 10 % 10 + n % 10 ≤ 4; omega) ⟨a, ha⟩ ⟨b, hb⟩ ⟨c, hc⟩
theorem gone_alike {sx ssu sh sm : Nat → Nat → Int32} {tm : Nat → Nat → Int64} {p q : Int32} {t : Int32 × Int32 × Int32 × Int32 × Int32 × Int32} {t2 : Int32 × (Nat → Int32)} (h1 : t = J_X11_gone sx ssu sh p) (h2 : t2 = J_X12_gone sm tm q) (e0 : q = p) (K : HOK sh sm) (L : LIV (sm 13) (sm 0 22) (sm 0 23) (ssu 0 0) (ssu 0 1) (ssu 0 2) (ssu 0 3) (ssu 0 4) (ssu 0 5)) (hs : 0 ≤ (ssu 0 1).toInt ∧ (ssu 0 1).toInt ≤ 400 ∧ tot (ssu 0 1) ≤ 4) (hw : 0 ≤ (ssu 0 0).toInt ∧ (ssu 0 0).toInt ≤ 5) (hk1 : 0 ≤ (ssu 0 4).toInt ∧ (ssu 0 4).toInt ≤ 1) (hx : (ssu 0 4).toInt = 0 ∨ (ssu 0 0).toInt ≤ 4) (hl : WLT (ssu 0 4) (ssu 0 0) (sh 0 0)) : t.1 = t2.1 ∧ LIV t2.2 (sm 0 22) (sm 0 23) t.2.1 t.2.2.1 t.2.2.2.1 (ssu 0 3) t.2.2.2.2.1 t.2.2.2.2.2 ∧ WLT t.2.2.2.2.1 t.2.1 (sh 0 0) := by
  subst e0
  have KX := hok_x K
  obtain ⟨l0, l1, l2, l3, l4, l5, l6, l7, l8⟩ := id L
  subst h1 h2
  have n0 : (0 : Int32).toNatClampNeg = 0 := by decide
  have n1 : (1 : Int32).toNatClampNeg = 1 := by decide
  have n2 : (2 : Int32).toNatClampNeg = 2 := by decide
  have n3 : (3 : Int32).toNatClampNeg = 3 := by decide
  have n4 : (4 : Int32).toNatClampNeg = 4 := by decide
  dsimp only [J_X11_gone, J_X12_gone]
  rw [n0, n1, n2, n3, n4, l3, isg_eq]
  by_cases c0 : J_X3_areLeavers q = 0
  · rw [if_pos c0, if_pos c0]; exact ⟨rfl, L, hl⟩
  · rw [if_neg c0, if_neg c0]
    have ml : J_X9_mayLeave (lS [(lI [(ssu 0 0), (ssu 0 1), (ssu 0 2), (ssu 0 3), (ssu 0 4), (ssu 0 5)])]) q = if ssu 0 4 = 0 then (0 : Int32) else if J_X3_has (ssu 0 1) q = 0 then (0 : Int32) else (1 : Int32) := rfl
    rw [ml]
    rcases k01 hk1 with ck | ck
    · rw [if_pos ck, if_pos rfl, if_pos ck]; exact ⟨rfl, L, hl⟩
    · have kn : ¬ ssu 0 4 = 0 := by rw [ck]; decide
      have hdid : sm 0 23 = ssu 0 1 := l6 ck
      have hwk := hl ck
      rw [if_neg kn, if_neg kn, hdid]
      rcases left_alike hs c0 with ⟨y1, y2⟩ | ⟨y1, y2, y3⟩
      · rw [if_pos y1, if_pos rfl, if_pos y2]; exact ⟨rfl, by rw [hdid] at L; exact L, hl⟩
      · rw [y1, if_neg (show ¬ (1 : Int32) = 0 from by decide), if_neg (show ¬ (1 : Int32) = 0 from by decide), if_neg y3, y2]
        have ws : (ssu 0 0 + 1).toInt = (ssu 0 0).toInt + 1 := i_add rfl (by decide) (by omega) (by omega)
        have u0 : upd (sm 13) 1 (J_X3_behindSunday (ssu 0 1) q) 0 + 1 = ssu 0 0 + 1 := by rw [u_n (by decide), l0]
        rw [u0]
        have v0 : upd (upd (upd (upd (sm 13) 1 (J_X3_behindSunday (ssu 0 1) q)) 0 (ssu 0 0 + 1)) 2 (sm 0 22)) 3 0 0 = ssu 0 0 + 1 := (u_n (by decide)).trans ((u_n (by decide)).trans pk_us)
        have v1 : upd (upd (upd (upd (sm 13) 1 (J_X3_behindSunday (ssu 0 1) q)) 0 (ssu 0 0 + 1)) 2 (sm 0 22)) 3 0 1 = J_X3_behindSunday (ssu 0 1) q := (u_n (by decide)).trans ((u_n (by decide)).trans ((u_n (by decide)).trans pk_us))
        have v2 : upd (upd (upd (upd (sm 13) 1 (J_X3_behindSunday (ssu 0 1) q)) 0 (ssu 0 0 + 1)) 2 (sm 0 22)) 3 0 2 = sm 0 22 := (u_n (by decide)).trans pk_us
        have v3 : upd (upd (upd (upd (sm 13) 1 (J_X3_behindSunday (ssu 0 1) q)) 0 (ssu 0 0 + 1)) 2 (sm 0 22)) 3 0 3 = 0 := pk_us
        have v4 : upd (upd (upd (upd (sm 13) 1 (J_X3_behindSunday (ssu 0 1) q)) 0 (ssu 0 0 + 1)) 2 (sm 0 22)) 3 0 4 = ssu 0 5 := (u_n (by decide)).trans ((u_n (by decide)).trans ((u_n (by decide)).trans ((u_n (by decide)).trans l4)))
        generalize upd (upd (upd (upd (sm 13) 1 (J_X3_behindSunday (ssu 0 1) q)) 0 (ssu 0 0 + 1)) 2 (sm 0 22)) 3 0 = G at v0 v1 v2 v3 v4 ⊢
        rw [v0, v1, v4]
        have iw : J_X12_isWeek (up2 sm 13 G) tm (ssu 0 0 + 1) = 0 ↔ ((ssu 0 0 + 1).toInt < 0 ∨ (sh 0 0).toInt ≤ (ssu 0 0 + 1).toInt) := iw_y (sm := up2 sm 13 G) K
        have bo : J_X4_bonusFor (lS [(lI [(sh 0 0), (sh 0 1), 0, 0, 0, 0, (sh 0 6), (sh 0 7), (sh 0 8), (sh 0 9), (sh 0 10), (sh 0 11), (sh 0 12)]), (sh 1), (sh 2), (sh 3), (sh 4), (sh 5)]) (J_X3_behindSunday (ssu 0 1) q) = J_X12_bonus (up2 sm 13 G) tm (J_X3_behindSunday (ssu 0 1) q) := bonus_alike (sm := up2 sm 13 G) KX
        have ps : J_X9_passSunday (lS [(lI [(ssu 0 0), (ssu 0 1), (ssu 0 2), (ssu 0 3), (ssu 0 4), (ssu 0 5)])]) (lS [(lI [(sh 0 0), (sh 0 1), 0, 0, 0, 0, (sh 0 6), (sh 0 7), (sh 0 8), (sh 0 9), (sh 0 10), (sh 0 11), (sh 0 12)]), (sh 1), (sh 2), (sh 3), (sh 4), (sh 5)]) q = if ssu 0 0 + 1 = sh 0 0 then (ssu 0 0 + 1, J_X3_behindSunday (ssu 0 1) q, ssu 0 3, (0 : Int32), ssu 0 5 + J_X4_bonusFor (lS [(lI [(sh 0 0), (sh 0 1), 0, 0, 0, 0, (sh 0 6), (sh 0 7), (sh 0 8), (sh 0 9), (sh 0 10), (sh 0 11), (sh 0 12)]), (sh 1), (sh 2), (sh 3), (sh 4), (sh 5)]) (J_X3_behindSunday (ssu 0 1) q)) else (ssu 0 0 + 1, J_X3_behindSunday (ssu 0 1) q, ssu 0 3, (0 : Int32), ssu 0 5) := rfl
        rw [ps]
        have z01 : ¬ (0 : Int32) = 1 := by decide
        have w0 : ∀ x : Int32, upd G 4 x 0 = G 0 := fun x => pk_un (by decide)
        have w1 : ∀ x : Int32, upd G 4 x 1 = G 1 := fun x => pk_un (by decide)
        have w2 : ∀ x : Int32, upd G 4 x 2 = G 2 := fun x => pk_un (by decide)
        have w3 : ∀ x : Int32, upd G 4 x 3 = G 3 := fun x => pk_un (by decide)
        have w4 : ∀ x : Int32, upd G 4 x 4 = x := fun x => pk_us
        by_cases ce : ssu 0 0 + 1 = sh 0 0
        · have ce2 := f_eq ws rfl ce
          rw [if_pos ce, if_pos (iw.mpr (Or.inr (by omega))), bo]
          refine ⟨?_, ⟨(w0 (ssu 0 5 + J_X12_bonus (up2 sm 13 G) tm (J_X3_behindSunday (ssu 0 1) q))).trans v0, (w1 (ssu 0 5 + J_X12_bonus (up2 sm 13 G) tm (J_X3_behindSunday (ssu 0 1) q))).trans v1, (w2 (ssu 0 5 + J_X12_bonus (up2 sm 13 G) tm (J_X3_behindSunday (ssu 0 1) q))).trans (v2.trans l5), (w3 (ssu 0 5 + J_X12_bonus (up2 sm 13 G) tm (J_X3_behindSunday (ssu 0 1) q))).trans v3, w4 (ssu 0 5 + J_X12_bonus (up2 sm 13 G) tm (J_X3_behindSunday (ssu 0 1) q)), l5, fun z => absurd z z01, l8, l8⟩, fun z => absurd z z01⟩
          show J_X3_total (J_X3_behindSunday (ssu 0 1) q) = J_X12_all (upd G 4 _ 1)
          rw [w1, v1]; rfl
        · have ce2 := f_ne ws rfl ce
          have cw : ¬ J_X12_isWeek (up2 sm 13 G) tm (ssu 0 0 + 1) = 0 := fun z => by have := iw.mp z; omega
          rw [if_neg ce, if_neg cw]
          refine ⟨?_, ⟨(w0 (ssu 0 5 + 0)).trans v0, (w1 (ssu 0 5 + 0)).trans v1, (w2 (ssu 0 5 + 0)).trans (v2.trans l5), (w3 (ssu 0 5 + 0)).trans v3, (w4 (ssu 0 5 + 0)).trans (Int32.add_zero _), l5, fun z => absurd z z01, l8, l8⟩, fun z => absurd z z01⟩
          show J_X3_total (J_X3_behindSunday (ssu 0 1) q) = J_X12_all (upd G 4 _ 1)
          rw [w1, v1]; rfl
theorem sl_cases {sx : Nat → Nat → Int32} {p : Int32} : (J_X11_isSlot sx p = 0 ∧ J_X12_in p.toInt64 0 1 = 0) ∨ (¬ J_X11_isSlot sx p = 0 ∧ ¬ J_X12_in p.toInt64 0 1 = 0 ∧ (p = 0 ∨ p = 1)) := by
  have z := in_z (p := p) (K := 1) (k := 1) (by decide)
  have y := is_z (sx := sx) (p := p)
  by_cases c : J_X11_isSlot sx p = 0
  · exact Or.inl ⟨c, z.mpr (by have := y.mp c; omega)⟩
  · have d : ¬ (p.toInt < 0 ∨ 2 ≤ p.toInt) := fun q => c (y.mpr q)
    exact Or.inr ⟨c, fun q => d (by have := z.mp q; omega), k01 (by omega)⟩
theorem kept_0 {f g : Nat → Int32} {o d : Int32} {w h c od k cs : Int32} (L : LIV g o d w h c od k cs) : LV1 (upd (upd (PFo (Int.toNat (7 * (0 : Int32).toInt)) g 5 f) (((7 : Int32) * 0) + 5).toNatClampNeg o) (((7 : Int32) * 0) + 6).toNatClampNeg d) w h c od k cs := by
  obtain ⟨l0, l1, l2, l3, l4, l5, l6, l7, l8⟩ := L
  exact ⟨l0, l1, l2, l3, l4, l5, l6, l7, l8⟩
theorem kept_1 {f g : Nat → Int32} {o d : Int32} {w h c od k cs : Int32} (L : LIV g o d w h c od k cs) : LV2 (upd (upd (PFo (Int.toNat (7 * (1 : Int32).toInt)) g 5 f) (((7 : Int32) * 1) + 5).toNatClampNeg o) (((7 : Int32) * 1) + 6).toNatClampNeg d) w h c od k cs := by
  obtain ⟨l0, l1, l2, l3, l4, l5, l6, l7, l8⟩ := L
  exact ⟨l0, l1, l2, l3, l4, l5, l6, l7, l8⟩
theorem kept_02 {f g : Nat → Int32} {o d : Int32} {w h c od k cs : Int32} (L : LV2 f w h c od k cs) : LV2 (upd (upd (PFo (Int.toNat (7 * (0 : Int32).toInt)) g 5 f) (((7 : Int32) * 0) + 5).toNatClampNeg o) (((7 : Int32) * 0) + 6).toNatClampNeg d) w h c od k cs := by
  obtain ⟨l0, l1, l2, l3, l4, l5, l6, l7, l8⟩ := L
  exact ⟨l0, l1, l2, l3, l4, l5, l6, l7, l8⟩
theorem kept_11 {f g : Nat → Int32} {o d : Int32} {w h c od k cs : Int32} (L : LV1 f w h c od k cs) : LV1 (upd (upd (PFo (Int.toNat (7 * (1 : Int32).toInt)) g 5 f) (((7 : Int32) * 1) + 5).toNatClampNeg o) (((7 : Int32) * 1) + 6).toNatClampNeg d) w h c od k cs := by
  obtain ⟨l0, l1, l2, l3, l4, l5, l6, l7, l8⟩ := L
  exact ⟨l0, l1, l2, l3, l4, l5, l6, l7, l8⟩
theorem kpf_0 {f g : Nat → Int32} {x : Int32} (h : KPF f g) : KPF (upd f (0 : Int32).toNatClampNeg x) (upd g (0 : Int32).toNatClampNeg x) := ⟨rfl, h.2⟩
theorem kpf_1 {f g : Nat → Int32} {x : Int32} (h : KPF f g) : KPF (upd f (1 : Int32).toNatClampNeg x) (upd g (1 : Int32).toNatClampNeg x) := ⟨h.1, rfl⟩
theorem keep_alike {sx ssu sk1 sk2 sh sm : Nat → Nat → Int32} {tm : Nat → Nat → Int64} {p q : Int32} {t : Int32 × Int32 × Int32 × Int32 × Int32 × Int32 × Int32 × Int32 × Int32 × Int32 × Int32 × Int32 × Int32 × (Nat → Int32)} {t2 : Int32 × (Nat → Int32) × (Nat → Int32)} (h1 : t = J_X11_keep sx ssu sk1 sk2 p) (h2 : t2 = J_X12_keep sm tm q) (e0 : q = p) (hk : KPF (sx 2) (sm 14)) (L : LIV (sm 13) (sm 0 22) (sm 0 23) (ssu 0 0) (ssu 0 1) (ssu 0 2) (ssu 0 3) (ssu 0 4) (ssu 0 5)) (hl : WLT (ssu 0 4) (ssu 0 0) (sh 0 0)) (a1 : LV1 (sm 15) (sk1 0 0) (sk1 0 1) (sk1 0 2) (sk1 0 3) (sk1 0 4) (sk1 0 5)) (a2 : LV2 (sm 15) (sk2 0 0) (sk2 0 1) (sk2 0 2) (sk2 0 3) (sk2 0 4) (sk2 0 5)) (b1 : KWL (sx 2 0) (sk1 0 4) (sk1 0 0) (sh 0 0)) (b2 : KWL (sx 2 1) (sk2 0 4) (sk2 0 0) (sh 0 0)) :
    t.1 = t2.1 ∧ KPF t.2.2.2.2.2.2.2.2.2.2.2.2.2 t2.2.1 ∧ LV1 t2.2.2 t.2.1 t.2.2.1 t.2.2.2.1 t.2.2.2.2.1 t.2.2.2.2.2.1 t.2.2.2.2.2.2.1 ∧ LV2 t2.2.2 t.2.2.2.2.2.2.2.1 t.2.2.2.2.2.2.2.2.1 t.2.2.2.2.2.2.2.2.2.1 t.2.2.2.2.2.2.2.2.2.2.1 t.2.2.2.2.2.2.2.2.2.2.2.1 t.2.2.2.2.2.2.2.2.2.2.2.2.1 ∧ KWL (t.2.2.2.2.2.2.2.2.2.2.2.2.2 0) t.2.2.2.2.2.1 t.2.1 (sh 0 0) ∧ KWL (t.2.2.2.2.2.2.2.2.2.2.2.2.2 1) t.2.2.2.2.2.2.2.2.2.2.2.1 t.2.2.2.2.2.2.2.1 (sh 0 0) := by
  subst e0
  subst h1 h2
  dsimp only [J_X11_keep, J_X12_keep]
  rcases sl_cases (sx := sx) (p := q) with ⟨c1, c2⟩ | ⟨c1, c2, c3⟩
  · rw [if_pos c1, if_pos c2]; exact ⟨rfl, hk, a1, a2, b1, b2⟩
  · rw [if_neg c1, if_neg c2]
    rcases c3 with rfl | rfl
    · have e : sx 2 (0 : Int32).toNatClampNeg = sm 14 (0 : Int32).toNatClampNeg := hk.1
      by_cases c : sm 14 (0 : Int32).toNatClampNeg = 0
      · rw [if_pos (e.trans c), if_pos c, if_pos rfl]
        exact ⟨rfl, kpf_0 hk, kept_0 L, kept_02 a2, fun _ => hl, b2⟩
      · rw [if_neg (fun z => c (e.symm.trans z)), if_neg c, if_pos rfl]
        exact ⟨rfl, kpf_0 hk, kept_0 L, kept_02 a2, fun _ => hl, b2⟩
    · have e : sx 2 (1 : Int32).toNatClampNeg = sm 14 (1 : Int32).toNatClampNeg := hk.2
      have d : ¬ (1 : Int32) = 0 := by decide
      by_cases c : sm 14 (1 : Int32).toNatClampNeg = 0
      · rw [if_pos (e.trans c), if_pos c, if_neg d]
        exact ⟨rfl, kpf_1 hk, kept_11 a1, kept_1 L, b1, fun _ => hl⟩
      · rw [if_neg (fun z => c (e.symm.trans z)), if_neg c, if_neg d]
        exact ⟨rfl, kpf_1 hk, kept_11 a1, kept_1 L, b1, fun _ => hl⟩
theorem again_alike {sx ssu sk1 sk2 sh sm : Nat → Nat → Int32} {tm : Nat → Nat → Int64} {p q : Int32} {t : Int32 × Int32 × Int32 × Int32 × Int32 × Int32 × Int32} {t2 : Int32 × (Nat → Int32) × Int32 × Int32} (h1 : t = J_X11_again sx ssu sk1 sk2 p) (h2 : t2 = J_X12_again sm tm q) (e0 : q = p) (hk : KPF (sx 2) (sm 14)) (L : LIV (sm 13) (sm 0 22) (sm 0 23) (ssu 0 0) (ssu 0 1) (ssu 0 2) (ssu 0 3) (ssu 0 4) (ssu 0 5)) (hl : WLT (ssu 0 4) (ssu 0 0) (sh 0 0)) (a1 : LV1 (sm 15) (sk1 0 0) (sk1 0 1) (sk1 0 2) (sk1 0 3) (sk1 0 4) (sk1 0 5)) (a2 : LV2 (sm 15) (sk2 0 0) (sk2 0 1) (sk2 0 2) (sk2 0 3) (sk2 0 4) (sk2 0 5)) (b1 : KWL (sx 2 0) (sk1 0 4) (sk1 0 0) (sh 0 0)) (b2 : KWL (sx 2 1) (sk2 0 4) (sk2 0 0) (sh 0 0)) :
    t.1 = t2.1 ∧ LIV t2.2.1 t2.2.2.1 t2.2.2.2 t.2.1 t.2.2.1 t.2.2.2.1 t.2.2.2.2.1 t.2.2.2.2.2.1 t.2.2.2.2.2.2 ∧ WLT t.2.2.2.2.2.1 t.2.1 (sh 0 0) := by
  subst e0
  subst h1 h2
  dsimp only [J_X11_again, J_X12_again]
  rcases sl_cases (sx := sx) (p := q) with ⟨c1, c2⟩ | ⟨c1, c2, c3⟩
  · rw [if_pos c1, if_pos c2]; exact ⟨rfl, L, hl⟩
  · rw [if_neg c1, if_neg c2]
    rcases c3 with rfl | rfl
    · have e : sx 2 (0 : Int32).toNatClampNeg = sm 14 (0 : Int32).toNatClampNeg := hk.1
      by_cases c : sm 14 (0 : Int32).toNatClampNeg = 0
      · rw [if_pos (e.trans c), if_pos c]; exact ⟨rfl, L, hl⟩
      · have c' : ¬ sx 2 (0 : Int32).toNatClampNeg = 0 := fun z => c (e.symm.trans z)
        rw [if_neg c', if_neg c, if_pos rfl]
        obtain ⟨l0, l1, l2, l3, l4, l5, l6, l7, l8⟩ := a1
        exact ⟨l0.symm, ⟨l0, l1, l2, l3, l4, l5, l6, l7, l8⟩, b1 c'⟩
    · have e : sx 2 (1 : Int32).toNatClampNeg = sm 14 (1 : Int32).toNatClampNeg := hk.2
      have d : ¬ (1 : Int32) = 0 := by decide
      by_cases c : sm 14 (1 : Int32).toNatClampNeg = 0
      · rw [if_pos (e.trans c), if_pos c]; exact ⟨rfl, L, hl⟩
      · have c' : ¬ sx 2 (1 : Int32).toNatClampNeg = 0 := fun z => c (e.symm.trans z)
        rw [if_neg c', if_neg c, if_neg d]
        obtain ⟨l0, l1, l2, l3, l4, l5, l6, l7, l8⟩ := a2
        exact ⟨l0.symm, ⟨l0, l1, l2, l3, l4, l5, l6, l7, l8⟩, b2 c'⟩
def ROWK (n : Int32) (f g f2 g2 : Nat → Int32) : Prop := ∀ j : Nat, (j : Int) < n.toInt → f j = g j ∧ f2 j = g2 j
theorem ro_start {n : Int32} {f g f2 g2 : Nat → Int32} (h : n.toInt = 0) : ROWK n f g f2 g2 := fun j hj => by omega
theorem tell_alike {sx sro spa sm : Nat → Nat → Int32} {tro tm : Nat → Nat → Int64} {p0 p1 q0 q1 : Int32} {t t2 : Int32 × (Nat → Int32) × (Nat → Int32) × Int32} (h1 : t = J_X11_tell sx sro tro spa p0 p1) (h2 : t2 = J_X12_tell sm tm q0 q1) (e0 : q0 = p0) (e1 : q1 = p1) (hn : (sm 0 26).toInt = (sro 0 2).toInt) (hb : 0 ≤ (sro 0 2).toInt ∧ (sro 0 2).toInt ≤ 5) (hr : ROWK (sro 0 2) (sro 1) (sm 16) (sro 2) (sm 17)) : t.1 = t2.1 ∧ t2.2.2.2 = t.2.2.2 ∧ ROWK t.2.2.2 t.2.1 t2.2.1 t.2.2.1 t2.2.2.1 := by
  subst e0 e1
  have en : sm 0 26 = sro 0 2 := Int32.toInt_inj.mp hn
  have z := in_z (p := q0) (K := 9999) (k := 9999) (by decide)
  subst h1 h2
  dsimp only [J_X11_tell, J_X12_tell]
  rw [isg_eq, en]
  by_cases c1 : q0 < 0
  · rw [if_pos c1, if_pos (z.mpr (Or.inl (f_lt rfl (by decide) c1)))]; exact ⟨rfl, rfl, hr⟩
  · have a1 := f_nlt rfl (by decide : (0 : Int32).toInt = 0) c1
    rw [if_neg c1]
    by_cases c2 : 9999 < q0
    · rw [if_pos c2, if_pos (z.mpr (Or.inr (f_lt (by decide) rfl c2)))]; exact ⟨rfl, rfl, hr⟩
    · have a2 := f_nlt (by decide : (9999 : Int32).toInt = 9999) rfl c2
      rw [if_neg c2, if_neg (show ¬ J_X12_in q0.toInt64 0 9999 = 0 from fun q => by have := z.mp q; omega)]
      by_cases c3 : J_X3_areLeavers q1 = 0
      · rw [if_pos c3, if_pos c3]; exact ⟨rfl, rfl, hr⟩
      · rw [if_neg c3, if_neg c3]
        by_cases c4 : sro 0 2 < 5
        · have a4 := f_lt rfl (by decide : (5 : Int32).toInt = 5) c4
          have s : (sro 0 2 + 1).toInt = (sro 0 2).toInt + 1 := i_add rfl (by decide) (by omega) (by omega)
          rw [if_pos c4, if_neg (show ¬ sro 0 2 = 5 from fun q => by have := f_eq rfl (by decide : (5 : Int32).toInt = 5) q; omega)]
          refine ⟨rfl, rfl, fun j hj => ?_⟩
          have hj2 : (j : Int) < (sro 0 2 + 1).toInt := hj
          show upd (sro 1) (sro 0 2).toNatClampNeg q0 j = upd (sm 16) (sro 0 2).toNatClampNeg q0 j ∧ upd (sro 2) (sro 0 2).toNatClampNeg q1 j = upd (sm 17) (sro 0 2).toNatClampNeg q1 j
          by_cases e : j = (sro 0 2).toNatClampNeg
          · rw [e, pk_us, pk_us, pk_us, pk_us]; exact ⟨rfl, rfl⟩
          · rw [pk_un e, pk_un e, pk_un e, pk_un e]
            exact hr j (by have e2 : ¬ j = (sro 0 2).toInt.toNat := e; omega)
        · have a4 := f_nlt rfl (by decide : (5 : Int32).toInt = 5) c4
          rw [if_neg c4, if_pos (show sro 0 2 = 5 from Int32.toInt_inj.mp (by rw [show (5 : Int32).toInt = 5 from by decide]; omega))]
          exact ⟨rfl, rfl, hr⟩
