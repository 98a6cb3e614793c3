/-! acts: what may be, who does the WEEK then, what it costs -/
def AFT (V0 V1 V4 V5 V6 ofr w h a g tk tg od : Int32) : Int32 := if 10000 ≤ a then (-9) else if J_X12_all h < g then (-9) else if ofr < tk then (-9) else if 2 ≤ tg then (-9) else if 3 ≤ od then (-9) else if g = 0 then if tg = 0 then if od = 0 then if V1 < J_X12_all (J_X12_fewer h g + (100 : Int32) * tk) then (-9) else (J_X12_fewer h g + (100 : Int32) * tk) else if V6 = -9 then (-9) else if V0 - 1 ≤ w then (-9) else if V1 < J_X12_all (J_X12_fewer h g + (100 : Int32) * tk) then (-9) else (J_X12_fewer h g + (100 : Int32) * tk) else if V5 = -9 then (-9) else if od = 0 then if V1 < J_X12_all (J_X12_fewer h g + (100 : Int32) * tk) then (-9) else if tg = 1 then if (J_X12_fewer h g + (100 : Int32) * tk) / 100 = 0 then (-9) else if (J_X12_fewer h g + (100 : Int32) * tk) - (J_X12_fewer h g + (100 : Int32) * tk) / 10 * 10 = 0 then (-9) else ((J_X12_fewer h g + (100 : Int32) * tk) - 90) else if tg = 1 then ((J_X12_fewer h g + (100 : Int32) * tk) - 90) else (J_X12_fewer h g + (100 : Int32) * tk) else if V6 = -9 then (-9) else if V0 - 1 ≤ w then (-9) else if V1 < J_X12_all (J_X12_fewer h g + (100 : Int32) * tk) then (-9) else if tg = 1 then if (J_X12_fewer h g + (100 : Int32) * tk) / 100 = 0 then (-9) else if (J_X12_fewer h g + (100 : Int32) * tk) - (J_X12_fewer h g + (100 : Int32) * tk) / 10 * 10 = 0 then (-9) else ((J_X12_fewer h g + (100 : Int32) * tk) - 90) else if tg = 1 then ((J_X12_fewer h g + (100 : Int32) * tk) - 90) else (J_X12_fewer h g + (100 : Int32) * tk) else if V4 = -9 then (-9) else if tg = 0 then if od = 0 then if V1 < J_X12_all (J_X12_fewer h g + (100 : Int32) * tk) then (-9) else (J_X12_fewer h g + (100 : Int32) * tk) else if V6 = -9 then (-9) else if V0 - 1 ≤ w then (-9) else if V1 < J_X12_all (J_X12_fewer h g + (100 : Int32) * tk) then (-9) else (J_X12_fewer h g + (100 : Int32) * tk) else if V5 = -9 then (-9) else if od = 0 then if V1 < J_X12_all (J_X12_fewer h g + (100 : Int32) * tk) then (-9) else if tg = 1 then if (J_X12_fewer h g + (100 : Int32) * tk) / 100 = 0 then (-9) else if (J_X12_fewer h g + (100 : Int32) * tk) - (J_X12_fewer h g + (100 : Int32) * tk) / 10 * 10 = 0 then (-9) else ((J_X12_fewer h g + (100 : Int32) * tk) - 90) else if tg = 1 then ((J_X12_fewer h g + (100 : Int32) * tk) - 90) else (J_X12_fewer h g + (100 : Int32) * tk) else if V6 = -9 then (-9) else if V0 - 1 ≤ w then (-9) else if V1 < J_X12_all (J_X12_fewer h g + (100 : Int32) * tk) then (-9) else if tg = 1 then if (J_X12_fewer h g + (100 : Int32) * tk) / 100 = 0 then (-9) else if (J_X12_fewer h g + (100 : Int32) * tk) - (J_X12_fewer h g + (100 : Int32) * tk) / 10 * 10 = 0 then (-9) else ((J_X12_fewer h g + (100 : Int32) * tk) - 90) else if tg = 1 then ((J_X12_fewer h g + (100 : Int32) * tk) - 90) else (J_X12_fewer h g + (100 : Int32) * tk)
theorem aft_eq {sm : Nat → Nat → Int32} {tm : Nat → Nat → Int64} {w h a : Int32} : J_X12_after sm tm w h a = AFT ((sm 2) (0 : Int32).toNatClampNeg) ((sm 2) (1 : Int32).toNatClampNeg) ((sm 2) (4 : Int32).toNatClampNeg) ((sm 2) (5 : Int32).toNatClampNeg) ((sm 2) (6 : Int32).toNatClampNeg) ((sm 2) ((15 : Int32) + w).toNatClampNeg) w h a (J_X0_letGo a) (J_X0_taken a) (J_X0_taught a) (J_X0_ordered a) := rfl
theorem few_dec : ∀ n : Fin 401, ∀ g : Fin 5, n.val / 100 + n.val / 10 % 10 + n.val % 10 ≤ 4 → g.val ≤ n.val / 100 + n.val / 10 % 10 + n.val % 10 → J_X12_fewer (Int32.ofNat n.val) (Int32.ofNat g.val) = J_X3_lessYoungestFirst (Int32.ofNat n.val) (Int32.ofNat g.val) := by decide +kernel
theorem few_eq {h g : Int32} (hh : 0 ≤ h.toInt ∧ h.toInt ≤ 400 ∧ tot h ≤ 4) (hg : 0 ≤ g.toInt ∧ g.toInt ≤ tot h) : J_X12_fewer h g = J_X3_lessYoungestFirst h g := by
  obtain ⟨n, hn, rfl⟩ := nat_of (N := 400) (x := h) ⟨hh.1, hh.2.1⟩
  obtain ⟨k, hk, rfl⟩ := nat_of (N := 4) (x := g) ⟨hg.1, by omega⟩
  have e : (Int32.ofNat n).toInt = (n : Int) := ofn_t (by omega)
  have e2 : (Int32.ofNat k).toInt = (k : Int) := ofn_t (by omega)
  have t : tot (Int32.ofNat n) = (n : Int) / 100 + (n : Int) / 10 % 10 + (n : Int) % 10 := by unfold tot; rw [e]
  rw [t] at hh hg
  rw [e2] at hg
  exact few_dec ⟨n, by omega⟩ ⟨k, by omega⟩ (by show n / 100 + n / 10 % 10 + n % 10 ≤ 4; omega) (by show k ≤ n / 100 + n / 10 % 10 + n % 10; omega)
theorem tot_X {s t X : Int32} (hs : 0 ≤ s.toInt ∧ s.toInt ≤ 400) (ht : 0 ≤ t.toInt ∧ t.toInt ≤ 9) (e : X = s + 100 * t) : X.toInt = s.toInt + 100 * t.toInt ∧ (J_X12_all X).toInt = tot s + t.toInt ∧ (X / 100).toInt = X.toInt / 100 ∧ (X - X / 10 * 10).toInt = X.toInt % 10 := by
  have m : ((100 : Int32) * t).toInt = 100 * t.toInt := i_mul (by decide) rfl (by omega) (by omega)
  have x : X.toInt = s.toInt + 100 * t.toInt := by rw [e]; exact i_add rfl m (by omega) (by omega)
  obtain ⟨d1, d2, d3⟩ := dg (x := X) (by omega)
  refine ⟨x, ?_, d1, d3⟩
  rw [all_t rfl (by omega)]
  obtain ⟨p, q, r, h1, h2, h3, h4, h5, h6, h7⟩ := dgo s.toInt hs.1
  unfold tot
  rw [h5, h6, h7]
  obtain ⟨k1, k2, k3⟩ := dgi (x := X.toInt) (a := p + t.toInt) (b := q) (c := r) (by omega) h3 h4
  rw [k1, k2, k3]
  omega
/-- whether an ACT may be, by numbers -/
def ALW (T g tk tg od ofr hk lg tp ap w wk y z : Int) : Prop := g ≤ T ∧ (¬ lg = -9 ∨ g ≤ 0) ∧ tk ≤ ofr ∧ tk ≤ hk - (T - g) ∧ (tg ≤ 0 ∨ (tg ≤ 1 ∧ ¬ tp = -9 ∧ 0 < y ∧ 0 < z)) ∧ (od ≤ 0 ∨ (od ≤ 2 ∧ ¬ ap = -9 ∧ ¬ w = wk - 1))
theorem act_lt {a : Int32} (ha : 0 ≤ a.toInt) : a.toInt < 1000 * (J_X0_letGo a).toInt + 1000 := by rw [(act_t ha).1]; omega
theorem age0 (x : Int32) : J_X3_ofAge x 0 = x / 100 := if_pos rfl
theorem age2 (x : Int32) : J_X3_ofAge x 2 = x - x / 10 * 10 := (if_neg (by decide)).trans (if_neg (by decide))
theorem allows_i {sh sm : Nat → Nat → Int32} {w h a : Int32} (K : HOK sh sm) (hw : 0 ≤ w.toInt ∧ w.toInt < (sh 0 0).toInt) (hh : 0 ≤ h.toInt ∧ h.toInt ≤ 400 ∧ tot h ≤ 4) (ha : 0 ≤ a.toInt) : (J_X4_allows sh w h a = 1 ∧ ALW (tot h) (J_X0_letGo a).toInt (J_X0_taken a).toInt (J_X0_taught a).toInt (J_X0_ordered a).toInt (sh 2 w.toNatClampNeg).toInt (sh 0 1).toInt (sh 0 8).toInt (sh 0 9).toInt (sh 0 10).toInt w.toInt (sh 0 0).toInt ((J_X3_lessYoungestFirst h (J_X0_letGo a) + 100 * J_X0_taken a) / 100).toInt ((J_X3_lessYoungestFirst h (J_X0_letGo a) + 100 * J_X0_taken a) - (J_X3_lessYoungestFirst h (J_X0_letGo a) + 100 * J_X0_taken a) / 10 * 10).toInt) ∨ (J_X4_allows sh w h a = 0 ∧ ¬ (ALW (tot h) (J_X0_letGo a).toInt (J_X0_taken a).toInt (J_X0_taught a).toInt (J_X0_ordered a).toInt (sh 2 w.toNatClampNeg).toInt (sh 0 1).toInt (sh 0 8).toInt (sh 0 9).toInt (sh 0 10).toInt w.toInt (sh 0 0).toInt ((J_X3_lessYoungestFirst h (J_X0_letGo a) + 100 * J_X0_taken a) / 100).toInt ((J_X3_lessYoungestFirst h (J_X0_letGo a) + 100 * J_X0_taken a) - (J_X3_lessYoungestFirst h (J_X0_letGo a) + 100 * J_X0_taken a) / 10 * 10).toInt)) := by
  have b2 := tk_b (a := a) rfl ha
  have b3 := tg_b (a := a) rfl ha
  have b4 := or_b (a := a) rfl ha
  have b1 := lg_b (a := a) rfl ha
  have T0 := tot_0 (x := h) hh.1
  have wk := K.2.2.1
  have hk := K.2.2.2.1
  have hof := K.2.2.2.2.2.1 w.toNatClampNeg
  have tt : (J_X3_total h).toInt = tot h := tot_t hh.1
  unfold ALW
  dsimp only [J_X4_allows]
  by_cases c1 : J_X0_letGo a ≤ J_X4_mostLetGo sh h
  · rw [if_pos c1]
    have i1 : (J_X0_letGo a).toInt ≤ tot h ∧ (¬ (sh 0 8).toInt = -9 ∨ (J_X0_letGo a).toInt ≤ 0) := by
      unfold J_X4_mostLetGo at c1
      by_cases q : sh 0 8 = -9
      · rw [if_pos q] at c1
        have := f_le rfl (by decide : (0 : Int32).toInt = 0) c1
        exact ⟨by omega, Or.inr this⟩
      · rw [if_neg q] at c1
        exact ⟨f_le rfl tt c1, Or.inl (f_ne rfl (by decide) q)⟩
    obtain ⟨s1, s2⟩ := less_t (r := J_X3_lessYoungestFirst h (J_X0_letGo a)) rfl hh ⟨b1, i1.1⟩
    generalize J_X3_lessYoungestFirst h (J_X0_letGo a) = st at s1 s2 ⊢
    obtain ⟨x1, x2, x3, x4⟩ := tot_X (s := st) (t := J_X0_taken a) ⟨s1.1, s1.2.1⟩ b2 rfl
    have ts : (J_X3_total st).toInt = tot st := tot_t s1.1
    have rm : (sh 0 1 - J_X3_total st).toInt = (sh 0 1).toInt - tot st := i_sub rfl ts (by omega) (by omega)
    have mt := i_min (v := J_X4_mostTaken sh w st) (x := sh 2 w.toNatClampNeg) (y := sh 0 1 - J_X3_total st) rfl rm rfl
    have s0 := tot_0 (x := st) s1.1
    by_cases c2 : J_X0_taken a ≤ J_X4_mostTaken sh w st
    · rw [if_pos c2]
      have i2 := f_le rfl rfl c2
      have y0 : 0 ≤ ((st + 100 * J_X0_taken a) / 100).toInt := by rw [x3]; omega
      have z0 : 0 ≤ ((st + 100 * J_X0_taken a) - (st + 100 * J_X0_taken a) / 10 * 10).toInt := by rw [x4]; omega
      clear x3 x4 x1 x2
      generalize hy : ((st + 100 * J_X0_taken a) / 100) = y at y0 ⊢
      generalize hz : ((st + 100 * J_X0_taken a) - (st + 100 * J_X0_taken a) / 10 * 10) = z at z0 ⊢
      have mg : ((J_X4_mostTaught sh (st + 100 * J_X0_taken a)).toInt = 1 ∧ ¬ (sh 0 9).toInt = -9 ∧ 0 < y.toInt ∧ 0 < z.toInt) ∨ ((J_X4_mostTaught sh (st + 100 * J_X0_taken a)).toInt = 0 ∧ ((sh 0 9).toInt = -9 ∨ y.toInt ≤ 0 ∨ z.toInt ≤ 0)) := by
        unfold J_X4_mostTaught
        rw [age0, age2, hy, hz]
        by_cases q1 : sh 0 9 = -9
        · rw [if_pos q1]; exact Or.inr ⟨by decide, Or.inl (f_eq rfl (by decide) q1)⟩
        · rw [if_neg q1]
          by_cases q2 : y ≤ 0
          · rw [if_pos q2]; exact Or.inr ⟨by decide, Or.inr (Or.inl (f_le rfl (by decide) q2))⟩
          · rw [if_neg q2]
            by_cases q3 : z ≤ 0
            · rw [if_pos q3]; exact Or.inr ⟨by decide, Or.inr (Or.inr (f_le rfl (by decide) q3))⟩
            · rw [if_neg q3]; exact Or.inl ⟨by decide, f_ne rfl (by decide) q1, f_nle rfl (by decide) q2, f_nle rfl (by decide) q3⟩
      have w1 : (sh 0 0 - 1).toInt = (sh 0 0).toInt - 1 := i_sub rfl (by decide) (by omega) (by omega)
      have mo : ((J_X4_mostOrdered sh w).toInt = 2 ∧ ¬ (sh 0 10).toInt = -9 ∧ ¬ w.toInt = (sh 0 0).toInt - 1) ∨ ((J_X4_mostOrdered sh w).toInt = 0 ∧ ((sh 0 10).toInt = -9 ∨ w.toInt = (sh 0 0).toInt - 1)) := by
        dsimp only [J_X4_mostOrdered, J_X4_mostComing]
        by_cases q1 : w = sh 0 0 - 1
        · rw [if_pos q1]; exact Or.inr ⟨by decide, Or.inr (f_eq rfl w1 q1)⟩
        · rw [if_neg q1]
          by_cases q2 : sh 0 10 = -9
          · rw [if_pos q2]; exact Or.inr ⟨by decide, Or.inl (f_eq rfl (by decide) q2)⟩
          · rw [if_neg q2]; exact Or.inl ⟨by decide, f_ne rfl (by decide) q2, f_ne rfl w1 q1⟩
      by_cases c3 : J_X4_mostTaught sh (st + 100 * J_X0_taken a) < J_X0_taught a
      · rw [if_pos c3]
        have i3 := f_lt rfl rfl c3
        exact Or.inr ⟨rfl, by omega⟩
      · rw [if_neg c3]
        have i3 := f_nlt rfl rfl c3
        by_cases c4 : J_X4_mostOrdered sh w < J_X0_ordered a
        · rw [if_pos c4]
          have i4 := f_lt rfl rfl c4
          exact Or.inr ⟨rfl, by omega⟩
        · rw [if_neg c4]
          have i4 := f_nlt rfl rfl c4
          exact Or.inl ⟨rfl, by omega⟩
    · rw [if_neg c2]
      have i2 := f_nle rfl rfl c2
      exact Or.inr ⟨rfl, by omega⟩
  · rw [if_neg c1]
    refine Or.inr ⟨rfl, fun q => c1 ?_⟩
    unfold J_X4_mostLetGo
    by_cases e : sh 0 8 = -9
    · rw [if_pos e]
      have : (sh 0 8).toInt = -9 := f_eq rfl (by decide) e
      exact Int32.le_iff_toInt_le.mpr (by rw [show (0 : Int32).toInt = 0 from by decide]; omega)
    · rw [if_neg e]; exact Int32.le_iff_toInt_le.mpr (by rw [tt]; omega)
set_option maxHeartbeats 4000000 in
theorem aft_yes {V0 V1 V4 V5 V6 ofr w h a g tk tg od : Int32} (hh : 0 ≤ h.toInt ∧ h.toInt ≤ 400 ∧ tot h ≤ 4) (g0 : 0 ≤ g.toInt) (ht : 0 ≤ tk.toInt ∧ tk.toInt ≤ 9) (hg : 0 ≤ tg.toInt ∧ tg.toInt ≤ 9) (ho : 0 ≤ od.toInt ∧ od.toInt ≤ 9) (hag : a.toInt < 1000 * g.toInt + 1000) (hV0 : 0 ≤ V0.toInt ∧ V0.toInt ≤ 5) (hw : 0 ≤ w.toInt ∧ w.toInt < V0.toInt) (L : ALW (tot h) g.toInt tk.toInt tg.toInt od.toInt ofr.toInt V1.toInt V4.toInt V5.toInt V6.toInt w.toInt V0.toInt ((J_X3_lessYoungestFirst h g + 100 * tk) / 100).toInt ((J_X3_lessYoungestFirst h g + 100 * tk) - (J_X3_lessYoungestFirst h g + 100 * tk) / 10 * 10).toInt) : AFT V0 V1 V4 V5 V6 ofr w h a g tk tg od = J_X3_lessYoungestFirst h g + 100 * tk - 90 * tg := by
  have tt : (J_X12_all h).toInt = tot h := all_t rfl hh.1
  have w1 : (V0 - 1).toInt = V0.toInt - 1 := i_sub rfl (by decide) (by omega) (by omega)
  unfold ALW at L
  have done0 : J_X3_lessYoungestFirst h g + 100 * tk = J_X3_lessYoungestFirst h g + 100 * tk - 90 * 0 := by rw [Int32.mul_zero, Int32.sub_zero]
  have done1 : J_X3_lessYoungestFirst h g + 100 * tk - 90 = J_X3_lessYoungestFirst h g + 100 * tk - 90 * 1 := by rw [Int32.mul_one]
  unfold AFT
  by_cases c_b : 10000 ≤ a
  · have i_b := f_le (by decide : (10000 : Int32).toInt = 10000) rfl c_b; rw [if_pos c_b]
    exfalso; omega
  · have i_b := f_nle (by decide : (10000 : Int32).toInt = 10000) rfl c_b; rw [if_neg c_b]
    by_cases c_all : J_X12_all h < g
    · have i_all := f_lt tt rfl c_all; rw [if_pos c_all]
      exfalso; omega
    · have i_all := f_nlt tt rfl c_all; rw [if_neg c_all]
      have fe := few_eq hh ⟨g0, i_all⟩
      obtain ⟨s1, s2⟩ := less_t (r := J_X3_lessYoungestFirst h g) rfl hh ⟨g0, i_all⟩
      rw [fe]
      obtain ⟨x1, xa, x3, x4⟩ := tot_X (s := J_X3_lessYoungestFirst h g) (t := tk) ⟨s1.1, s1.2.1⟩ ht rfl
      rw [s2] at xa
      have y0 : 0 ≤ ((J_X3_lessYoungestFirst h g + 100 * tk) / 100).toInt := by rw [x3]; omega
      have z0 : 0 ≤ ((J_X3_lessYoungestFirst h g + 100 * tk) - (J_X3_lessYoungestFirst h g + 100 * tk) / 10 * 10).toInt := by rw [x4]; omega
      clear x1 x3 x4 s1 s2
      by_cases c_of : ofr < tk
      · have i_of := f_lt rfl rfl c_of; rw [if_pos c_of]
        exfalso; omega
      · have i_of := f_nlt rfl rfl c_of; rw [if_neg c_of]
        by_cases c_tg2 : 2 ≤ tg
        · have i_tg2 := f_le (by decide : (2 : Int32).toInt = 2) rfl c_tg2; rw [if_pos c_tg2]
          exfalso; omega
        · have i_tg2 := f_nle (by decide : (2 : Int32).toInt = 2) rfl c_tg2; rw [if_neg c_tg2]
          by_cases c_od3 : 3 ≤ od
          · have i_od3 := f_le (by decide : (3 : Int32).toInt = 3) rfl c_od3; rw [if_pos c_od3]
            exfalso; omega
          · have i_od3 := f_nle (by decide : (3 : Int32).toInt = 3) rfl c_od3; rw [if_neg c_od3]
            by_cases c_g0 : g = 0
            · have i_g0 := f_eq rfl (by decide : (0 : Int32).toInt = 0) c_g0; rw [if_pos c_g0]
              by_cases c_t0 : tg = 0
              · have i_t0 := f_eq rfl (by decide : (0 : Int32).toInt = 0) c_t0; rw [if_pos c_t0]
                by_cases c_o0 : od = 0
                · have i_o0 := f_eq rfl (by decide : (0 : Int32).toInt = 0) c_o0; rw [if_pos c_o0]
                  by_cases c_hk : V1 < J_X12_all (J_X3_lessYoungestFirst h g + (100 : Int32) * tk)
                  · have i_hk := f_lt rfl xa c_hk; rw [if_pos c_hk]
                    exfalso; omega
                  · have i_hk := f_nlt rfl xa c_hk; rw [if_neg c_hk]
                    first | (rw [c_t0]; exact done0) | (exfalso; omega)
                · have i_o0 := f_ne rfl (by decide : (0 : Int32).toInt = 0) c_o0; rw [if_neg c_o0]
                  by_cases c_ap : V6 = -9
                  · have i_ap := f_eq rfl (by decide : (-9 : Int32).toInt = -9) c_ap; rw [if_pos c_ap]
                    exfalso; omega
                  · have i_ap := f_ne rfl (by decide : (-9 : Int32).toInt = -9) c_ap; rw [if_neg c_ap]
                    by_cases c_lw : V0 - 1 ≤ w
                    · have i_lw := f_le w1 rfl c_lw; rw [if_pos c_lw]
                      exfalso; omega
                    · have i_lw := f_nle w1 rfl c_lw; rw [if_neg c_lw]
                      by_cases c_hk : V1 < J_X12_all (J_X3_lessYoungestFirst h g + (100 : Int32) * tk)
                      · have i_hk := f_lt rfl xa c_hk; rw [if_pos c_hk]
                        exfalso; omega
                      · have i_hk := f_nlt rfl xa c_hk; rw [if_neg c_hk]
                        first | (rw [c_t0]; exact done0) | (exfalso; omega)
              · have i_t0 := f_ne rfl (by decide : (0 : Int32).toInt = 0) c_t0; rw [if_neg c_t0]
                by_cases c_tp : V5 = -9
                · have i_tp := f_eq rfl (by decide : (-9 : Int32).toInt = -9) c_tp; rw [if_pos c_tp]
                  exfalso; omega
                · have i_tp := f_ne rfl (by decide : (-9 : Int32).toInt = -9) c_tp; rw [if_neg c_tp]
                  by_cases c_o0 : od = 0
                  · have i_o0 := f_eq rfl (by decide : (0 : Int32).toInt = 0) c_o0; rw [if_pos c_o0]
                    by_cases c_hk : V1 < J_X12_all (J_X3_lessYoungestFirst h g + (100 : Int32) * tk)
                    · have i_hk := f_lt rfl xa c_hk; rw [if_pos c_hk]
                      exfalso; omega
                    · have i_hk := f_nlt rfl xa c_hk; rw [if_neg c_hk]
                      by_cases c_t1 : tg = 1
                      · have i_t1 := f_eq rfl (by decide : (1 : Int32).toInt = 1) c_t1; rw [if_pos c_t1]
                        by_cases c_y0 : (J_X3_lessYoungestFirst h g + (100 : Int32) * tk) / 100 = 0
                        · have i_y0 := f_eq rfl (by decide : (0 : Int32).toInt = 0) c_y0; rw [if_pos c_y0]
                          exfalso; omega
                        · have i_y0 := f_ne rfl (by decide : (0 : Int32).toInt = 0) c_y0; rw [if_neg c_y0]
                          by_cases c_z0 : (J_X3_lessYoungestFirst h g + (100 : Int32) * tk) - (J_X3_lessYoungestFirst h g + (100 : Int32) * tk) / 10 * 10 = 0
                          · have i_z0 := f_eq rfl (by decide : (0 : Int32).toInt = 0) c_z0; rw [if_pos c_z0]
                            exfalso; omega
                          · have i_z0 := f_ne rfl (by decide : (0 : Int32).toInt = 0) c_z0; rw [if_neg c_z0]
                            rw [c_t1]; exact done1
                      · have i_t1 := f_ne rfl (by decide : (1 : Int32).toInt = 1) c_t1; rw [if_neg c_t1]
                        by_cases c_t1 : tg = 1
                        · have i_t1 := f_eq rfl (by decide : (1 : Int32).toInt = 1) c_t1; rw [if_pos c_t1]
                          rw [c_t1]; exact done1
                        · have i_t1 := f_ne rfl (by decide : (1 : Int32).toInt = 1) c_t1; rw [if_neg c_t1]
                          first | (rw [c_t0]; exact done0) | (exfalso; omega)
                  · have i_o0 := f_ne rfl (by decide : (0 : Int32).toInt = 0) c_o0; rw [if_neg c_o0]
                    by_cases c_ap : V6 = -9
                    · have i_ap := f_eq rfl (by decide : (-9 : Int32).toInt = -9) c_ap; rw [if_pos c_ap]
                      exfalso; omega
                    · have i_ap := f_ne rfl (by decide : (-9 : Int32).toInt = -9) c_ap; rw [if_neg c_ap]
                      by_cases c_lw : V0 - 1 ≤ w
                      · have i_lw := f_le w1 rfl c_lw; rw [if_pos c_lw]
                        exfalso; omega
                      · have i_lw := f_nle w1 rfl c_lw; rw [if_neg c_lw]
                        by_cases c_hk : V1 < J_X12_all (J_X3_lessYoungestFirst h g + (100 : Int32) * tk)
                        · have i_hk := f_lt rfl xa c_hk; rw [if_pos c_hk]
                          exfalso; omega
                        · have i_hk := f_nlt rfl xa c_hk; rw [if_neg c_hk]
                          by_cases c_t1 : tg = 1
                          · have i_t1 := f_eq rfl (by decide : (1 : Int32).toInt = 1) c_t1; rw [if_pos c_t1]
                            by_cases c_y0 : (J_X3_lessYoungestFirst h g + (100 : Int32) * tk) / 100 = 0
                            · have i_y0 := f_eq rfl (by decide : (0 : Int32).toInt = 0) c_y0; rw [if_pos c_y0]
                              exfalso; omega
                            · have i_y0 := f_ne rfl (by decide : (0 : Int32).toInt = 0) c_y0; rw [if_neg c_y0]
                              by_cases c_z0 : (J_X3_lessYoungestFirst h g + (100 : Int32) * tk) - (J_X3_lessYoungestFirst h g + (100 : Int32) * tk) / 10 * 10 = 0
                              · have i_z0 := f_eq rfl (by decide : (0 : Int32).toInt = 0) c_z0; rw [if_pos c_z0]
                                exfalso; omega
                              · have i_z0 := f_ne rfl (by decide : (0 : Int32).toInt = 0) c_z0; rw [if_neg c_z0]
                                rw [c_t1]; exact done1
                          · have i_t1 := f_ne rfl (by decide : (1 : Int32).toInt = 1) c_t1; rw [if_neg c_t1]
                            by_cases c_t1 : tg = 1
                            · have i_t1 := f_eq rfl (by decide : (1 : Int32).toInt = 1) c_t1; rw [if_pos c_t1]
                              rw [c_t1]; exact done1
                            · have i_t1 := f_ne rfl (by decide : (1 : Int32).toInt = 1) c_t1; rw [if_neg c_t1]
                              first | (rw [c_t0]; exact done0) | (exfalso; omega)
            · have i_g0 := f_ne rfl (by decide : (0 : Int32).toInt = 0) c_g0; rw [if_neg c_g0]
              by_cases c_lg : V4 = -9
              · have i_lg := f_eq rfl (by decide : (-9 : Int32).toInt = -9) c_lg; rw [if_pos c_lg]
                exfalso; omega
              · have i_lg := f_ne rfl (by decide : (-9 : Int32).toInt = -9) c_lg; rw [if_neg c_lg]
                by_cases c_t0 : tg = 0
                · have i_t0 := f_eq rfl (by decide : (0 : Int32).toInt = 0) c_t0; rw [if_pos c_t0]
                  by_cases c_o0 : od = 0
                  · have i_o0 := f_eq rfl (by decide : (0 : Int32).toInt = 0) c_o0; rw [if_pos c_o0]
                    by_cases c_hk : V1 < J_X12_all (J_X3_lessYoungestFirst h g + (100 : Int32) * tk)
                    · have i_hk := f_lt rfl xa c_hk; rw [if_pos c_hk]
                      exfalso; omega
                    · have i_hk := f_nlt rfl xa c_hk; rw [if_neg c_hk]
                      first | (rw [c_t0]; exact done0) | (exfalso; omega)
                  · have i_o0 := f_ne rfl (by decide : (0 : Int32).toInt = 0) c_o0; rw [if_neg c_o0]
                    by_cases c_ap : V6 = -9
                    · have i_ap := f_eq rfl (by decide : (-9 : Int32).toInt = -9) c_ap; rw [if_pos c_ap]
                      exfalso; omega
                    · have i_ap := f_ne rfl (by decide : (-9 : Int32).toInt = -9) c_ap; rw [if_neg c_ap]
                      by_cases c_lw : V0 - 1 ≤ w
                      · have i_lw := f_le w1 rfl c_lw; rw [if_pos c_lw]
                        exfalso; omega
                      · have i_lw := f_nle w1 rfl c_lw; rw [if_neg c_lw]
                        by_cases c_hk : V1 < J_X12_all (J_X3_lessYoungestFirst h g + (100 : Int32) * tk)
                        · have i_hk := f_lt rfl xa c_hk; rw [if_pos c_hk]
                          exfalso; omega
                        · have i_hk := f_nlt rfl xa c_hk; rw [if_neg c_hk]
                          first | (rw [c_t0]; exact done0) | (exfalso; omega)
                · have i_t0 := f_ne rfl (by decide : (0 : Int32).toInt = 0) c_t0; rw [if_neg c_t0]
                  by_cases c_tp : V5 = -9
                  · have i_tp := f_eq rfl (by decide : (-9 : Int32).toInt = -9) c_tp; rw [if_pos c_tp]
                    exfalso; omega
                  · have i_tp := f_ne rfl (by decide : (-9 : Int32).toInt = -9) c_tp; rw [if_neg c_tp]
                    by_cases c_o0 : od = 0
                    · have i_o0 := f_eq rfl (by decide : (0 : Int32).toInt = 0) c_o0; rw [if_pos c_o0]
                      by_cases c_hk : V1 < J_X12_all (J_X3_lessYoungestFirst h g + (100 : Int32) * tk)
                      · have i_hk := f_lt rfl xa c_hk; rw [if_pos c_hk]
                        exfalso; omega
                      · have i_hk := f_nlt rfl xa c_hk; rw [if_neg c_hk]
                        by_cases c_t1 : tg = 1
                        · have i_t1 := f_eq rfl (by decide : (1 : Int32).toInt = 1) c_t1; rw [if_pos c_t1]
                          by_cases c_y0 : (J_X3_lessYoungestFirst h g + (100 : Int32) * tk) / 100 = 0
                          · have i_y0 := f_eq rfl (by decide : (0 : Int32).toInt = 0) c_y0; rw [if_pos c_y0]
                            exfalso; omega
                          · have i_y0 := f_ne rfl (by decide : (0 : Int32).toInt = 0) c_y0; rw [if_neg c_y0]
                            by_cases c_z0 : (J_X3_lessYoungestFirst h g + (100 : Int32) * tk) - (J_X3_lessYoungestFirst h g + (100 : Int32) * tk) / 10 * 10 = 0
                            · have i_z0 := f_eq rfl (by decide : (0 : Int32).toInt = 0) c_z0; rw [if_pos c_z0]
                              exfalso; omega
                            · have i_z0 := f_ne rfl (by decide : (0 : Int32).toInt = 0) c_z0; rw [if_neg c_z0]
                              rw [c_t1]; exact done1
                        · have i_t1 := f_ne rfl (by decide : (1 : Int32).toInt = 1) c_t1; rw [if_neg c_t1]
                          by_cases c_t1 : tg = 1
                          · have i_t1 := f_eq rfl (by decide : (1 : Int32).toInt = 1) c_t1; rw [if_pos c_t1]
                            rw [c_t1]; exact done1
                          · have i_t1 := f_ne rfl (by decide : (1 : Int32).toInt = 1) c_t1; rw [if_neg c_t1]
                            first | (rw [c_t0]; exact done0) | (exfalso; omega)
                    · have i_o0 := f_ne rfl (by decide : (0 : Int32).toInt = 0) c_o0; rw [if_neg c_o0]
                      by_cases c_ap : V6 = -9
                      · have i_ap := f_eq rfl (by decide : (-9 : Int32).toInt = -9) c_ap; rw [if_pos c_ap]
                        exfalso; omega
                      · have i_ap := f_ne rfl (by decide : (-9 : Int32).toInt = -9) c_ap; rw [if_neg c_ap]
                        by_cases c_lw : V0 - 1 ≤ w
                        · have i_lw := f_le w1 rfl c_lw; rw [if_pos c_lw]
                          exfalso; omega
                        · have i_lw := f_nle w1 rfl c_lw; rw [if_neg c_lw]
                          by_cases c_hk : V1 < J_X12_all (J_X3_lessYoungestFirst h g + (100 : Int32) * tk)
                          · have i_hk := f_lt rfl xa c_hk; rw [if_pos c_hk]
                            exfalso; omega
                          · have i_hk := f_nlt rfl xa c_hk; rw [if_neg c_hk]
                            by_cases c_t1 : tg = 1
                            · have i_t1 := f_eq rfl (by decide : (1 : Int32).toInt = 1) c_t1; rw [if_pos c_t1]
                              by_cases c_y0 : (J_X3_lessYoungestFirst h g + (100 : Int32) * tk) / 100 = 0
                              · have i_y0 := f_eq rfl (by decide : (0 : Int32).toInt = 0) c_y0; rw [if_pos c_y0]
                                exfalso; omega
                              · have i_y0 := f_ne rfl (by decide : (0 : Int32).toInt = 0) c_y0; rw [if_neg c_y0]
                                by_cases c_z0 : (J_X3_lessYoungestFirst h g + (100 : Int32) * tk) - (J_X3_lessYoungestFirst h g + (100 : Int32) * tk) / 10 * 10 = 0
                                · have i_z0 := f_eq rfl (by decide : (0 : Int32).toInt = 0) c_z0; rw [if_pos c_z0]
                                  exfalso; omega
                                · have i_z0 := f_ne rfl (by decide : (0 : Int32).toInt = 0) c_z0; rw [if_neg c_z0]
                                  rw [c_t1]; exact done1
                            · have i_t1 := f_ne rfl (by decide : (1 : Int32).toInt = 1) c_t1; rw [if_neg c_t1]
                              by_cases c_t1 : tg = 1
                              · have i_t1 := f_eq rfl (by decide : (1 : Int32).toInt = 1) c_t1; rw [if_pos c_t1]
                                rw [c_t1]; exact done1
                              · have i_t1 := f_ne rfl (by decide : (1 : Int32).toInt = 1) c_t1; rw [if_neg c_t1]
                                first | (rw [c_t0]; exact done0) | (exfalso; omega)
set_option maxHeartbeats 4000000 in
theorem aft_no {V0 V1 V4 V5 V6 ofr w h a g tk tg od : Int32} (hh : 0 ≤ h.toInt ∧ h.toInt ≤ 400 ∧ tot h ≤ 4) (g0 : 0 ≤ g.toInt) (ht : 0 ≤ tk.toInt ∧ tk.toInt ≤ 9) (hg : 0 ≤ tg.toInt ∧ tg.toInt ≤ 9) (ho : 0 ≤ od.toInt ∧ od.toInt ≤ 9) (hag : a.toInt < 1000 * g.toInt + 1000) (hV0 : 0 ≤ V0.toInt ∧ V0.toInt ≤ 5) (hw : 0 ≤ w.toInt ∧ w.toInt < V0.toInt) (L : ¬ (ALW (tot h) g.toInt tk.toInt tg.toInt od.toInt ofr.toInt V1.toInt V4.toInt V5.toInt V6.toInt w.toInt V0.toInt ((J_X3_lessYoungestFirst h g + 100 * tk) / 100).toInt ((J_X3_lessYoungestFirst h g + 100 * tk) - (J_X3_lessYoungestFirst h g + 100 * tk) / 10 * 10).toInt)) : AFT V0 V1 V4 V5 V6 ofr w h a g tk tg od = -9 := by
  have tt : (J_X12_all h).toInt = tot h := all_t rfl hh.1
  have w1 : (V0 - 1).toInt = V0.toInt - 1 := i_sub rfl (by decide) (by omega) (by omega)
  unfold ALW at L
  unfold AFT
  by_cases c_b : 10000 ≤ a
  · rw [if_pos c_b]
  · have i_b := f_nle (by decide : (10000 : Int32).toInt = 10000) rfl c_b; rw [if_neg c_b]
    by_cases c_all : J_X12_all h < g
    · rw [if_pos c_all]
    · have i_all := f_nlt tt rfl c_all; rw [if_neg c_all]
      have fe := few_eq hh ⟨g0, i_all⟩
      obtain ⟨s1, s2⟩ := less_t (r := J_X3_lessYoungestFirst h g) rfl hh ⟨g0, i_all⟩
      rw [fe]
      obtain ⟨x1, xa, x3, x4⟩ := tot_X (s := J_X3_lessYoungestFirst h g) (t := tk) ⟨s1.1, s1.2.1⟩ ht rfl
      rw [s2] at xa
      have y0 : 0 ≤ ((J_X3_lessYoungestFirst h g + 100 * tk) / 100).toInt := by rw [x3]; omega
      have z0 : 0 ≤ ((J_X3_lessYoungestFirst h g + 100 * tk) - (J_X3_lessYoungestFirst h g + 100 * tk) / 10 * 10).toInt := by rw [x4]; omega
      clear x1 x3 x4 s1 s2
      by_cases c_of : ofr < tk
      · rw [if_pos c_of]
      · have i_of := f_nlt rfl rfl c_of; rw [if_neg c_of]
        by_cases c_tg2 : 2 ≤ tg
        · rw [if_pos c_tg2]
        · have i_tg2 := f_nle (by decide : (2 : Int32).toInt = 2) rfl c_tg2; rw [if_neg c_tg2]
          by_cases c_od3 : 3 ≤ od
          · rw [if_pos c_od3]
          · have i_od3 := f_nle (by decide : (3 : Int32).toInt = 3) rfl c_od3; rw [if_neg c_od3]
            by_cases c_g0 : g = 0
            · have i_g0 := f_eq rfl (by decide : (0 : Int32).toInt = 0) c_g0; rw [if_pos c_g0]
              by_cases c_t0 : tg = 0
              · have i_t0 := f_eq rfl (by decide : (0 : Int32).toInt = 0) c_t0; rw [if_pos c_t0]
                by_cases c_o0 : od = 0
                · have i_o0 := f_eq rfl (by decide : (0 : Int32).toInt = 0) c_o0; rw [if_pos c_o0]
                  by_cases c_hk : V1 < J_X12_all (J_X3_lessYoungestFirst h g + (100 : Int32) * tk)
                  · rw [if_pos c_hk]
                  · have i_hk := f_nlt rfl xa c_hk; rw [if_neg c_hk]
                    exfalso; omega
                · have i_o0 := f_ne rfl (by decide : (0 : Int32).toInt = 0) c_o0; rw [if_neg c_o0]
                  by_cases c_ap : V6 = -9
                  · rw [if_pos c_ap]
                  · have i_ap := f_ne rfl (by decide : (-9 : Int32).toInt = -9) c_ap; rw [if_neg c_ap]
                    by_cases c_lw : V0 - 1 ≤ w
                    · rw [if_pos c_lw]
                    · have i_lw := f_nle w1 rfl c_lw; rw [if_neg c_lw]
                      by_cases c_hk : V1 < J_X12_all (J_X3_lessYoungestFirst h g + (100 : Int32) * tk)
                      · rw [if_pos c_hk]
                      · have i_hk := f_nlt rfl xa c_hk; rw [if_neg c_hk]
                        exfalso; omega
              · have i_t0 := f_ne rfl (by decide : (0 : Int32).toInt = 0) c_t0; rw [if_neg c_t0]
                by_cases c_tp : V5 = -9
                · rw [if_pos c_tp]
                · have i_tp := f_ne rfl (by decide : (-9 : Int32).toInt = -9) c_tp; rw [if_neg c_tp]
                  by_cases c_o0 : od = 0
                  · have i_o0 := f_eq rfl (by decide : (0 : Int32).toInt = 0) c_o0; rw [if_pos c_o0]
                    by_cases c_hk : V1 < J_X12_all (J_X3_lessYoungestFirst h g + (100 : Int32) * tk)
                    · rw [if_pos c_hk]
                    · have i_hk := f_nlt rfl xa c_hk; rw [if_neg c_hk]
                      by_cases c_t1 : tg = 1
                      · have i_t1 := f_eq rfl (by decide : (1 : Int32).toInt = 1) c_t1; rw [if_pos c_t1]
                        by_cases c_y0 : (J_X3_lessYoungestFirst h g + (100 : Int32) * tk) / 100 = 0
                        · rw [if_pos c_y0]
                        · have i_y0 := f_ne rfl (by decide : (0 : Int32).toInt = 0) c_y0; rw [if_neg c_y0]
                          by_cases c_z0 : (J_X3_lessYoungestFirst h g + (100 : Int32) * tk) - (J_X3_lessYoungestFirst h g + (100 : Int32) * tk) / 10 * 10 = 0
                          · rw [if_pos c_z0]
                          · have i_z0 := f_ne rfl (by decide : (0 : Int32).toInt = 0) c_z0; rw [if_neg c_z0]
                            exfalso; omega
                      · have i_t1 := f_ne rfl (by decide : (1 : Int32).toInt = 1) c_t1; rw [if_neg c_t1]
                        by_cases c_t1 : tg = 1
                        · have i_t1 := f_eq rfl (by decide : (1 : Int32).toInt = 1) c_t1; rw [if_pos c_t1]
                          exfalso; omega
                        · have i_t1 := f_ne rfl (by decide : (1 : Int32).toInt = 1) c_t1; rw [if_neg c_t1]
                          exfalso; omega
                  · have i_o0 := f_ne rfl (by decide : (0 : Int32).toInt = 0) c_o0; rw [if_neg c_o0]
                    by_cases c_ap : V6 = -9
                    · rw [if_pos c_ap]
                    · have i_ap := f_ne rfl (by decide : (-9 : Int32).toInt = -9) c_ap; rw [if_neg c_ap]
                      by_cases c_lw : V0 - 1 ≤ w
                      · rw [if_pos c_lw]
                      · have i_lw := f_nle w1 rfl c_lw; rw [if_neg c_lw]
                        by_cases c_hk : V1 < J_X12_all (J_X3_lessYoungestFirst h g + (100 : Int32) * tk)
                        · rw [if_pos c_hk]
                        · have i_hk := f_nlt rfl xa c_hk; rw [if_neg c_hk]
                          by_cases c_t1 : tg = 1
                          · have i_t1 := f_eq rfl (by decide : (1 : Int32).toInt = 1) c_t1; rw [if_pos c_t1]
                            by_cases c_y0 : (J_X3_lessYoungestFirst h g + (100 : Int32) * tk) / 100 = 0
                            · rw [if_pos c_y0]
                            · have i_y0 := f_ne rfl (by decide : (0 : Int32).toInt = 0) c_y0; rw [if_neg c_y0]
                              by_cases c_z0 : (J_X3_lessYoungestFirst h g + (100 : Int32) * tk) - (J_X3_lessYoungestFirst h g + (100 : Int32) * tk) / 10 * 10 = 0
                              · rw [if_pos c_z0]
                              · have i_z0 := f_ne rfl (by decide : (0 : Int32).toInt = 0) c_z0; rw [if_neg c_z0]
                                exfalso; omega
                          · have i_t1 := f_ne rfl (by decide : (1 : Int32).toInt = 1) c_t1; rw [if_neg c_t1]
                            by_cases c_t1 : tg = 1
                            · have i_t1 := f_eq rfl (by decide : (1 : Int32).toInt = 1) c_t1; rw [if_pos c_t1]
                              exfalso; omega
                            · have i_t1 := f_ne rfl (by decide : (1 : Int32).toInt = 1) c_t1; rw [if_neg c_t1]
                              exfalso; omega
            · have i_g0 := f_ne rfl (by decide : (0 : Int32).toInt = 0) c_g0; rw [if_neg c_g0]
              by_cases c_lg : V4 = -9
              · rw [if_pos c_lg]
              · have i_lg := f_ne rfl (by decide : (-9 : Int32).toInt = -9) c_lg; rw [if_neg c_lg]
                by_cases c_t0 : tg = 0
                · have i_t0 := f_eq rfl (by decide : (0 : Int32).toInt = 0) c_t0; rw [if_pos c_t0]
                  by_cases c_o0 : od = 0
                  · have i_o0 := f_eq rfl (by decide : (0 : Int32).toInt = 0) c_o0; rw [if_pos c_o0]
                    by_cases c_hk : V1 < J_X12_all (J_X3_lessYoungestFirst h g + (100 : Int32) * tk)
                    · rw [if_pos c_hk]
                    · have i_hk := f_nlt rfl xa c_hk; rw [if_neg c_hk]
                      exfalso; omega
                  · have i_o0 := f_ne rfl (by decide : (0 : Int32).toInt = 0) c_o0; rw [if_neg c_o0]
                    by_cases c_ap : V6 = -9
                    · rw [if_pos c_ap]
                    · have i_ap := f_ne rfl (by decide : (-9 : Int32).toInt = -9) c_ap; rw [if_neg c_ap]
                      by_cases c_lw : V0 - 1 ≤ w
                      · rw [if_pos c_lw]
                      · have i_lw := f_nle w1 rfl c_lw; rw [if_neg c_lw]
                        by_cases c_hk : V1 < J_X12_all (J_X3_lessYoungestFirst h g + (100 : Int32) * tk)
                        · rw [if_pos c_hk]
                        · have i_hk := f_nlt rfl xa c_hk; rw [if_neg c_hk]
                          exfalso; omega
                · have i_t0 := f_ne rfl (by decide : (0 : Int32).toInt = 0) c_t0; rw [if_neg c_t0]
                  by_cases c_tp : V5 = -9
                  · rw [if_pos c_tp]
                  · have i_tp := f_ne rfl (by decide : (-9 : Int32).toInt = -9) c_tp; rw [if_neg c_tp]
                    by_cases c_o0 : od = 0
                    · have i_o0 := f_eq rfl (by decide : (0 : Int32).toInt = 0) c_o0; rw [if_pos c_o0]
                      by_cases c_hk : V1 < J_X12_all (J_X3_lessYoungestFirst h g + (100 : Int32) * tk)
                      · rw [if_pos c_hk]
                      · have i_hk := f_nlt rfl xa c_hk; rw [if_neg c_hk]
                        by_cases c_t1 : tg = 1
                        · have i_t1 := f_eq rfl (by decide : (1 : Int32).toInt = 1) c_t1; rw [if_pos c_t1]
                          by_cases c_y0 : (J_X3_lessYoungestFirst h g + (100 : Int32) * tk) / 100 = 0
                          · rw [if_pos c_y0]
                          · have i_y0 := f_ne rfl (by decide : (0 : Int32).toInt = 0) c_y0; rw [if_neg c_y0]
                            by_cases c_z0 : (J_X3_lessYoungestFirst h g + (100 : Int32) * tk) - (J_X3_lessYoungestFirst h g + (100 : Int32) * tk) / 10 * 10 = 0
                            · rw [if_pos c_z0]
                            · have i_z0 := f_ne rfl (by decide : (0 : Int32).toInt = 0) c_z0; rw [if_neg c_z0]
                              exfalso; omega
                        · have i_t1 := f_ne rfl (by decide : (1 : Int32).toInt = 1) c_t1; rw [if_neg c_t1]
                          by_cases c_t1 : tg = 1
                          · have i_t1 := f_eq rfl (by decide : (1 : Int32).toInt = 1) c_t1; rw [if_pos c_t1]
                            exfalso; omega
                          · have i_t1 := f_ne rfl (by decide : (1 : Int32).toInt = 1) c_t1; rw [if_neg c_t1]
                            exfalso; omega
                    · have i_o0 := f_ne rfl (by decide : (0 : Int32).toInt = 0) c_o0; rw [if_neg c_o0]
                      by_cases c_ap : V6 = -9
                      · rw [if_pos c_ap]
                      · have i_ap := f_ne rfl (by decide : (-9 : Int32).toInt = -9) c_ap; rw [if_neg c_ap]
                        by_cases c_lw : V0 - 1 ≤ w
                        · rw [if_pos c_lw]
                        · have i_lw := f_nle w1 rfl c_lw; rw [if_neg c_lw]
                          by_cases c_hk : V1 < J_X12_all (J_X3_lessYoungestFirst h g + (100 : Int32) * tk)
                          · rw [if_pos c_hk]
                          · have i_hk := f_nlt rfl xa c_hk; rw [if_neg c_hk]
                            by_cases c_t1 : tg = 1
                            · have i_t1 := f_eq rfl (by decide : (1 : Int32).toInt = 1) c_t1; rw [if_pos c_t1]
                              by_cases c_y0 : (J_X3_lessYoungestFirst h g + (100 : Int32) * tk) / 100 = 0
                              · rw [if_pos c_y0]
                              · have i_y0 := f_ne rfl (by decide : (0 : Int32).toInt = 0) c_y0; rw [if_neg c_y0]
                                by_cases c_z0 : (J_X3_lessYoungestFirst h g + (100 : Int32) * tk) - (J_X3_lessYoungestFirst h g + (100 : Int32) * tk) / 10 * 10 = 0
                                · rw [if_pos c_z0]
                                · have i_z0 := f_ne rfl (by decide : (0 : Int32).toInt = 0) c_z0; rw [if_neg c_z0]
                                  exfalso; omega
                            · have i_t1 := f_ne rfl (by decide : (1 : Int32).toInt = 1) c_t1; rw [if_neg c_t1]
                              by_cases c_t1 : tg = 1
                              · have i_t1 := f_eq rfl (by decide : (1 : Int32).toInt = 1) c_t1; rw [if_pos c_t1]
                                exfalso; omega
                              · have i_t1 := f_ne rfl (by decide : (1 : Int32).toInt = 1) c_t1; rw [if_neg c_t1]
                                exfalso; omega
theorem allows_alike {sh sm : Nat → Nat → Int32} {tm : Nat → Nat → Int64} {w h a : Int32} (K : HOK sh sm) (hw : 0 ≤ w.toInt ∧ w.toInt < (sh 0 0).toInt) (hh : 0 ≤ h.toInt ∧ h.toInt ≤ 400 ∧ tot h ≤ 4) (ha : 0 ≤ a.toInt) : (J_X4_allows sh w h a = 1 ∧ J_X12_after sm tm w h a = J_X0_done h a ∧ ¬ J_X12_after sm tm w h a = -9 ∧ ALW (tot h) (J_X0_letGo a).toInt (J_X0_taken a).toInt (J_X0_taught a).toInt (J_X0_ordered a).toInt (sh 2 w.toNatClampNeg).toInt (sh 0 1).toInt (sh 0 8).toInt (sh 0 9).toInt (sh 0 10).toInt w.toInt (sh 0 0).toInt ((J_X3_lessYoungestFirst h (J_X0_letGo a) + 100 * J_X0_taken a) / 100).toInt ((J_X3_lessYoungestFirst h (J_X0_letGo a) + 100 * J_X0_taken a) - (J_X3_lessYoungestFirst h (J_X0_letGo a) + 100 * J_X0_taken a) / 10 * 10).toInt) ∨ (J_X4_allows sh w h a = 0 ∧ J_X12_after sm tm w h a = -9) := by
  have e0 : (sm 2) (0 : Int32).toNatClampNeg = sh 0 0 := by rw [n0_]; exact K.1.1
  have e1 : (sm 2) (1 : Int32).toNatClampNeg = sh 0 1 := by rw [n1_]; exact K.1.2.1
  have e4 : (sm 2) (4 : Int32).toNatClampNeg = sh 0 8 := by rw [show (4 : Int32).toNatClampNeg = 4 from by decide]; exact K.1.2.2.2.2.1
  have e5 : (sm 2) (5 : Int32).toNatClampNeg = sh 0 9 := by rw [show (5 : Int32).toNatClampNeg = 5 from by decide]; exact K.1.2.2.2.2.2.1
  have e6 : (sm 2) (6 : Int32).toNatClampNeg = sh 0 10 := by rw [show (6 : Int32).toNatClampNeg = 6 from by decide]; exact K.1.2.2.2.2.2.2.1
  have wk := K.2.2.1
  have hk := K.2.2.2.1
  have eo := vO K (p := w) ⟨hw.1, by omega⟩
  have b2 := tk_b (a := a) rfl ha
  have b3 := tg_b (a := a) rfl ha
  have b4 := or_b (a := a) rfl ha
  have b1 := lg_b (a := a) rfl ha
  have hag := act_lt ha
  rw [aft_eq, e0, e1, e4, e5, e6, eo]
  rcases allows_i K hw hh ha with ⟨c, L⟩ | ⟨c, L⟩
  · have e := aft_yes (ofr := sh 2 w.toNatClampNeg) hh b1 b2 b3 b4 hag wk hw L
    rw [e]
    refine Or.inl ⟨c, rfl, fun q => ?_, L⟩
    unfold ALW at L
    obtain ⟨s1, s2⟩ := less_t (r := J_X3_lessYoungestFirst h (J_X0_letGo a)) rfl hh ⟨b1, L.1⟩
    obtain ⟨x1, x2, x3, x4⟩ := tot_X (s := J_X3_lessYoungestFirst h (J_X0_letGo a)) (t := J_X0_taken a) ⟨s1.1, s1.2.1⟩ b2 rfl
    have m : ((90 : Int32) * J_X0_taught a).toInt = 90 * (J_X0_taught a).toInt := i_mul (by decide) rfl (by omega) (by omega)
    have d : (J_X3_lessYoungestFirst h (J_X0_letGo a) + 100 * J_X0_taken a - 90 * J_X0_taught a).toInt = (J_X3_lessYoungestFirst h (J_X0_letGo a) + 100 * J_X0_taken a).toInt - 90 * (J_X0_taught a).toInt := i_sub rfl m (by omega) (by omega)
    rw [q, show (-9 : Int32).toInt = -9 from by decide] at d
    rw [x3] at L
    obtain ⟨l1, l2, l3, l4, l5, l6⟩ := L
    clear x2 x3 x4 s2 l6 l4 l3 l2
    omega
  · exact Or.inr ⟨c, aft_no (ofr := sh 2 w.toNatClampNeg) hh b1 b2 b3 b4 hag wk hw L⟩
