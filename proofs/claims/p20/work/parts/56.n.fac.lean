/-! how likely who left: alike -/
def STV (f n g : Int32) : Int32 := (J_X12_choose n (n - g) * J_X12_power ((5 : Int32) - f) (n - g)) * J_X12_power f (n - (n - g))
def FAC (f n g : Int32) : Int32 := (zWAY.getD (((5 : Int32) * n) + g).toNatClampNeg 0 * zPOW.getD (((5 : Int32) * f) + g).toNatClampNeg 0) * zPOW.getD ((((5 : Int32) * ((5 : Int32) - f)) + n) - g).toNatClampNeg 0
theorem fac_dec : ∀ f : Fin 6, ∀ n g : Fin 5, g.val ≤ n.val → STV (Int32.ofNat f.val) (Int32.ofNat n.val) (Int32.ofNat g.val) = FAC (Int32.ofNat f.val) (Int32.ofNat n.val) (Int32.ofNat g.val) ∧ 0 ≤ (STV (Int32.ofNat f.val) (Int32.ofNat n.val) (Int32.ofNat g.val)).toInt ∧ (STV (Int32.ofNat f.val) (Int32.ofNat n.val) (Int32.ofNat g.val)).toInt ≤ ((5 ^ n.val : Nat) : Int) ∧ ¬ J_X12_in ((Int32.ofNat n.val - Int32.ofNat g.val).toInt64) 0 ((Int32.ofNat n.val).toInt64) = 0 := by decide +kernel
theorem pow5_dec : ∀ n : Fin 5, (J_X12_power 5 (Int32.ofNat n.val)).toInt = ((5 ^ n.val : Nat) : Int) ∧ (zPOW.getD ((29 : Int32) - Int32.ofNat n.val).toNatClampNeg 0).toInt = ((5 ^ (4 - n.val) : Nat) : Int) := by decide +kernel
theorem fac {sm : Nat → Nat → Int32} {tm : Nat → Nat → Int64} {A f n g : Int32} (hf : J_X12_goes sm tm A = f) (h0 : 0 ≤ f.toInt ∧ f.toInt ≤ 5) (hn : 0 ≤ n.toInt ∧ n.toInt ≤ 4) (hg : 0 ≤ g.toInt ∧ g.toInt ≤ n.toInt) : J_X12_stays sm tm A n (n - g) = FAC f n g ∧ 0 ≤ (FAC f n g).toInt ∧ (FAC f n g).toInt ≤ ((5 ^ n.toInt.toNat : Nat) : Int) := by
  have hs : ¬ J_X12_in ((n - g).toInt64) 0 (n.toInt64) = 0 → J_X12_stays sm tm A n (n - g) = STV (J_X12_goes sm tm A) n g := fun q => if_neg q
  rw [hf] at hs
  obtain ⟨x, hx, rfl⟩ := nat_of (N := 5) (x := f) ⟨h0.1, h0.2⟩
  obtain ⟨y, hy, rfl⟩ := nat_of (N := 4) (x := n) ⟨hn.1, hn.2⟩
  obtain ⟨z, hz, rfl⟩ := nat_of (N := 4) (x := g) ⟨hg.1, by omega⟩
  have e1 : (Int32.ofNat y).toInt = (y : Int) := ofn_t (by omega)
  have e2 : (Int32.ofNat z).toInt = (z : Int) := ofn_t (by omega)
  obtain ⟨d1, d2, d3, d4⟩ := fac_dec ⟨x, by omega⟩ ⟨y, by omega⟩ ⟨z, by omega⟩ (by show z ≤ y; omega)
  have h1 := hs d4
  rw [e1, Int.toNat_natCast]
  exact ⟨h1.trans d1, d1 ▸ d2, d1 ▸ d3⟩
theorem fif_r {sh sm : Nat → Nat → Int32} {p : Int32} (K : HOK sh sm) : 0 ≤ (J_X4_fifths sh p).toInt ∧ (J_X4_fifths sh p).toInt ≤ 5 := by
  have r1 : 0 ≤ (sh 0 12).toInt ∧ (sh 0 12).toInt ≤ 5 := K.2.2.2.2.1
  have r2 := K.2.2.2.2.2.2 p.toNatClampNeg
  have s : (sh 3 p.toNatClampNeg - sh 0 12).toInt = (sh 3 p.toNatClampNeg).toInt - (sh 0 12).toInt := i_sub rfl rfl (by omega) (by omega)
  unfold J_X4_fifths
  by_cases c : 0 < (sh 3 p.toNatClampNeg - sh 0 12)
  · have c2 := f_lt (by decide : (0 : Int32).toInt = 0) s c
    rw [if_pos c, s]; omega
  · rw [if_neg c]; decide
theorem age1 (x : Int32) : J_X3_ofAge x 1 = x / 10 - x / 10 / 10 * 10 := (if_neg (by decide)).trans (if_pos rfl)
theorem lv_un {sh : Nat → Nat → Int32} {d g : Int32} (h : ¬ J_X3_has d g = 0) : J_X4_leaving sh d g = ((zPOW.getD ((29 : Int32) - J_X3_total d).toNatClampNeg 0 * FAC (J_X4_fifths sh 0) (d / 100) (g / 100)) * FAC (J_X4_fifths sh 1) (d / 10 - d / 10 / 10 * 10) (g / 10 - g / 10 / 10 * 10)) * FAC (J_X4_fifths sh 2) (d - d / 10 * 10) (g - g / 10 * 10) := by
  have a01 : (0 : Int32) + 1 = 1 := by decide
  have a12 : (1 : Int32) + 1 = 2 := by decide
  have a23 : (2 : Int32) + 1 = 3 := by decide
  have e0 : ∀ v : Int32, B_X4_leaving_25 sh d g ((0 : Int32), v) = Sum.inl ((1 : Int32), v * FAC (J_X4_fifths sh 0) (d / 100) (g / 100)) := fun v => by
    have q : B_X4_leaving_25 sh d g ((0 : Int32), v) = Sum.inl ((0 : Int32) + 1, v * FAC (J_X4_fifths sh 0) (J_X3_ofAge d 0) (J_X3_ofAge g 0)) := rfl
    rw [q, a01, age0, age0]
  have e1 : ∀ v : Int32, B_X4_leaving_25 sh d g ((1 : Int32), v) = Sum.inl ((2 : Int32), v * FAC (J_X4_fifths sh 1) (d / 10 - d / 10 / 10 * 10) (g / 10 - g / 10 / 10 * 10)) := fun v => by
    have q : B_X4_leaving_25 sh d g ((1 : Int32), v) = Sum.inl ((1 : Int32) + 1, v * FAC (J_X4_fifths sh 1) (J_X3_ofAge d 1) (J_X3_ofAge g 1)) := rfl
    rw [q, a12, age1, age1]
  have e2 : ∀ v : Int32, B_X4_leaving_25 sh d g ((2 : Int32), v) = Sum.inl ((3 : Int32), v * FAC (J_X4_fifths sh 2) (d - d / 10 * 10) (g - g / 10 * 10)) := fun v => by
    have q : B_X4_leaving_25 sh d g ((2 : Int32), v) = Sum.inl ((2 : Int32) + 1, v * FAC (J_X4_fifths sh 2) (J_X3_ofAge d 2) (J_X3_ofAge g 2)) := rfl
    rw [q, a23, age2, age2]
  have e3 : ∀ v : Int32, B_X4_leaving_25 sh d g ((3 : Int32), v) = Sum.inr v := fun v => rfl
  have e : J_X4_leaving sh d g = LTs default (B_X4_leaving_25 sh d g) 4 ((0 : Int32), zPOW.getD ((29 : Int32) - J_X3_total d).toNatClampNeg 0) := if_neg h
  rw [e]
  exact (LT_st (e0 _)).trans ((LT_st (e1 _)).trans ((LT_st (e2 _)).trans (LT_en (e3 _))))
def CHN (sm : Nat → Nat → Int32) (tm : Nat → Nat → Int64) (d g : Int32) : Int32 := (J_X12_stays sm tm 0 (d / 100) (d / 100 - g / 100) * J_X12_stays sm tm 1 (d / 10 - d / 10 / 10 * 10) ((d / 10 - d / 10 / 10 * 10) - (g / 10 - g / 10 / 10 * 10))) * J_X12_stays sm tm 2 (d - d / 10 * 10) ((d - d / 10 * 10) - (g - g / 10 * 10))
theorem pmul {a b A B : Nat} (h1 : a ≤ 5 ^ A) (h2 : b ≤ 5 ^ B) : a * b ≤ 5 ^ (A + B) := by rw [Nat.pow_add]; exact Nat.mul_le_mul h1 h2
theorem p4le {n : Nat} (h : n ≤ 4) : 5 ^ n ≤ 625 := Nat.pow_le_pow_right (by decide) h
theorem mul32 {X Y : Int32} {a b : Nat} (hX : X.toInt = (a : Int)) (hY : Y.toInt = (b : Int)) (h : a * b ≤ 625) : (X * Y).toInt = ((a * b : Nat) : Int) := by
  rw [Int.natCast_mul]
  have z : ((a * b : Nat) : Int) ≤ 625 := by omega
  rw [Int.natCast_mul] at z
  have z0 : 0 ≤ (a : Int) * (b : Int) := Int.mul_nonneg (by omega) (by omega)
  exact i_mul hX hY (by omega) (by omega)
theorem lvn {x : Int} {N : Nat} (h0 : 0 ≤ x) (h1 : x ≤ ((5 ^ N : Nat) : Int)) : ∃ a : Nat, x = (a : Int) ∧ a ≤ 5 ^ N := ⟨x.toNat, by omega, by omega⟩
theorem lv_c {sh sm : Nat → Nat → Int32} {tm : Nat → Nat → Int64} {d g : Int32} (K : HOK sh sm) (hd : 0 ≤ d.toInt ∧ d.toInt ≤ 400 ∧ tot d ≤ 4) (hg : ¬ J_X3_areLeavers g = 0) (h : J_X3_has d g = 1) : ∃ T c : Nat, T ≤ 4 ∧ c ≤ 5 ^ T ∧ (CHN sm tm d g).toInt = (c : Int) ∧ (J_X4_leaving sh d g).toInt = ((5 ^ (4 - T) * c : Nat) : Int) ∧ (J_X12_power 5 (J_X12_all d)).toInt = ((5 ^ T : Nat) : Int) := by
  have g0 : 0 ≤ g.toInt := by
    obtain ⟨a, b, c, _, _, _, rfl⟩ := lev_d hg
    rw [ofn_t (by omega)]; omega
  obtain ⟨x1, x2, x3⟩ := dg hd.1
  obtain ⟨y1, y2, y3⟩ := dg g0
  obtain ⟨b1, b2, b3⟩ := dgb hd
  have nh : ¬ J_X3_has d g = 0 := by rw [h]; decide
  have hh := h
  unfold J_X3_has at hh
  have q1 : ¬ (d / 100) < (g / 100) := fun q => by rw [if_pos q] at hh; exact absurd hh (by decide)
  rw [if_neg q1] at hh
  have q2 : ¬ (d / 10 - d / 10 / 10 * 10) < (g / 10 - g / 10 / 10 * 10) := fun q => by rw [if_pos q] at hh; exact absurd hh (by decide)
  rw [if_neg q2] at hh
  have q3 : ¬ (d - d / 10 * 10) < (g - g / 10 * 10) := fun q => by rw [if_pos q] at hh; exact absurd hh (by decide)
  have r1 := f_nlt rfl rfl q1
  have r2 := f_nlt rfl rfl q2
  have r3 := f_nlt rfl rfl q3
  have s1 : 0 ≤ (g / 100).toInt := by rw [y1]; exact Int.ediv_nonneg g0 (by decide)
  have s2 : 0 ≤ (g / 10 - g / 10 / 10 * 10).toInt := by rw [y2]; exact Int.emod_nonneg _ (by decide)
  have s3 : 0 ≤ (g - g / 10 * 10).toInt := by rw [y3]; exact Int.emod_nonneg _ (by decide)
  have ht : tot d = (d / 100).toInt + (d / 10 - d / 10 / 10 * 10).toInt + (d - d / 10 * 10).toInt := by unfold tot; rw [x1, x2, x3]
  have h4 := hd.2.2
  rw [ht] at h4
  have tt : (J_X3_total d).toInt = (d / 100).toInt + (d / 10 - d / 10 / 10 * 10).toInt + (d - d / 10 * 10).toInt := i_add (i_add rfl rfl (by omega) (by omega)) rfl (by omega) (by omega)
  obtain ⟨f1, f2, f3⟩ := fac (sm := sm) (tm := tm) (A := 0) (go_eq (tm := tm) K (by decide)).symm (fif_r K) b1 ⟨s1, r1⟩
  obtain ⟨f4, f5, f6⟩ := fac (sm := sm) (tm := tm) (A := 1) (go_eq (tm := tm) K (by decide)).symm (fif_r K) b2 ⟨s2, r2⟩
  obtain ⟨f7, f8, f9⟩ := fac (sm := sm) (tm := tm) (A := 2) (go_eq (tm := tm) K (by decide)).symm (fif_r K) b3 ⟨s3, r3⟩
  rw [lv_un nh]
  unfold CHN
  rw [f1, f4, f7]
  clear f1 f4 f7 q1 q2 q3 hh nh x1 x2 x3 y1 y2 y3
  generalize FAC (J_X4_fifths sh 0) (d / 100) (g / 100) = F0 at f2 f3 ⊢
  generalize FAC (J_X4_fifths sh 1) (d / 10 - d / 10 / 10 * 10) (g / 10 - g / 10 / 10 * 10) = F1 at f5 f6 ⊢
  generalize FAC (J_X4_fifths sh 2) (d - d / 10 * 10) (g - g / 10 * 10) = F2 at f8 f9 ⊢
  have ea : J_X12_all d = J_X3_total d := rfl
  rw [ea]
  generalize J_X3_total d = TD at tt ⊢
  obtain ⟨a0, u0, v0⟩ := lvn f2 f3
  obtain ⟨a1, u1, v1⟩ := lvn f5 f6
  obtain ⟨a2, u2, v2⟩ := lvn f8 f9
  generalize hN0 : (d / 100).toInt.toNat = N0 at v0
  generalize hN1 : (d / 10 - d / 10 / 10 * 10).toInt.toNat = N1 at v1
  generalize hN2 : (d - d / 10 * 10).toInt.toNat = N2 at v2
  have hT : TD = Int32.ofNat (N0 + N1 + N2) := Int32.toInt_inj.mp (by rw [ofn_t (by omega), tt]; omega)
  have hT4 : N0 + N1 + N2 ≤ 4 := by omega
  clear f2 f3 f5 f6 f8 f9 tt ht hN0 hN1 hN2 r1 r2 r3 s1 s2 s3 b1 b2 b3 h4
  subst hT
  obtain ⟨w1, w2⟩ := pow5_dec ⟨N0 + N1 + N2, by omega⟩
  have m1 := pmul v0 v1
  have m2 := pmul m1 v2
  have l1 : 5 ^ (N0 + N1) ≤ 625 := p4le (by omega)
  have l2 : 5 ^ (N0 + N1 + N2) ≤ 625 := p4le hT4
  have k1 := mul32 u0 u1 (Nat.le_trans m1 l1)
  have k2 := mul32 k1 u2 (Nat.le_trans m2 l2)
  refine ⟨N0 + N1 + N2, a0 * a1 * a2, hT4, m2, k2, ?_, w1⟩
  have n1 : 5 ^ (4 - (N0 + N1 + N2)) * (a0 * a1 * a2) ≤ 625 := by
    have z := Nat.mul_le_mul (Nat.le_refl (5 ^ (4 - (N0 + N1 + N2)))) m2
    rw [← Nat.pow_add, show 4 - (N0 + N1 + N2) + (N0 + N1 + N2) = 4 from by omega] at z
    exact z
  have n2 : (zPOW.getD ((29 : Int32) - Int32.ofNat (N0 + N1 + N2)).toNatClampNeg 0 * F0) * F1 * F2 = zPOW.getD ((29 : Int32) - Int32.ofNat (N0 + N1 + N2)).toNatClampNeg 0 * (F0 * F1 * F2) := by
    rw [Int32.mul_assoc, Int32.mul_assoc, Int32.mul_assoc]
  rw [n2]
  exact mul32 w2 k2 n1
