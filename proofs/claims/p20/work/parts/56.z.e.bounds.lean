/-! what the means cost is not below 0, where there are such -/
def NN (x : Int32) : Prop := x.toInt = -9 ∨ 0 ≤ x.toInt
def HNG (lg tp ap bo : Int32) : Prop := NN lg ∧ NN tp ∧ NN ap ∧ NN bo
def HNT (t : SP) : Prop := HNG t.2.2.2.2.2.2.2.1 t.2.2.2.2.2.2.2.2.1 t.2.2.2.2.2.2.2.2.2.1 t.2.2.2.2.2.2.2.2.2.2.1
theorem hng_pm {sh : Nat → Nat → Int32} {L x y : Int32} (h : HNT (HT sh)) (hx : 0 ≤ x.toInt ∧ x.toInt ≤ 9) : HNG (J_X4_putMeans sh L x y).1 (J_X4_putMeans sh L x y).2.1 (J_X4_putMeans sh L x y).2.2.1 (J_X4_putMeans sh L x y).2.2.2.1 := by
  obtain ⟨h1, h2, h3, h4⟩ := h
  have hx2 : NN x := Or.inr hx.1
  unfold J_X4_putMeans
  by_cases c1 : L = 65
  · rw [if_pos c1]; exact ⟨h1, h2, hx2, h4⟩
  · rw [if_neg c1]
    by_cases c2 : L = 66
    · rw [if_pos c2]; exact ⟨h1, h2, h3, hx2⟩
    · rw [if_neg c2]
      by_cases c3 : L = 71
      · rw [if_pos c3]; exact ⟨hx2, h2, h3, h4⟩
      · rw [if_neg c3]
        by_cases c4 : L = 84
        · rw [if_pos c4]; exact ⟨h1, hx2, h3, h4⟩
        · rw [if_neg c4]; exact ⟨h1, h2, h3, h4⟩
theorem hn_if {c : Prop} [Decidable c] {a b : SP} (h1 : HNT a) (h2 : HNT b) : HNT (if c then a else b) := by
  by_cases q : c
  · rw [if_pos q]; exact h1
  · rw [if_neg q]; exact h2
theorem hnt_put {sh : Nat → Nat → Int32} {L a x y : Int32} (h : HNT (HT sh)) (hx : 0 ≤ x.toInt ∧ x.toInt ≤ 9) : HNT (J_X4_put sh L a x y) := by
  have hM : HNG (J_X4_putMeans sh L x y).1 (J_X4_putMeans sh L x y).2.1 (J_X4_putMeans sh L x y).2.2.1 (J_X4_putMeans sh L x y).2.2.2.1 := hng_pm h hx
  unfold J_X4_put
  dsimp only
  exact hn_if h (hn_if hM (hn_if hM (hn_if hM (hn_if h (hn_if hM (hn_if hM (hn_if hM (hn_if hM (hn_if hM (hn_if hM (hn_if h (hn_if h (hn_if h (hn_if hM (hn_if h (hn_if hM (hn_if hM (hn_if hM (hn_if h (hM))))))))))))))))))))
def HNP (t : SC) : Prop := HNT t.2.2.2
theorem hnp_if {c : Prop} [Decidable c] {a b : SC} (h1 : c → HNP a) (h2 : ¬ c → HNP b) : HNP (if c then a else b) := by
  by_cases q : c
  · rw [if_pos q]; exact h1 q
  · rw [if_neg q]; exact h2 q
theorem hnt_part {sr sc st sh : Nat → Nat → Int32} (h : HNT (HT sh)) : HNP (J_X5_readPart sr sc st sh) := by
  unfold J_X5_readPart
  dsimp only [LetF]
  refine hnp_if (fun _ => h) (fun _ => hnp_if (fun _ => h) (fun _ => hnp_if (fun _ => h) (fun _ => hnp_if (fun _ => ?_) (fun _ => ?_))))
  · exact hnp_if (fun _ => h) (fun q1 => hnp_if (fun _ => hnt_put h (fig_v q1)) (fun _ => hnp_if (fun _ => h) (fun q2 => hnt_put h (fig_v q1))))
  · exact hnp_if (fun _ => h) (fun _ => hnp_if (fun _ => h) (fun q1 => hnp_if (fun _ => hnt_put h (fig_v q1)) (fun _ => hnp_if (fun _ => h) (fun q2 => hnt_put h (fig_v q1)))))
theorem hnt_cit {sr sc st sh : Nat → Nat → Int32} {w : Int32} : ∀ (k : Nat) (a : SC), HNT a.2.2.2 → HNT (CIT sr sc st sh w k a).2.2.2 := by
  intro k
  induction k with
  | zero => intro a h; exact h
  | succ k ih =>
    intro a h
    by_cases q : J_X2_hasMore (CSc sc a.1 a.2.1) st = 0
    · rw [cit_any q]; exact h
    · have e : CIT sr sc st sh w (k + 1) a = CIT sr sc st sh w k (CP sr sc st sh w a) := if_neg q
      rw [e]; exact ih _ (hnt_part (sr := CSr sr a) (sc := CSc sc a.1 a.2.1) (st := st) (sh := CSh sh w a) h)
theorem hnt_clear {sh : Nat → Nat → Int32} : HNT (J_X4_clear sh).2 := by
  have h : ((-9 : Int32)).toInt = -9 := by decide
  exact ⟨Or.inl h, Or.inl h, Or.inl h, Or.inl h⟩
theorem hnt_read {sr sc st sh : Nat → Nat → Int32} : HNT (J_X5_read sr sc st sh).2.2.2.2.2 := by
  have c : HNT (C0 sr sc st sh).2.2.2 := by rw [c0_eq]; exact hnt_clear
  have b : HNT (CB sr sc st sh).2.2.2 := by rw [cb_eq]; exact hnt_cit _ _ c
  rw [rd_eq]
  generalize CB sr sc st sh = z at b ⊢
  exact b
/-! bounds of what a WEEK costs -/
theorem add_b {x y : Int32} {A B : Int} (h1 : 0 ≤ x.toInt ∧ x.toInt ≤ A) (h2 : 0 ≤ y.toInt ∧ y.toInt ≤ B) (h : A + B ≤ 2000000000) : 0 ≤ (x + y).toInt ∧ (x + y).toInt ≤ A + B := by
  rw [i_add rfl rfl (by omega) (by omega)]; omega
theorem mul_b {x y : Int32} {A B : Int} (h1 : 0 ≤ x.toInt ∧ x.toInt ≤ A) (h2 : 0 ≤ y.toInt ∧ y.toInt ≤ B) (h : A * B ≤ 2000000000) : 0 ≤ (x * y).toInt ∧ (x * y).toInt ≤ A * B := by
  have m1 : 0 ≤ x.toInt * y.toInt := Int.mul_nonneg h1.1 h2.1
  have m2 : x.toInt * y.toInt ≤ A * B := Int.mul_le_mul h1.2 h2.2 h2.1 (Int.le_trans h1.1 h1.2)
  rw [i_mul rfl rfl (by omega) (by omega)]
  exact ⟨m1, m2⟩
theorem nn_v {x : Int32} (h : NN x) (hx : x.toInt ≤ 9) (q : ¬ x = -9) : 0 ≤ x.toInt ∧ x.toInt ≤ 9 := by
  rcases h with h | h
  · exact absurd (Int32.toInt_inj.mp (by rw [h]; decide)) q
  · exact ⟨h, hx⟩
theorem cost_b {sh sm : Nat → Nat → Int32} {w d c a : Int32} (K : HOK sh sm) (N : HNT (HT sh)) (hd : 0 ≤ d.toInt ∧ d.toInt ≤ 400 ∧ tot d ≤ 4) (hc : 0 ≤ c.toInt ∧ c.toInt ≤ 2) (hg : 0 ≤ (J_X0_letGo a).toInt ∧ (J_X0_letGo a).toInt ≤ 4) (ht : 0 ≤ (J_X0_taught a).toInt ∧ (J_X0_taught a).toInt ≤ 1) (hl : -999 ≤ (J_X4_lack sh w d c (J_X0_taught a)).toInt ∧ (J_X4_lack sh w d c (J_X0_taught a)).toInt ≤ 999) : 0 ≤ (J_X4_weekCost sh w d c a).toInt ∧ (J_X4_weekCost sh w d c a).toInt ≤ 10000 := by
  obtain ⟨n1, n2, n3, n4⟩ := N
  have n1 : NN (sh 0 8) := n1
  have n2 : NN (sh 0 9) := n2
  have n3 : NN (sh 0 10) := n3
  obtain ⟨r1, r2, r3, r4, r5, r6, r7, r8, r9⟩ := K.2.1
  have r3 : 0 ≤ (sh 0 6).toInt ∧ (sh 0 6).toInt ≤ 9 := r3
  have r4 : 0 ≤ (sh 0 7).toInt ∧ (sh 0 7).toInt ≤ 9 := r4
  have r5 : -9 ≤ (sh 0 8).toInt ∧ (sh 0 8).toInt ≤ 9 := r5
  have r6 : -9 ≤ (sh 0 9).toInt ∧ (sh 0 9).toInt ≤ 9 := r6
  have r7 : -9 ≤ (sh 0 10).toInt ∧ (sh 0 10).toInt ≤ 9 := r7
  have tt : (J_X3_total d).toInt = tot d := tot_t hd.1
  have t0 := tot_0 (x := d) hd.1
  unfold J_X4_weekCost
  dsimp only
  generalize J_X4_lack sh w d c (J_X0_taught a) = la at hl ⊢
  generalize J_X0_letGo a = g at hg ⊢
  generalize J_X0_taught a = tg at ht ⊢
  have lb : 0 ≤ (if 0 < la then la else (0 : Int32)).toInt ∧ (if 0 < la then la else (0 : Int32)).toInt ≤ 999 := by
    by_cases q : 0 < la
    · have := f_lt (by decide : (0 : Int32).toInt = 0) rfl q
      rw [if_pos q]; omega
    · rw [if_neg q]; decide
  have b1 := mul_b (x := sh 0 6) (y := J_X3_total d) (A := 9) (B := 4) r3 (by rw [tt]; omega) (by decide)
  have b2 := mul_b (x := sh 0 7) (A := 9) (B := 999) r4 lb (by decide)
  have b3 := add_b b1 b2 (by decide)
  generalize sh 0 6 * J_X3_total d + sh 0 7 * (if 0 < la then la else (0 : Int32)) = z at b3 ⊢
  have g1 : ¬ sh 0 8 = -9 → 0 ≤ (sh 0 8 * g).toInt ∧ (sh 0 8 * g).toInt ≤ 9 * 4 := fun q => mul_b (nn_v n1 r5.2 q) hg (by decide)
  have g2 : ¬ sh 0 9 = -9 → 0 ≤ (sh 0 9 * tg).toInt ∧ (sh 0 9 * tg).toInt ≤ 9 * 1 := fun q => mul_b (nn_v n2 r6.2 q) ht (by decide)
  have g3 : ¬ sh 0 10 = -9 → 0 ≤ (sh 0 10 * c).toInt ∧ (sh 0 10 * c).toInt ≤ 9 * 2 := fun q => mul_b (nn_v n3 r7.2 q) hc (by decide)
  by_cases q1 : sh 0 8 = -9
  · rw [if_pos q1]
    by_cases q2 : sh 0 9 = -9
    · rw [if_pos q2]
      by_cases q3 : sh 0 10 = -9
      · rw [if_pos q3]; omega
      · rw [if_neg q3]; have y := add_b b3 (g3 q3) (by decide); omega
    · rw [if_neg q2]
      by_cases q3 : sh 0 10 = -9
      · rw [if_pos q3]; have y := add_b b3 (g2 q2) (by decide); omega
      · rw [if_neg q3]; have y := add_b (add_b b3 (g2 q2) (by decide)) (g3 q3) (by decide); omega
  · rw [if_neg q1]
    by_cases q2 : sh 0 9 = -9
    · rw [if_pos q2]
      by_cases q3 : sh 0 10 = -9
      · rw [if_pos q3]; have y := add_b b3 (g1 q1) (by decide); omega
      · rw [if_neg q3]; have y := add_b (add_b b3 (g1 q1) (by decide)) (g3 q3) (by decide); omega
    · rw [if_neg q2]
      by_cases q3 : sh 0 10 = -9
      · rw [if_pos q3]; have y := add_b (add_b b3 (g1 q1) (by decide)) (g2 q2) (by decide); omega
      · rw [if_neg q3]; have y := add_b (add_b (add_b b3 (g1 q1) (by decide)) (g2 q2) (by decide)) (g3 q3) (by decide); omega
theorem bonus_b {sh sm : Nat → Nat → Int32} {h : Int32} (K : HOK sh sm) (N : HNT (HT sh)) (hh : 0 ≤ h.toInt ∧ h.toInt ≤ 400 ∧ tot h ≤ 4) : 0 ≤ (J_X4_bonusFor sh h).toInt ∧ (J_X4_bonusFor sh h).toInt ≤ 36 := by
  have n4 : NN (sh 0 11) := N.2.2.2
  have r8 : -9 ≤ (sh 0 11).toInt ∧ (sh 0 11).toInt ≤ 9 := K.2.1.2.2.2.2.2.2.2.1
  have tt : (J_X3_total h).toInt = tot h := tot_t hh.1
  have t0 := tot_0 (x := h) hh.1
  unfold J_X4_bonusFor
  by_cases q : sh 0 11 = -9
  · rw [if_pos q]; decide
  · rw [if_neg q]; exact mul_b (A := 9) (B := 4) (nn_v n4 r8.2 q) (by rw [tt]; omega) (by decide)
/-! the mean is no number below 0 -/
theorem onT_n {sh sm : Nat → Nat → Int32} {tm : Nat → Nat → Int64} {V : Nat → Int64} {th : Int32} {B : Nat} (K : HOK sh sm) (T : TBL sh) (hh : 0 ≤ th.toInt ∧ th.toInt ≤ 400 ∧ tot th ≤ 4) (ht : tot th ≤ (sh 0 1).toInt) (hB : 625 * B ≤ 9000000000000000000) (hV : ∀ b, b < 15 → tot (zALL.getD b 0) ≤ (sh 0 1).toInt → ∃ N : Nat, (V (nAL b)).toInt = ((N : Nat) : Int) ∧ N ≤ B) : ∃ x : Nat, (SML (onT sm tm V th) 50 0).toInt = ((x : Nat) : Int) ∧ x ≤ 625 * B := by
  obtain ⟨k1, k2⟩ := kd_t hh
  rw [onT_k K T hh ht]
  have e : ∀ b, b < 15 → ((sh 5 (15 * (J_X3_kind th).toNatClampNeg + b)).toInt64 * V (nAL b)).toInt = ((((sh 5 (15 * (J_X3_kind th).toNatClampNeg + b)).toInt64 * V (nAL b)).toInt.toNat : Nat) : Int) ∧ ((sh 5 (15 * (J_X3_kind th).toNatClampNeg + b)).toInt64 * V (nAL b)).toInt.toNat ≤ tbN sh (J_X3_kind th).toNatClampNeg b * B := fun b hb => by
    have z := sd_n K T k1 hb
    by_cases c : tot (zALL.getD b 0) ≤ (sh 0 1).toInt
    · obtain ⟨N, v1, v2⟩ := hV b hb c
      have m := Nat.mul_le_mul (tbN_le K k1 hb) v2
      have y := l_mulN z v1 (Nat.le_trans m hB)
      rw [y, Int.toNat_natCast]
      exact ⟨rfl, Nat.mul_le_mul (Nat.le_refl _) v2⟩
    · have a3 := (ak (k := b) (by omega)).2.1
      have t0 : tbN sh (J_X3_kind th).toNatClampNeg b = 0 := tbN_0 k1 (by omega)
      rw [t0] at z ⊢
      rw [l0 z, Int64.zero_mul]
      exact ⟨rfl, Nat.zero_le _⟩
  have s1 := nsm_le (f := fun b => ((sh 5 (15 * (J_X3_kind th).toNatClampNeg + b)).toInt64 * V (nAL b)).toInt.toNat) (g := fun b => tbN sh (J_X3_kind th).toNatClampNeg b * B) 15 0 (fun b _ hb => (e b (by omega)).2)
  rw [nsm_mul, show NSM (fun b => tbN sh (J_X3_kind th).toNatClampNeg b) 15 0 = 625 from tbN_row K k1] at s1
  exact ⟨_, sml_n 15 0 (fun b _ hb => (e b (by omega)).1) (Nat.le_trans s1 hB), s1⟩
theorem vb_le {n : Nat} (h : n ≤ 5) : (10000 * n + 36) * 625 ^ n ≤ 9000000000000000000 := by
  have a := Nat.mul_le_mul (show 10000 * n + 36 ≤ 50036 by omega) (p625 h)
  exact Nat.le_trans a (by decide)
theorem val_n {sx sh sm : Nat → Nat → Int32} {tm : Nat → Nat → Int64} {r : Int32} {W : Nat} (K : HOK sh sm) (hL : LVL (sx 1) (sm 4)) (hr : 0 ≤ r.toInt ∧ r.toInt ≤ 2) (T : TBL sh) (N : HNT (HT sh)) (hW : (sh 0 0).toInt = (W : Int)) : ∀ (n : Nat) (c : Int32) (h : Nat), n ≤ W → 0 ≤ c.toInt ∧ c.toInt ≤ 2 → h < 900 → (0 ≤ (Int32.ofNat h).toInt ∧ (Int32.ofNat h).toInt ≤ 400 ∧ tot (Int32.ofNat h) ≤ 4) → tot (Int32.ofNat h) ≤ (sh 0 1).toInt → ∃ x : Nat, (VAL sm tm r W n c h).toInt = ((x : Nat) : Int) ∧ x ≤ (10000 * n + 36) * 625 ^ n
  | 0, c, h, _, _, _, hh, ht => by
    have b := bonus_b K N hh
    have e : (VAL sm tm r W 0 c h).toInt = (J_X4_bonusFor sh (Int32.ofNat h)).toInt := by
      show ((J_X12_bonus sm tm (Int32.ofNat h)).toInt64).toInt = _
      rw [Int32.toInt_toInt64, bonus_alike (tm := tm) K]
    refine ⟨(J_X4_bonusFor sh (Int32.ofNat h)).toInt.toNat, by rw [e]; omega, ?_⟩
    rw [Nat.pow_zero, Nat.mul_one]
    omega
  | n + 1, c, h, hn, hc, h9, hh, ht => by
    have wk := K.2.2.1
    have w0 : sh 0 0 = Int32.ofNat W := Int32.toInt_inj.mp (by rw [hW, ofn_t (by omega)])
    have V0 : (sm 2) (0 : Int32).toNatClampNeg = sh 0 0 := by rw [n0_]; exact K.1.1
    have vt : (Int32.ofNat (W - (n + 1))).toInt = ((W - (n + 1) : Nat) : Int) := ofn_t (by omega)
    obtain ⟨q1, ⟨q2, q3⟩, q4, q5⟩ := rule_v (sx := sx) (tm := tm) (r := r) (w := Int32.ofNat (W - (n + 1))) (c := c) (h := Int32.ofNat h) K hL hr ⟨by omega, by omega⟩ hc hh ht
    have ep : J_X12_parts ((sm 2) (0 : Int32).toNatClampNeg - Int32.ofNat (W - (n + 1))) = SCN (n + 1) 1 := by
      rw [V0, w0, show Int32.ofNat W - Int32.ofNat (W - (n + 1)) = Int32.ofNat (n + 1) from Int32.toInt_inj.mp (by rw [i_sub (ofn_t (k := W) (by omega)) vt (by omega) (by omega), ofn_t (by omega)]; omega)]
      exact (parts_v (by omega)).1
    have es := (parts_v (W := n + 1) (by omega)).2
    have cb := cost_b (w := Int32.ofNat (W - (n + 1))) (c := c) (a := 0) K N q2 hc (by decide) (by decide) (by rw [show J_X0_taught 0 = 0 from by decide]; exact q5.2)
    have hB := vb_le (n := n) (by omega)
    have hB2 := vb_le (n := n + 1) (by omega)
    have e625 : 625 * ((10000 * n + 36) * 625 ^ n) = (10000 * n + 36) * 625 ^ (n + 1) := by rw [Nat.pow_succ, Nat.mul_left_comm, Nat.mul_comm 625]
    have esum : 10000 * 625 ^ (n + 1) + (10000 * n + 36) * 625 ^ (n + 1) = (10000 * (n + 1) + 36) * 625 ^ (n + 1) := by
      rw [← Nat.add_mul]
      exact congrArg (fun z => z * 625 ^ (n + 1)) (by omega)
    obtain ⟨x, x1, x2⟩ := onT_n (tm := tm) (V := VAL sm tm r W n 0) (B := (10000 * n + 36) * 625 ^ n) K T q2 q3 (by rw [e625]; omega) (fun b hb hz => by
      have k1 := ak (k := b) (by omega)
      have nl := nAL_lt ⟨b, by omega⟩
      rw [k1.2.2.1] at hz
      have k2 := k1.1
      rw [k1.2.2.1] at k2
      exact val_n K hL hr T N hW n 0 (nAL b) (by omega) (by decide) nl k2 hz)
    rw [e625] at x2
    have ec : (J_X4_weekCost sh (Int32.ofNat (W - (n + 1))) (Int32.ofNat h + 100 * J_X4_takenByLevel sh (Int32.ofNat (W - (n + 1))) (Int32.ofNat h) (J_X11_levelBy sx r (Int32.ofNat (W - (n + 1))))) c 0).toInt64.toInt = (((J_X4_weekCost sh (Int32.ofNat (W - (n + 1))) (Int32.ofNat h + 100 * J_X4_takenByLevel sh (Int32.ofNat (W - (n + 1))) (Int32.ofNat h) (J_X11_levelBy sx r (Int32.ofNat (W - (n + 1))))) c 0).toInt.toNat : Nat) : Int) := by rw [Int32.toInt_toInt64]; omega
    have cn : (J_X4_weekCost sh (Int32.ofNat (W - (n + 1))) (Int32.ofNat h + 100 * J_X4_takenByLevel sh (Int32.ofNat (W - (n + 1))) (Int32.ofNat h) (J_X11_levelBy sx r (Int32.ofNat (W - (n + 1))))) c 0).toInt.toNat ≤ 10000 := by omega
    generalize (J_X4_weekCost sh (Int32.ofNat (W - (n + 1))) (Int32.ofNat h + 100 * J_X4_takenByLevel sh (Int32.ofNat (W - (n + 1))) (Int32.ofNat h) (J_X11_levelBy sx r (Int32.ofNat (W - (n + 1))))) c 0).toInt.toNat = C at ec cn
    have m1 := Nat.mul_le_mul cn (Nat.le_refl (625 ^ (n + 1)))
    have y1 := l_mulN ec es (by omega)
    have y2 := l_add y1 x1 (by omega)
    refine ⟨C * 625 ^ (n + 1) + x, ?_, by omega⟩
    have ev : VAL sm tm r W (n + 1) c h = (J_X4_weekCost sh (Int32.ofNat (W - (n + 1))) (Int32.ofNat h + 100 * J_X4_takenByLevel sh (Int32.ofNat (W - (n + 1))) (Int32.ofNat h) (J_X11_levelBy sx r (Int32.ofNat (W - (n + 1))))) c 0).toInt64 * SCN (n + 1) 1 + SML (onT sm tm (VAL sm tm r W n 0) (Int32.ofNat h + 100 * J_X4_takenByLevel sh (Int32.ofNat (W - (n + 1))) (Int32.ofNat h) (J_X11_levelBy sx r (Int32.ofNat (W - (n + 1)))))) 50 0 := by
      show mnT sm tm r (Int32.ofNat (W - (n + 1))) c (VAL sm tm r W n 0) h = _
      unfold mnT
      rw [show thR sm tm r (Int32.ofNat (W - (n + 1))) h = _ from q1, ← q4, ep]
    rw [ev]
    exact y2
theorem mean_alike {sx sh sm sco : Nat → Nat → Int32} {tm tco : Nat → Nat → Int64} {p0 p1 p2 p3 p4 q0 q1 q2 q3 q4 : Int32} {t : Int64 × (Nat → Int64) × (Nat → Int64) × Int64 × Int64 × Int64 × Int64} {t2 : Int64 × (Nat → Int64) × (Nat → Int64)} (h1 : t = J_X11_mean sx sh sco tco p0 p1 p2 p3 p4) (h2 : t2 = J_X12_mean sm tm q0 q1 q2 q3 q4) (e0 : q0 = p0) (e1 : q1 = p1) (e2 : q2 = p2) (e3 : q3 = p3) (e4 : q4 = p4) (K : HOK sh sm) (hL : LVL (sx 1) (sm 4)) (T : TBL sh) (N : HNT (HT sh)) : t.1 = t2.1 := by
  subst h1 h2 e0 e1 e2 e3 e4
  have wk := K.2.2.1
  have V0 : (sm 2) (0 : Int32).toNatClampNeg = sh 0 0 := by rw [n0_]; exact K.1.1
  unfold J_X11_mean J_X12_mean
  dsimp only [LetF]
  by_cases c0 : J_X11_isRule sx q0 = 0
  · rw [if_pos c0, if_pos (ir_iff.mp c0)]
  · rw [if_neg c0, if_neg (fun q => c0 (ir_iff.mpr q))]
    have n10 : ¬ (-1 : Int32) = 0 := by decide
    have n20 : ¬ (-2 : Int32) = 0 := by decide
    rcases rs_cases (sx := sx) (sh := SHX sh) (tm := tm) (w := q1) (h := q2) (c := q3) (hok_x K) with ⟨r1, r2⟩ | ⟨r1, r2, r3⟩ | ⟨r1, r2, r3, r4, r5, r6, r7, r8⟩
    · rw [r1, if_neg n10, if_pos r2]; rfl
    · rw [r1, if_neg n20, if_neg r2]
      rcases r3 with r3 | r3
      · rw [if_pos r3]; rfl
      · by_cases z : J_X12_isHands sm tm q2 = 0
        · rw [if_pos z]; rfl
        · rw [if_neg z, if_pos r3]; rfl
    · rw [r1, if_pos rfl, if_neg r2, if_neg r3, if_neg r4]
      have r5 : 0 ≤ q1.toInt ∧ q1.toInt < (sh 0 0).toInt := r5
      have r7 : tot q2 ≤ (sh 0 1).toInt := r7
      have r0 : 0 ≤ q0.toInt ∧ q0.toInt ≤ 2 := by rw [ir_z] at c0; omega
      obtain ⟨P, hP, rfl⟩ := nat_of (N := 5) (x := q1) ⟨r5.1, by omega⟩
      have pt : (Int32.ofNat P).toInt = (P : Int) := ofn_t (by omega)
      obtain ⟨W, hW, w0⟩ := nat_of (N := 5) (x := sh 0 0) ⟨wk.1, wk.2⟩
      have wt : (sh 0 0).toInt = (W : Int) := by rw [w0, ofn_t (by omega)]
      obtain ⟨H, hH, rfl⟩ := nat_of (N := 400) (x := q2) ⟨r6.1, r6.2.1⟩
      have hc : (Int32.ofNat H).toNatClampNeg = H := ofn_c (by omega)
      obtain ⟨k1, k2⟩ := parts_v (W := W - P) (by omega)
      obtain ⟨g1, g2⟩ := ge_v (sx := sx) (sh := SHX sh) (sco := SC0) (tco := lT [(lJ [0, 0, (tco 0 2), (tco 0 3), (tco 0 4), (tco 0 5)]), (tco 1), (tco 2)]) (tm := tm) (r := q0) (p2 := Int32.ofNat H) (p3 := q3) (P := P) (W := W) (hok_x K) hL r0 r8 (tbl_x T) wt (by omega) r6 r7
      have l := lm_v (sm := sm) (tm := tm) (p0 := q0) (p2 := Int32.ofNat H) (p3 := q3) (W := W) (P := P) (by rw [V0, w0]) hW (by omega) (by rw [hc]; exact ⟨by omega, r3⟩)
      have ep : J_X12_parts ((sm 2) (0 : Int32).toNatClampNeg - Int32.ofNat P) = SCN (W - P) 1 := by
        rw [V0, w0, show Int32.ofNat W - Int32.ofNat P = Int32.ofNat (W - P) from Int32.toInt_inj.mp (by rw [i_sub (ofn_t (k := W) (by omega)) pt (by omega) (by omega), ofn_t (by omega)]; omega)]
        exact k1
      obtain ⟨x, x1, _⟩ := val_n (sx := sx) (tm := tm) (r := q0) K hL r0 T N wt (W - P) q3 H (by omega) r8 (by omega) r6 r7
      rw [l, ep, g1, g2, hc]
      have z := told_alike (p := q4) (tlk_1 x1 k2 (by omega))
      rw [z]
