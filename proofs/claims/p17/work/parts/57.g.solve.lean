/-! the whole plan -/
theorem sc_dec : ∀ n : Fin 6, zSCA.getD n.val 0 = SCN n.val 1 := by decide +kernel
def PLT (sh sm : Nat → Nat → Int32) (tm : Nat → Nat → Int64) (W MC N : Nat) (C : Nat → Int64) (F : Nat → Int32) : Prop := ∀ u κ c, N ≤ u → u ≤ W → κ < 35 → tot (zALL.getD κ 0) ≤ (sh 0 1).toInt → c ≤ (if u = W then 0 else MC) → C ((3 * u + c) * 35 + κ) = (BVL sm tm W (W - u) (nAL κ) c).1 ∧ (u < W → F ((3 * u + c) * 35 + κ) = (BVL sm tm W (W - u) (nAL κ) c).2)
def BVB (sh sm : Nat → Nat → Int32) (tm : Nat → Nat → Int64) (W n : Nat) : Prop := ∀ κ c, κ < 35 → c < 3 → tot (zALL.getD κ 0) ≤ (sh 0 1).toInt → ∃ x : Nat, (BVL sm tm W n (nAL κ) c).1.toInt = ((x : Nat) : Int) ∧ x ≤ (10000 * n + 36) * 625 ^ n
theorem bvb_0 {sh sm : Nat → Nat → Int32} {tm : Nat → Nat → Int64} {W : Nat} (K : HOK sh sm) (N : HNT (HT sh)) : BVB sh sm tm W 0 := fun κ c hk _ _ => by
  have b := bonus_b K N (ak hk).1
  have e : (BVL sm tm W 0 (nAL κ) c).1.toInt = (J_X4_bonusFor sh (zALL.getD κ 0)).toInt := by
    show ((J_X12_bonus sm tm (Int32.ofNat (nAL κ))).toInt64).toInt = _
    rw [Int32.toInt_toInt64, nk_v hk, bonus_alike (tm := tm) K]
  refine ⟨(J_X4_bonusFor sh (zALL.getD κ 0)).toInt.toNat, by rw [e]; omega, ?_⟩
  rw [Nat.pow_zero, Nat.mul_one]
  omega
theorem mc_v {sh : Nat → Nat → Int32} : ∃ MC : Nat, MC < 3 ∧ J_X4_mostComing sh = Int32.ofNat MC := by
  unfold J_X4_mostComing
  by_cases q : sh 0 10 = -9
  · rw [if_pos q]; exact ⟨0, by decide, rfl⟩
  · rw [if_neg q]; exact ⟨2, by decide, rfl⟩
theorem mo_v {sh : Nat → Nat → Int32} {w W MC : Nat} (hW : sh 0 0 = Int32.ofNat W) (hw : w < W) (h5 : W ≤ 5) (hm : J_X4_mostComing sh = Int32.ofNat MC) : J_X4_mostOrdered sh (Int32.ofNat w) = Int32.ofNat (if w + 1 = W then 0 else MC) := by
  have e : Int32.ofNat W - 1 = Int32.ofNat (W - 1) := Int32.toInt_inj.mp (by rw [i_sub (ofn_t (k := W) (by omega)) (by decide : (1 : Int32).toInt = 1) (by omega) (by omega), ofn_t (by omega)]; omega)
  unfold J_X4_mostOrdered
  rw [hW, e]
  by_cases q : w + 1 = W
  · rw [if_pos q, if_pos (by rw [show W - 1 = w from by omega])]; rfl
  · have nq : ¬ Int32.ofNat w = Int32.ofNat (W - 1) := fun z => q (by
      have y := congrArg Int32.toInt z
      rw [ofn_t (by omega), ofn_t (by omega)] at y
      omega)
    rw [if_neg q, if_neg nq]
    exact hm
set_option maxHeartbeats 4000000 in
theorem sv_w {spl sh sm : Nat → Nat → Int32} {tpl tm : Nat → Nat → Int64} {v16 : Int32} {g17 : Nat → Int64} {W MC : Nat} (K : HOK sh sm) (T : TBL sh) (N : HNT (HT sh)) (hW : sh 0 0 = Int32.ofNat W) (h5 : W ≤ 5) (hMC : MC < 3) (hm : J_X4_mostComing sh = Int32.ofNat MC) : ∀ (n f : Nat) (g1 : Nat → Int64) (g2 : Nat → Int32) (g3 : Nat → Int64) (g4 : Nat → Int32), n ≤ W → n + 1 ≤ f → PLT sh sm tm W MC n g1 g2 → BVB sh sm tm W (W - n) → ∃ (C : Nat → Int64) (F : Nat → Int32) (L : Nat → Int64) (R : Nat → Int32), LTs (Sum.inl default) (B_X6_solve_53_2 spl tpl sh v16 g17) f (Int32.ofNat n + (-1), g1, g2, g3, g4) = Sum.inr (sh 0 0, C, F, L, R) ∧ PLT sh sm tm W MC 0 C F ∧ ∀ m, m ≤ W → W - n ≤ m → BVB sh sm tm W m
  | 0, f, g1, g2, g3, g4, hn, hf, H, HB => by
    obtain ⟨f2, rfl⟩ : ∃ f2, f = f2 + 1 := ⟨f - 1, by omega⟩
    have e2 : B_X6_solve_53_2 spl tpl sh v16 g17 (Int32.ofNat 0 + (-1), g1, g2, g3, g4) = Sum.inr (Sum.inr (sh 0 0, g1, g2, g3, g4)) := rfl
    refine ⟨g1, g2, g3, g4, LT_en e2, H, fun m q1 q2 => ?_⟩
    rw [show m = W - 0 from by omega]; exact HB
  | n + 1, f, g1, g2, g3, g4, hn, hf, H, HB => by
    obtain ⟨f2, rfl⟩ : ∃ f2, f = f2 + 1 := ⟨f - 1, by omega⟩
    have ue : Int32.ofNat (n + 1) + (-1) = Int32.ofNat n := Int32.toInt_inj.mp (by rw [i_add (ofn_t (k := n + 1) (by omega)) (by decide : (-1 : Int32).toInt = -1) (by omega) (by omega), ofn_t (by omega)]; omega)
    rw [ue]
    have c : ¬ Int32.ofNat n < 0 := fun q => by have := f_lt (ofn_t (k := n) (by omega)) (by decide : (0 : Int32).toInt = 0) q; omega
    have wt : (sh 0 0).toInt = (W : Int) := by rw [hW, ofn_t (by omega)]
    have H4 := K.2.2.2.2.2.1
    have tot_i : ∀ x, x < 35 → (J_X3_total (zALL.getD x 0) ≤ sh 0 1 ↔ tot (zALL.getD x 0) ≤ (sh 0 1).toInt) := fun x hx => by rw [Int32.le_iff_toInt_le, show (J_X3_total (zALL.getD x 0)).toInt = tot (zALL.getD x 0) from tot_t (ak hx).1.1]
    obtain ⟨L, R, l1, l2⟩ := co_v (spl := up2 (up2 (up2 spl 0 (upd (spl 0) 0 (sh 0 0))) 2 g2) 4 g4) (sh := sh) (tpl := up2L (up2L tpl 1 g1) 3 g3) (w := n) (by omega) (by by_cases q : n + 1 = W; (rw [if_pos q]; decide); (rw [if_neg q]; exact hMC)) (mo_v hW (by omega) h5 hm)
    obtain ⟨G, Q, s1, s2, s3⟩ := cs_v (spl := up2 (up2 (up2 spl 0 (upd (spl 0) 0 (sh 0 0))) 2 g2) 4 R) (sh := sh) (tpl := up2L (up2L tpl 1 g1) 3 L) (w := n) H4 (by omega) hMC hm
    have e2 : B_X6_solve_53_2 spl tpl sh v16 g17 (Int32.ofNat n, g1, g2, g3, g4) = (fun y : (Nat → Int64) × (Nat → Int32) => (fun z : (Nat → Int64) × (Nat → Int32) => (Sum.inl (Int32.ofNat n + (-1), z.1, z.2, y.1, y.2) : Sum (Int32 × (Nat → Int64) × (Nat → Int32) × (Nat → Int64) × (Nat → Int32)) (Sum (Int32 × (Nat → Int64)) (Int32 × (Nat → Int64) × (Nat → Int32) × (Nat → Int64) × (Nat → Int32))))) (J_X6_chooseActs (up2 (up2 (up2 spl 0 (upd (spl 0) 0 (sh 0 0))) 2 g2) 4 y.2) (up2L (up2L tpl 1 g1) 3 y.1) sh (Int32.ofNat n))) (J_X6_chooseOrders (up2 (up2 (up2 spl 0 (upd (spl 0) 0 (sh 0 0))) 2 g2) 4 g4) (up2L (up2L tpl 1 g1) 3 g3) sh (Int32.ofNat n)) := by
      unfold B_X6_solve_53_2
      try dsimp only [LetF]
      exact if_neg c
    rw [l1] at e2
    have e3 := e2.trans (congrArg (fun z : (Nat → Int64) × (Nat → Int32) => (Sum.inl (Int32.ofNat n + (-1), z.1, z.2, L, R) : Sum (Int32 × (Nat → Int64) × (Nat → Int32) × (Nat → Int64) × (Nat → Int32)) (Sum (Int32 × (Nat → Int64)) (Int32 × (Nat → Int64) × (Nat → Int32) × (Nat → Int64) × (Nat → Int32))))) s1)
    have sc : J_X6_scale (up2 (up2 (up2 spl 0 (upd (spl 0) 0 (sh 0 0))) 2 g2) 4 R) (up2L (up2L tpl 1 g1) 3 L) (Int32.ofNat n) = SCN (W - (n + 1) + 1) 1 := by
      show zSCA.getD (sh 0 0 - Int32.ofNat n).toNatClampNeg 0 = _
      rw [hW, show Int32.ofNat W - Int32.ofNat n = Int32.ofNat (W - n) from Int32.toInt_inj.mp (by rw [i_sub (ofn_t (k := W) (by omega)) (ofn_t (k := n) (by omega)) (by omega) (by omega), ofn_t (by omega)]; omega), ofn_c (by omega), show W - (n + 1) + 1 = W - n from by omega]
      exact sc_dec ⟨W - n, by omega⟩
    have st : ∀ κ d, κ < 35 → d < 3 → tot (zALL.getD κ 0) ≤ (sh 0 1).toInt → _ := fun κ d hk hd hz => pl_st (sm := sm) (tm := tm) (spl := up2 (up2 (up2 spl 0 (upd (spl 0) 0 (sh 0 0))) 2 g2) 4 R) (L := L) (C := g1) (R := R) (sc := J_X6_scale (up2 (up2 (up2 spl 0 (upd (spl 0) 0 (sh 0 0))) 2 g2) 4 R) (up2L (up2L tpl 1 g1) 3 L) (Int32.ofNat n)) (w := n) (n := W - (n + 1)) (W := W) (κ := κ) (c := d) (M := if n + 1 = W then 0 else MC) K T N wt (by omega) hk hz hd (by by_cases q : n + 1 = W; (rw [if_pos q]; decide); (rw [if_neg q]; exact hMC)) (mo_v hW (by omega) h5 hm) sc (fun b o hb ho hz2 => (H (n + 1) b o (Nat.le_refl _) (by omega) (by omega) hz2 ho).1) (fun x hx hz2 => l2 x hx ((tot_i x hx).mpr hz2)) (fun b o hb ho hz2 => HB b o (by omega) ho hz2)
    have em : W - (n + 1) + 1 = W - n := by omega
    have HB2 : BVB sh sm tm W (W - n) := fun κ d hk hd hz => by
      have z := (st κ d hk hd hz).2
      rw [em] at z
      exact z
    have H2 : PLT sh sm tm W MC n G Q := fun u κ d h1 h2 hk hz hd => by
      by_cases q : u = n
      · subst q
        have nW : ¬ u = W := by omega
        rw [if_neg nW] at hd
        have z := s3 d κ hd hk ((tot_i κ hk).mpr hz)
        have y := (st κ d hk (by omega) hz).1
        rw [em] at y
        obtain ⟨a1, a2⟩ := pk_pair (z.trans y)
        exact ⟨a2, fun _ => a1⟩
      · obtain ⟨a1, a2⟩ := s2 ((3 * u + d) * 35 + κ) (fun d2 y hd2 hy => by
          have d3 : d < 3 := by by_cases qq : u = W; (rw [if_pos qq] at hd; omega); (rw [if_neg qq] at hd; omega)
          omega)
        obtain ⟨b1, b2⟩ := H u κ d (by omega) h2 hk hz hd
        exact ⟨a1.trans b1, fun z => a2.trans (b2 z)⟩
    obtain ⟨C, F, L2, R2, r1, r2, r3⟩ := sv_w (spl := spl) (tpl := tpl) (v16 := v16) (g17 := g17) K T N hW h5 hMC hm n f2 G Q L R (by omega) (by omega) H2 HB2
    refine ⟨C, F, L2, R2, by rw [LT_st e3]; exact r1, r2, fun m q1 q2 => ?_⟩
    by_cases q : m = W - (n + 1)
    · rw [q]; exact HB
    · exact r3 m q1 (by omega)
theorem sv_i {spl sh sm : Nat → Nat → Int32} {tpl tm : Nat → Nat → Int64} {W MC : Nat} (K : HOK sh sm) (T : TBL sh) (N : HNT (HT sh)) (hW : sh 0 0 = Int32.ofNat W) (h5 : W ≤ 5) (hMC : MC < 3) (hm : J_X4_mostComing sh = Int32.ofNat MC) : ∀ (n κ : Nat) (g : Nat → Int64), κ + n = 35 → (∀ x, x < κ → g (3 * W * 35 + x) = (J_X4_bonusFor sh (zALL.getD x 0)).toInt64) → ∃ (C : Nat → Int64) (F : Nat → Int32) (L : Nat → Int64) (R : Nat → Int32), LTs default (B_X6_solve_10 spl tpl sh) (n + 1) (Int32.ofNat κ, g) = (sh 0 0, C, F, L, R) ∧ PLT sh sm tm W MC 0 C F ∧ ∀ m, m ≤ W → BVB sh sm tm W m
  | 0, κ, g, h, hg => by
    have e : κ = 35 := by omega
    subst e
    have H : PLT sh sm tm W MC W g (spl 2) := fun u κ d h1 h2 hk hz hd => by
      have eu : u = W := by omega
      subst eu
      rw [if_pos rfl] at hd
      have ed : d = 0 := by omega
      subst ed
      refine ⟨?_, fun z => by omega⟩
      rw [show (3 * u + 0) * 35 + κ = 3 * u * 35 + κ from by omega, hg κ hk, Nat.sub_self]
      show _ = (J_X12_bonus sm tm (Int32.ofNat (nAL κ))).toInt64
      rw [nk_v hk, bonus_alike (tm := tm) K]
    obtain ⟨C, F, L, R, r1, r2, r3⟩ := sv_w (spl := spl) (sm := sm) (tpl := tpl) (tm := tm) (v16 := Int32.ofNat 35) (g17 := g) K T N hW h5 hMC hm W 6 g (spl 2) (tpl 3) (spl 4) (Nat.le_refl W) (by omega) H (by rw [Nat.sub_self]; exact bvb_0 K N)
    have e1 : ∀ v : Int32, 35 ≤ v → B_X6_solve_10 spl tpl sh (v, g) = LTs (Sum.inl default) (B_X6_solve_53_2 spl tpl sh v g) 6 ((sh 0 0 - (1 : Int32)), g, (spl 2), (tpl 3), (spl 4)) := fun v hv => if_pos hv
    have e2 := e1 (Int32.ofNat 35) (by decide)
    have u : sh 0 0 - (1 : Int32) = Int32.ofNat W + (-1) := by
      rw [hW]
      exact Int32.toInt_inj.mp (by rw [i_sub (ofn_t (k := W) (by omega)) (by decide : (1 : Int32).toInt = 1) (by omega) (by omega), i_add (ofn_t (k := W) (by omega)) (by decide : (-1 : Int32).toInt = -1) (by omega) (by omega)]; omega)
    rw [u] at e2
    exact ⟨C, F, L, R, LT_en (e2.trans r1), r2, fun m q => r3 m q (by omega)⟩
  | n + 1, κ, g, h, hg => by
    have ck : ¬ (35 : Int32) ≤ Int32.ofNat κ := fun q => by have := f_le (by decide : (35 : Int32).toInt = 35) (ofn_t (k := κ) (by omega)) q; omega
    have ek : (Int32.ofNat κ).toNatClampNeg = κ := ofn_c (by omega)
    have e2 : B_X6_solve_10 spl tpl sh (Int32.ofNat κ, g) = Sum.inl (Int32.ofNat κ + 1, vp_updL g (J_X6_place (sh 0 0) (Int32.ofNat κ) 0).toNatClampNeg (J_X4_bonusFor sh (zALL.getD (Int32.ofNat κ).toNatClampNeg 0)).toInt64) := by
      unfold B_X6_solve_10
      try dsimp only [LetF]
      exact if_neg ck
    have pi : (J_X6_place (sh 0 0) (Int32.ofNat κ) 0).toNatClampNeg = 3 * W * 35 + κ := by
      rw [hW]
      exact (pl_i (w := W) (κ := κ) (c := 0) h5 (by omega) (by decide)).trans (by omega)
    rw [ek, pi] at e2
    obtain ⟨C, F, L, R, r1, r2⟩ := sv_i (spl := spl) (sm := sm) (tpl := tpl) (tm := tm) K T N hW h5 hMC hm n (κ + 1) (vp_updL g (3 * W * 35 + κ) (J_X4_bonusFor sh (zALL.getD κ 0)).toInt64) (by omega) (fun x hx => by
      by_cases q : x = κ
      · rw [q, updL_s]
      · rw [updL_n (by omega)]; exact hg x (by omega))
    exact ⟨C, F, L, R, by rw [LT_st e2, ofn_s (by omega)]; exact r1, r2⟩
/-- the plan is the reference's best -/
theorem sv_v {spl sh sm : Nat → Nat → Int32} {tpl tm : Nat → Nat → Int64} {W MC : Nat} (K : HOK sh sm) (T : TBL sh) (N : HNT (HT sh)) (hW : sh 0 0 = Int32.ofNat W) (h5 : W ≤ 5) (hMC : MC < 3) (hm : J_X4_mostComing sh = Int32.ofNat MC) : ∃ (C : Nat → Int64) (F : Nat → Int32) (L : Nat → Int64) (R : Nat → Int32), J_X6_solve spl tpl sh = (sh 0 0, C, F, L, R) ∧ PLT sh sm tm W MC 0 C F ∧ ∀ m, m ≤ W → BVB sh sm tm W m := sv_i K T N hW h5 hMC hm 35 0 (tpl 1) rfl (fun x hx => by omega)
