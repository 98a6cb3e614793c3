/-! one WEEK of the plan: the same as the reference's -/
theorem al_iff {sh : Nat → Nat → Int32} {w h a : Int32} : J_X4_allows sh w h a = 1 ↔ (J_X0_letGo a ≤ J_X4_mostLetGo sh h ∧ J_X0_taken a ≤ J_X4_mostTaken sh w (J_X3_lessYoungestFirst h (J_X0_letGo a)) ∧ J_X0_taught a ≤ J_X4_mostTaught sh (J_X3_lessYoungestFirst h (J_X0_letGo a) + (100 : Int32) * J_X0_taken a) ∧ J_X0_ordered a ≤ J_X4_mostOrdered sh w) := by
  have n0 : ¬ (0 : Int32) = 1 := by decide
  have nl : ∀ x y : Int32, y < x ↔ ¬ x ≤ y := fun x y => by rw [Int32.lt_iff_toInt_lt, Int32.le_iff_toInt_le]; omega
  dsimp only [J_X4_allows]
  by_cases c1 : J_X0_letGo a ≤ J_X4_mostLetGo sh h
  · rw [if_pos c1]
    by_cases c2 : J_X0_taken a ≤ J_X4_mostTaken sh w (J_X3_lessYoungestFirst h (J_X0_letGo a))
    · rw [if_pos c2]
      by_cases c3 : J_X0_taught a ≤ J_X4_mostTaught sh (J_X3_lessYoungestFirst h (J_X0_letGo a) + (100 : Int32) * J_X0_taken a)
      · rw [if_neg (fun q => (nl _ _).mp q c3)]
        by_cases c4 : J_X0_ordered a ≤ J_X4_mostOrdered sh w
        · rw [if_neg (fun q => (nl _ _).mp q c4)]; exact ⟨fun _ => ⟨c1, c2, c3, c4⟩, fun _ => rfl⟩
        · rw [if_pos ((nl _ _).mpr c4)]; exact ⟨fun q => absurd q n0, fun q => absurd q.2.2.2 c4⟩
      · rw [if_pos ((nl _ _).mpr c3)]; exact ⟨fun q => absurd q n0, fun q => absurd q.2.2.1 c3⟩
    · rw [if_neg c2]; exact ⟨fun q => absurd q n0, fun q => absurd q.2.1 c2⟩
  · rw [if_neg c1]; exact ⟨fun q => absurd q n0, fun q => absurd q.1 c1⟩
theorem k3_dec : ∀ j : Fin 50, ∀ d : Fin 3, J_X0_letGo (AK (3 * j.val + d.val)) = Int32.ofNat (j.val / 10) ∧ J_X0_taken (AK (3 * j.val + d.val)) = Int32.ofNat (j.val / 2 % 5) ∧ J_X0_taught (AK (3 * j.val + d.val)) = Int32.ofNat (j.val % 2) ∧ J_X0_ordered (AK (3 * j.val + d.val)) = Int32.ofNat d.val ∧ 0 ≤ (AK (3 * j.val + d.val)).toInt ∧ AK (3 * j.val) + Int32.ofNat d.val = AK (3 * j.val + d.val) := by decide +kernel
theorem k3 {j d : Nat} (hj : j < 50) (hd : d < 3) : J_X0_letGo (AK (3 * j + d)) = Int32.ofNat (j / 10) ∧ J_X0_taken (AK (3 * j + d)) = Int32.ofNat (j / 2 % 5) ∧ J_X0_taught (AK (3 * j + d)) = Int32.ofNat (j % 2) ∧ J_X0_ordered (AK (3 * j + d)) = Int32.ofNat d ∧ 0 ≤ (AK (3 * j + d)).toInt ∧ AK (3 * j) + Int32.ofNat d = AK (3 * j + d) := k3_dec ⟨j, hj⟩ ⟨d, hd⟩
theorem ok_iff {sh sm : Nat → Nat → Int32} {tm : Nat → Nat → Int64} {w : Int32} {h j d M : Nat} (K : HOK sh sm) (hw : 0 ≤ w.toInt ∧ w.toInt < (sh 0 0).toInt) (hh : 0 ≤ (Int32.ofNat h).toInt ∧ (Int32.ofNat h).toInt ≤ 400 ∧ tot (Int32.ofNat h) ≤ 4) (hj : j < 50) (hd : d < 3) (hM : M < 3) (hm : J_X4_mostOrdered sh w = Int32.ofNat M) : bOk sm tm w h (3 * j + d) = true ↔ (cOk sh w (Int32.ofNat h) j = true ∧ d ≤ M) := by
  obtain ⟨k1, k2, k4, k5, k6, _⟩ := k3 hj hd
  have a1 : bOk sm tm w h (3 * j + d) = true ↔ J_X4_allows sh w (Int32.ofNat h) (AK (3 * j + d)) = 1 := by
    unfold bOk
    rcases al_full (sm := sm) (tm := tm) (w := w) (h := Int32.ofNat h) (c := 0) (a := AK (3 * j + d)) K hw hh (by decide) k6 with ⟨x1, x2⟩ | ⟨x1, _, x3, _⟩
    · rw [x1, x2]; exact ⟨fun q => absurd q (by decide), fun q => absurd q (by decide)⟩
    · rw [x1]; exact ⟨fun _ => rfl, fun _ => decide_eq_true x3⟩
  have a2 : Int32.ofNat d ≤ Int32.ofNat M ↔ d ≤ M := by rw [Int32.le_iff_toInt_le, ofn_t (by omega), ofn_t (by omega)]; omega
  rw [a1, al_iff, k1, k2, k4, k5, hm, a2]
  unfold cOk
  rw [Bool.and_eq_true, Bool.and_eq_true, decide_eq_true_eq, decide_eq_true_eq, decide_eq_true_eq]
  exact ⟨fun q => ⟨⟨q.1, q.2.1, q.2.2.1⟩, q.2.2.2⟩, fun q => ⟨q.1.1, q.1.2.1, q.1.2.2, q.2⟩⟩
theorem dn_3 {h : Int32} {j d : Nat} (hj : j < 50) (hd : d < 3) : J_X0_done h (AK (3 * j + d)) = J_X0_done h (AK (3 * j)) := by
  obtain ⟨k1, k2, k4, _⟩ := k3 hj hd
  obtain ⟨z1, z2, z4, _⟩ := k3 (d := 0) hj (by decide)
  rw [Nat.add_zero] at z1 z2 z4
  unfold J_X0_done
  rw [k1, k2, k4, z1, z2, z4]
theorem wc_3 {sh : Nat → Nat → Int32} {w x c : Int32} {j d : Nat} (hj : j < 50) (hd : d < 3) : J_X4_weekCost sh w x c (AK (3 * j + d)) = J_X4_weekCost sh w x c (AK (3 * j)) := by
  obtain ⟨k1, k2, k4, _⟩ := k3 hj hd
  obtain ⟨z1, z2, z4, _⟩ := k3 (d := 0) hj (by decide)
  rw [Nat.add_zero] at z1 z2 z4
  exact wc_act (by rw [k1, z1]) (by rw [k4, z4])
/-- what comes behind, by the plan's table -/
theorem mb_on {sh sm : Nat → Nat → Int32} {tm : Nat → Nat → Int64} {C V : Nat → Int64} {th : Int32} {nx o : Nat} (K : HOK sh sm) (T : TBL sh) (hh : 0 ≤ th.toInt ∧ th.toInt ≤ 400 ∧ tot th ≤ 4) (ht : tot th ≤ (sh 0 1).toInt) (hC : ∀ b, b < 15 → tot (zALL.getD b 0) ≤ (sh 0 1).toInt → C ((3 * nx + o) * 35 + b) = V (nAL b)) : SML (mbT sh C (J_X3_kind th).toNatClampNeg nx o) 15 0 = SML (onT sm tm V th) 50 0 := by
  obtain ⟨k1, k2⟩ := kd_t hh
  rw [onT_k K T hh ht]
  refine sml_c 15 0 (fun b _ hb => ?_)
  have hb : b < 15 := by omega
  unfold mbT
  by_cases c : tot (zALL.getD b 0) ≤ (sh 0 1).toInt
  · rw [hC b hb c]
  · have a3 := (ak (k := b) (by omega)).2.1
    have z := sd_n K T k1 hb
    rw [tbN_0 k1 (by omega)] at z
    rw [l0 z, Int64.zero_mul, Int64.zero_mul]
theorem pl_st {sh sm : Nat → Nat → Int32} {tm : Nat → Nat → Int64} {spl : Nat → Nat → Int32} {L C : Nat → Int64} {R : Nat → Int32} {sc : Int64} {w n W κ c M : Nat} (K : HOK sh sm) (T : TBL sh) (N : HNT (HT sh)) (hW : (sh 0 0).toInt = (W : Int)) (hw : w + (n + 1) = W) (hk : κ < 35) (ht : tot (zALL.getD κ 0) ≤ (sh 0 1).toInt) (hc : c < 3) (hM : M < 3) (hm : J_X4_mostOrdered sh (Int32.ofNat w) = Int32.ofNat M) (hsc : sc = SCN (n + 1) 1)
    (hC : ∀ b o, b < 15 → o ≤ M → tot (zALL.getD b 0) ≤ (sh 0 1).toInt → C ((3 * (w + 1) + o) * 35 + b) = (BVL sm tm W n (nAL b) o).1)
    (hLR : ∀ x, x < 35 → tot (zALL.getD x 0) ≤ (sh 0 1).toInt → ∃ s : Int64 × Int32, (L x, R x) = FO (fun o => SML (mbT sh C x (w + 1) o) 15 0) (M + 1) 0 s)
    (hB : ∀ b o, b < 15 → o < 3 → tot (zALL.getD b 0) ≤ (sh 0 1).toInt → ∃ x : Nat, (BVL sm tm W n (nAL b) o).1.toInt = ((x : Nat) : Int) ∧ x ≤ (10000 * n + 36) * 625 ^ n) :
    FC (cOk sh (Int32.ofNat w) (zALL.getD κ 0)) (cU spl sh L (Int32.ofNat w) (zALL.getD κ 0) (Int32.ofNat c) sc) (cF R (zALL.getD κ 0)) 50 0 (0, MAXL) = ((BVL sm tm W (n + 1) (nAL κ) c).2, (BVL sm tm W (n + 1) (nAL κ) c).1) ∧ ∃ x : Nat, (BVL sm tm W (n + 1) (nAL κ) c).1.toInt = ((x : Nat) : Int) ∧ x ≤ (10000 * (n + 1) + 36) * 625 ^ (n + 1) := by
  have wk := K.2.2.1
  obtain ⟨ak1, ak2, ak3, _⟩ := ak hk
  have vt : (Int32.ofNat w).toInt = (w : Int) := ofn_t (by omega)
  have hw2 : 0 ≤ (Int32.ofNat w).toInt ∧ (Int32.ofNat w).toInt < (sh 0 0).toInt := ⟨by omega, by omega⟩
  have ct : (Int32.ofNat c).toInt = (c : Int) := ofn_t (by omega)
  have hc2 : 0 ≤ (Int32.ofNat c).toInt ∧ (Int32.ofNat c).toInt ≤ 2 := ⟨by omega, by omega⟩
  have es := (parts_v (W := n + 1) (by omega)).2
  have hBn := vb_le (n := n) (by omega)
  have hBn2 := vb_le (n := n + 1) (by omega)
  have e625 : 625 * ((10000 * n + 36) * 625 ^ n) = (10000 * n + 36) * 625 ^ (n + 1) := by rw [Nat.pow_succ, Nat.mul_left_comm, Nat.mul_comm 625]
  have esum : 10000 * 625 ^ (n + 1) + (10000 * n + 36) * 625 ^ (n + 1) = (10000 * (n + 1) + 36) * 625 ^ (n + 1) := by
    rw [← Nat.add_mul]
    exact congrArg (fun z => z * 625 ^ (n + 1)) (by omega)
  -- who does the WEEK
  have dn : ∀ j d, j < 50 → d < 3 → bOk sm tm (Int32.ofNat w) (nAL κ) (3 * j + d) = true → J_X12_after sm tm (Int32.ofNat w) (Int32.ofNat (nAL κ)) (AK (3 * j + d)) = J_X0_done (zALL.getD κ 0) (AK (3 * j)) ∧ ((0 ≤ (J_X0_done (zALL.getD κ 0) (AK (3 * j))).toInt ∧ (J_X0_done (zALL.getD κ 0) (AK (3 * j))).toInt ≤ 400 ∧ tot (J_X0_done (zALL.getD κ 0) (AK (3 * j))) ≤ 4) ∧ tot (J_X0_done (zALL.getD κ 0) (AK (3 * j))) ≤ (sh 0 1).toInt) ∧ J_X4_weekCost sh (Int32.ofNat w) (J_X0_done (zALL.getD κ 0) (AK (3 * j))) (Int32.ofNat c) (AK (3 * j)) = J_X12_costOf sm tm (Int32.ofNat w) (J_X0_done (zALL.getD κ 0) (AK (3 * j))) (Int32.ofNat c) (AK (3 * j + d)) ∧ (0 ≤ (J_X4_weekCost sh (Int32.ofNat w) (J_X0_done (zALL.getD κ 0) (AK (3 * j))) (Int32.ofNat c) (AK (3 * j))).toInt ∧ (J_X4_weekCost sh (Int32.ofNat w) (J_X0_done (zALL.getD κ 0) (AK (3 * j))) (Int32.ofNat c) (AK (3 * j))).toInt ≤ 10000) := fun j d hj hd ok => by
    obtain ⟨k1, k2, k4, k5, k6, _⟩ := k3 hj hd
    rw [← ak3]
    unfold bOk at ok
    have nine := of_decide_eq_true ok
    rw [← ak3] at nine
    rcases al_full (sm := sm) (tm := tm) (w := Int32.ofNat w) (h := zALL.getD κ 0) (c := Int32.ofNat c) (a := AK (3 * j + d)) K hw2 ak1 hc2 k6 with ⟨_, x2⟩ | ⟨x1, x2, x3, x4, x5, x6, _⟩
    · exact absurd x2 nine
    · rw [dn_3 hj hd] at x2 x4 x5 x6
      rw [wc_3 hj hd] at x5
      have al := al_iff.mp x1
      rw [k1, k2, k4] at al
      have g4 := mlg_le (sh := sh) ak1
      have gl := Int32.le_iff_toInt_le.mp al.1
      have tl := Int32.le_iff_toInt_le.mp al.2.2.1
      have mt := mtg_le (sh := sh) (x := J_X3_lessYoungestFirst (zALL.getD κ 0) (Int32.ofNat (j / 10)) + (100 : Int32) * Int32.ofNat (j / 2 % 5))
      obtain ⟨z1, _, z4, _⟩ := k3 (d := 0) hj (by decide)
      rw [Nat.add_zero] at z1 z4
      have cb := cost_b (w := Int32.ofNat w) (d := J_X0_done (zALL.getD κ 0) (AK (3 * j))) (c := Int32.ofNat c) (a := AK (3 * j)) K N x4.1 hc2 (by rw [z1]; exact ⟨by rw [ofn_t (by omega)]; omega, by omega⟩) (by rw [z4]; exact ⟨by rw [ofn_t (by omega)]; omega, by omega⟩) (by rw [z4, ← k4]; exact x6.2)
      exact ⟨x2, x4, x5, cb⟩
  have oiff : ∀ j d, j < 50 → d < 3 → (bOk sm tm (Int32.ofNat w) (nAL κ) (3 * j + d) = true ↔ (cOk sh (Int32.ofNat w) (zALL.getD κ 0) j = true ∧ d ≤ M)) := fun j d hj hd => by
    have z := ok_iff (sm := sm) (tm := tm) (w := Int32.ofNat w) (h := nAL κ) K hw2 (by rw [← ak3]; exact ak1) hj hd hM hm
    rw [← ak3] at z
    exact z
  -- what comes behind
  have onb : ∀ j d, j < 50 → d ≤ M → cOk sh (Int32.ofNat w) (zALL.getD κ 0) j = true → SML (mbT sh C (J_X3_kind (J_X0_done (zALL.getD κ 0) (AK (3 * j)))).toNatClampNeg (w + 1) d) 15 0 = SML (onT sm tm (fun y => (BVL sm tm W n ((3 * y + d) / 3) ((3 * y + d) % 3)).1) (J_X0_done (zALL.getD κ 0) (AK (3 * j)))) 50 0 ∧ ∃ x : Nat, (SML (mbT sh C (J_X3_kind (J_X0_done (zALL.getD κ 0) (AK (3 * j)))).toNatClampNeg (w + 1) d) 15 0).toInt = ((x : Nat) : Int) ∧ x ≤ (10000 * n + 36) * 625 ^ (n + 1) := fun j d hj hd ok => by
    obtain ⟨_, ⟨q1, q2⟩, _⟩ := dn j d hj (by omega) ((oiff j d hj (by omega)).mpr ⟨ok, hd⟩)
    have sim : ∀ y : Nat, (BVL sm tm W n ((3 * y + d) / 3) ((3 * y + d) % 3)).1 = (BVL sm tm W n y d).1 := fun y => by rw [show (3 * y + d) / 3 = y from by omega, show (3 * y + d) % 3 = d from by omega]
    have e := mb_on (sm := sm) (tm := tm) (C := C) (V := fun y => (BVL sm tm W n ((3 * y + d) / 3) ((3 * y + d) % 3)).1) (nx := w + 1) (o := d) K T q1 q2 (fun b hb hz => by
      show _ = (BVL sm tm W n ((3 * nAL b + d) / 3) ((3 * nAL b + d) % 3)).1
      rw [sim]; exact hC b d hb hd hz)
    refine ⟨e, ?_⟩
    rw [e, ← e625]
    exact onT_n K T q1 q2 (by rw [e625]; omega) (fun b hb hz => by
      show ∃ x : Nat, (BVL sm tm W n ((3 * nAL b + d) / 3) ((3 * nAL b + d) % 3)).1.toInt = _ ∧ _
      rw [sim]; exact hB b d hb (by omega) hz)
  -- numbers
  obtain ⟨cn, hcn⟩ : ∃ f : Nat → Nat, f = fun j => (J_X4_weekCost sh (Int32.ofNat w) (J_X0_done (zALL.getD κ 0) (AK (3 * j))) (Int32.ofNat c) (AK (3 * j))).toInt.toNat * 625 ^ (n + 1) := ⟨_, rfl⟩
  obtain ⟨on, hon⟩ : ∃ f : Nat → Nat → Nat, f = fun j d => (SML (mbT sh C (J_X3_kind (J_X0_done (zALL.getD κ 0) (AK (3 * j)))).toNatClampNeg (w + 1) d) 15 0).toInt.toNat := ⟨_, rfl⟩
  have on_v : ∀ j d, j < 50 → d ≤ M → cOk sh (Int32.ofNat w) (zALL.getD κ 0) j = true → (SML (mbT sh C (J_X3_kind (J_X0_done (zALL.getD κ 0) (AK (3 * j)))).toNatClampNeg (w + 1) d) 15 0).toInt = ((on j d : Nat) : Int) ∧ on j d ≤ (10000 * n + 36) * 625 ^ (n + 1) := fun j d hj hd ok => by
    obtain ⟨_, x, x1, x2⟩ := onb j d hj hd ok
    subst hon
    show _ = (((SML (mbT sh C (J_X3_kind (J_X0_done (zALL.getD κ 0) (AK (3 * j)))).toNatClampNeg (w + 1) d) 15 0).toInt.toNat : Nat) : Int) ∧ (SML (mbT sh C (J_X3_kind (J_X0_done (zALL.getD κ 0) (AK (3 * j)))).toNatClampNeg (w + 1) d) 15 0).toInt.toNat ≤ _
    rw [x1, Int.toNat_natCast]
    exact ⟨rfl, x2⟩
  have cn_v : ∀ j, j < 50 → cOk sh (Int32.ofNat w) (zALL.getD κ 0) j = true → ((J_X4_weekCost sh (Int32.ofNat w) (J_X0_done (zALL.getD κ 0) (AK (3 * j))) (Int32.ofNat c) (AK (3 * j))).toInt64 * sc).toInt = ((cn j : Nat) : Int) ∧ cn j ≤ 10000 * 625 ^ (n + 1) := fun j hj ok => by
    obtain ⟨_, _, _, q1, q2⟩ := dn j 0 hj (by decide) ((oiff j 0 hj (by decide)).mpr ⟨ok, Nat.zero_le _⟩)
    subst hcn hsc
    have ec : (J_X4_weekCost sh (Int32.ofNat w) (J_X0_done (zALL.getD κ 0) (AK (3 * j))) (Int32.ofNat c) (AK (3 * j))).toInt64.toInt = (((J_X4_weekCost sh (Int32.ofNat w) (J_X0_done (zALL.getD κ 0) (AK (3 * j))) (Int32.ofNat c) (AK (3 * j))).toInt.toNat : Nat) : Int) := by rw [Int32.toInt_toInt64]; omega
    have m1 := Nat.mul_le_mul (show (J_X4_weekCost sh (Int32.ofNat w) (J_X0_done (zALL.getD κ 0) (AK (3 * j))) (Int32.ofNat c) (AK (3 * j))).toInt.toNat ≤ 10000 by omega) (Nat.le_refl (625 ^ (n + 1)))
    exact ⟨l_mulN ec es (by omega), m1⟩
  -- the class
  have lr : ∀ j, j < 50 → cOk sh (Int32.ofNat w) (zALL.getD κ 0) j = true → ∃ b, FM (fun _ => True) (on j) (M + 1) b ∧ L (J_X3_kind (J_X0_done (zALL.getD κ 0) (AK (3 * j)))).toNatClampNeg = SML (mbT sh C (J_X3_kind (J_X0_done (zALL.getD κ 0) (AK (3 * j)))).toNatClampNeg (w + 1) b) 15 0 ∧ R (J_X3_kind (J_X0_done (zALL.getD κ 0) (AK (3 * j)))).toNatClampNeg = Int32.ofNat b := fun j hj ok => by
    obtain ⟨_, ⟨q1, q2⟩, _⟩ := dn j 0 hj (by decide) ((oiff j 0 hj (by decide)).mpr ⟨ok, Nat.zero_le _⟩)
    obtain ⟨k1, k2⟩ := kd_t q1
    have ke := (kd_v q1).1
    obtain ⟨s, hs⟩ := hLR _ k1 (by rw [ke]; exact q2)
    obtain ⟨b, b1, b2⟩ := fo1_fm (v := fun o => SML (mbT sh C (J_X3_kind (J_X0_done (zALL.getD κ 0) (AK (3 * j)))).toNatClampNeg (w + 1) o) 15 0) (vn := on j) (M := M) (s := s) (fun o ho => (on_v j o hj ho ok).1)
    rw [b2] at hs
    obtain ⟨z1, z2⟩ := pk_pair hs
    exact ⟨b, b1, z1, z2⟩
  obtain ⟨or, hor⟩ : ∃ f : Nat → Nat, ∀ j, j < 50 → cOk sh (Int32.ofNat w) (zALL.getD κ 0) j = true → FM (fun _ => True) (on j) (M + 1) (f j) ∧ L (J_X3_kind (J_X0_done (zALL.getD κ 0) (AK (3 * j)))).toNatClampNeg = SML (mbT sh C (J_X3_kind (J_X0_done (zALL.getD κ 0) (AK (3 * j)))).toNatClampNeg (w + 1) (f j)) 15 0 ∧ R (J_X3_kind (J_X0_done (zALL.getD κ 0) (AK (3 * j)))).toNatClampNeg = Int32.ofNat (f j) := by
    refine ⟨fun j => (R (J_X3_kind (J_X0_done (zALL.getD κ 0) (AK (3 * j)))).toNatClampNeg).toNatClampNeg, fun j hj ok => ?_⟩
    obtain ⟨b, b1, b2, b3⟩ := lr j hj ok
    have bM := b1.1
    have eb : (R (J_X3_kind (J_X0_done (zALL.getD κ 0) (AK (3 * j)))).toNatClampNeg).toNatClampNeg = b := by rw [b3]; exact ofn_c (by omega)
    show FM (fun _ => True) (on j) (M + 1) ((R (J_X3_kind (J_X0_done (zALL.getD κ 0) (AK (3 * j)))).toNatClampNeg).toNatClampNeg) ∧ L (J_X3_kind (J_X0_done (zALL.getD κ 0) (AK (3 * j)))).toNatClampNeg = SML (mbT sh C (J_X3_kind (J_X0_done (zALL.getD κ 0) (AK (3 * j)))).toNatClampNeg (w + 1) ((R (J_X3_kind (J_X0_done (zALL.getD κ 0) (AK (3 * j)))).toNatClampNeg).toNatClampNeg)) 15 0 ∧ R (J_X3_kind (J_X0_done (zALL.getD κ 0) (AK (3 * j)))).toNatClampNeg = Int32.ofNat ((R (J_X3_kind (J_X0_done (zALL.getD κ 0) (AK (3 * j)))).toNatClampNeg).toNatClampNeg)
    rw [eb]
    exact ⟨b1, b2, b3⟩
  have un : ∀ j, j < 50 → cOk sh (Int32.ofNat w) (zALL.getD κ 0) j = true → (cU spl sh L (Int32.ofNat w) (zALL.getD κ 0) (Int32.ofNat c) sc j).toInt = ((cn j + on j (or j) : Nat) : Int) := fun j hj ok => by
    obtain ⟨o1, o2, _⟩ := hor j hj ok
    obtain ⟨c1, c2⟩ := cn_v j hj ok
    obtain ⟨d1, d2⟩ := on_v j (or j) hj (by have := o1.1; omega) ok
    unfold cU
    rw [o2]
    exact l_add c1 d1 (by omega)
  have ok0 : bOk sm tm (Int32.ofNat w) (nAL κ) 0 = true := bok_0 K hw2 (by rw [← ak3]; exact ak1) (by rw [← ak3]; exact ht)
  have okj : cOk sh (Int32.ofNat w) (zALL.getD κ 0) 0 = true := ((oiff 0 0 (by decide) (by decide)).mp ok0).1
  obtain ⟨j0, f1, f2⟩ := car_fm (ok := cOk sh (Int32.ofNat w) (zALL.getD κ 0)) (u := cU spl sh L (Int32.ofNat w) (zALL.getD κ 0) (Int32.ofNat c) sc) (fo := cF R (zALL.getD κ 0)) (un := fun j => cn j + on j (or j)) un okj (by
    obtain ⟨o1, _, _⟩ := hor 0 (by decide) okj
    have c2 := (cn_v 0 (by decide) okj).2
    have d2 := (on_v 0 (or 0) (by decide) (by have := o1.1; omega) okj).2
    show cn 0 + on 0 (or 0) < _
    omega)
  -- the reference
  obtain ⟨vn, hvn⟩ : ∃ f : Nat → Nat, f = fun k => cn (k / 3) + on (k / 3) (k % 3) := ⟨_, rfl⟩
  have vv : ∀ k, k < 150 → bOk sm tm (Int32.ofNat w) (nAL κ) k = true → (bV sm tm (Int32.ofNat w) (SCN (n + 1) 1) (fun x => (BVL sm tm W n (x / 3) (x % 3)).1) (nAL κ) c k).toInt = ((vn k : Nat) : Int) ∧ vn k ≤ (10000 * (n + 1) + 36) * 625 ^ (n + 1) := fun k hk ok => by
    have ek : k = 3 * (k / 3) + k % 3 := by omega
    have ok2 : bOk sm tm (Int32.ofNat w) (nAL κ) (3 * (k / 3) + k % 3) = true := by rw [← ek]; exact ok
    obtain ⟨oj, od⟩ := (oiff (k / 3) (k % 3) (by omega) (by omega)).mp ok2
    obtain ⟨q1, _, q3, _⟩ := dn (k / 3) (k % 3) (by omega) (by omega) ok2
    rw [← ek] at q1 q3
    obtain ⟨c1, c2⟩ := cn_v (k / 3) (by omega) oj
    obtain ⟨d1, d2⟩ := on_v (k / 3) (k % 3) (by omega) od oj
    have e2 := (onb (k / 3) (k % 3) (by omega) od oj).1
    subst hvn
    refine ⟨?_, by show cn (k / 3) + on (k / 3) (k % 3) ≤ _; omega⟩
    unfold bV
    rw [q1, ← q3, ← e2, ← hsc]
    exact l_add c1 d1 (by omega)
  obtain ⟨b, g1, g2⟩ := fb1_fm (ok := bOk sm tm (Int32.ofNat w) (nAL κ)) (v := bV sm tm (Int32.ofNat w) (SCN (n + 1) 1) (fun x => (BVL sm tm W n (x / 3) (x % 3)).1) (nAL κ) c) (vn := vn) (fun k hk ok => (vv k hk ok).1) ok0
  have eB : BVL sm tm W (n + 1) (nAL κ) c = FB1 (bOk sm tm (Int32.ofNat w) (nAL κ)) (bV sm tm (Int32.ofNat w) (SCN (n + 1) 1) (fun x => (BVL sm tm W n (x / 3) (x % 3)).1) (nAL κ) c) := by
    show FB1 (bOk sm tm (Int32.ofNat (W - (n + 1))) (nAL κ)) (bV sm tm (Int32.ofNat (W - (n + 1))) (SCN (n + 1) 1) (fun x => (BVL sm tm W n (x / 3) (x % 3)).1) (nAL κ) c) = _
    rw [show W - (n + 1) = w from by omega]
  have fk := fm_2 (okK := fun k => bOk sm tm (Int32.ofNat w) (nAL κ) k = true) (okJ := fun j => cOk sh (Int32.ofNat w) (zALL.getD κ 0) j = true) (M := M) (v := vn) (c := cn) (o := on) (or := or) hM oiff (fun j d hj ok hd => by subst hvn; show cn ((3 * j + d) / 3) + on ((3 * j + d) / 3) ((3 * j + d) % 3) = _; rw [show (3 * j + d) / 3 = j from by omega, show (3 * j + d) % 3 = d from by omega]) (fun j hj ok => (hor j hj ok).1) f1
  have eb : b = 3 * j0 + or j0 := fm_1 g1 fk
  obtain ⟨j1, j2, _⟩ := f1
  obtain ⟨o1, o2, o3⟩ := hor j0 j1 j2
  have oM := o1.1
  obtain ⟨v1, v2⟩ := vv b g1.1 g1.2.1
  rw [eB, g2]
  refine ⟨?_, vn b, v1, v2⟩
  rw [f2]
  have p1 : cF R (zALL.getD κ 0) j0 = AK b := by
    unfold cF
    rw [o3, eb]
    exact (k3 j1 (by omega)).2.2.2.2.2
  have p2 : cU spl sh L (Int32.ofNat w) (zALL.getD κ 0) (Int32.ofNat c) sc j0 = bV sm tm (Int32.ofNat w) (SCN (n + 1) 1) (fun x => (BVL sm tm W n (x / 3) (x % 3)).1) (nAL κ) c b := Int64.toInt_inj.mp (by
    rw [un j0 j1 j2, v1, eb]
    subst hvn
    show ((cn j0 + on j0 (or j0) : Nat) : Int) = ((cn ((3 * j0 + or j0) / 3) + on ((3 * j0 + or j0) / 3) ((3 * j0 + or j0) % 3) : Nat) : Int)
    rw [show (3 * j0 + or j0) / 3 = j0 from by omega, show (3 * j0 + or j0) % 3 = or j0 from by omega])
  rw [p1, p2]
