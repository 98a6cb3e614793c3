theorem kind_o : ∀ k : Fin 35, J_X3_kind (zALL.getD k.val 0) = Int32.ofNat k.val := by decide +kernel
theorem gr {g t e : Nat} (hg : g < 5) (ht : t < 5) (he : e < 2) : (10 * g + 2 * t + e) / 10 = g ∧ (10 * g + 2 * t + e) / 2 % 5 = t ∧ (10 * g + 2 * t + e) % 2 = e := ⟨by omega, by omega, by omega⟩
theorem mtg_le {sh : Nat → Nat → Int32} {x : Int32} : (J_X4_mostTaught sh x).toInt ≤ 1 := by
  unfold J_X4_mostTaught
  by_cases q1 : sh 0 9 = -9
  · rw [if_pos q1]; decide
  · rw [if_neg q1]
    by_cases q2 : J_X3_ofAge x 0 ≤ 0
    · rw [if_pos q2]; decide
    · rw [if_neg q2]
      by_cases q3 : J_X3_ofAge x 2 ≤ 0
      · rw [if_pos q3]; decide
      · rw [if_neg q3]; decide
theorem mtk_le {sh : Nat → Nat → Int32} {w h : Int32} (H : ∀ j, 0 ≤ (sh 2 j).toInt ∧ (sh 2 j).toInt ≤ 4) : (J_X4_mostTaken sh w h).toInt ≤ 4 := by
  have o := H w.toNatClampNeg
  unfold J_X4_mostTaken
  by_cases q : sh 0 1 - J_X3_total h < sh 2 w.toNatClampNeg
  · rw [if_pos q]
    have := Int32.lt_iff_toInt_lt.mp q
    omega
  · rw [if_neg q]; exact o.2
theorem mlg_le {sh : Nat → Nat → Int32} {h : Int32} (hh : 0 ≤ h.toInt ∧ h.toInt ≤ 400 ∧ tot h ≤ 4) : (J_X4_mostLetGo sh h).toInt ≤ 4 := by
  unfold J_X4_mostLetGo
  by_cases q : sh 0 8 = -9
  · rw [if_pos q]; decide
  · rw [if_neg q, show (J_X3_total h).toInt = tot h from tot_t hh.1]; exact hh.2.2
theorem ca_t {spl sh : Nat → Nat → Int32} {tpl : Nat → Nat → Int64} {p0 p1 p2 v55 : Int32} {v56 y4 : Int64} {y9 : Int32} {g : Nat} (hg : g < 5) (o1 : Int32.ofNat g ≤ J_X4_mostLetGo sh p1) (H : ∀ j, 0 ≤ (sh 2 j).toInt ∧ (sh 2 j).toInt ≤ 4) : ∀ (n t f : Nat) (F : Int32) (L : Int64), t + n = 5 → n + 1 ≤ f → ∃ s : Int32 × Int64, LTs (Sum.inl default) (B_X6_chooseAct_52_2 spl tpl sh p0 p1 p2 (Int32.ofNat g) v55 v56 y4 y9 (J_X4_mostTaken sh p0 (J_X3_lessYoungestFirst p1 (Int32.ofNat g)))) f (Int32.ofNat t, F, L) = Sum.inl (Int32.ofNat (g + 1), s.1, s.2) ∧ s = FC (cOk sh p0 p1) (cU spl sh (tpl 3) p0 p1 p2 y4) (cF (spl 4) p1) (2 * n) (10 * g + 2 * t) (F, L)
  | 0, t, f, F, L, h1, h2 => by
    obtain ⟨f2, rfl⟩ : ∃ f2, f = f2 + 1 := ⟨f - 1, by omega⟩
    have m := mtk_le (w := p0) (h := J_X3_lessYoungestFirst p1 (Int32.ofNat g)) H
    have c : J_X4_mostTaken sh p0 (J_X3_lessYoungestFirst p1 (Int32.ofNat g)) < Int32.ofNat t := Int32.lt_iff_toInt_lt.mpr (by rw [ofn_t (by omega)]; omega)
    have e2 : B_X6_chooseAct_52_2 spl tpl sh p0 p1 p2 (Int32.ofNat g) v55 v56 y4 y9 (J_X4_mostTaken sh p0 (J_X3_lessYoungestFirst p1 (Int32.ofNat g))) (Int32.ofNat t, F, L) = Sum.inr (Sum.inl (Int32.ofNat g + 1, F, L)) := by
      unfold B_X6_chooseAct_52_2
      try dsimp only [LetF]
      exact if_pos c
    exact ⟨(F, L), by rw [LT_en e2, ofn_s (by omega)], rfl⟩
  | n + 1, t, f, F, L, h1, h2 => by
    obtain ⟨f2, rfl⟩ : ∃ f2, f = f2 + 1 := ⟨f - 1, by omega⟩
    by_cases c : J_X4_mostTaken sh p0 (J_X3_lessYoungestFirst p1 (Int32.ofNat g)) < Int32.ofNat t
    · have e2 : B_X6_chooseAct_52_2 spl tpl sh p0 p1 p2 (Int32.ofNat g) v55 v56 y4 y9 (J_X4_mostTaken sh p0 (J_X3_lessYoungestFirst p1 (Int32.ofNat g))) (Int32.ofNat t, F, L) = Sum.inr (Sum.inl (Int32.ofNat g + 1, F, L)) := by
        unfold B_X6_chooseAct_52_2
        try dsimp only [LetF]
        exact if_pos c
      refine ⟨(F, L), by rw [LT_en e2, ofn_s (by omega)], ?_⟩
      refine (fc_z (2 * (n + 1)) _ _ (fun i q1 q2 => ?_)).symm
      have ig : i / 10 = g := by omega
      have c2 := f_lt rfl (ofn_t (k := t) (by omega)) c
      unfold cOk
      rw [ig]
      have nc : ¬ Int32.ofNat (i / 2 % 5) ≤ J_X4_mostTaken sh p0 (J_X3_lessYoungestFirst p1 (Int32.ofNat g)) := fun q => by have := f_le (ofn_t (k := i / 2 % 5) (by omega)) rfl q; omega
      rw [decide_eq_false nc, Bool.false_and, Bool.and_false]
    · have c2 := f_nlt rfl (ofn_t (k := t) (by omega)) c
      have o2 : Int32.ofNat t ≤ J_X4_mostTaken sh p0 (J_X3_lessYoungestFirst p1 (Int32.ofNat g)) := Int32.le_iff_toInt_le.mpr (by rw [ofn_t (by omega)]; exact c2)
      obtain ⟨s1, b1, b2⟩ := ca_e (spl := spl) (sh := sh) (tpl := tpl) (p0 := p0) (p1 := p1) (p2 := p2) (v55 := v55) (v112 := F) (v56 := v56) (v113 := L) (y4 := y4) (y9 := y9) (y77 := J_X4_mostTaken sh p0 (J_X3_lessYoungestFirst p1 (Int32.ofNat g))) hg (show t < 5 by omega) o1 o2 mtg_le 2 0 3 F L (by omega) (by omega)
      have e1 : B_X6_chooseAct_52_2 spl tpl sh p0 p1 p2 (Int32.ofNat g) v55 v56 y4 y9 (J_X4_mostTaken sh p0 (J_X3_lessYoungestFirst p1 (Int32.ofNat g))) (Int32.ofNat t, F, L) = LTs (Sum.inl default) (B_X6_chooseAct_76_3 spl tpl sh p0 p1 p2 (Int32.ofNat g) v55 v56 (Int32.ofNat t) F L y4 y9 (J_X4_mostTaken sh p0 (J_X3_lessYoungestFirst p1 (Int32.ofNat g))) (J_X4_mostTaught sh (J_X3_lessYoungestFirst p1 (Int32.ofNat g) + (100 : Int32) * Int32.ofNat t))) 3 ((0 : Int32), F, L) := by
        unfold B_X6_chooseAct_52_2
        try dsimp only [LetF]
        exact if_neg c
      have e2 := e1.trans b1
      obtain ⟨s, k1, k2⟩ := ca_t (spl := spl) (tpl := tpl) (p0 := p0) (p2 := p2) (v55 := v55) (v56 := v56) (y4 := y4) (y9 := y9) hg o1 H n (t + 1) f2 s1.1 s1.2 (by omega) (by omega)
      refine ⟨s, by rw [LT_st e2]; exact k1, ?_⟩
      rw [k2, show 2 * (n + 1) = 2 + 2 * n from by omega, fc_a 2 (10 * g + 2 * t)]
      rw [Nat.add_zero] at b2
      rw [← b2]
      rfl
theorem ca_g {spl sh : Nat → Nat → Int32} {tpl : Nat → Nat → Int64} {p0 p1 p2 : Int32} {y4 : Int64} (hh : 0 ≤ p1.toInt ∧ p1.toInt ≤ 400 ∧ tot p1 ≤ 4) (H : ∀ j, 0 ≤ (sh 2 j).toInt ∧ (sh 2 j).toInt ≤ 4) : ∀ (n g f : Nat) (F : Int32) (L : Int64), g + n = 5 → n + 1 ≤ f → LTs default (B_X6_chooseAct_25 spl tpl sh p0 p1 p2 y4 (J_X4_mostLetGo sh p1)) f (Int32.ofNat g, F, L) = (vp_updL (tpl 1) (J_X6_place p0 (J_X3_kind p1) p2).toNatClampNeg (FC (cOk sh p0 p1) (cU spl sh (tpl 3) p0 p1 p2 y4) (cF (spl 4) p1) (10 * n) (10 * g) (F, L)).2, upd (spl 2) (J_X6_place p0 (J_X3_kind p1) p2).toNatClampNeg (FC (cOk sh p0 p1) (cU spl sh (tpl 3) p0 p1 p2 y4) (cF (spl 4) p1) (10 * n) (10 * g) (F, L)).1)
  | 0, g, f, F, L, h1, h2 => by
    obtain ⟨f2, rfl⟩ : ∃ f2, f = f2 + 1 := ⟨f - 1, by omega⟩
    have m := mlg_le (sh := sh) hh
    have c : J_X4_mostLetGo sh p1 < Int32.ofNat g := Int32.lt_iff_toInt_lt.mpr (by rw [ofn_t (by omega)]; omega)
    have e2 : B_X6_chooseAct_25 spl tpl sh p0 p1 p2 y4 (J_X4_mostLetGo sh p1) (Int32.ofNat g, F, L) = Sum.inr (vp_updL (tpl 1) (J_X6_place p0 (J_X3_kind p1) p2).toNatClampNeg L, upd (spl 2) (J_X6_place p0 (J_X3_kind p1) p2).toNatClampNeg F) := by
      unfold B_X6_chooseAct_25
      try dsimp only [LetF]
      exact if_pos c
    exact LT_en e2
  | n + 1, g, f, F, L, h1, h2 => by
    obtain ⟨f2, rfl⟩ : ∃ f2, f = f2 + 1 := ⟨f - 1, by omega⟩
    by_cases c : J_X4_mostLetGo sh p1 < Int32.ofNat g
    · have e2 : B_X6_chooseAct_25 spl tpl sh p0 p1 p2 y4 (J_X4_mostLetGo sh p1) (Int32.ofNat g, F, L) = Sum.inr (vp_updL (tpl 1) (J_X6_place p0 (J_X3_kind p1) p2).toNatClampNeg L, upd (spl 2) (J_X6_place p0 (J_X3_kind p1) p2).toNatClampNeg F) := by
        unfold B_X6_chooseAct_25
        try dsimp only [LetF]
        exact if_pos c
      have z : FC (cOk sh p0 p1) (cU spl sh (tpl 3) p0 p1 p2 y4) (cF (spl 4) p1) (10 * (n + 1)) (10 * g) (F, L) = (F, L) := fc_z (10 * (n + 1)) _ _ (fun i q1 q2 => by
        have c2 := f_lt rfl (ofn_t (k := g) (by omega)) c
        unfold cOk
        have nc : ¬ Int32.ofNat (i / 10) ≤ J_X4_mostLetGo sh p1 := fun q => by have := f_le (ofn_t (k := i / 10) (by omega)) rfl q; omega
        rw [decide_eq_false nc, Bool.false_and])
      rw [z]
      exact LT_en e2
    · have c2 := f_nlt rfl (ofn_t (k := g) (by omega)) c
      have o1 : Int32.ofNat g ≤ J_X4_mostLetGo sh p1 := Int32.le_iff_toInt_le.mpr (by rw [ofn_t (by omega)]; exact c2)
      obtain ⟨s1, b1, b2⟩ := ca_t (spl := spl) (sh := sh) (tpl := tpl) (p0 := p0) (p1 := p1) (p2 := p2) (v55 := F) (v56 := L) (y4 := y4) (y9 := J_X4_mostLetGo sh p1) (show g < 5 by omega) o1 H 5 0 6 F L (by omega) (by omega)
      have e1 : B_X6_chooseAct_25 spl tpl sh p0 p1 p2 y4 (J_X4_mostLetGo sh p1) (Int32.ofNat g, F, L) = LTs (Sum.inl default) (B_X6_chooseAct_52_2 spl tpl sh p0 p1 p2 (Int32.ofNat g) F L y4 (J_X4_mostLetGo sh p1) (J_X4_mostTaken sh p0 (J_X3_lessYoungestFirst p1 (Int32.ofNat g)))) 6 ((0 : Int32), F, L) := by
        unfold B_X6_chooseAct_25
        try dsimp only [LetF]
        exact if_neg c
      have e2 := e1.trans b1
      rw [LT_st e2, ca_g hh H n (g + 1) f2 s1.1 s1.2 (by omega) (by omega), show 10 * (n + 1) = 10 + 10 * n from by omega, fc_a 10 (10 * g)]
      have b3 : s1 = FC (cOk sh p0 p1) (cU spl sh (tpl 3) p0 p1 p2 y4) (cF (spl 4) p1) 10 (10 * g) (F, L) := b2
      rw [← b3]
      rfl
def MAXL : Int64 := 9223372036854775807
def CAR (spl sh : Nat → Nat → Int32) (L3 : Nat → Int64) (p0 p1 p2 : Int32) (y4 : Int64) : Int32 × Int64 := FC (cOk sh p0 p1) (cU spl sh L3 p0 p1 p2 y4) (cF (spl 4) p1) 50 0 (0, MAXL)
theorem ca_v {spl sh : Nat → Nat → Int32} {tpl : Nat → Nat → Int64} {p0 p1 p2 : Int32} (hh : 0 ≤ p1.toInt ∧ p1.toInt ≤ 400 ∧ tot p1 ≤ 4) (H : ∀ j, 0 ≤ (sh 2 j).toInt ∧ (sh 2 j).toInt ≤ 4) : J_X6_chooseAct spl tpl sh p0 p1 p2 = (vp_updL (tpl 1) (J_X6_place p0 (J_X3_kind p1) p2).toNatClampNeg (CAR spl sh (tpl 3) p0 p1 p2 (J_X6_scale spl tpl p0)).2, upd (spl 2) (J_X6_place p0 (J_X3_kind p1) p2).toNatClampNeg (CAR spl sh (tpl 3) p0 p1 p2 (J_X6_scale spl tpl p0)).1) := ca_g hh H 5 0 6 0 9223372036854775807 (by omega) (by omega)
/-- all acts of a WEEK -/
theorem cs_c {spl sh : Nat → Nat → Int32} {tpl : Nat → Nat → Int64} {w κ M : Nat} {g21 : Nat → Int64} {g22 : Nat → Int32} (H : ∀ j, 0 ≤ (sh 2 j).toInt ∧ (sh 2 j).toInt ≤ 4) (hw : w ≤ 5) (hk : κ < 35) (hM : M < 3) : ∀ (n c f : Nat) (g : Nat → Int64) (r : Nat → Int32), c + n = M + 1 → n + 1 ≤ f → ∃ (G : Nat → Int64) (R : Nat → Int32), LTs (Sum.inl default) (B_X6_chooseActs_50_2 spl tpl sh (Int32.ofNat w) (Int32.ofNat κ) g21 g22 (Int32.ofNat M)) f (Int32.ofNat c, g, r) = Sum.inl (Int32.ofNat (κ + 1), G, R) ∧ (∀ x, (∀ d, d ≤ M → ¬ x = (3 * w + d) * 35 + κ) → G x = g x ∧ R x = r x) ∧ (∀ d, d < c → G ((3 * w + d) * 35 + κ) = g ((3 * w + d) * 35 + κ) ∧ R ((3 * w + d) * 35 + κ) = r ((3 * w + d) * 35 + κ)) ∧ ∀ d, c ≤ d → d ≤ M → (R ((3 * w + d) * 35 + κ), G ((3 * w + d) * 35 + κ)) = CAR spl sh (tpl 3) (Int32.ofNat w) (zALL.getD κ 0) (Int32.ofNat d) (J_X6_scale spl tpl (Int32.ofNat w))
  | 0, c, f, g, r, h1, h2 => by
    obtain ⟨f2, rfl⟩ : ∃ f2, f = f2 + 1 := ⟨f - 1, by omega⟩
    have q : Int32.ofNat M < Int32.ofNat c := Int32.lt_iff_toInt_lt.mpr (by rw [ofn_t (by omega), ofn_t (by omega)]; omega)
    have e2 : B_X6_chooseActs_50_2 spl tpl sh (Int32.ofNat w) (Int32.ofNat κ) g21 g22 (Int32.ofNat M) (Int32.ofNat c, g, r) = Sum.inr (Sum.inl (Int32.ofNat κ + 1, g, r)) := by
      unfold B_X6_chooseActs_50_2
      try dsimp only [LetF]
      exact if_pos q
    exact ⟨g, r, by rw [LT_en e2, ofn_s (by omega)], fun x _ => ⟨rfl, rfl⟩, fun d _ => ⟨rfl, rfl⟩, fun d q1 q2 => by omega⟩
  | n + 1, c, f, g, r, h1, h2 => by
    obtain ⟨f2, rfl⟩ : ∃ f2, f = f2 + 1 := ⟨f - 1, by omega⟩
    have q : ¬ Int32.ofNat M < Int32.ofNat c := fun q => by have := f_lt (ofn_t (k := M) (by omega)) (ofn_t (k := c) (by omega)) q; omega
    have ek : (Int32.ofNat κ).toNatClampNeg = κ := ofn_c (by omega)
    have kk : J_X3_kind (zALL.getD κ 0) = Int32.ofNat κ := kind_o ⟨κ, hk⟩
    have cv := ca_v (spl := up2 spl 2 r) (sh := sh) (tpl := up2L tpl 1 g) (p0 := Int32.ofNat w) (p1 := zALL.getD κ 0) (p2 := Int32.ofNat c) (ak hk).1 H
    rw [kk, pl_i hw hk (by omega)] at cv
    have e2 : B_X6_chooseActs_50_2 spl tpl sh (Int32.ofNat w) (Int32.ofNat κ) g21 g22 (Int32.ofNat M) (Int32.ofNat c, g, r) = (fun y : (Nat → Int64) × (Nat → Int32) => (Sum.inl (Int32.ofNat c + 1, y.1, y.2) : Sum (Int32 × (Nat → Int64) × (Nat → Int32)) (Sum (Int32 × (Nat → Int64) × (Nat → Int32)) ((Nat → Int64) × (Nat → Int32))))) (J_X6_chooseAct (up2 spl 2 r) (up2L tpl 1 g) sh (Int32.ofNat w) (zALL.getD (Int32.ofNat κ).toNatClampNeg 0) (Int32.ofNat c)) := by
      unfold B_X6_chooseActs_50_2
      try dsimp only [LetF]
      exact if_neg q
    rw [ek, cv] at e2
    have e3 : B_X6_chooseActs_50_2 spl tpl sh (Int32.ofNat w) (Int32.ofNat κ) g21 g22 (Int32.ofNat M) (Int32.ofNat c, g, r) = Sum.inl (Int32.ofNat c + 1, vp_updL g ((3 * w + c) * 35 + κ) (CAR spl sh (tpl 3) (Int32.ofNat w) (zALL.getD κ 0) (Int32.ofNat c) (J_X6_scale spl tpl (Int32.ofNat w))).2, upd r ((3 * w + c) * 35 + κ) (CAR spl sh (tpl 3) (Int32.ofNat w) (zALL.getD κ 0) (Int32.ofNat c) (J_X6_scale spl tpl (Int32.ofNat w))).1) := e2
    obtain ⟨G, R, k1, k2, k3, k4⟩ := cs_c (spl := spl) (sh := sh) (tpl := tpl) (g21 := g21) (g22 := g22) H hw hk hM n (c + 1) f2 (vp_updL g ((3 * w + c) * 35 + κ) (CAR spl sh (tpl 3) (Int32.ofNat w) (zALL.getD κ 0) (Int32.ofNat c) (J_X6_scale spl tpl (Int32.ofNat w))).2) (upd r ((3 * w + c) * 35 + κ) (CAR spl sh (tpl 3) (Int32.ofNat w) (zALL.getD κ 0) (Int32.ofNat c) (J_X6_scale spl tpl (Int32.ofNat w))).1) (by omega) (by omega)
    refine ⟨G, R, by rw [LT_st e3, ofn_s (by omega)]; exact k1, fun x hx => ?_, fun d hd => ?_, fun d q1 q2 => ?_⟩
    · obtain ⟨z1, z2⟩ := k2 x hx
      have nx := hx c (by omega)
      exact ⟨z1.trans (updL_n nx), z2.trans (pk_un nx)⟩
    · obtain ⟨z1, z2⟩ := k3 d (by omega)
      have nx : ¬ (3 * w + d) * 35 + κ = (3 * w + c) * 35 + κ := by omega
      exact ⟨z1.trans (updL_n nx), z2.trans (pk_un nx)⟩
    · by_cases qd : d = c
      · subst qd
        obtain ⟨z1, z2⟩ := k3 d (by omega)
        rw [z1, z2, updL_s, pk_us]
      · exact k4 d (by omega) q2
