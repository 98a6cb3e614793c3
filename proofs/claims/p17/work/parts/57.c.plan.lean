/-! the plan of the class: what comes behind a WEEK, by who is ordered -/
theorem pl_i {w κ c : Nat} (hw : w ≤ 5) (hk : κ < 35) (hc : c < 3) : (J_X6_place (Int32.ofNat w) (Int32.ofNat κ) (Int32.ofNat c)).toNatClampNeg = (3 * w + c) * 35 + κ := by
  have m1 : (Int32.ofNat w * (3 : Int32)).toInt = (w : Int) * 3 := i_mul (ofn_t (by omega)) (by decide) (by omega) (by omega)
  have m2 : (Int32.ofNat w * (3 : Int32) + Int32.ofNat c).toInt = (w : Int) * 3 + (c : Int) := i_add m1 (ofn_t (by omega)) (by omega) (by omega)
  have m3 : ((Int32.ofNat w * (3 : Int32) + Int32.ofNat c) * (35 : Int32)).toInt = ((w : Int) * 3 + (c : Int)) * 35 := i_mul m2 (by decide) (by omega) (by omega)
  have m4 : (J_X6_place (Int32.ofNat w) (Int32.ofNat κ) (Int32.ofNat c)).toInt = ((w : Int) * 3 + (c : Int)) * 35 + (κ : Int) := i_add m3 (ofn_t (by omega)) (by omega) (by omega)
  exact wn_k (by rw [m4]; omega)
def mbT (sh : Nat → Nat → Int32) (C : Nat → Int64) (κ nx o b : Nat) : Int64 := (sh 5 (15 * κ + b)).toInt64 * C ((3 * nx + o) * 35 + b)
theorem mb_l {spl sh : Nat → Nat → Int32} {tpl : Nat → Nat → Int64} {κ nx o : Nat} (hk : κ < 35) (hx : nx ≤ 5) (ho : o < 3) : ∀ (n b : Nat) (s : Int64), b + n = 15 → LTs default (B_X6_meanBehind_6 spl tpl sh (Int32.ofNat κ) (Int32.ofNat nx) (Int32.ofNat o)) (n + 1) (Int32.ofNat b, s) = s + SML (mbT sh (tpl 1) κ nx o) n b
  | 0, b, s, h => by
    have e : b = 15 := by omega
    subst e
    have e2 : B_X6_meanBehind_6 spl tpl sh (Int32.ofNat κ) (Int32.ofNat nx) (Int32.ofNat o) (Int32.ofNat 15, s) = Sum.inr s := rfl
    rw [LT_en e2]
    exact (Int64.add_zero s).symm
  | n + 1, b, s, h => by
    have cb : ¬ (15 : Int32) ≤ Int32.ofNat b := fun q => by have := f_le (by decide : (15 : Int32).toInt = 15) (ofn_t (k := b) (by omega)) q; omega
    have e2 : B_X6_meanBehind_6 spl tpl sh (Int32.ofNat κ) (Int32.ofNat nx) (Int32.ofNat o) (Int32.ofNat b, s) = Sum.inl (Int32.ofNat b + 1, s + (sh 5 (Int32.ofNat κ * (15 : Int32) + Int32.ofNat b).toNatClampNeg).toInt64 * tpl 1 (J_X6_place (Int32.ofNat nx) (Int32.ofNat b) (Int32.ofNat o)).toNatClampNeg) := by
      unfold B_X6_meanBehind_6
      try dsimp only [LetF]
      exact if_neg cb
    rw [ix15 hk (by omega), pl_i hx (by omega) ho] at e2
    rw [LT_st e2, ofn_s (by omega), mb_l hk hx ho n (b + 1) _ (by omega), sml_s, Int64.add_assoc]
    rfl
theorem mb_v {spl sh : Nat → Nat → Int32} {tpl : Nat → Nat → Int64} {κ nx o : Nat} (hk : κ < 35) (hx : nx ≤ 5) (ho : o < 3) : J_X6_meanBehind spl tpl sh (Int32.ofNat κ) (Int32.ofNat nx) (Int32.ofNat o) = SML (mbT sh (tpl 1) κ nx o) 15 0 := by
  have e : J_X6_meanBehind spl tpl sh (Int32.ofNat κ) (Int32.ofNat nx) (Int32.ofNat o) = 0 + SML (mbT sh (tpl 1) κ nx o) 15 0 := mb_l hk hx ho 15 0 0 rfl
  rw [e, Int64.zero_add]
/-- the first of the least, from 0 on -/
def FO (v : Nat → Int64) : Nat → Nat → Int64 × Int32 → Int64 × Int32
  | 0, _, s => s
  | n + 1, o, s => FO v n (o + 1) (if o = 0 then (v 0, 0) else if 0 ≤ lg_cmp (v o) s.1 then s else (v o, Int32.ofNat o))
theorem co_o {spl sh : Nat → Nat → Int32} {tpl : Nat → Nat → Int64} {κ w M : Nat} {g28 : Nat → Int64} {g29 : Nat → Int32} (hk : κ < 35) (hw : w + 1 ≤ 5) (hM : M < 3) : ∀ (n o f : Nat) (g : Nat → Int64) (r : Nat → Int32), o + n = M + 1 → n + 1 ≤ f → ∃ (G : Nat → Int64) (R : Nat → Int32), LTs (Sum.inl default) (B_X6_chooseOrders_38_2 spl tpl sh (Int32.ofNat w) (Int32.ofNat κ) g28 g29 (Int32.ofNat M)) f (Int32.ofNat o, g, r) = Sum.inl (Int32.ofNat (κ + 1), G, R) ∧ (∀ x, ¬ x = κ → G x = g x ∧ R x = r x) ∧ (G κ, R κ) = FO (fun o => SML (mbT sh (tpl 1) κ (w + 1) o) 15 0) n o (g κ, r κ)
  | 0, o, f, g, r, h1, h2 => by
    obtain ⟨f2, rfl⟩ : ∃ f2, f = f2 + 1 := ⟨f - 1, by omega⟩
    have c : Int32.ofNat M < Int32.ofNat o := Int32.lt_iff_toInt_lt.mpr (by rw [ofn_t (by omega), ofn_t (by omega)]; omega)
    have e2 : B_X6_chooseOrders_38_2 spl tpl sh (Int32.ofNat w) (Int32.ofNat κ) g28 g29 (Int32.ofNat M) (Int32.ofNat o, g, r) = Sum.inr (Sum.inl (Int32.ofNat κ + 1, g, r)) := by
      unfold B_X6_chooseOrders_38_2
      try dsimp only [LetF]
      exact if_pos c
    exact ⟨g, r, by rw [LT_en e2, ofn_s (by omega)], fun x _ => ⟨rfl, rfl⟩, rfl⟩
  | n + 1, o, f, g, r, h1, h2 => by
    obtain ⟨f2, rfl⟩ : ∃ f2, f = f2 + 1 := ⟨f - 1, by omega⟩
    have c : ¬ Int32.ofNat M < Int32.ofNat o := fun q => by have := f_lt (ofn_t (k := M) (by omega)) (ofn_t (k := o) (by omega)) q; omega
    have ek : (Int32.ofNat κ).toNatClampNeg = κ := ofn_c (by omega)
    have w1 : Int32.ofNat w + (1 : Int32) = Int32.ofNat (w + 1) := ofn_s (by omega)
    have mv : J_X6_meanBehind (up2 spl 4 r) (up2L tpl 3 g) sh (Int32.ofNat κ) (Int32.ofNat w + (1 : Int32)) (Int32.ofNat o) = SML (mbT sh (tpl 1) κ (w + 1) o) 15 0 := by
      rw [w1]
      exact mb_v hk hw (by omega)
    have z0 : Int32.ofNat o = 0 ↔ o = 0 := ⟨fun q => by have := congrArg Int32.toInt q; rw [ofn_t (by omega)] at this; exact Int.ofNat.inj (this.trans (by decide)), fun q => by rw [q]; rfl⟩
    have e2 : ∃ (G1 : Nat → Int64) (R1 : Nat → Int32), B_X6_chooseOrders_38_2 spl tpl sh (Int32.ofNat w) (Int32.ofNat κ) g28 g29 (Int32.ofNat M) (Int32.ofNat o, g, r) = Sum.inl (Int32.ofNat (o + 1), G1, R1) ∧ (∀ x, ¬ x = κ → G1 x = g x ∧ R1 x = r x) ∧ (G1 κ, R1 κ) = (if o = 0 then (SML (mbT sh (tpl 1) κ (w + 1) 0) 15 0, (0 : Int32)) else if 0 ≤ lg_cmp (SML (mbT sh (tpl 1) κ (w + 1) o) 15 0) (g κ) then (g κ, r κ) else (SML (mbT sh (tpl 1) κ (w + 1) o) 15 0, Int32.ofNat o)) := by
      have u : ∀ (v : Int64) (x : Nat), ¬ x = κ → vp_updL g κ v x = g x ∧ upd r κ (Int32.ofNat o) x = r x := fun v x hx => ⟨updL_n hx, pk_un hx⟩
      unfold B_X6_chooseOrders_38_2
      dsimp only [LetF]
      rw [if_neg c, mv, ek]
      by_cases q1 : o = 0
      · rw [if_pos (z0.mpr q1), if_pos q1, ofn_s (by omega)]
        refine ⟨_, _, rfl, u _, ?_⟩
        rw [updL_s, pk_us, q1]
        rfl
      · rw [if_neg (fun q => q1 (z0.mp q)), if_neg q1, ofn_s (by omega)]
        by_cases q2 : 0 ≤ lg_cmp (SML (mbT sh (tpl 1) κ (w + 1) o) 15 0) (g κ)
        · rw [if_pos q2, if_pos q2]
          exact ⟨g, r, rfl, fun x _ => ⟨rfl, rfl⟩, rfl⟩
        · rw [if_neg q2, if_neg q2]
          refine ⟨_, _, rfl, u _, ?_⟩
          rw [updL_s, pk_us]
    obtain ⟨G1, R1, b1, b2, b3⟩ := e2
    obtain ⟨G, R, k1, k2, k3⟩ := co_o (spl := spl) (sh := sh) (tpl := tpl) (g28 := g28) (g29 := g29) hk hw hM n (o + 1) f2 G1 R1 (by omega) (by omega)
    refine ⟨G, R, by rw [LT_st b1]; exact k1, fun x hx => ?_, ?_⟩
    · obtain ⟨z1, z2⟩ := k2 x hx
      obtain ⟨z3, z4⟩ := b2 x hx
      exact ⟨z1.trans z3, z2.trans z4⟩
    · rw [k3, b3]
      rfl
/-- the orders of a WEEK, by who does it -/
theorem co_k {spl sh : Nat → Nat → Int32} {tpl : Nat → Nat → Int64} {w M : Nat} (hw : w + 1 ≤ 5) (hM : M < 3) : ∀ (n κ : Nat) (g : Nat → Int64) (r : Nat → Int32), κ + n = 35 → ∃ (G : Nat → Int64) (R : Nat → Int32), LTs default (B_X6_chooseOrders_9 spl tpl sh (Int32.ofNat w) (Int32.ofNat M)) (n + 1) (Int32.ofNat κ, g, r) = (G, R) ∧ (∀ x, x < κ → G x = g x ∧ R x = r x) ∧ ∀ x, κ ≤ x → x < 35 → J_X3_total (zALL.getD x 0) ≤ sh 0 1 → ∃ s : Int64 × Int32, (G x, R x) = FO (fun o => SML (mbT sh (tpl 1) x (w + 1) o) 15 0) (M + 1) 0 s
  | 0, κ, g, r, h => by
    have e : κ = 35 := by omega
    subst e
    have e2 : B_X6_chooseOrders_9 spl tpl sh (Int32.ofNat w) (Int32.ofNat M) (Int32.ofNat 35, g, r) = Sum.inr (g, r) := rfl
    exact ⟨g, r, LT_en e2, fun x _ => ⟨rfl, rfl⟩, fun x h1 h2 => by omega⟩
  | n + 1, κ, g, r, h => by
    have ck : ¬ (35 : Int32) ≤ Int32.ofNat κ := fun q => by have := f_le (by decide : (35 : Int32).toInt = 35) (ofn_t (k := κ) (by omega)) q; omega
    have ek : (Int32.ofNat κ).toNatClampNeg = κ := ofn_c (by omega)
    by_cases c : J_X3_total (zALL.getD κ 0) ≤ sh 0 1
    · obtain ⟨G1, R1, b1, b2, b3⟩ := co_o (spl := spl) (sh := sh) (tpl := tpl) (g28 := g) (g29 := r) (κ := κ) (w := w) (M := M) (by omega) hw hM (M + 1) 0 4 g r (by omega) (by omega)
      have c2 : J_X3_total (zALL.getD (Int32.ofNat κ).toNatClampNeg 0) ≤ sh 0 1 := by rw [ek]; exact c
      have e1 : B_X6_chooseOrders_9 spl tpl sh (Int32.ofNat w) (Int32.ofNat M) (Int32.ofNat κ, g, r) = LTs (Sum.inl default) (B_X6_chooseOrders_38_2 spl tpl sh (Int32.ofNat w) (Int32.ofNat κ) g r (Int32.ofNat M)) 4 ((0 : Int32), g, r) := by
        unfold B_X6_chooseOrders_9
        try dsimp only [LetF]
        exact (if_neg ck).trans (if_pos c2)
      have e2 := e1.trans b1
      obtain ⟨G, R, k1, k2, k3⟩ := co_k (spl := spl) (sh := sh) (tpl := tpl) hw hM n (κ + 1) G1 R1 (by omega)
      refine ⟨G, R, by rw [LT_st e2]; exact k1, fun x hx => ?_, fun x h1 h2 h3 => ?_⟩
      · obtain ⟨z1, z2⟩ := k2 x (by omega)
        obtain ⟨z3, z4⟩ := b2 x (by omega)
        exact ⟨z1.trans z3, z2.trans z4⟩
      · by_cases q : x = κ
        · subst q
          obtain ⟨z1, z2⟩ := k2 x (by omega)
          exact ⟨(g x, r x), by rw [z1, z2]; exact b3⟩
        · exact k3 x (by omega) h2 h3
    · have c2 : ¬ J_X3_total (zALL.getD (Int32.ofNat κ).toNatClampNeg 0) ≤ sh 0 1 := by rw [ek]; exact c
      have e2 : B_X6_chooseOrders_9 spl tpl sh (Int32.ofNat w) (Int32.ofNat M) (Int32.ofNat κ, g, r) = Sum.inl (Int32.ofNat κ + 1, g, r) := by
        unfold B_X6_chooseOrders_9
        try dsimp only [LetF]
        exact (if_neg ck).trans (if_neg c2)
      obtain ⟨G, R, k1, k2, k3⟩ := co_k (spl := spl) (sh := sh) (tpl := tpl) hw hM n (κ + 1) g r (by omega)
      refine ⟨G, R, by rw [LT_st e2, ofn_s (by omega)]; exact k1, fun x hx => k2 x (by omega), fun x h1 h2 h3 => ?_⟩
      by_cases q : x = κ
      · rw [q] at h3; exact absurd h3 c
      · exact k3 x (by omega) h2 h3
theorem co_v {spl sh : Nat → Nat → Int32} {tpl : Nat → Nat → Int64} {w M : Nat} (hw : w + 1 ≤ 5) (hM : M < 3) (hm : J_X4_mostOrdered sh (Int32.ofNat w) = Int32.ofNat M) : ∃ (G : Nat → Int64) (R : Nat → Int32), J_X6_chooseOrders spl tpl sh (Int32.ofNat w) = (G, R) ∧ ∀ x, x < 35 → J_X3_total (zALL.getD x 0) ≤ sh 0 1 → ∃ s : Int64 × Int32, (G x, R x) = FO (fun o => SML (mbT sh (tpl 1) x (w + 1) o) 15 0) (M + 1) 0 s := by
  obtain ⟨G, R, k1, _, k3⟩ := co_k (spl := spl) (sh := sh) (tpl := tpl) hw hM 35 0 (tpl 3) (spl 4) rfl
  have e : J_X6_chooseOrders spl tpl sh (Int32.ofNat w) = LTs default (B_X6_chooseOrders_9 spl tpl sh (Int32.ofNat w) (J_X4_mostOrdered sh (Int32.ofNat w))) 36 ((0 : Int32), (tpl 3), (spl 4)) := rfl
  rw [hm] at e
  exact ⟨G, R, e.trans k1, fun x h1 h2 => k3 x (Nat.zero_le x) h1 h2⟩
/-! the acts of a WEEK -/
/-- the first of the least, of what may be -/
def FC (ok : Nat → Bool) (u : Nat → Int64) (fo : Nat → Int32) : Nat → Nat → Int32 × Int64 → Int32 × Int64
  | 0, _, s => s
  | n + 1, j, s => FC ok u fo n (j + 1) (if ok j = true then (if 0 ≤ lg_cmp (u j) s.2 then s else (fo j, u j)) else s)
theorem fc_z {ok : Nat → Bool} {u : Nat → Int64} {fo : Nat → Int32} : ∀ (n j : Nat) (s : Int32 × Int64), (∀ i, j ≤ i → i < j + n → ok i = false) → FC ok u fo n j s = s
  | 0, _, _, _ => rfl
  | n + 1, j, s, h => by
    show FC ok u fo n (j + 1) (if ok j = true then _ else s) = s
    rw [h j (Nat.le_refl j) (by omega), if_neg (by decide)]
    exact fc_z n (j + 1) s (fun i h1 h2 => h i (by omega) (by omega))
theorem fc_a {ok : Nat → Bool} {u : Nat → Int64} {fo : Nat → Int32} {b : Nat} : ∀ (a j : Nat) (s : Int32 × Int64), FC ok u fo (a + b) j s = FC ok u fo b (j + a) (FC ok u fo a j s)
  | 0, j, s => by rw [Nat.zero_add]; rfl
  | a + 1, j, s => by
    rw [show a + 1 + b = (a + b) + 1 from by omega]
    show FC ok u fo (a + b) (j + 1) _ = FC ok u fo b (j + (a + 1)) (FC ok u fo a (j + 1) _)
    rw [fc_a a (j + 1), show j + 1 + a = j + (a + 1) from by omega]
def cOk (sh : Nat → Nat → Int32) (w h : Int32) (j : Nat) : Bool := decide (Int32.ofNat (j / 10) ≤ J_X4_mostLetGo sh h) && (decide (Int32.ofNat (j / 2 % 5) ≤ J_X4_mostTaken sh w (J_X3_lessYoungestFirst h (Int32.ofNat (j / 10)))) && decide (Int32.ofNat (j % 2) ≤ J_X4_mostTaught sh (J_X3_lessYoungestFirst h (Int32.ofNat (j / 10)) + (100 : Int32) * Int32.ofNat (j / 2 % 5))))
def cU (spl sh : Nat → Nat → Int32) (L : Nat → Int64) (w h c : Int32) (sc : Int64) (j : Nat) : Int64 := (J_X4_weekCost sh w (J_X0_done h (AK (3 * j))) c (AK (3 * j))).toInt64 * sc + L (J_X3_kind (J_X0_done h (AK (3 * j)))).toNatClampNeg
def cF (R : Nat → Int32) (h : Int32) (j : Nat) : Int32 := AK (3 * j) + R (J_X3_kind (J_X0_done h (AK (3 * j)))).toNatClampNeg
theorem e_dec : ∀ j : Fin 50, (((1000 : Int32) * Int32.ofNat (j.val / 10)) + ((100 : Int32) * Int32.ofNat (j.val / 2 % 5))) + ((10 : Int32) * Int32.ofNat (j.val % 2)) = AK (3 * j.val) := by decide +kernel
theorem ca_e {spl sh : Nat → Nat → Int32} {tpl : Nat → Nat → Int64} {p0 p1 p2 v55 v112 : Int32} {v56 v113 y4 : Int64} {y9 y77 : Int32} {g t : Nat} (hg : g < 5) (ht : t < 5) (o1 : Int32.ofNat g ≤ J_X4_mostLetGo sh p1) (o2 : Int32.ofNat t ≤ J_X4_mostTaken sh p0 (J_X3_lessYoungestFirst p1 (Int32.ofNat g))) (h3 : (J_X4_mostTaught sh (J_X3_lessYoungestFirst p1 (Int32.ofNat g) + (100 : Int32) * Int32.ofNat t)).toInt ≤ 1) : ∀ (n e f : Nat) (F : Int32) (L : Int64), e + n = 2 → n + 1 ≤ f → ∃ s : Int32 × Int64, LTs (Sum.inl default) (B_X6_chooseAct_76_3 spl tpl sh p0 p1 p2 (Int32.ofNat g) v55 v56 (Int32.ofNat t) v112 v113 y4 y9 y77 (J_X4_mostTaught sh (J_X3_lessYoungestFirst p1 (Int32.ofNat g) + (100 : Int32) * Int32.ofNat t))) f (Int32.ofNat e, F, L) = Sum.inl (Int32.ofNat (t + 1), s.1, s.2) ∧ s = FC (cOk sh p0 p1) (cU spl sh (tpl 3) p0 p1 p2 y4) (cF (spl 4) p1) n (10 * g + 2 * t + e) (F, L)
  | 0, e, f, F, L, h1, h2 => by
    obtain ⟨f2, rfl⟩ : ∃ f2, f = f2 + 1 := ⟨f - 1, by omega⟩
    have c : J_X4_mostTaught sh (J_X3_lessYoungestFirst p1 (Int32.ofNat g) + (100 : Int32) * Int32.ofNat t) < Int32.ofNat e := Int32.lt_iff_toInt_lt.mpr (by rw [ofn_t (by omega)]; omega)
    have e2 : B_X6_chooseAct_76_3 spl tpl sh p0 p1 p2 (Int32.ofNat g) v55 v56 (Int32.ofNat t) v112 v113 y4 y9 y77 (J_X4_mostTaught sh (J_X3_lessYoungestFirst p1 (Int32.ofNat g) + (100 : Int32) * Int32.ofNat t)) (Int32.ofNat e, F, L) = Sum.inr (Sum.inl (Int32.ofNat t + 1, F, L)) := by
      unfold B_X6_chooseAct_76_3
      try dsimp only [LetF]
      exact if_pos c
    exact ⟨(F, L), by rw [LT_en e2, ofn_s (by omega)], rfl⟩
  | n + 1, e, f, F, L, h1, h2 => by
    obtain ⟨f2, rfl⟩ : ∃ f2, f = f2 + 1 := ⟨f - 1, by omega⟩
    have jg : (10 * g + 2 * t + e) / 10 = g := by omega
    have jt : (10 * g + 2 * t + e) / 2 % 5 = t := by omega
    have je : (10 * g + 2 * t + e) % 2 = e := by omega
    by_cases c : J_X4_mostTaught sh (J_X3_lessYoungestFirst p1 (Int32.ofNat g) + (100 : Int32) * Int32.ofNat t) < Int32.ofNat e
    · have e2 : B_X6_chooseAct_76_3 spl tpl sh p0 p1 p2 (Int32.ofNat g) v55 v56 (Int32.ofNat t) v112 v113 y4 y9 y77 (J_X4_mostTaught sh (J_X3_lessYoungestFirst p1 (Int32.ofNat g) + (100 : Int32) * Int32.ofNat t)) (Int32.ofNat e, F, L) = Sum.inr (Sum.inl (Int32.ofNat t + 1, F, L)) := by
        unfold B_X6_chooseAct_76_3
        try dsimp only [LetF]
        exact if_pos c
      refine ⟨(F, L), by rw [LT_en e2, ofn_s (by omega)], ?_⟩
      refine (fc_z (n + 1) _ _ (fun i q1 q2 => ?_)).symm
      have ig : i / 10 = g := by omega
      have it : i / 2 % 5 = t := by omega
      have c2 := f_lt rfl (ofn_t (k := e) (by omega)) c
      unfold cOk
      rw [ig, it]
      have nc : ¬ Int32.ofNat (i % 2) ≤ J_X4_mostTaught sh (J_X3_lessYoungestFirst p1 (Int32.ofNat g) + (100 : Int32) * Int32.ofNat t) := fun q => by have := f_le (ofn_t (k := i % 2) (by omega)) rfl q; omega
      rw [decide_eq_false nc, Bool.and_false, Bool.and_false]
    · have c2 := f_nlt rfl (ofn_t (k := e) (by omega)) c
      have oj : cOk sh p0 p1 (10 * g + 2 * t + e) = true := by
        unfold cOk
        rw [jg, jt, je, decide_eq_true o1, decide_eq_true o2, decide_eq_true (Int32.le_iff_toInt_le.mpr (by rw [ofn_t (by omega)]; exact c2))]
        rfl
      have ea : (((1000 : Int32) * Int32.ofNat g) + ((100 : Int32) * Int32.ofNat t)) + ((10 : Int32) * Int32.ofNat e) = AK (3 * (10 * g + 2 * t + e)) := by
        have z := e_dec ⟨10 * g + 2 * t + e, by omega⟩
        have z : (((1000 : Int32) * Int32.ofNat ((10 * g + 2 * t + e) / 10)) + ((100 : Int32) * Int32.ofNat ((10 * g + 2 * t + e) / 2 % 5))) + ((10 : Int32) * Int32.ofNat ((10 * g + 2 * t + e) % 2)) = AK (3 * (10 * g + 2 * t + e)) := z
        rw [jg, jt, je] at z
        exact z
      have e2 : B_X6_chooseAct_76_3 spl tpl sh p0 p1 p2 (Int32.ofNat g) v55 v56 (Int32.ofNat t) v112 v113 y4 y9 y77 (J_X4_mostTaught sh (J_X3_lessYoungestFirst p1 (Int32.ofNat g) + (100 : Int32) * Int32.ofNat t)) (Int32.ofNat e, F, L) = Sum.inl (Int32.ofNat (e + 1), (if 0 ≤ lg_cmp (cU spl sh (tpl 3) p0 p1 p2 y4 (10 * g + 2 * t + e)) L then (F, L) else (cF (spl 4) p1 (10 * g + 2 * t + e), cU spl sh (tpl 3) p0 p1 p2 y4 (10 * g + 2 * t + e)))) := by
        unfold B_X6_chooseAct_76_3
        dsimp only [LetF]
        rw [if_neg c, ea, ofn_s (by omega)]
        unfold cU cF
        by_cases q : 0 ≤ lg_cmp ((J_X4_weekCost sh p0 (J_X0_done p1 (AK (3 * (10 * g + 2 * t + e)))) p2 (AK (3 * (10 * g + 2 * t + e)))).toInt64 * y4 + tpl 3 (J_X3_kind (J_X0_done p1 (AK (3 * (10 * g + 2 * t + e))))).toNatClampNeg) L
        · rw [if_pos q, if_pos q]
        · rw [if_neg q, if_neg q]
      obtain ⟨s, k1, k2⟩ := ca_e (spl := spl) (tpl := tpl) (p2 := p2) (v55 := v55) (v112 := v112) (v56 := v56) (v113 := v113) (y4 := y4) (y9 := y9) (y77 := y77) hg ht o1 o2 h3 n (e + 1) f2 _ _ (by omega) (by omega)
      refine ⟨s, by rw [LT_st e2]; exact k1, ?_⟩
      rw [k2]
      show FC _ _ _ n (10 * g + 2 * t + (e + 1)) _ = FC _ _ _ n (10 * g + 2 * t + e + 1) (if cOk sh p0 p1 (10 * g + 2 * t + e) = true then _ else _)
      rw [oj, if_pos rfl]
      rfl
