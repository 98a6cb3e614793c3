/-! what is planned stays planned -/
def smV (V : Nat → Int32) : Nat → Nat → Int32 := lS [(fun _ => 0), (fun _ => 0), V]
def tz0 : Nat → Nat → Int64 := fun _ _ => 0
def shK (h : Int32) : Nat → Nat → Int32 := lS [(lI [0, h])]
theorem bok_v {sm : Nat → Nat → Int32} {tm : Nat → Nat → Int64} {w : Int32} {h : Nat} : bOk (smV (sm 2)) tz0 w h = bOk sm tm w h := rfl
theorem bvv_v {sm : Nat → Nat → Int32} {tm : Nat → Nat → Int64} {w : Int32} {u : Int64} {V : Nat → Int64} {h c : Nat} : bV (smV (sm 2)) tz0 w u V h c = bV sm tm w u V h c := funext (fun k => by
  have e1 : ∀ x y z a : Int32, J_X12_costOf (smV (sm 2)) tz0 x y z a = J_X12_costOf sm tm x y z a := fun _ _ _ _ => rfl
  have e2 : ∀ x y a : Int32, J_X12_after (smV (sm 2)) tz0 x y a = J_X12_after sm tm x y a := fun _ _ _ => rfl
  have e3 : ∀ (V2 : Nat → Int64) (th : Int32), onT (smV (sm 2)) tz0 V2 th = onT sm tm V2 th := fun V2 th => funext (fun x => rfl)
  unfold bV
  rw [e1, e2, e3])
theorem bvl_v {sm : Nat → Nat → Int32} {tm : Nat → Nat → Int64} {W : Nat} : ∀ (n h c : Nat), BVL (smV (sm 2)) tz0 W n h c = BVL sm tm W n h c
  | 0, _, _ => rfl
  | n + 1, h, c => by
    show FB1 (bOk (smV (sm 2)) tz0 (Int32.ofNat (W - (n + 1))) h) (bV (smV (sm 2)) tz0 (Int32.ofNat (W - (n + 1))) (SCN (n + 1) 1) (fun x => (BVL (smV (sm 2)) tz0 W n (x / 3) (x % 3)).1) h c) = FB1 (bOk sm tm (Int32.ofNat (W - (n + 1))) h) (bV sm tm (Int32.ofNat (W - (n + 1))) (SCN (n + 1) 1) (fun x => (BVL sm tm W n (x / 3) (x % 3)).1) h c)
    rw [bok_v (tm := tm), bvv_v (tm := tm), show (fun x => (BVL (smV (sm 2)) tz0 W n (x / 3) (x % 3)).1) = (fun x => (BVL sm tm W n (x / 3) (x % 3)).1) from funext (fun x => by rw [bvl_v n (x / 3) (x % 3)])]
def PLN (f w0 : Int32) (C : Nat → Int64) (F : Nat → Int32) (s0 s1 s10 : Int32) (V : Nat → Int32) : Prop := ¬ f = 0 → w0 = s0 ∧ ∀ W MC : Nat, s0 = Int32.ofNat W → W ≤ 5 → MC < 3 → (if s10 = -9 then (0 : Int32) else 2) = Int32.ofNat MC → PLT (shK s1) (smV V) tz0 W MC 0 C F ∧ ∀ m, m ≤ W → BVB (shK s1) (smV V) tz0 W m
theorem plt_v {sh sm : Nat → Nat → Int32} {tm : Nat → Nat → Int64} {W MC N : Nat} {C : Nat → Int64} {F : Nat → Int32} : PLT (shK (sh 0 1)) (smV (sm 2)) tz0 W MC N C F ↔ PLT sh sm tm W MC N C F := by
  have e : ∀ n h c, BVL (smV (sm 2)) tz0 W n h c = BVL sm tm W n h c := bvl_v
  constructor
  · intro H u κ c h1 h2 h3 h4 h5
    have z := H u κ c h1 h2 h3 h4 h5
    rw [e] at z
    exact z
  · intro H u κ c h1 h2 h3 h4 h5
    rw [e]
    exact H u κ c h1 h2 h3 h4 h5
theorem bvb_v {sh sm : Nat → Nat → Int32} {tm : Nat → Nat → Int64} {W n : Nat} : BVB (shK (sh 0 1)) (smV (sm 2)) tz0 W n ↔ BVB sh sm tm W n := by
  have e : ∀ n h c, BVL (smV (sm 2)) tz0 W n h c = BVL sm tm W n h c := bvl_v
  constructor
  · intro H κ c h1 h2 h3
    have z := H κ c h1 h2 h3
    rw [e] at z
    exact z
  · intro H κ c h1 h2 h3
    rw [e]
    exact H κ c h1 h2 h3
theorem po_v {sx sh sm spl : Nat → Nat → Int32} {tpl tm : Nat → Nat → Int64} {W MC : Nat} (K : HOK sh sm) (T : TBL sh) (N : HNT (HT sh)) (hW : sh 0 0 = Int32.ofNat W) (h5 : W ≤ 5) (hMC : MC < 3) (hm : J_X4_mostComing sh = Int32.ofNat MC) (P : PLN (sx 0 15) (spl 0 0) (tpl 1) (spl 2) (sh 0 0) (sh 0 1) (sh 0 10) (sm 2)) : ∃ y : Int32 × Int32 × (Nat → Int64) × (Nat → Int32) × (Nat → Int64) × (Nat → Int32), J_X11_planOnce sx sh spl tpl = y ∧ y.2.1 = sh 0 0 ∧ PLT sh sm tm W MC 0 y.2.2.1 y.2.2.2.1 ∧ (∀ m, m ≤ W → BVB sh sm tm W m) ∧ PLN y.1 y.2.1 y.2.2.1 y.2.2.2.1 (sh 0 0) (sh 0 1) (sh 0 10) (sm 2) := by
  have one : ∀ W2 MC2 : Nat, sh 0 0 = Int32.ofNat W2 → W2 ≤ 5 → MC2 < 3 → (if sh 0 10 = -9 then (0 : Int32) else 2) = Int32.ofNat MC2 → W2 = W ∧ MC2 = MC := fun W2 MC2 q1 q2 q3 q4 => by
    have a := congrArg Int32.toInt (hW.symm.trans q1)
    have b := congrArg Int32.toInt (hm.symm.trans q4)
    rw [ofn_t (by omega), ofn_t (by omega)] at a b
    omega
  by_cases q : sx 0 15 = 0
  · obtain ⟨C, F, L, R, s1, s2, s3⟩ := sv_v (spl := lS [(lI [(spl 0 0)]), (fun _ => 0), (spl 2), (fun _ => 0), (spl 4)]) (sh := SHX sh) (sm := sm) (tpl := lT [(lJ []), (tpl 1), (fun _ => 0), (tpl 3), (fun _ => 0)]) (tm := tm) (hok_x K) (tbl_x T) N hW h5 hMC hm
    have e : J_X11_planOnce sx sh spl tpl = ((1 : Int32), sh 0 0, C, F, L, R) := by
      unfold J_X11_planOnce
      rw [if_pos q]
      exact lt_e s1.symm rfl
    have p2 : PLT sh sm tm W MC 0 C F := fun u κ c h1 h2 h3 h4 h5 => s2 u κ c h1 h2 h3 h4 h5
    have p3 : ∀ m, m ≤ W → BVB sh sm tm W m := fun m hm κ c h1 h2 h3 => s3 m hm κ c h1 h2 h3
    refine ⟨((1 : Int32), sh 0 0, C, F, L, R), e, rfl, p2, p3, fun _ => ⟨rfl, fun W2 MC2 q1 q2 q3 q4 => ?_⟩⟩
    obtain ⟨z1, z2⟩ := one W2 MC2 q1 q2 q3 q4
    subst z1 z2
    exact ⟨(plt_v (tm := tm)).mpr p2, fun m hm2 => (bvb_v (tm := tm)).mpr (p3 m hm2)⟩
  · obtain ⟨p1, p2⟩ := P q
    obtain ⟨a1, a2⟩ := p2 W MC hW h5 hMC hm
    have e : J_X11_planOnce sx sh spl tpl = (sx 0 15, spl 0 0, tpl 1, spl 2, tpl 3, spl 4) := by
      unfold J_X11_planOnce
      exact if_neg q
    exact ⟨(sx 0 15, spl 0 0, tpl 1, spl 2, tpl 3, spl 4), e, p1, (plt_v (tm := tm)).mp a1, fun m hm2 => (bvb_v (tm := tm)).mp (a2 m hm2), P⟩
theorem sc_v {spl : Nat → Nat → Int32} {tpl : Nat → Nat → Int64} {W P : Nat} (h : spl 0 0 = Int32.ofNat W) (hW : W ≤ 5) (hP : P ≤ W) : J_X6_scale spl tpl (Int32.ofNat P) = SCN (W - P) 1 := by
  show zSCA.getD (spl 0 0 - Int32.ofNat P).toNatClampNeg 0 = _
  rw [h, show Int32.ofNat W - Int32.ofNat P = Int32.ofNat (W - P) from Int32.toInt_inj.mp (by rw [i_sub (ofn_t (k := W) (by omega)) (ofn_t (k := P) (by omega)) (by omega) (by omega), ofn_t (by omega)]; omega), ofn_c (by omega)]
  exact sc_dec ⟨W - P, by omega⟩
theorem kh_v {H : Nat} (hH : H ≤ 400) (hh : 0 ≤ (Int32.ofNat H).toInt ∧ (Int32.ofNat H).toInt ≤ 400 ∧ tot (Int32.ofNat H) ≤ 4) : ∃ κ : Nat, κ < 35 ∧ J_X3_kind (Int32.ofNat H) = Int32.ofNat κ ∧ nAL κ = H ∧ zALL.getD κ 0 = Int32.ofNat H := by
  obtain ⟨k1, k2⟩ := kd_v hh
  have e := nk_v k2
  rw [k1] at e
  have y := congrArg Int32.toInt e
  have nl := nAL_lt ⟨_, k2⟩
  rw [ofn_t (k := nAL (J_X3_kind (Int32.ofNat H)).toNatClampNeg) (Nat.lt_of_lt_of_le nl (by decide)), ofn_t (by omega)] at y
  refine ⟨_, k2, ?_, Int.ofNat.inj y, k1⟩
  have z := kind_o ⟨_, k2⟩
  rw [show zALL.getD (J_X3_kind (Int32.ofNat H)).toNatClampNeg 0 = Int32.ofNat H from k1] at z
  exact z
theorem cm_n {sh sm : Nat → Nat → Int32} {tm : Nat → Nat → Int64} {c MC : Nat} (K : HOK sh sm) (hc : c < 3) (hMC : MC < 3) (hm : J_X4_mostComing sh = Int32.ofNat MC) (h : ¬ J_X12_isComing sm tm (Int32.ofNat c) = 0) : c ≤ MC := by
  by_cases q : c ≤ MC
  · exact q
  · refine absurd ((cm_iff (tm := tm) K).mp (Or.inr (fun z => q ?_))) h
    rw [hm] at z
    have := f_le (ofn_t (k := c) (by omega)) (ofn_t (k := MC) (by omega)) z
    omega
theorem best_alike {sx sh sm spl : Nat → Nat → Int32} {tpl tm : Nat → Nat → Int64} {p0 p1 p2 p3 q0 q1 q2 q3 : Int32} {t : Int64 × Int32 × Int32 × (Nat → Int64) × (Nat → Int32) × (Nat → Int64) × (Nat → Int32)} {t2 : Int64 × (Nat → Int64) × (Nat → Int64) × (Nat → Int32)} (h1 : t = J_X11_best sx sh spl tpl p0 p1 p2 p3) (h2 : t2 = J_X12_best sm tm q0 q1 q2 q3) (e0 : q0 = p0) (e1 : q1 = p1) (e2 : q2 = p2) (e3 : q3 = p3) (K : HOK sh sm) (T : TBL sh) (N : HNT (HT sh)) (P : PLN (sx 0 15) (spl 0 0) (tpl 1) (spl 2) (sh 0 0) (sh 0 1) (sh 0 10) (sm 2)) : t.1 = t2.1 ∧ PLN t.2.1 t.2.2.1 t.2.2.2.1 t.2.2.2.2.1 (sh 0 0) (sh 0 1) (sh 0 10) (sm 2) := by
  subst h1 h2 e0 e1 e2 e3
  have wk := K.2.2.1
  have V0 : (sm 2) (0 : Int32).toNatClampNeg = sh 0 0 := by rw [n0_]; exact K.1.1
  obtain ⟨W, hW, w0⟩ := nat_of (N := 5) (x := sh 0 0) ⟨wk.1, wk.2⟩
  have wt : (sh 0 0).toInt = (W : Int) := by rw [w0, ofn_t (by omega)]
  obtain ⟨MC, hMC, hm⟩ := mc_v (sh := sh)
  have n10 : ¬ (-1 : Int32) = 0 := by decide
  have n20 : ¬ (-2 : Int32) = 0 := by decide
  unfold J_X11_best J_X12_best
  dsimp only [LetF]
  rcases rs_cases (sx := sx) (sh := SHX sh) (tm := tm) (w := q0) (h := q1) (c := q2) (hok_x K) with ⟨r1, r2⟩ | ⟨r1, r2, r3⟩ | ⟨r1, r2, r3, r4, r5, r6, r7, r8⟩
  · rw [r1, if_neg n10, if_pos r2]; exact ⟨rfl, P⟩
  · rw [r1, if_neg n20, if_neg r2]
    refine ⟨?_, P⟩
    rcases r3 with r3 | r3
    · rw [if_pos r3]; rfl
    · by_cases z : J_X12_isHands sm tm q1 = 0
      · rw [if_pos z]; rfl
      · rw [if_neg z, if_pos r3]; rfl
  · rw [r1, if_pos rfl, if_neg r2, if_neg r3, if_neg r4]
    have r5 : 0 ≤ q0.toInt ∧ q0.toInt < (sh 0 0).toInt := r5
    have r7 : tot q1 ≤ (sh 0 1).toInt := r7
    obtain ⟨Q, hQ, rfl⟩ := nat_of (N := 5) (x := q0) ⟨r5.1, by omega⟩
    have pt : (Int32.ofNat Q).toInt = (Q : Int) := ofn_t (by omega)
    obtain ⟨H, hH, rfl⟩ := nat_of (N := 400) (x := q1) ⟨r6.1, r6.2.1⟩
    obtain ⟨c, hc, rfl⟩ := nat_of (N := 2) (x := q2) r8
    obtain ⟨κ, k1, k2, k3, k4⟩ := kh_v hH r6
    have cM := cm_n (tm := tm) K (by omega) hMC hm r4
    obtain ⟨y, y1, y2, y3, y4, y5⟩ := po_v (sx := sx) (sh := SHX sh) (sm := sm) (spl := lS [(lI [(spl 0 0)]), (fun _ => 0), (spl 2), (fun _ => 0), (spl 4)]) (tpl := lT [(lJ []), (tpl 1), (fun _ => 0), (tpl 3), (fun _ => 0)]) (tm := tm) (hok_x K) (tbl_x T) N w0 hW hMC hm P
    obtain ⟨V2, B, A, l1, l2⟩ := lbe_v (sm := sm) (tm := tm) (P := Q) K wt (by omega)
    rw [y1, l1]
    refine ⟨?_, y5⟩
    have hz : tot (zALL.getD κ 0) ≤ (sh 0 1).toInt := by rw [k4]; exact r7
    have nQ : ¬ Q = W := by omega
    have tab := (y3 Q κ c (Nat.zero_le Q) (by omega) k1 hz (by rw [if_neg nQ]; exact cM)).1
    rw [k3] at tab
    have ref := (l2 H c (by omega) (by omega) r3).1
    obtain ⟨x, x1, _⟩ := y4 (W - Q) (by omega) κ c k1 (by omega) hz
    rw [k3] at x1
    have lf : J_X6_leastFrom (lS [(lI [(y.2.1)]), (fun _ => 0), (y.2.2.2.1), (fun _ => 0), (y.2.2.2.2.2)]) (lT [(lJ []), (y.2.2.1), (fun _ => 0), (y.2.2.2.2.1), (fun _ => 0)]) (Int32.ofNat Q) (Int32.ofNat H) (Int32.ofNat c) = (BVL sm tm W (W - Q) H c).1 := by
      show y.2.2.1 (J_X6_place (Int32.ofNat Q) (J_X3_kind (Int32.ofNat H)) (Int32.ofNat c)).toNatClampNeg = _
      rw [k2, pl_i (by omega) k1 (by omega)]
      exact tab
    have ls := sc_v (spl := lS [(lI [(y.2.1)]), (fun _ => 0), (y.2.2.2.1), (fun _ => 0), (y.2.2.2.2.2)]) (tpl := lT [(lJ []), (y.2.2.1), (fun _ => 0), (y.2.2.2.2.1), (fun _ => 0)]) (W := W) (P := Q) (y2.trans w0) hW (by omega)
    obtain ⟨s1, s2⟩ := parts_v (W := W - Q) (by omega)
    have ep : J_X12_parts ((sm 2) (0 : Int32).toNatClampNeg - Int32.ofNat Q) = SCN (W - Q) 1 := by
      rw [V0, w0, show Int32.ofNat W - Int32.ofNat Q = Int32.ofNat (W - Q) from Int32.toInt_inj.mp (by rw [i_sub (ofn_t (k := W) (by omega)) pt (by omega) (by omega), ofn_t (by omega)]; omega)]
      exact s1
    rw [ix3 (h := H) (c := c) (by omega) (by omega), ep, lf, ls]
    show J_X11_told (BVL sm tm W (W - Q) H c).1 (SCN (W - Q) 1) q3 = J_X12_told (V2 (3 * H + c)) (SCN (W - Q) 1) q3
    rw [ref]
    exact told_alike (p := q3) (tlk_1 x1 s2 (by omega))
theorem bestAct_alike {sx sh sm spl : Nat → Nat → Int32} {tpl tm : Nat → Nat → Int64} {p0 p1 p2 q0 q1 q2 : Int32} {t : Int32 × Int32 × Int32 × (Nat → Int64) × (Nat → Int32) × (Nat → Int64) × (Nat → Int32)} {t2 : Int32 × (Nat → Int64) × (Nat → Int64) × (Nat → Int32)} (h1 : t = J_X11_bestAct sx sh spl tpl p0 p1 p2) (h2 : t2 = J_X12_bestAct sm tm q0 q1 q2) (e0 : q0 = p0) (e1 : q1 = p1) (e2 : q2 = p2) (K : HOK sh sm) (T : TBL sh) (N : HNT (HT sh)) (P : PLN (sx 0 15) (spl 0 0) (tpl 1) (spl 2) (sh 0 0) (sh 0 1) (sh 0 10) (sm 2)) : t.1 = t2.1 ∧ PLN t.2.1 t.2.2.1 t.2.2.2.1 t.2.2.2.2.1 (sh 0 0) (sh 0 1) (sh 0 10) (sm 2) := by
  subst h1 h2 e0 e1 e2
  have wk := K.2.2.1
  obtain ⟨W, hW, w0⟩ := nat_of (N := 5) (x := sh 0 0) ⟨wk.1, wk.2⟩
  have wt : (sh 0 0).toInt = (W : Int) := by rw [w0, ofn_t (by omega)]
  obtain ⟨MC, hMC, hm⟩ := mc_v (sh := sh)
  have n10 : ¬ (-1 : Int32) = 0 := by decide
  have n20 : ¬ (-2 : Int32) = 0 := by decide
  unfold J_X11_bestAct J_X12_bestAct
  dsimp only [LetF]
  rcases rs_cases (sx := sx) (sh := SHX sh) (tm := tm) (w := q0) (h := q1) (c := q2) (hok_x K) with ⟨r1, r2⟩ | ⟨r1, r2, r3⟩ | ⟨r1, r2, r3, r4, r5, r6, r7, r8⟩
  · rw [r1, if_neg n10, if_pos r2]; exact ⟨rfl, P⟩
  · rw [r1, if_neg n20, if_neg r2]
    refine ⟨?_, P⟩
    rcases r3 with r3 | r3
    · rw [if_pos r3]
    · by_cases z : J_X12_isHands sm tm q1 = 0
      · rw [if_pos z]
      · rw [if_neg z, if_pos r3]
  · rw [r1, if_pos rfl, if_neg r2, if_neg r3, if_neg r4]
    have r5 : 0 ≤ q0.toInt ∧ q0.toInt < (sh 0 0).toInt := r5
    have r7 : tot q1 ≤ (sh 0 1).toInt := r7
    obtain ⟨Q, hQ, rfl⟩ := nat_of (N := 5) (x := q0) ⟨r5.1, by omega⟩
    have pt : (Int32.ofNat Q).toInt = (Q : Int) := ofn_t (by omega)
    obtain ⟨H, hH, rfl⟩ := nat_of (N := 400) (x := q1) ⟨r6.1, r6.2.1⟩
    obtain ⟨c, hc, rfl⟩ := nat_of (N := 2) (x := q2) r8
    obtain ⟨κ, k1, k2, k3, k4⟩ := kh_v hH r6
    have cM := cm_n (tm := tm) K (by omega) hMC hm r4
    obtain ⟨y, y1, y2, y3, y4, y5⟩ := po_v (sx := sx) (sh := SHX sh) (sm := sm) (spl := lS [(lI [(spl 0 0)]), (fun _ => 0), (spl 2), (fun _ => 0), (spl 4)]) (tpl := lT [(lJ []), (tpl 1), (fun _ => 0), (tpl 3), (fun _ => 0)]) (tm := tm) (hok_x K) (tbl_x T) N w0 hW hMC hm P
    obtain ⟨V2, B, A, l1, l2⟩ := lbe_v (sm := sm) (tm := tm) (P := Q) K wt (by omega)
    rw [y1, l1]
    refine ⟨?_, y5⟩
    have hz : tot (zALL.getD κ 0) ≤ (sh 0 1).toInt := by rw [k4]; exact r7
    have nQ : ¬ Q = W := by omega
    have tab := (y3 Q κ c (Nat.zero_le Q) (by omega) k1 hz (by rw [if_neg nQ]; exact cM)).2 (by omega)
    rw [k3] at tab
    have ref := (l2 H c (by omega) (by omega) r3).2 (by omega)
    rw [ix3 (h := H) (c := c) (by omega) (by omega)]
    show y.2.2.2.1 (J_X6_place (Int32.ofNat Q) (J_X3_kind (Int32.ofNat H)) (Int32.ofNat c)).toNatClampNeg = A (3 * H + c)
    rw [k2, pl_i (by omega) k1 (by omega), ref]
    exact tab
