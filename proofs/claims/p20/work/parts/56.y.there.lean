/-! going ahead: both sides -/
abbrev SHX (sh : Nat → Nat → Int32) : Nat → Nat → Int32 := lS [(lI [(sh 0 0), (sh 0 1), 0, 0, 0, 0, (sh 0 6), (sh 0 7), (sh 0 8), (sh 0 9), (sh 0 10), (sh 0 11), (sh 0 12)]), (sh 1), (sh 2), (sh 3), (sh 4), (sh 5)]
abbrev SC0 : Nat → Nat → Int32 := lS [(lI []), (fun _ => 0), (fun _ => 0)]
theorem lv_x {sh : Nat → Nat → Int32} {d g : Int32} : J_X4_leaving (SHX sh) d g = J_X4_leaving sh d g := rfl
theorem tbl_x {sh : Nat → Nat → Int32} (T : TBL sh) : TBL (SHX sh) := fun k hk b hb => T k hk b hb
def SCN : Nat → Int64 → Int64
  | 0, s => s
  | n + 1, s => SCN n (s * 625)
theorem scn_v : ∀ (n m : Nat) (s : Int64), s.toInt = ((625 ^ m : Nat) : Int) → m + n ≤ 5 → (SCN n s).toInt = ((625 ^ (m + n) : Nat) : Int)
  | 0, m, s, h, _ => h
  | n + 1, m, s, h, hn => by
    have e : (s * 625).toInt = ((625 ^ (m + 1) : Nat) : Int) := by
      rw [Nat.pow_succ]
      exact l_mulN h (by decide) (by rw [← Nat.pow_succ]; exact Nat.le_trans (p625 (n := m + 1) (by omega)) (by decide))
    rw [show m + (n + 1) = m + 1 + n from by omega]
    exact scn_v n (m + 1) (s * 625) e (by omega)
theorem pts_v {W : Nat} (hW : W ≤ 5) : ∀ (n v : Nat) (s : Int64), v + n = W → LTs default (B_X12_parts_4 (Int32.ofNat W)) (n + 1) (Int32.ofNat v, s) = SCN n s
  | 0, v, s, h => by
    have e : v = W := by omega
    subst e
    have e2 : B_X12_parts_4 (Int32.ofNat v) (Int32.ofNat v, s) = Sum.inr s := by
      unfold B_X12_parts_4
      try dsimp only [LetF]
      exact if_pos (Int32.le_iff_toInt_le.mpr (Int.le_refl _))
    exact LT_en e2
  | n + 1, v, s, h => by
    have cv : ¬ Int32.ofNat W ≤ Int32.ofNat v := fun q => by have := f_le (ofn_t (k := W) (by omega)) (ofn_t (k := v) (by omega)) q; omega
    have e2 : B_X12_parts_4 (Int32.ofNat W) (Int32.ofNat v, s) = Sum.inl (Int32.ofNat v + 1, s * 625) := by
      unfold B_X12_parts_4
      try dsimp only [LetF]
      exact if_neg cv
    rw [LT_st e2, ofn_s (by omega), pts_v hW n (v + 1) (s * 625) (by omega)]
    rfl
theorem parts_v {W : Nat} (hW : W ≤ 5) : J_X12_parts (Int32.ofNat W) = SCN W 1 ∧ (SCN W 1).toInt = ((625 ^ W : Nat) : Int) := by
  have e : (Int.toNat (Int32.ofNat W).toInt) = W := by rw [ofn_t (by omega)]; rfl
  refine ⟨?_, ?_⟩
  · show LTs default (B_X12_parts_4 (Int32.ofNat W)) (Int.toNat (Int32.ofNat W).toInt + 1) ((0 : Int32), (1 : Int64)) = _
    rw [e]
    exact pts_v hW W 0 1 (by omega)
  · have z := scn_v W 0 1 (by decide) (by omega)
    rw [Nat.zero_add] at z; exact z
theorem ahk_c {sh : Nat → Nat → Int32} {A l L : Nat → Int64} {n : Nat} (H : AHK sh A l n) (h : ∀ x, x < 50 → L x = l x) : AHK sh A L n := by
  obtain ⟨h1, h2, h3, h4⟩ := H
  exact ⟨fun b hb => by rw [h _ (al5 hb).1]; exact h1 b hb, h2, fun x hx q => by rw [h x hx]; exact h3 x hx q, h4⟩
/-- who is there may be there -/
theorem ahk_t {sh : Nat → Nat → Int32} {A l : Nat → Int64} {n k : Nat} (H : AHK sh A l n) (hk : k < 35) (h : ¬ A k = 0) : k < 15 ∧ tot (zALL.getD k 0) ≤ (sh 0 1).toInt := by
  obtain ⟨h1, h2, h3, h4⟩ := H
  by_cases q : k < 15
  · obtain ⟨a1, a2⟩ := al5 q
    have a3 := (ak (k := k) (by omega)).2.1
    refine ⟨q, ?_⟩
    by_cases z : (sh 0 1).toInt < ((nAL k / 10 + nAL k % 10 : Nat) : Int)
    · exact absurd ((h1 k q).trans (h3 _ a1 z)) h
    · rw [a3, a2]; omega
  · exact absurd (h2 k (by omega) hk) h
theorem ga_w {sx sh sm sco : Nat → Nat → Int32} {tm tco : Nat → Nat → Int64} {r : Int32} {W : Nat} {y9 : (Nat → Int64) × Int64 × Int64} (K : HOK sh sm) (hL : LVL (sx 1) (sm 4)) (hr : 0 ≤ r.toInt ∧ r.toInt ≤ 2) (T : TBL sh) (hW : (W : Int) ≤ (sh 0 0).toInt) : ∀ (n v f : Nat) (sc cs ss si : Int64) (A D l L : Nat → Int64), v + n = W → n + 1 ≤ f → AHK sh A l v → LKR sm tm r n v l L → ∃ (A2 D2 : Nat → Int64) (cs2 ss2 si2 : Int64), LTs default (B_X11_goAheadOf_10 sx sh sco tco r (Int32.ofNat W) y9) f (Int32.ofNat v, sc, cs, ss, si, A, D) = (A2, D2, SCN n sc, cs2, ss2, si2) ∧ AHK sh A2 L W
  | 0, v, f, sc, cs, ss, si, A, D, l, L, h1, h2, h3, h4 => by
    have wk := K.2.2.1
    have e : v = W := by omega
    subst e
    obtain ⟨f2, rfl⟩ : ∃ f2, f = f2 + 1 := ⟨f - 1, by omega⟩
    have e2 : B_X11_goAheadOf_10 sx sh sco tco r (Int32.ofNat v) y9 (Int32.ofNat v, sc, cs, ss, si, A, D) = Sum.inr (A, D, sc, cs, ss, si) := by
      unfold B_X11_goAheadOf_10
      try dsimp only [LetF]
      exact if_pos (Int32.le_iff_toInt_le.mpr (Int.le_refl _))
    exact ⟨A, D, cs, ss, si, LT_en e2, ahk_c h3 h4⟩
  | n + 1, v, f, sc, cs, ss, si, A, D, l, L, h1, h2, h3, h4 => by
    have wk := K.2.2.1
    obtain ⟨f2, rfl⟩ : ∃ f2, f = f2 + 1 := ⟨f - 1, by omega⟩
    have vt : (Int32.ofNat v).toInt = (v : Int) := ofn_t (by omega)
    have c : ¬ Int32.ofNat W ≤ Int32.ofNat v := fun q => by have := f_le (ofn_t (k := W) (by omega)) vt q; omega
    have e2 : B_X11_goAheadOf_10 sx sh sco tco r (Int32.ofNat W) y9 (Int32.ofNat v, sc, cs, ss, si, A, D) = (fun P : (Nat → Int64) × Int64 × Int64 × Int64 => (fun S : (Nat → Int64) × Int64 × Int64 => (Sum.inl (Int32.ofNat v + 1, S.2.1, S.2.2, P.2.2.1, P.2.2.2, S.1, P.1) : Sum (Int32 × Int64 × Int64 × Int64 × Int64 × (Nat → Int64) × (Nat → Int64)) ((Nat → Int64) × (Nat → Int64) × Int64 × Int64 × Int64 × Int64))) (J_X1_passSunday SC0 (lT [(lJ [0, 0, sc, P.2.1, P.2.2.1, P.2.2.2]), A, P.1]) (SHX sh))) (J_X1_passWeek SC0 (lT [(lJ [0, 0, sc, cs, ss, si]), A, D]) (SHX sh) (Int32.ofNat v) (J_X11_levelBy sx r (Int32.ofNat v)) 0) := by
      unfold B_X11_goAheadOf_10
      try dsimp only [LetF]
      exact if_neg c
    obtain ⟨P, p1, p2⟩ := pw_v (sco := SC0) (sh := SHX sh) (tco := lT [(lJ [0, 0, sc, cs, ss, si]), A, D]) (w := Int32.ofNat v) (lv := J_X11_levelBy sx r (Int32.ofNat v)) (c := 0)
    rw [p1] at e2
    obtain ⟨G, g1, g2, g3⟩ := ps_v (sco := SC0) (sh := SHX sh) (tco := lT [(lJ [0, 0, sc, (lT [(lJ [0, 0, sc, cs, ss, si]), A, D]) 0 3 + SML (wC (SHX sh) (Int32.ofNat v) (J_X11_levelBy sx r (Int32.ofNat v)) 0 ((lT [(lJ [0, 0, sc, cs, ss, si]), A, D]) 1)) 35 0, SML (wS (SHX sh) (Int32.ofNat v) (J_X11_levelBy sx r (Int32.ofNat v)) 0 ((lT [(lJ [0, 0, sc, cs, ss, si]), A, D]) 1)) 35 0, SML (wI (SHX sh) (Int32.ofNat v) (J_X11_levelBy sx r (Int32.ofNat v)) 0 ((lT [(lJ [0, 0, sc, cs, ss, si]), A, D]) 1)) 35 0]), A, P])
    have e3 := e2.trans (congrArg (fun S : (Nat → Int64) × Int64 × Int64 => (Sum.inl (Int32.ofNat v + 1, S.2.1, S.2.2, SML (wS (SHX sh) (Int32.ofNat v) (J_X11_levelBy sx r (Int32.ofNat v)) 0 ((lT [(lJ [0, 0, sc, cs, ss, si]), A, D]) 1)) 35 0, SML (wI (SHX sh) (Int32.ofNat v) (J_X11_levelBy sx r (Int32.ofNat v)) 0 ((lT [(lJ [0, 0, sc, cs, ss, si]), A, D]) 1)) 35 0, S.1, P) : Sum (Int32 × Int64 × Int64 × Int64 × Int64 × (Nat → Int64) × (Nat → Int64)) ((Nat → Int64) × (Nat → Int64) × Int64 × Int64 × Int64 × Int64))) g1)
    obtain ⟨l2, k1, k2⟩ := h4
    have H : AHK sh G l2 (v + 1) := by
      refine ahk_step (sx := sx) (r := r) (v := v) (A := A) K hL hr T (by omega) (by omega) h3 (fun x hx => ?_) g3 k1
      exact wk_v (sh := SHX sh) (w := Int32.ofNat v) (lv := J_X11_levelBy sx r (Int32.ofNat v)) (A := A) (D := P) (G := G) p2 g2 (fun k hk q => by
        obtain ⟨t1, t2⟩ := ahk_t h3 hk q
        obtain ⟨_, q2, _⟩ := rule_v (sx := sx) (tm := tm) (r := r) (w := Int32.ofNat v) (c := 0) (h := zALL.getD k 0) K hL hr ⟨by omega, by omega⟩ (by decide) (ak hk).1 t2
        exact (kd_t q2.1).1) x hx
    obtain ⟨A2, D2, cs2, ss2, si2, r1, r2⟩ := ga_w (sco := sco) (tm := tm) (tco := tco) (y9 := y9) K hL hr T hW n (v + 1) f2 (sc * 625) _ _ _ G P l2 L (by omega) (by omega) H k2
    exact ⟨A2, D2, cs2, ss2, si2, (LT_st e3).trans (by rw [ofn_s (by omega)]; exact r1), r2⟩
theorem ga_v {sx sh sm sco : Nat → Nat → Int32} {tm tco : Nat → Nat → Int64} {r : Int32} {W : Nat} (K : HOK sh sm) (hL : LVL (sx 1) (sm 4)) (hr : 0 ≤ r.toInt ∧ r.toInt ≤ 2) (T : TBL sh) (hW : (W : Int) ≤ (sh 0 0).toInt) : ∃ (A D L L2 : Nat → Int64) (cs ss si : Int64), J_X11_goAheadOf sx sh sco tco r (Int32.ofNat W) = (A, D, SCN W 1, cs, ss, si) ∧ J_X12_layLikely sm tm r (Int32.ofNat W) = (L, L2) ∧ AHK sh A L W := by
  have wk := K.2.2.1
  obtain ⟨l, L, L2, e1, e2, e3⟩ := lk_v (sm := sm) (tm := tm) (p0 := r) (W := W) (by omega)
  have z : ∀ k, k < 35 → (vp_updL (J_J7_fill_d0a16_35 (fun _ _ => 0) (fun _ => (tco 1)) 0) ((J_X3_kind 0)).toNatClampNeg 1) k = if k = 0 then 1 else 0 := fun k hk => by
    have e0 : (J_X3_kind 0).toNatClampNeg = 0 := by decide
    rw [e0]
    by_cases q : k = 0
    · rw [q, updL_s, if_pos rfl]
    · rw [updL_n q, if_neg q]; exact if_pos hk
  obtain ⟨A, D, cs, ss, si, g1, g2⟩ := ga_w (sx := sx) (sco := sco) (tm := tm) (tco := tco) (y9 := (vp_updL (J_J7_fill_d0a16_35 (fun _ _ => 0) (fun _ => (tco 1)) 0) ((J_X3_kind 0)).toNatClampNeg 1, (1 : Int64), (0 : Int64))) K hL hr T hW W 0 6 1 0 (tco 0 4) (tco 0 5) (vp_updL (J_J7_fill_d0a16_35 (fun _ _ => 0) (fun _ => (tco 1)) 0) ((J_X3_kind 0)).toNatClampNeg 1) (tco 2) l L (by omega) (by omega) (ahk_0 z e2 K.2.2.2.1.1) e3
  exact ⟨A, D, L, L2, cs, ss, si, g1, e1, g2⟩
/-! how likely so many are there -/
theorem so_v {sco : Nat → Nat → Int32} {tco : Nat → Nat → Int64} {p : Int32} : ∀ (n k : Nat) (s : Int64), k + n = 35 → LTs default (B_X1_shareOf_5 sco tco p) (n + 1) (Int32.ofNat k, s) = s + SML (fun k => if J_X3_total (zALL.getD k 0) = p then tco 1 k else 0) n k
  | 0, k, s, h => by
    have e : k = 35 := by omega
    subst e
    have e2 : B_X1_shareOf_5 sco tco p (Int32.ofNat 35, s) = Sum.inr s := rfl
    rw [LT_en e2]
    exact (Int64.add_zero s).symm
  | n + 1, k, s, h => by
    have ck : ¬ (35 : Int32) ≤ Int32.ofNat k := fun q => by have := f_le (by decide : (35 : Int32).toInt = 35) (ofn_t (k := k) (by omega)) q; omega
    have ek : (Int32.ofNat k).toNatClampNeg = k := ofn_c (by omega)
    rw [sml_s]
    by_cases q : J_X3_total (zALL.getD k 0) = p
    · have e2 : B_X1_shareOf_5 sco tco p (Int32.ofNat k, s) = Sum.inl (Int32.ofNat k + 1, s + tco 1 (Int32.ofNat k).toNatClampNeg) := by
        unfold B_X1_shareOf_5
        try dsimp only [LetF]
        exact (if_neg ck).trans (if_pos (by rw [ek]; exact q))
      rw [ek] at e2
      rw [LT_st e2, ofn_s (by omega), so_v n (k + 1) _ (by omega), if_pos q, Int64.add_assoc]
    · have e2 : B_X1_shareOf_5 sco tco p (Int32.ofNat k, s) = Sum.inl (Int32.ofNat k + 1, s) := by
        unfold B_X1_shareOf_5
        try dsimp only [LetF]
        exact (if_neg ck).trans (if_neg (by rw [ek]; exact q))
      rw [LT_st e2, ofn_s (by omega), so_v n (k + 1) _ (by omega), if_neg q, Int64.zero_add]
theorem th_v {sm : Nat → Nat → Int32} {tm : Nat → Nat → Int64} {p0 p1 p2 p3 y6 y13 : Int32} {y : (Nat → Int64) × (Nat → Int64)} : ∀ (n x : Nat) (s : Int64), x + n = 50 → (LTs default (B_X12_there_57 sm tm p0 p1 p2 p3 y6 y13 y) (n + 1) (Int32.ofNat x, s)).1 = J_X12_told (s + SML (fun x => if J_X12_all (Int32.ofNat x) = p2 then y.1 x else 0) n x) (J_X12_parts p1) p3
  | 0, x, s, h => by
    have e : x = 50 := by omega
    subst e
    have e2 : B_X12_there_57 sm tm p0 p1 p2 p3 y6 y13 y (Int32.ofNat 50, s) = Sum.inr (J_X12_told s (J_X12_parts p1) p3, y.1, y.2) := rfl
    rw [LT_en e2]
    show J_X12_told s _ _ = J_X12_told (s + 0) _ _
    rw [Int64.add_zero]
  | n + 1, x, s, h => by
    have cx : ¬ (50 : Int32) ≤ Int32.ofNat x := fun q => by have := f_le (by decide : (50 : Int32).toInt = 50) (ofn_t (k := x) (by omega)) q; omega
    have ex : (Int32.ofNat x).toNatClampNeg = x := ofn_c (by omega)
    rw [sml_s]
    by_cases q : J_X12_all (Int32.ofNat x) = p2
    · have e2 : B_X12_there_57 sm tm p0 p1 p2 p3 y6 y13 y (Int32.ofNat x, s) = Sum.inl (Int32.ofNat x + 1, s + y.1 (Int32.ofNat x).toNatClampNeg) := by
        unfold B_X12_there_57
        try dsimp only [LetF]
        exact (if_neg cx).trans (if_pos q)
      rw [ex] at e2
      rw [LT_st e2, ofn_s (by omega), th_v n (x + 1) _ (by omega), if_pos q, Int64.add_assoc]
    · have e2 : B_X12_there_57 sm tm p0 p1 p2 p3 y6 y13 y (Int32.ofNat x, s) = Sum.inl (Int32.ofNat x + 1, s + 0) := by
        unfold B_X12_there_57
        try dsimp only [LetF]
        exact (if_neg cx).trans (if_neg q)
      rw [LT_st e2, ofn_s (by omega), th_v n (x + 1) _ (by omega), if_neg q, Int64.add_zero, Int64.zero_add]
theorem th_2 {sm : Nat → Nat → Int32} {tm : Nat → Nat → Int64} {p0 p1 p2 p3 y6 y13 : Int32} {y : (Nat → Int64) × (Nat → Int64)} : B_X12_there_57_2 sm tm p0 p1 p2 p3 y6 y13 y = B_X12_there_57 sm tm p0 p1 p2 p3 y6 y13 y := rfl
theorem tlk_1 {A B : Int64} {x W : Nat} (hA : A.toInt = ((x : Nat) : Int)) (hB : B.toInt = ((625 ^ W : Nat) : Int)) (hW : W ≤ 5) : TLK A B A B :=
  ⟨1, x, 625 ^ W, 4 * W, by decide, Nat.pow_pos (by decide), hA, hB, by rw [Nat.one_mul]; exact hA, by rw [Nat.one_mul]; exact hB, by rw [Nat.one_mul, Nat.pow_mul], by omega⟩
theorem ta_dec : ∀ b : Fin 15, J_X3_total (zALL.getD b.val 0) = J_X12_all (Int32.ofNat (nAL b.val)) := by decide +kernel
/-- sums over who is there, both sides -/
theorem ahk_s {sh : Nat → Nat → Int32} {A l f g : Nat → Int64} {W : Nat} (H : AHK sh A l W) (hk : (sh 0 1).toInt ≤ 4) (hf : ∀ k, k < 35 → A k = 0 → f k = 0) (hg : ∀ x, x < 50 → l x = 0 → g x = 0) (hfg : ∀ b, b < 15 → ¬ A b = 0 → f b = g (nAL b)) : SML f 35 0 = SML g 50 0 := by
  obtain ⟨h1, h2, h3, h4⟩ := H
  rw [sml_35 (fun k q1 q2 => hf k q2 (h2 k q1 q2)), sml_15 (fun x q1 q2 => hg x q1 (h3 x q1 (by omega)))]
  refine sml_c 15 0 (fun b _ hb => ?_)
  by_cases q : A b = 0
  · rw [hf b (by omega) q, hg _ (al5 (b := b) (by omega)).1 (by rw [← h1 b (by omega)]; exact q)]
  · exact hfg b (by omega) q
theorem ahk_n {sh : Nat → Nat → Int32} {A l f : Nat → Int64} {W m : Nat} (H : AHK sh A l W) (hW : W ≤ 5) (hm : m ≤ 1000) (hf : ∀ k, k < 35 → A k = 0 → f k = 0) (hfn : ∀ b N, b < 15 → (A b).toInt = ((N : Nat) : Int) → N ≤ 95367431640625 → ∃ c : Nat, c ≤ m ∧ (f b).toInt = ((N * c : Nat) : Int)) : ∃ x : Nat, (SML f 35 0).toInt = ((x : Nat) : Int) := by
  obtain ⟨h1, h2, h3, N, h4, h5⟩ := H
  have b5 := p625 hW
  rw [sml_35 (fun k q1 q2 => hf k q2 (h2 k q1 q2))]
  have hN : ∀ b, b < 15 → N b ≤ 95367431640625 := fun b hb => Nat.le_trans (nsm_1le (f := N) (k := b) 15 0 (Nat.zero_le _) (by omega)) (Nat.le_trans h5 b5)
  have hc : ∀ b, b < 15 → ∃ c : Nat, c ≤ m ∧ (f b).toInt = ((N b * c : Nat) : Int) := fun b hb => hfn b (N b) hb (h4 b hb) (hN b hb)
  have e : ∀ b, b < 15 → (f b).toInt = (((f b).toInt.toNat : Nat) : Int) ∧ (f b).toInt.toNat ≤ N b * m := fun b hb => by
    obtain ⟨c, c1, c2⟩ := hc b hb
    rw [c2, Int.toNat_natCast]
    exact ⟨rfl, Nat.mul_le_mul (Nat.le_refl _) c1⟩
  refine ⟨NSM (fun b => (f b).toInt.toNat) 15 0, sml_n 15 0 (fun b _ hb => (e b (by omega)).1) ?_⟩
  have s1 := nsm_le (f := fun b => (f b).toInt.toNat) (g := fun b => N b * m) 15 0 (fun b _ hb => (e b (by omega)).2)
  rw [nsm_mul] at s1
  have s2 := Nat.mul_le_mul (Nat.le_trans h5 b5) hm
  exact Nat.le_trans s1 (Nat.le_trans s2 (by decide))
