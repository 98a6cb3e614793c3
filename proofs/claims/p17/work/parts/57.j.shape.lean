theorem against_alike {sx sh sm spl : Nat → Nat → Int32} {tpl tm : Nat → Nat → Int64} {p0 p1 q0 q1 : Int32} {t : Int32 × Int32 × Int32 × (Nat → Int64) × (Nat → Int32) × (Nat → Int64) × (Nat → Int32)} {t2 : Int32 × (Nat → Int64) × (Nat → Int64) × (Nat → Int32)} (h1 : t = J_X11_against sx sh spl tpl p0 p1) (h2 : t2 = J_X12_against sm tm q0 q1) (e0 : q0 = p0) (e1 : q1 = p1) (K : HOK sh sm) (T : TBL sh) (N : HNT (HT sh)) (P : PLN (sx 0 15) (spl 0 0) (tpl 1) (spl 2) (sh 0 0) (sh 0 1) (sh 0 10) (sm 2)) : t.1 = t2.1 ∧ PLN t.2.1 t.2.2.1 t.2.2.2.1 t.2.2.2.2.1 (sh 0 0) (sh 0 1) (sh 0 10) (sm 2) := by
  subst h1 h2 e0 e1
  have wk := K.2.2.1
  obtain ⟨W, hW, w0⟩ := nat_of (N := 5) (x := sh 0 0) ⟨wk.1, wk.2⟩
  have wt : (sh 0 0).toInt = (W : Int) := by rw [w0, ofn_t (by omega)]
  obtain ⟨MC, hMC, hm⟩ := mc_v (sh := sh)
  have i4 : J_X12_in (q1.toInt64) 0 4 = 0 ↔ (q1.toInt < 0 ∨ 4 < q1.toInt) := in_z (K := 4) (by decide)
  unfold J_X11_against J_X12_against
  dsimp only [LetF]
  by_cases c1 : J_X11_isWeek sx (SHX sh) q0 = 0
  · rw [if_pos c1, if_pos ((iw_iff (hok_x K)).mp c1)]; exact ⟨rfl, P⟩
  · rw [if_neg c1, if_neg (fun q => c1 ((iw_iff (hok_x K)).mpr q))]
    have r5 : 0 ≤ q0.toInt ∧ q0.toInt < (sh 0 0).toInt := iw_r (sx := sx) (sh := SHX sh) c1
    by_cases c2 : q1 < 0
    · have d2 := f_lt rfl (by decide : (0 : Int32).toInt = 0) c2
      rw [if_pos c2, if_pos (i4.mpr (Or.inl d2))]; exact ⟨rfl, P⟩
    · have d2 := f_nlt rfl (by decide : (0 : Int32).toInt = 0) c2
      rw [if_neg c2]
      by_cases c3 : q1 ≤ 4
      · have d3 := f_le rfl (by decide : (4 : Int32).toInt = 4) c3
        rw [if_pos c3, if_neg (fun q => by have := i4.mp q; omega)]
        obtain ⟨Q, hQ, rfl⟩ := nat_of (N := 5) (x := q0) ⟨r5.1, by omega⟩
        have pt : (Int32.ofNat Q).toInt = (Q : Int) := ofn_t (by omega)
        obtain ⟨y, y1, y2, y3, y4, y5⟩ := po_v (sx := sx) (sh := SHX sh) (sm := sm) (spl := lS [(lI [(spl 0 0)]), (fun _ => 0), (spl 2), (fun _ => 0), (spl 4)]) (tpl := lT [(lJ []), (tpl 1), (fun _ => 0), (tpl 3), (fun _ => 0)]) (tm := tm) (hok_x K) (tbl_x T) N w0 hW hMC hm P
        obtain ⟨V2, B, A, l1, l2⟩ := lbe_v (sm := sm) (tm := tm) (P := Q) K wt (by omega)
        rw [y1, l1]
        refine ⟨?_, y5⟩
        have hs : ∀ x, x < 500 → ¬ J_X12_isHands sm tm (Int32.ofNat x) = 0 → A (3 * x) = (BVL sm tm W (W - Q) x 0).2 := fun x hx hi => (l2 x 0 hx (by decide) hi).2 (by omega)
        exact ag_eq (sx := up2 sx 0 (upd (sx 0) 15 y.1)) (sh := SHX sh) (sm := sm) (spl := lS [(lI [(y.2.1)]), (fun _ => 0), (y.2.2.2.1), (fun _ => 0), (y.2.2.2.2.2)]) (tpl := lT [(lJ []), (y.2.2.1), (fun _ => 0), (y.2.2.2.2.1), (fun _ => 0)]) (tm := tm) (t2 := up2L (up2L tm 10 V2) 11 B) (l := q1) (Q := Q) (W := W) (MC := MC) (s2 := A) (hok_x K) (by omega) hW y3 hs
      · have d3 := f_nle rfl (by decide : (4 : Int32).toInt = 4) c3
        rw [if_neg c3, if_pos (i4.mpr (Or.inr d3))]; exact ⟨rfl, P⟩
theorem sp_l {sx sh sm spl : Nat → Nat → Int32} {tpl tm : Nat → Nat → Int64} {y6 z6 : Int32} {Q W MC : Nat} {y : Int32 × Int32 × (Nat → Int64) × (Nat → Int32) × (Nat → Int64) × (Nat → Int32)} {V2 B : Nat → Int64} {A : Nat → Int32} (K : HOK sh sm) (hQ : Q < W) (h5 : W ≤ 5) (y3 : PLT sh sm tm W MC 0 y.2.2.1 y.2.2.2.1) (hs : ∀ x, x < 500 → ¬ J_X12_isHands sm tm (Int32.ofNat x) = 0 → A (3 * x) = (BVL sm tm W (W - Q) x 0).2) : ∀ (n l : Nat), l + n = 5 → ∃ r : Int32, LTs default (B_X11_shape_16 sx sh spl tpl (Int32.ofNat Q) y6 y) (n + 1) (Int32.ofNat l) = (r, y.1, y.2.1, y.2.2.1, y.2.2.2.1, y.2.2.2.2.1, y.2.2.2.2.2) ∧ (LTs default (B_X12_shape_17 sm tm (Int32.ofNat Q) z6 (V2, B, A)) (n + 1) (Int32.ofNat l)).1 = r
  | 0, l, e0 => by
    have e : l = 5 := by omega
    subst e
    have e1 : ∀ v : Int32, 4 < v → B_X11_shape_16 sx sh spl tpl (Int32.ofNat Q) y6 y v = Sum.inr (-9, y.1, y.2.1, y.2.2.1, y.2.2.2.1, y.2.2.2.2.1, y.2.2.2.2.2) := fun v hv => if_pos hv
    have e2 : ∀ v : Int32, 5 ≤ v → B_X12_shape_17 sm tm (Int32.ofNat Q) z6 (V2, B, A) v = Sum.inr (-9, V2, B, A) := fun v hv => if_pos hv
    refine ⟨-9, LT_en (e1 (Int32.ofNat 5) (by decide)), ?_⟩
    rw [LT_en (e2 (Int32.ofNat 5) (by decide))]
  | n + 1, l, e0 => by
    have c1 : ¬ (4 : Int32) < Int32.ofNat l := fun q => by have := f_lt (by decide : (4 : Int32).toInt = 4) (ofn_t (k := l) (by omega)) q; omega
    have c2 : ¬ (5 : Int32) ≤ Int32.ofNat l := fun q => by have := f_le (by decide : (5 : Int32).toInt = 5) (ofn_t (k := l) (by omega)) q; omega
    have eq := ag_eq (sx := up2 sx 0 (upd (sx 0) 15 y.1)) (sh := SHX sh) (sm := sm) (spl := lS [(lI [(y.2.1)]), (fun _ => 0), (y.2.2.2.1), (fun _ => 0), (y.2.2.2.2.2)]) (tpl := lT [(lJ []), (y.2.2.1), (fun _ => 0), (y.2.2.2.2.1), (fun _ => 0)]) (tm := tm) (t2 := up2L (up2L tm 10 V2) 11 B) (l := Int32.ofNat l) (Q := Q) (W := W) (MC := MC) (s2 := A) (hok_x K) hQ h5 y3 hs
    have e1 : B_X11_shape_16 sx sh spl tpl (Int32.ofNat Q) y6 y (Int32.ofNat l) = (fun y32 : Int32 => if y32 = -9 then (Sum.inr (Int32.ofNat l, y.1, y.2.1, y.2.2.1, y.2.2.2.1, y.2.2.2.2.1, y.2.2.2.2.2) : Sum Int32 (Int32 × Int32 × Int32 × (Nat → Int64) × (Nat → Int32) × (Nat → Int64) × (Nat → Int32))) else Sum.inl (Int32.ofNat l + 1)) (J_X11_firstAgainst (up2 sx 0 (upd (sx 0) 15 y.1)) (SHX sh) (lS [(lI [(y.2.1)]), (fun _ => 0), (y.2.2.2.1), (fun _ => 0), (y.2.2.2.2.2)]) (lT [(lJ []), (y.2.2.1), (fun _ => 0), (y.2.2.2.2.1), (fun _ => 0)]) (Int32.ofNat Q) (Int32.ofNat l)) := by
      unfold B_X11_shape_16
      try dsimp only [LetF]
      exact if_neg c1
    have e2 : B_X12_shape_17 sm tm (Int32.ofNat Q) z6 (V2, B, A) (Int32.ofNat l) = (fun y27 : Int32 => if y27 = -9 then (Sum.inr (Int32.ofNat l, V2, B, A) : Sum Int32 (Int32 × (Nat → Int64) × (Nat → Int64) × (Nat → Int32))) else Sum.inl (Int32.ofNat l + 1)) (J_X12_againstOf (up2 sm 12 A) (up2L (up2L tm 10 V2) 11 B) (Int32.ofNat Q) (Int32.ofNat l)) := by
      unfold B_X12_shape_17
      try dsimp only [LetF]
      exact if_neg c2
    rw [eq] at e1
    generalize J_X12_againstOf (up2 sm 12 A) (up2L (up2L tm 10 V2) 11 B) (Int32.ofNat Q) (Int32.ofNat l) = v at e1 e2
    by_cases q : v = -9
    · have e3 := e1.trans (if_pos q)
      have e4 := e2.trans (if_pos q)
      refine ⟨Int32.ofNat l, LT_en e3, ?_⟩
      rw [LT_en e4]
    · have e3 := e1.trans (if_neg q)
      have e4 := e2.trans (if_neg q)
      obtain ⟨r, r1, r2⟩ := sp_l (sx := sx) (spl := spl) (tpl := tpl) (y6 := y6) (z6 := z6) (V2 := V2) (B := B) K hQ h5 y3 hs n (l + 1) (by omega)
      refine ⟨r, ?_, ?_⟩
      · rw [LT_st e3, ofn_s (by omega)]; exact r1
      · rw [LT_st e4, ofn_s (by omega)]; exact r2
theorem shape_alike {sx sh sm spl : Nat → Nat → Int32} {tpl tm : Nat → Nat → Int64} {p0 q0 : Int32} {t : Int32 × Int32 × Int32 × (Nat → Int64) × (Nat → Int32) × (Nat → Int64) × (Nat → Int32)} {t2 : Int32 × (Nat → Int64) × (Nat → Int64) × (Nat → Int32)} (h1 : t = J_X11_shape sx sh spl tpl p0) (h2 : t2 = J_X12_shape sm tm q0) (e0 : q0 = p0) (K : HOK sh sm) (T : TBL sh) (N : HNT (HT sh)) (P : PLN (sx 0 15) (spl 0 0) (tpl 1) (spl 2) (sh 0 0) (sh 0 1) (sh 0 10) (sm 2)) : t.1 = t2.1 ∧ PLN t.2.1 t.2.2.1 t.2.2.2.1 t.2.2.2.2.1 (sh 0 0) (sh 0 1) (sh 0 10) (sm 2) := by
  subst h1 h2 e0
  have wk := K.2.2.1
  obtain ⟨W, hW, w0⟩ := nat_of (N := 5) (x := sh 0 0) ⟨wk.1, wk.2⟩
  have wt : (sh 0 0).toInt = (W : Int) := by rw [w0, ofn_t (by omega)]
  obtain ⟨MC, hMC, hm⟩ := mc_v (sh := sh)
  unfold J_X11_shape J_X12_shape
  dsimp only [LetF]
  by_cases c1 : J_X11_isWeek sx (SHX sh) q0 = 0
  · rw [if_pos c1, if_pos ((iw_iff (hok_x K)).mp c1)]; exact ⟨rfl, P⟩
  · rw [if_neg c1, if_neg (fun q => c1 ((iw_iff (hok_x K)).mpr q))]
    have r5 : 0 ≤ q0.toInt ∧ q0.toInt < (sh 0 0).toInt := iw_r (sx := sx) (sh := SHX sh) c1
    obtain ⟨Q, hQ, rfl⟩ := nat_of (N := 5) (x := q0) ⟨r5.1, by omega⟩
    have pt : (Int32.ofNat Q).toInt = (Q : Int) := ofn_t (by omega)
    obtain ⟨y, y1, y2, y3, y4, y5⟩ := po_v (sx := sx) (sh := SHX sh) (sm := sm) (spl := lS [(lI [(spl 0 0)]), (fun _ => 0), (spl 2), (fun _ => 0), (spl 4)]) (tpl := lT [(lJ []), (tpl 1), (fun _ => 0), (tpl 3), (fun _ => 0)]) (tm := tm) (hok_x K) (tbl_x T) N w0 hW hMC hm P
    obtain ⟨V2, B, A, l1, l2⟩ := lbe_v (sm := sm) (tm := tm) (P := Q) K wt (by omega)
    have hs : ∀ x, x < 500 → ¬ J_X12_isHands sm tm (Int32.ofNat x) = 0 → A (3 * x) = (BVL sm tm W (W - Q) x 0).2 := fun x hx hi => (l2 x 0 hx (by decide) hi).2 (by omega)
    obtain ⟨r, r1, r2⟩ := sp_l (sx := sx) (sh := sh) (sm := sm) (spl := spl) (tpl := tpl) (tm := tm) (y6 := J_X11_isWeek sx (SHX sh) (Int32.ofNat Q)) (z6 := J_X12_isWeek sm tm (Int32.ofNat Q)) (Q := Q) (W := W) (MC := MC) (y := y) (V2 := V2) (B := B) (A := A) K (by omega) hW y3 hs 5 0 rfl
    have r1 : LTs default (B_X11_shape_16 sx sh spl tpl (Int32.ofNat Q) (J_X11_isWeek sx (SHX sh) (Int32.ofNat Q)) y) 6 (0 : Int32) = _ := r1
    have r2 : (LTs default (B_X12_shape_17 sm tm (Int32.ofNat Q) (J_X12_isWeek sm tm (Int32.ofNat Q)) (V2, B, A)) 6 (0 : Int32)).1 = r := r2
    rw [y1, l1, r1, r2]
    exact ⟨rfl, y5⟩
