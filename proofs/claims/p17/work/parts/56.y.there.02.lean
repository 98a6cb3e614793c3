theorem ga_w {sx sh sm sco : Nat → Nat → Int32} {tm tco : Nat → Nat → Int64} {r : Int32} {W : Nat} {y9 : (Nat → Int64) × Int64 × Int64} (K : HOK sh sm) (hL : LVL (sx 1) (sm 4)) (hr : 0 ≤ r.toInt ∧ r.toInt ≤ 2) (T : TBL sh) (hW : (W : Int) ≤ (sh 0 0).toInt) : ∀ (n v f : Nat) (sc cs ss si : Int64) (A D l L : Nat → Int64), v + n = W → n + 1 ≤ f → AHK sh A l v → LKR sm tm r n v l L → ∃ (A2 D2 : Nat → Int64) (cs2 ss2 si2 : Int64), LTs default (B_X11_goAheadOf_10 sx sh sco tco r (Int32.ofNat W) y9) f (Int32.ofNat v, sc, cs, ss, si, A, D) = (A2, D2, SCN n sc, cs2, ss2, si2) ∧ AHK sh A2 L W
  | 0, v, f, sc, cs, ss, si, A, D, l, L, h1, h2, h3, h4 => by
    have wk := K.2.2.1
    have e : v = W := by omega
    subst e
    obtain ⟨f2, rfl⟩ : ∃ f2, f = f2 + 1 := ⟨f - 1, by omega⟩
    have e2 : B_X11_goAheadOf_10 sx sh sco tco r (Int32.ofNat v) y9 (Int32.ofNat v, sc, cs, ss, si, A, D) = Sum.inr (A, D, sc, cs, ss, si) := by
      unfold B_X11_goAheadOf_10
      try dsimp only [LetF]
      exact if_pos (Int32.le_iff_toInt_le.mpr (Int.le_refl _))
    exact ⟨A, D, cs, ss, si, LT_en e2, ahk_c h3 h4⟩
  | n + 1, v, f, sc, cs, ss, si, A, D, l, L, h1, h2, h3, h4 => by
    have wk := K.2.2.1
    obtain ⟨f2, rfl⟩ : ∃ f2, f = f2 + 1 := ⟨f - 1, by omega⟩
    have vt : (Int32.ofNat v).toInt = (v : Int) := ofn_t (by omega)
    have c : ¬ Int32.ofNat W ≤ Int32.ofNat v := fun q => by have := f_le (ofn_t (k := W) (by omega)) vt q; omega
    have e2 : B_X11_goAheadOf_10 sx sh sco tco r (Int32.ofNat W) y9 (Int32.ofNat v, sc, cs, ss, si, A, D) = (fun P : (Nat → Int64) × Int64 × Int64 × Int64 => (fun S : (Nat → Int64) × Int64 × Int64 => (Sum.inl (Int32.ofNat v + 1, S.2.1, S.2.2, P.2.2.1, P.2.2.2, S.1, P.1) : Sum (Int32 × Int64 × Int64 × Int64 × Int64 × (Nat → Int64) × (Nat → Int64)) ((Nat → Int64) × (Nat → Int64) × Int64 × Int64 × Int64 × Int64))) (J_X1_passSunday SC0 (lT [(lJ [0, 0, sc, P.2.1, P.2.2.1, P.2.2.2]), A, P.1]) (SHX sh))) (J_X1_passWeek SC0 (lT [(lJ [0, 0, sc, cs, ss, si]), A, D]) (SHX sh) (Int32.ofNat v) (J_X11_levelBy sx r (Int32.ofNat v)) 0) := by
      unfold B_X11_goAheadOf_10
      try dsimp only [LetF]
      exact if_neg c
    obtain ⟨P, p1, p2⟩ := pw_v (sco := SC0) (sh := SHX sh) (tco := lT [(lJ [0, 0, sc, cs, ss, si]), A, D]) (w := Int32.ofNat v) (lv := J_X11_levelBy sx r (Int32.ofNat v)) (c := 0)
    rw [p1] at e2
    obtain ⟨G, g1, g2, g3⟩ := ps_v (sco := SC0) (sh := SHX sh) (tco := lT [(lJ [0, 0, sc, (lT [(lJ [0, 0, sc, cs, ss, si]), A, D]) 0 3 + SML (wC (SHX sh) (Int32.ofNat v) (J_X11_levelBy sx r (Int32.ofNat v)) 0 ((lT [(lJ [0, 0, sc, cs, ss, si]), A, D]) 1)) 35 0, SML (wS (SHX sh) (Int32.ofNat v) (J_X11_levelBy sx r (Int32.ofNat v)) 0 ((lT [(lJ [0, 0, sc, cs, ss, si]), A, D]) 1)) 35 0, SML (wI (SHX sh) (Int32.ofNat v) (J_X11_levelBy sx r (Int32.ofNat v)) 0 ((lT [(lJ [0, 0, sc, cs, ss, si]), A, D]) 1)) 35 0]), A, P])
    have e3 := e2.trans (congrArg (fun S : (Nat → Int64) × Int64 × Int64 => (Sum.inl (Int32.ofNat v + 1, S.2.1, S.2.2, SML (wS (SHX sh) (Int32.ofNat v) (J_X11_levelBy sx r (Int32.ofNat v)) 0 ((lT [(lJ [0, 0, sc, cs, ss, si]), A, D]) 1)) 35 0, SML (wI (SHX sh) (Int32.ofNat v) (J_X11_levelBy sx r (Int32.ofNat v)) 0 ((lT [(lJ [0, 0, sc, cs, ss, si]), A, D]) 1)) 35 0, S.1, P) : Sum (Int32 × Int64 × Int64 × Int64 × Int64 × (Nat → Int64) × (Nat → Int64)) ((Nat → Int64) × (Nat → Int64) × Int64 × Int64 × Int64 × Int64))) g1)
    obtain ⟨l2, k1, k2⟩ := h4
    have H : AHK sh G l2 (v + 1) := by
      refine ahk_step (sx := sx) (r := r) (v := v) (A := A) K hL hr T (by omega) (by omega) h3 (fun x hx => ?_) g3 k1
      exact wk_v (sh := SHX sh) (w := Int32.ofNat v) (lv := J_X11_levelBy sx r (Int32.ofNat v)) (A := A) (D := P) (G := G) p2 g2 (fun k hk q => by
        obtain ⟨t1, t2⟩ := ahk_t h3 hk q
        obtain ⟨_, q2, _⟩ := rule_v (sx := sx) (tm := tm) (r := r) (w := Int32.ofNat v) (c := 0) (h := zALL.getD k 0) K hL hr ⟨by omega, by omega⟩ (by decide) (ak hk).1 t2
        exact (kd_t q2.1).1) x hx
    obtain ⟨A2, D2, cs2, ss2, si2, r1, r2⟩ := ga_w (sco := sco) (tm := tm) (tco := tco) (y9 := y9) K hL hr T hW n (v + 1) f2 (sc * 625) _ _ _ G P l2 L (by omega) (by omega) H k2
    exact ⟨A2, D2, cs2, ss2, si2, (LT_st e3).trans (by rw [ofn_s (by omega)]; exact r1), r2⟩
