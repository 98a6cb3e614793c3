/-! a Sunday of a course -/
theorem ix15 {k b : Nat} (hk : k < 35) (hb : b < 15) : ((Int32.ofNat k * (15 : Int32)) + Int32.ofNat b).toNatClampNeg = 15 * k + b := by
  have m : (Int32.ofNat k * (15 : Int32)).toInt = (k : Int) * 15 := i_mul (ofn_t (by omega)) (by decide) (by omega) (by omega)
  exact wn_k (by rw [i_add m (ofn_t (by omega)) (by omega) (by omega)]; omega)
def sdT (sh : Nat → Nat → Int32) (D : Nat → Int64) (x k : Nat) : Int64 := if x < 15 then D k * (sh 5 (15 * k + x)).toInt64 else 0
theorem ps_in {sco sh : Nat → Nat → Int32} {tco : Nat → Nat → Int64} {g0 y6 : Nat → Int64} {k : Nat} (hk : k < 35) : ∀ (n b : Nat) (g : Nat → Int64), b + n = 15 → ∃ G : Nat → Int64, LTs (Sum.inl default) (B_X1_passSunday_29_2 sco tco sh (Int32.ofNat k) g0 y6) (n + 1) (Int32.ofNat b, g) = Sum.inl (Int32.ofNat (k + 1), G) ∧ ∀ x, G x = g x + (if b ≤ x then sdT sh (tco 2) x k else 0)
  | 0, b, g, h => by
    have e : b = 15 := by omega
    subst e
    have e2 : B_X1_passSunday_29_2 sco tco sh (Int32.ofNat k) g0 y6 (Int32.ofNat 15, g) = Sum.inr (Sum.inl (Int32.ofNat k + 1, g)) := rfl
    refine ⟨g, by rw [LT_en e2, ofn_s (by omega)], fun x => ?_⟩
    by_cases q : 15 ≤ x
    · have z : sdT sh (tco 2) x k = 0 := if_neg (by omega)
      rw [if_pos q, z, Int64.add_zero]
    · rw [if_neg q, Int64.add_zero]
  | n + 1, b, g, h => by
    have cb : ¬ (15 : Int32) ≤ Int32.ofNat b := fun q => by have := f_le (by decide : (15 : Int32).toInt = 15) (ofn_t (k := b) (by omega)) q; omega
    have ek : (Int32.ofNat k).toNatClampNeg = k := ofn_c (by omega)
    have eb : (Int32.ofNat b).toNatClampNeg = b := ofn_c (by omega)
    have e2 : B_X1_passSunday_29_2 sco tco sh (Int32.ofNat k) g0 y6 (Int32.ofNat b, g) = Sum.inl (Int32.ofNat b + 1, vp_updL g (Int32.ofNat b).toNatClampNeg (g (Int32.ofNat b).toNatClampNeg + (tco 2) (Int32.ofNat k).toNatClampNeg * ((sh 5) ((Int32.ofNat k * (15 : Int32)) + Int32.ofNat b).toNatClampNeg).toInt64)) := if_neg cb
    rw [ek, eb, ix15 hk (by omega)] at e2
    obtain ⟨G, h1, h2⟩ := ps_in (sco := sco) (sh := sh) (tco := tco) (g0 := g0) (y6 := y6) hk n (b + 1) (vp_updL g b (g b + tco 2 k * (sh 5 (15 * k + b)).toInt64)) (by omega)
    refine ⟨G, by rw [LT_st e2, ofn_s (by omega), h1], fun x => ?_⟩
    rw [h2 x]
    by_cases q : x = b
    · subst q
      have z : sdT sh (tco 2) x k = tco 2 k * (sh 5 (15 * k + x)).toInt64 := if_pos (by omega)
      rw [updL_s, if_neg (by omega), if_pos (Nat.le_refl x), z, Int64.add_zero]
    · rw [updL_n q]
      by_cases q2 : b ≤ x
      · rw [if_pos q2, if_pos (by omega)]
      · rw [if_neg q2, if_neg (by omega)]
theorem ps_s {sco sh : Nat → Nat → Int32} {tco : Nat → Nat → Int64} {y6 : Nat → Int64} : ∀ (n k : Nat) (g : Nat → Int64), k + n = 35 → ∃ G : Nat → Int64, LTs default (B_X1_passSunday_10 sco tco sh y6) (n + 1) (Int32.ofNat k, g) = (G, tco 0 2 * 625, tco 0 3 * 625) ∧ ∀ x, G x = g x + SML (sdT sh (tco 2) x) n k
  | 0, k, g, h => by
    have e : k = 35 := by omega
    subst e
    have e2 : B_X1_passSunday_10 sco tco sh y6 (Int32.ofNat 35, g) = Sum.inr (g, tco 0 2 * 625, tco 0 3 * 625) := rfl
    exact ⟨g, LT_en e2, fun x => (Int64.add_zero _).symm⟩
  | n + 1, k, g, h => by
    have ck : ¬ (35 : Int32) ≤ Int32.ofNat k := fun q => by have := f_le (by decide : (35 : Int32).toInt = 35) (ofn_t (k := k) (by omega)) q; omega
    have ek : (Int32.ofNat k).toNatClampNeg = k := ofn_c (by omega)
    by_cases c0 : lg_cmp ((tco 2) (Int32.ofNat k).toNatClampNeg) 0 = 0
    · have a0 : tco 2 k = 0 := by have q := (lg_cmp_eq _ _).mp c0; rw [ek] at q; exact q
      have e2 : B_X1_passSunday_10 sco tco sh y6 (Int32.ofNat k, g) = Sum.inl (Int32.ofNat k + 1, g) := (if_neg ck).trans (if_pos c0)
      obtain ⟨G, h1, h2⟩ := ps_s (sco := sco) (sh := sh) (tco := tco) (y6 := y6) n (k + 1) g (by omega)
      refine ⟨G, by rw [LT_st e2, ofn_s (by omega), h1], fun x => ?_⟩
      have z : sdT sh (tco 2) x k = 0 := by
        unfold sdT; rw [a0, Int64.zero_mul]
        by_cases q : x < 15
        · exact if_pos q
        · exact if_neg q
      rw [h2 x, sml_s, z, Int64.zero_add]
    · obtain ⟨Y, y1, y2⟩ := ps_in (sco := sco) (sh := sh) (tco := tco) (g0 := g) (y6 := y6) (k := k) (by omega) 15 0 g rfl
      have e2 : B_X1_passSunday_10 sco tco sh y6 (Int32.ofNat k, g) = Sum.inl (Int32.ofNat (k + 1), Y) := (if_neg ck).trans ((if_neg c0).trans y1)
      obtain ⟨G, h1, h2⟩ := ps_s (sco := sco) (sh := sh) (tco := tco) (y6 := y6) n (k + 1) Y (by omega)
      refine ⟨G, by rw [LT_st e2, h1], fun x => ?_⟩
      rw [h2 x, y2 x, if_pos (Nat.zero_le x), sml_s, Int64.add_assoc]
theorem ps_v {sco sh : Nat → Nat → Int32} {tco : Nat → Nat → Int64} : ∃ G : Nat → Int64, J_X1_passSunday sco tco sh = (G, tco 0 2 * 625, tco 0 3 * 625) ∧ (∀ x, x < 15 → G x = SML (fun k => tco 2 k * (sh 5 (15 * k + x)).toInt64) 35 0) ∧ ∀ x, 15 ≤ x → x < 35 → G x = 0 := by
  obtain ⟨G, h1, h2⟩ := ps_s (sco := sco) (sh := sh) (tco := tco) (y6 := J_J7_fill_d0a16_35 (fun _ _ => 0) (fun _ => (tco 1)) 0) 35 0 (J_J7_fill_d0a16_35 (fun _ _ => 0) (fun _ => (tco 1)) 0) rfl
  have z : ∀ x, x < 35 → J_J7_fill_d0a16_35 (fun _ _ => 0) (fun _ => (tco 1)) 0 x = 0 := fun x hx => if_pos hx
  refine ⟨G, h1, fun x hx => ?_, fun x h3 h4 => ?_⟩
  · rw [h2 x, z x (by omega), Int64.zero_add]
    exact sml_c 35 0 (fun j _ _ => if_pos hx)
  · rw [h2 x, z x h4, Int64.zero_add]
    exact sml_z 35 0 (fun j _ _ => if_neg (by omega))
/-- a WEEK and its Sunday: what is there ahead of the next -/
theorem wk_v {sh : Nat → Nat → Int32} {w lv : Int32} {A D G : Nat → Int64} (hD : ∀ x, x < 35 → D x = SML (wD sh w lv A x) 35 0) (hG : ∀ x, x < 15 → G x = SML (fun k => D k * (sh 5 (15 * k + x)).toInt64) 35 0) (hk : ∀ k, k < 35 → ¬ A k = 0 → kx sh w lv k < 35) (x : Nat) (hx : x < 15) : G x = SML (fun k => A k * (sh 5 (15 * kx sh w lv k + x)).toInt64) 35 0 := by
  rw [hG x hx]
  have e1 : SML (fun k => D k * (sh 5 (15 * k + x)).toInt64) 35 0 = SML (fun k => SML (fun i => wD sh w lv A k i * (sh 5 (15 * k + x)).toInt64) 35 0) 35 0 := sml_c 35 0 (fun k _ h => by rw [hD k (by omega), sml_mul])
  rw [e1, sml_fub]
  refine sml_c 35 0 (fun i _ h => ?_)
  by_cases a0 : A i = 0
  · rw [a0, Int64.zero_mul]
    refine sml_z 35 0 (fun k _ _ => ?_)
    have z : wD sh w lv A k i = 0 := by
      unfold wD; rw [a0]
      by_cases q : kx sh w lv i = k
      · exact if_pos q
      · exact if_neg q
    rw [z, Int64.zero_mul]
  · have q := hk i (by omega) a0
    rw [sml_1 (f := fun k => wD sh w lv A k i * (sh 5 (15 * k + x)).toInt64) (k := kx sh w lv i) 35 0 (by omega) (by omega) (fun k _ _ h5 => by
      have z : wD sh w lv A k i = 0 := if_neg (fun e => h5 e.symm)
      show wD sh w lv A k i * _ = 0
      rw [z, Int64.zero_mul])]
    have z : wD sh w lv A (kx sh w lv i) i = A i := if_pos rfl
    show wD sh w lv A (kx sh w lv i) i * _ = A i * _
    rw [z]
