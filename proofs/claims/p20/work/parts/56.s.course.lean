/-! sums of longs -/
def SML (f : Nat → Int64) : Nat → Nat → Int64
  | 0, _ => 0
  | n + 1, i => f i + SML f n (i + 1)
theorem sml_s (f : Nat → Int64) (n i : Nat) : SML f (n + 1) i = f i + SML f n (i + 1) := rfl
theorem sml_c {f g : Nat → Int64} : ∀ (n i : Nat), (∀ j, i ≤ j → j < i + n → f j = g j) → SML f n i = SML g n i
  | 0, _, _ => rfl
  | n + 1, i, h => by
    rw [sml_s, sml_s, h i (Nat.le_refl i) (by omega), sml_c n (i + 1) (fun j h1 h2 => h j (by omega) (by omega))]
theorem sml_z {f : Nat → Int64} : ∀ (n i : Nat), (∀ j, i ≤ j → j < i + n → f j = 0) → SML f n i = 0
  | 0, _, _ => rfl
  | n + 1, i, h => by
    rw [sml_s, h i (Nat.le_refl i) (by omega), sml_z n (i + 1) (fun j h1 h2 => h j (by omega) (by omega)), Int64.add_zero]
theorem sml_1 {f : Nat → Int64} {k : Nat} : ∀ (n i : Nat), i ≤ k → k < i + n → (∀ j, i ≤ j → j < i + n → ¬ j = k → f j = 0) → SML f n i = f k
  | 0, i, h1, h2, _ => by omega
  | n + 1, i, h1, h2, h => by
    rw [sml_s]
    by_cases e : i = k
    · subst e
      rw [sml_z n (i + 1) (fun j h3 h4 => h j (by omega) (by omega) (by omega)), Int64.add_zero]
    · rw [h i (Nat.le_refl i) (by omega) e, sml_1 n (i + 1) (by omega) (by omega) (fun j h3 h4 h5 => h j (by omega) (by omega) h5), Int64.zero_add]
theorem sml_add {f g : Nat → Int64} : ∀ (n i : Nat), SML (fun j => f j + g j) n i = SML f n i + SML g n i
  | 0, _ => (Int64.add_zero 0).symm
  | n + 1, i => by
    rw [sml_s, sml_s, sml_s, sml_add n (i + 1)]
    have a := Int64.add_comm (g i) (SML f n (i + 1))
    rw [Int64.add_assoc, Int64.add_assoc, ← Int64.add_assoc (g i), a, Int64.add_assoc]
theorem sml_mul {f : Nat → Int64} {c : Int64} : ∀ (n i : Nat), SML (fun j => f j * c) n i = SML f n i * c
  | 0, _ => Int64.zero_mul.symm
  | n + 1, i => by rw [sml_s, sml_s, sml_mul n (i + 1), Int64.add_mul]
theorem sml_fub {f : Nat → Nat → Int64} {m j : Nat} : ∀ (n i : Nat), SML (fun a => SML (fun b => f a b) m j) n i = SML (fun b => SML (fun a => f a b) n i) m j
  | 0, i => (sml_z m j (fun _ _ _ => rfl)).symm
  | n + 1, i => by
    rw [sml_s, sml_fub n (i + 1), ← sml_add]
    rfl
/-! a course: a WEEK, a Sunday -/
def kp (sh : Nat → Nat → Int32) (w lv : Int32) (k : Nat) : Int32 := zALL.getD k 0 + (100 : Int32) * J_X4_takenByLevel sh w (zALL.getD k 0) lv
def kx (sh : Nat → Nat → Int32) (w lv : Int32) (k : Nat) : Nat := (J_X3_kind (kp sh w lv k)).toNatClampNeg
def wC (sh : Nat → Nat → Int32) (w lv c : Int32) (A : Nat → Int64) (k : Nat) : Int64 := A k * (J_X4_weekCost sh w (kp sh w lv k) c 0).toInt64
def wS (sh : Nat → Nat → Int32) (w lv c : Int32) (A : Nat → Int64) (k : Nat) : Int64 := if J_X4_lack sh w (kp sh w lv k) c 0 ≤ 0 then 0 else A k
def wI (sh : Nat → Nat → Int32) (w lv c : Int32) (A : Nat → Int64) (k : Nat) : Int64 := A k * (if 0 < (-(J_X4_lack sh w (kp sh w lv k) c 0)) then (-(J_X4_lack sh w (kp sh w lv k) c 0)) else 0).toInt64
def wD (sh : Nat → Nat → Int32) (w lv : Int32) (A : Nat → Int64) (x k : Nat) : Int64 := if kx sh w lv k = x then A k else 0
theorem tup4 {a b c d a2 b2 c2 d2 : Int64} {G : Nat → Int64} (h1 : b = b2) (h2 : c = c2) (h3 : d = d2) : ((G, b, c, d) : (Nat → Int64) × Int64 × Int64 × Int64) = (G, b2, c2, d2) := by rw [h1, h2, h3]
theorem pw_s {sco sh : Nat → Nat → Int32} {tco : Nat → Nat → Int64} {w lv c : Int32} {y6 : Nat → Int64} : ∀ (n k : Nat) (x1 x2 x3 : Int64) (g : Nat → Int64), k + n = 35 → ∃ G : Nat → Int64, LTs default (B_X1_passWeek_21 sco tco sh w lv c y6) (n + 1) (Int32.ofNat k, x1, x2, x3, g) = (G, x1 + SML (wC sh w lv c (tco 1)) n k, x2 + SML (wS sh w lv c (tco 1)) n k, x3 + SML (wI sh w lv c (tco 1)) n k) ∧ ∀ x, G x = g x + SML (wD sh w lv (tco 1) x) n k
  | 0, k, x1, x2, x3, g, h => by
    have e : k = 35 := by omega
    subst e
    have e2 : B_X1_passWeek_21 sco tco sh w lv c y6 (Int32.ofNat 35, x1, x2, x3, g) = Sum.inr (g, x1, x2, x3) := rfl
    refine ⟨g, ?_, fun x => (Int64.add_zero _).symm⟩
    rw [LT_en e2]
    exact tup4 (a := 0) (a2 := 0) (Int64.add_zero _).symm (Int64.add_zero _).symm (Int64.add_zero _).symm
  | n + 1, k, x1, x2, x3, g, h => by
    have ck : ¬ (35 : Int32) ≤ Int32.ofNat k := fun q => by have := f_le (by decide : (35 : Int32).toInt = 35) (ofn_t (k := k) (by omega)) q; omega
    have ek : (Int32.ofNat k).toNatClampNeg = k := ofn_c (by omega)
    by_cases c0 : lg_cmp ((tco 1) (Int32.ofNat k).toNatClampNeg) 0 = 0
    · have a0 : tco 1 k = 0 := by have q := (lg_cmp_eq _ _).mp c0; rw [ek] at q; exact q
      have e2 : B_X1_passWeek_21 sco tco sh w lv c y6 (Int32.ofNat k, x1, x2, x3, g) = Sum.inl (Int32.ofNat k + 1, x1, x2, x3, g) := (if_neg ck).trans (if_pos c0)
      obtain ⟨G, h1, h2⟩ := pw_s (sco := sco) (sh := sh) (tco := tco) (w := w) (lv := lv) (c := c) (y6 := y6) n (k + 1) x1 x2 x3 g (by omega)
      have z1 : wC sh w lv c (tco 1) k = 0 := by unfold wC; rw [a0, Int64.zero_mul]
      have z2 : wS sh w lv c (tco 1) k = 0 := by
        unfold wS; rw [a0]
        by_cases q : J_X4_lack sh w (kp sh w lv k) c 0 ≤ 0
        · exact if_pos q
        · exact if_neg q
      have z3 : wI sh w lv c (tco 1) k = 0 := by unfold wI; rw [a0, Int64.zero_mul]
      refine ⟨G, ?_, fun x => ?_⟩
      · rw [LT_st e2, ofn_s (by omega), h1, sml_s, sml_s, sml_s, z1, z2, z3, Int64.zero_add, Int64.zero_add, Int64.zero_add]
      · have z4 : wD sh w lv (tco 1) x k = 0 := by
          unfold wD; rw [a0]
          by_cases q : kx sh w lv k = x
          · exact if_pos q
          · exact if_neg q
        rw [h2 x, sml_s, z4, Int64.zero_add]
    · have e2 : ∃ y, B_X1_passWeek_21 sco tco sh w lv c y6 (Int32.ofNat k, x1, x2, x3, g) = Sum.inl (Int32.ofNat k + 1, x1 + wC sh w lv c (tco 1) k, x2 + wS sh w lv c (tco 1) k, x3 + wI sh w lv c (tco 1) k, y) ∧ ∀ x, y x = g x + wD sh w lv (tco 1) x k := by
        refine ⟨vp_updL g (kx sh w lv k) (g (kx sh w lv k) + tco 1 k), ?_, fun x => ?_⟩
        · have q : B_X1_passWeek_21 sco tco sh w lv c y6 (Int32.ofNat k, x1, x2, x3, g) = (fun y69 : (Nat → Int64) × Int64 × Int64 × Int64 => (Sum.inl (Int32.ofNat k + 1, y69.2.1, y69.2.2.1, y69.2.2.2, y69.1) : Sum (Int32 × Int64 × Int64 × Int64 × (Nat → Int64)) ((Nat → Int64) × Int64 × Int64 × Int64))) (J_X1_passWeekWith sco (up2L (up2L tco 0 (vp_updL (vp_updL (vp_updL (tco 0) 3 x1) 4 x2) 5 x3)) 2 g) sh w (zALL.getD (Int32.ofNat k).toNatClampNeg 0 + (100 : Int32) * J_X4_takenByLevel sh w (zALL.getD (Int32.ofNat k).toNatClampNeg 0) lv) c ((tco 1) (Int32.ofNat k).toNatClampNeg)) := (if_neg ck).trans (if_neg c0)
          rw [q, ek]
          by_cases ql : J_X4_lack sh w (kp sh w lv k) c 0 ≤ 0
          · have r : J_X1_passWeekWith sco (up2L (up2L tco 0 (vp_updL (vp_updL (vp_updL (tco 0) 3 x1) 4 x2) 5 x3)) 2 g) sh w (kp sh w lv k) c (tco 1 k) = (vp_updL g (kx sh w lv k) (g (kx sh w lv k) + tco 1 k), x1 + wC sh w lv c (tco 1) k, x2 + 0, x3 + wI sh w lv c (tco 1) k) := if_pos ql
            have s : wS sh w lv c (tco 1) k = 0 := if_pos ql
            show (fun y69 : (Nat → Int64) × Int64 × Int64 × Int64 => (Sum.inl (Int32.ofNat k + 1, y69.2.1, y69.2.2.1, y69.2.2.2, y69.1) : Sum (Int32 × Int64 × Int64 × Int64 × (Nat → Int64)) ((Nat → Int64) × Int64 × Int64 × Int64))) (J_X1_passWeekWith sco (up2L (up2L tco 0 (vp_updL (vp_updL (vp_updL (tco 0) 3 x1) 4 x2) 5 x3)) 2 g) sh w (kp sh w lv k) c (tco 1 k)) = _
            rw [r, s]
          · have r : J_X1_passWeekWith sco (up2L (up2L tco 0 (vp_updL (vp_updL (vp_updL (tco 0) 3 x1) 4 x2) 5 x3)) 2 g) sh w (kp sh w lv k) c (tco 1 k) = (vp_updL g (kx sh w lv k) (g (kx sh w lv k) + tco 1 k), x1 + wC sh w lv c (tco 1) k, x2 + tco 1 k, x3 + wI sh w lv c (tco 1) k) := if_neg ql
            have s : wS sh w lv c (tco 1) k = tco 1 k := if_neg ql
            show (fun y69 : (Nat → Int64) × Int64 × Int64 × Int64 => (Sum.inl (Int32.ofNat k + 1, y69.2.1, y69.2.2.1, y69.2.2.2, y69.1) : Sum (Int32 × Int64 × Int64 × Int64 × (Nat → Int64)) ((Nat → Int64) × Int64 × Int64 × Int64))) (J_X1_passWeekWith sco (up2L (up2L tco 0 (vp_updL (vp_updL (vp_updL (tco 0) 3 x1) 4 x2) 5 x3)) 2 g) sh w (kp sh w lv k) c (tco 1 k)) = _
            rw [r, s]
        · unfold wD
          by_cases q : kx sh w lv k = x
          · rw [if_pos q, ← q, updL_s]
          · rw [if_neg q, updL_n (fun z => q z.symm), Int64.add_zero]
      obtain ⟨y, e3, e4⟩ := e2
      obtain ⟨G, h1, h2⟩ := pw_s (sco := sco) (sh := sh) (tco := tco) (w := w) (lv := lv) (c := c) (y6 := y6) n (k + 1) (x1 + wC sh w lv c (tco 1) k) (x2 + wS sh w lv c (tco 1) k) (x3 + wI sh w lv c (tco 1) k) y (by omega)
      refine ⟨G, ?_, fun x => ?_⟩
      · rw [LT_st e3, ofn_s (by omega), h1, sml_s, sml_s, sml_s, Int64.add_assoc, Int64.add_assoc, Int64.add_assoc]
      · rw [h2 x, e4 x, sml_s, Int64.add_assoc]
/-- a WEEK of a course -/
theorem pw_v {sco sh : Nat → Nat → Int32} {tco : Nat → Nat → Int64} {w lv c : Int32} : ∃ G : Nat → Int64, J_X1_passWeek sco tco sh w lv c = (G, tco 0 3 + SML (wC sh w lv c (tco 1)) 35 0, SML (wS sh w lv c (tco 1)) 35 0, SML (wI sh w lv c (tco 1)) 35 0) ∧ ∀ x, x < 35 → G x = SML (wD sh w lv (tco 1) x) 35 0 := by
  obtain ⟨G, h1, h2⟩ := pw_s (sco := sco) (sh := sh) (tco := tco) (w := w) (lv := lv) (c := c) (y6 := J_J7_fill_d0a16_35 (fun _ _ => 0) (fun _ => (tco 2)) 0) 35 0 (tco 0 3) 0 0 (J_J7_fill_d0a16_35 (fun _ _ => 0) (fun _ => (tco 2)) 0) rfl
  rw [Int64.zero_add, Int64.zero_add] at h1
  refine ⟨G, h1, fun x hx => ?_⟩
  have z : J_J7_fill_d0a16_35 (fun _ _ => 0) (fun _ => (tco 2)) 0 x = 0 := if_pos hx
  rw [h2 x, z, Int64.zero_add]
