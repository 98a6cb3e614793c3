/-! Sundays: settle's table is what the reference reckons -/
def nAL (k : Nat) : Nat := ([0, 1, 2, 3, 4, 10, 11, 12, 13, 20, 21, 22, 30, 31, 40, 100, 101, 102, 103, 110, 111, 112, 120, 121, 130, 200, 201, 202, 210, 211, 220, 300, 301, 310, 400] : List Nat).getD k 0
def dz0 (x : Nat) : Nat := x / 100
def dz1 (x : Nat) : Nat := x / 10 % 10
def dz2 (x : Nat) : Nat := x % 10
def hasB (k i : Nat) : Bool := decide (dz0 (nAL i) ≤ dz0 (nAL k)) && (decide (dz1 (nAL i) ≤ dz1 (nAL k)) && decide (dz2 (nAL i) ≤ dz2 (nAL k)))
def bK (k i : Nat) : Nat := 5 * (dz0 (nAL k) - dz0 (nAL i)) - (dz0 (nAL k) - dz0 (nAL i)) * (dz0 (nAL k) - dz0 (nAL i) - 1) / 2 + ((dz1 (nAL k) - dz1 (nAL i)) + (dz2 (nAL k) - dz2 (nAL i)))
theorem set_dec : ∀ k i : Fin 35, (J_X3_has (zALL.getD k.val 0) (zALL.getD i.val 0) = 0 ∧ hasB k.val i.val = false) ∨ (¬ J_X3_has (zALL.getD k.val 0) (zALL.getD i.val 0) = 0 ∧ hasB k.val i.val = true ∧ ((Int32.ofNat k.val * (15 : Int32)) + J_X3_kind (J_X3_behindSunday (zALL.getD k.val 0) (zALL.getD i.val 0))).toNatClampNeg = 15 * k.val + bK k.val i.val ∧ bK k.val i.val < 15) := by decide +kernel
theorem al_dec : ∀ k : Fin 35, zALL.getD k.val 0 / 100 = Int32.ofNat (dz0 (nAL k.val)) ∧ (zALL.getD k.val 0 / 10 - zALL.getD k.val 0 / 10 / 10 * 10) = Int32.ofNat (dz1 (nAL k.val)) ∧ (zALL.getD k.val 0 - zALL.getD k.val 0 / 10 * 10) = Int32.ofNat (dz2 (nAL k.val)) ∧ dz0 (nAL k.val) + dz1 (nAL k.val) + dz2 (nAL k.val) ≤ 4 ∧ J_X12_power 5 ((4 : Int32) - J_X12_all (zALL.getD k.val 0)) = zPOW.getD ((29 : Int32) - J_X3_total (zALL.getD k.val 0)).toNatClampNeg 0 := by decide +kernel
theorem al15 : ∀ b : Fin 15, ¬ (100 : Int32) ≤ zALL.getD b.val 0 ∧ dz0 (nAL b.val) = 0 := by decide +kernel
theorem ofn_c {k : Nat} (h : k < 1000) : (Int32.ofNat k).toNatClampNeg = k := wn_k (ofn_t h)
theorem ofn_s {k : Nat} (h : k < 900) : Int32.ofNat k + 1 = Int32.ofNat (k + 1) := Int32.toInt_inj.mp (by rw [ofn_t (by omega), i_add (ofn_t (by omega)) (by decide : (1 : Int32).toInt = 1) (by omega) (by omega)]; omega)
def stp (sh : Nat → Nat → Int32) (k i : Nat) (g : Nat → Int32) : Nat → Int32 := if hasB k i = true then upd g (15 * k + bK k i) (g (15 * k + bK k i) + J_X4_leaving sh (zALL.getD k 0) (zALL.getD i 0)) else g
def ITR (s : Nat → (Nat → Int32) → (Nat → Int32)) : Nat → Nat → (Nat → Int32) → (Nat → Int32)
  | 0, _, g => g
  | n + 1, i, g => ITR s n (i + 1) (s i g)
def SMI (f : Nat → Int32) : Nat → Nat → Int32
  | 0, _ => 0
  | n + 1, i => f i + SMI f n (i + 1)
theorem itr_v {s : Nat → (Nat → Int32) → (Nat → Int32)} {f : Nat → Int32} {x : Nat} (h : ∀ i g, s i g x = g x + f i) : ∀ (n i : Nat) (g : Nat → Int32), ITR s n i g x = g x + SMI f n i
  | 0, _, g => (Int32.add_zero (g x)).symm
  | n + 1, i, g => by
    show ITR s n (i + 1) (s i g) x = g x + (f i + SMI f n (i + 1))
    rw [itr_v h n (i + 1), h, Int32.add_assoc]
theorem smi_z {f : Nat → Int32} : ∀ (n i : Nat), (∀ j, i ≤ j → j < i + n → f j = 0) → SMI f n i = 0
  | 0, _, _ => rfl
  | n + 1, i, h => by
    show f i + SMI f n (i + 1) = 0
    rw [h i (Nat.le_refl i) (by omega), smi_z n (i + 1) (fun j h1 h2 => h j (by omega) (by omega)), Int32.add_zero]
theorem smi_1 {f : Nat → Int32} {k : Nat} : ∀ (n i : Nat), i ≤ k → k < i + n → (∀ j, i ≤ j → j < i + n → ¬ j = k → f j = 0) → SMI f n i = f k
  | 0, i, h1, h2, _ => by omega
  | n + 1, i, h1, h2, h => by
    show f i + SMI f n (i + 1) = f k
    by_cases e : i = k
    · subst e
      rw [smi_z n (i + 1) (fun j h3 h4 => h j (by omega) (by omega) (by omega)), Int32.add_zero]
    · rw [h i (Nat.le_refl i) (by omega) e, smi_1 n (i + 1) (by omega) (by omega) (fun j h3 h4 h5 => h j (by omega) (by omega) h5), Int32.zero_add]
theorem smi_c {f g : Nat → Int32} : ∀ (n i : Nat), (∀ j, i ≤ j → j < i + n → f j = g j) → SMI f n i = SMI g n i
  | 0, _, _ => rfl
  | n + 1, i, h => by
    show f i + SMI f n (i + 1) = g i + SMI g n (i + 1)
    rw [h i (Nat.le_refl i) (by omega), smi_c n (i + 1) (fun j h1 h2 => h j (by omega) (by omega))]
theorem set_in {sh : Nat → Nat → Int32} {g0 y7 : Nat → Int32} {k : Nat} (hk : k < 35) : ∀ (n i : Nat) (g : Nat → Int32), i + n = 35 → LTs (Sum.inl default) (B_X4_settle_33_2 sh (Int32.ofNat k) g0 y7) (n + 1) (Int32.ofNat i, g) = Sum.inl (Int32.ofNat (k + 1), ITR (stp sh k) n i g)
  | 0, i, g, h => by
    have e : i = 35 := by omega
    subst e
    have e2 : B_X4_settle_33_2 sh (Int32.ofNat k) g0 y7 (Int32.ofNat 35, g) = Sum.inr (Sum.inl (Int32.ofNat k + 1, g)) := rfl
    rw [LT_en e2, ofn_s (by omega)]; rfl
  | n + 1, i, g, h => by
    have hi : i < 35 := by omega
    have ci : ¬ (35 : Int32) ≤ Int32.ofNat i := fun q => by have := f_le (by decide : (35 : Int32).toInt = 35) (ofn_t (k := i) (by omega)) q; omega
    have ek : (Int32.ofNat k).toNatClampNeg = k := ofn_c (by omega)
    have ei : (Int32.ofNat i).toNatClampNeg = i := ofn_c (by omega)
    rcases set_dec ⟨k, hk⟩ ⟨i, hi⟩ with ⟨q1, q2⟩ | ⟨q1, q2, q3, q4⟩
    · have q5 : J_X3_has (zALL.getD (Int32.ofNat k).toNatClampNeg 0) (zALL.getD (Int32.ofNat i).toNatClampNeg 0) = 0 := by rw [ek, ei]; exact q1
      have e2 : B_X4_settle_33_2 sh (Int32.ofNat k) g0 y7 (Int32.ofNat i, g) = Sum.inl (Int32.ofNat i + 1, g) := (if_neg ci).trans (if_pos q5)
      have e3 : stp sh k i g = g := if_neg (by rw [show hasB k i = false from q2]; decide)
      rw [LT_st e2, ofn_s (by omega), set_in hk n (i + 1) g (by omega)]
      show _ = Sum.inl (_, ITR (stp sh k) n (i + 1) (stp sh k i g))
      rw [e3]
    · have q5 : ¬ J_X3_has (zALL.getD (Int32.ofNat k).toNatClampNeg 0) (zALL.getD (Int32.ofNat i).toNatClampNeg 0) = 0 := by rw [ek, ei]; exact q1
      have e2 : B_X4_settle_33_2 sh (Int32.ofNat k) g0 y7 (Int32.ofNat i, g) = Sum.inl (Int32.ofNat i + 1, upd g ((Int32.ofNat k * (15 : Int32)) + J_X3_kind (J_X3_behindSunday (zALL.getD (Int32.ofNat k).toNatClampNeg 0) (zALL.getD (Int32.ofNat i).toNatClampNeg 0))).toNatClampNeg (g ((Int32.ofNat k * (15 : Int32)) + J_X3_kind (J_X3_behindSunday (zALL.getD (Int32.ofNat k).toNatClampNeg 0) (zALL.getD (Int32.ofNat i).toNatClampNeg 0))).toNatClampNeg + J_X4_leaving sh (zALL.getD (Int32.ofNat k).toNatClampNeg 0) (zALL.getD (Int32.ofNat i).toNatClampNeg 0))) := (if_neg ci).trans (if_neg q5)
      have e3 : stp sh k i g = upd g (15 * k + bK k i) (g (15 * k + bK k i) + J_X4_leaving sh (zALL.getD k 0) (zALL.getD i 0)) := if_pos q2
      have q6 : ((Int32.ofNat k * (15 : Int32)) + J_X3_kind (J_X3_behindSunday (zALL.getD k 0) (zALL.getD i 0))).toNatClampNeg = 15 * k + bK k i := q3
      rw [ek, ei, q6] at e2
      rw [LT_st e2, ofn_s (by omega), set_in hk n (i + 1) _ (by omega)]
      show _ = Sum.inl (_, ITR (stp sh k) n (i + 1) (stp sh k i g))
      rw [e3]
theorem set_out {sh : Nat → Nat → Int32} {y7 : Nat → Int32} : ∀ (n k : Nat) (g : Nat → Int32), k + n = 35 → LTs default (B_X4_settle_10 sh y7) (n + 1) (Int32.ofNat k, g) = ITR (fun k g => ITR (stp sh k) 35 0 g) n k g
  | 0, k, g, h => by
    have e : k = 35 := by omega
    subst e
    have e2 : B_X4_settle_10 sh y7 (Int32.ofNat 35, g) = Sum.inr g := rfl
    rw [LT_en e2]; rfl
  | n + 1, k, g, h => by
    have ck : ¬ (35 : Int32) ≤ Int32.ofNat k := fun q => by have := f_le (by decide : (35 : Int32).toInt = 35) (ofn_t (k := k) (by omega)) q; omega
    have e2 : B_X4_settle_10 sh y7 (Int32.ofNat k, g) = Sum.inl (Int32.ofNat (k + 1), ITR (stp sh k) 35 0 g) := (if_neg ck).trans (set_in (g0 := g) (y7 := y7) (by omega) 35 0 g rfl)
    rw [LT_st e2, set_out n (k + 1) _ (by omega)]; rfl
def cK (sh : Nat → Nat → Int32) (k x i : Nat) : Int32 := if hasB k i = true ∧ 15 * k + bK k i = x then J_X4_leaving sh (zALL.getD k 0) (zALL.getD i 0) else 0
theorem stp_v {sh : Nat → Nat → Int32} {k x : Nat} (i : Nat) (g : Nat → Int32) : stp sh k i g x = g x + cK sh k x i := by
  unfold stp cK
  by_cases h : hasB k i = true
  · rw [if_pos h]
    by_cases e : 15 * k + bK k i = x
    · rw [if_pos ⟨h, e⟩, ← e]; exact pk_us
    · rw [if_neg (fun q => e q.2), Int32.add_zero]; exact pk_un (fun q => e q.symm)
  · rw [if_neg h, if_neg (fun q => h q.1), Int32.add_zero]
/-- the table: of each kind and each behind it, what leads there -/
theorem settle_v {sh : Nat → Nat → Int32} {k b : Nat} (hk : k < 35) (hb : b < 15) : J_X4_settle sh (15 * k + b) = SMI (cK sh k (15 * k + b)) 35 0 := by
  have e : J_X4_settle sh = ITR (fun k g => ITR (stp sh k) 35 0 g) 35 0 (J_J7_fill_53178_525 (fun _ => (sh 5)) 0) := set_out 35 0 _ rfl
  rw [e, itr_v (f := fun k2 => SMI (cK sh k2 (15 * k + b)) 35 0) (fun k2 g => itr_v (fun i g => stp_v i g) 35 0 g)]
  have z : J_J7_fill_53178_525 (fun _ => (sh 5)) 0 (15 * k + b) = 0 := if_pos (by omega)
  rw [z, Int32.zero_add]
  refine smi_1 35 0 (by omega) (by omega) (fun k2 _ h2 h3 => smi_z 35 0 (fun i _ h5 => if_neg (fun q => ?_)))
  rcases set_dec ⟨k2, by omega⟩ ⟨i, by omega⟩ with ⟨_, q2⟩ | ⟨_, _, _, q4⟩
  · rw [show hasB k2 i = false from q2] at q; exact absurd q.1 (by decide)
  · have q5 : bK k2 i < 15 := q4
    have q6 := q.2
    omega
