/-! the table by natural numbers: what leads from a kind is 625 parts together -/
def NSM (f : Nat → Nat) : Nat → Nat → Nat
  | 0, _ => 0
  | n + 1, i => f i + NSM f n (i + 1)
theorem nsm_s (f : Nat → Nat) (n i : Nat) : NSM f (n + 1) i = f i + NSM f n (i + 1) := rfl
theorem nsm_c {f g : Nat → Nat} : ∀ (n i : Nat), (∀ j, i ≤ j → j < i + n → f j = g j) → NSM f n i = NSM g n i
  | 0, _, _ => rfl
  | n + 1, i, h => by rw [nsm_s, nsm_s, h i (Nat.le_refl i) (by omega), nsm_c n (i + 1) (fun j h1 h2 => h j (by omega) (by omega))]
theorem nsm_le {f g : Nat → Nat} : ∀ (n i : Nat), (∀ j, i ≤ j → j < i + n → f j ≤ g j) → NSM f n i ≤ NSM g n i
  | 0, _, _ => Nat.le_refl 0
  | n + 1, i, h => by
    rw [nsm_s, nsm_s]
    exact Nat.add_le_add (h i (Nat.le_refl i) (by omega)) (nsm_le n (i + 1) (fun j h1 h2 => h j (by omega) (by omega)))
theorem nsm_z {f : Nat → Nat} : ∀ (n i : Nat), (∀ j, i ≤ j → j < i + n → f j = 0) → NSM f n i = 0
  | 0, _, _ => rfl
  | n + 1, i, h => by rw [nsm_s, h i (Nat.le_refl i) (by omega), nsm_z n (i + 1) (fun j h1 h2 => h j (by omega) (by omega))]
theorem nsm_1 {f : Nat → Nat} {k : Nat} : ∀ (n i : Nat), i ≤ k → k < i + n → (∀ j, i ≤ j → j < i + n → ¬ j = k → f j = 0) → NSM f n i = f k
  | 0, i, h1, h2, _ => by omega
  | n + 1, i, h1, h2, h => by
    rw [nsm_s]
    by_cases e : i = k
    · subst e
      rw [nsm_z n (i + 1) (fun j h3 h4 => h j (by omega) (by omega) (by omega)), Nat.add_zero]
    · rw [h i (Nat.le_refl i) (by omega) e, nsm_1 n (i + 1) (by omega) (by omega) (fun j h3 h4 h5 => h j (by omega) (by omega) h5), Nat.zero_add]
theorem nsm_add {f g : Nat → Nat} : ∀ (n i : Nat), NSM (fun j => f j + g j) n i = NSM f n i + NSM g n i
  | 0, _ => rfl
  | n + 1, i => by
    rw [nsm_s, nsm_s, nsm_s, nsm_add n (i + 1)]; omega
theorem nsm_mul {f : Nat → Nat} {c : Nat} : ∀ (n i : Nat), NSM (fun j => f j * c) n i = NSM f n i * c
  | 0, _ => (Nat.zero_mul c).symm
  | n + 1, i => by rw [nsm_s, nsm_s, nsm_mul n (i + 1), Nat.add_mul]
theorem nsm_mulL {f : Nat → Nat} {c : Nat} : ∀ (n i : Nat), NSM (fun j => c * f j) n i = c * NSM f n i
  | 0, _ => (Nat.mul_zero c).symm
  | n + 1, i => by rw [nsm_s, nsm_s, nsm_mulL n (i + 1), Nat.mul_add]
theorem nsm_fub {f : Nat → Nat → Nat} {m j : Nat} : ∀ (n i : Nat), NSM (fun a => NSM (fun b => f a b) m j) n i = NSM (fun b => NSM (fun a => f a b) n i) m j
  | 0, i => (nsm_z m j (fun _ _ _ => rfl)).symm
  | n + 1, i => by
    rw [nsm_s, nsm_fub n (i + 1), ← nsm_add]
    rfl
/-- sums of 32 and 64 bits that stay small are sums of numbers -/
theorem smi_n {f : Nat → Int32} {g : Nat → Nat} : ∀ (n i : Nat), (∀ j, i ≤ j → j < i + n → (f j).toInt = ((g j : Nat) : Int)) → NSM g n i ≤ 2000000000 → (SMI f n i).toInt = ((NSM g n i : Nat) : Int)
  | 0, _, _, _ => rfl
  | n + 1, i, h, hb => by
    rw [nsm_s] at hb ⊢
    have a := h i (Nat.le_refl i) (by omega)
    have b := smi_n n (i + 1) (fun j h1 h2 => h j (by omega) (by omega)) (by omega)
    show (f i + SMI f n (i + 1)).toInt = _
    rw [i_add a b (by omega) (by omega)]
    omega
theorem l_add {X Y : Int64} {a b : Nat} (hX : X.toInt = (a : Int)) (hY : Y.toInt = (b : Int)) (h : a + b ≤ 9000000000000000000) : (X + Y).toInt = ((a + b : Nat) : Int) := by
  rw [Int64.toInt_add, hX, hY, ← Int.natCast_add]
  exact Int.bmod_eq_of_le (by omega) (by omega)
theorem l_mulN {X Y : Int64} {a b : Nat} (hX : X.toInt = (a : Int)) (hY : Y.toInt = (b : Int)) (h : a * b ≤ 9000000000000000000) : (X * Y).toInt = ((a * b : Nat) : Int) := by
  rw [Int64.toInt_mul, hX, hY, ← Int.natCast_mul]
  exact Int.bmod_eq_of_le (by omega) (by omega)
theorem sml_n {f : Nat → Int64} {g : Nat → Nat} : ∀ (n i : Nat), (∀ j, i ≤ j → j < i + n → (f j).toInt = ((g j : Nat) : Int)) → NSM g n i ≤ 9000000000000000000 → (SML f n i).toInt = ((NSM g n i : Nat) : Int)
  | 0, _, _, _ => rfl
  | n + 1, i, h, hb => by
    rw [nsm_s] at hb ⊢
    rw [sml_s]
    exact l_add (h i (Nat.le_refl i) (by omega)) (sml_n n (i + 1) (fun j h1 h2 => h j (by omega) (by omega)) (by omega)) hb
/-! sums over lists -/
def NLS {α : Type} (f : α → Nat) : List α → Nat
  | [] => 0
  | a :: l => f a + NLS f l
theorem nls_c {α : Type} (f : α → Nat) (a : α) (l : List α) : NLS f (a :: l) = f a + NLS f l := rfl
theorem nls_app {α : Type} (f : α → Nat) : ∀ (a b : List α), NLS f (a ++ b) = NLS f a + NLS f b
  | [], b => (Nat.zero_add _).symm
  | x :: a, b => by
    rw [List.cons_append, nls_c, nls_c, nls_app f a b, Nat.add_assoc]
theorem nls_map {α β : Type} (f : β → Nat) (e : α → β) : ∀ (a : List α), NLS f (a.map e) = NLS (fun x => f (e x)) a
  | [] => rfl
  | x :: a => by rw [List.map_cons, nls_c, nls_c, nls_map f e a]
theorem nls_mulL {α : Type} (f : α → Nat) (c : Nat) : ∀ (a : List α), NLS (fun x => c * f x) a = c * NLS f a
  | [] => (Nat.mul_zero c).symm
  | x :: a => by rw [nls_c, nls_c, nls_mulL f c a, Nat.mul_add]
theorem nls_mulR {α : Type} (f : α → Nat) (c : Nat) : ∀ (a : List α), NLS (fun x => f x * c) a = NLS f a * c
  | [] => (Nat.zero_mul c).symm
  | x :: a => by rw [nls_c, nls_c, nls_mulR f c a, Nat.add_mul]
theorem nls_flat {α β : Type} (f : β → Nat) (g : α → List β) : ∀ (a : List α), NLS f (a.flatMap g) = NLS (fun x => NLS f (g x)) a
  | [] => rfl
  | x :: a => by rw [List.flatMap_cons, nls_app, nls_c, nls_flat f g a]
theorem nls_fn {α : Type} {f g : α → Nat} (h : ∀ x, f x = g x) (a : List α) : NLS f a = NLS g a := by rw [show f = g from funext h]
theorem nls_ne {f : Nat → Nat} {p : Nat → Bool} : ∀ (n i : Nat), NSM (fun j => if p j = true then f j else 0) n i = NLS f ((List.range' i n).filter p)
  | 0, _ => rfl
  | n + 1, i => by
    rw [nsm_s, nls_ne n (i + 1), show List.range' i (n + 1) = i :: List.range' (i + 1) n from rfl]
    by_cases h : p i = true
    · rw [if_pos h, List.filter_cons_of_pos h, nls_c]
    · rw [if_neg h, List.filter_cons_of_neg h, Nat.zero_add]
def prd (a b c : List Nat) : List (Nat × Nat × Nat) := a.flatMap (fun x => b.flatMap (fun y => c.map (fun z => (x, y, z))))
theorem nls_prd (F G H : Nat → Nat) (a b c : List Nat) : NLS (fun t : Nat × Nat × Nat => F t.1 * G t.2.1 * H t.2.2) (prd a b c) = NLS F a * NLS G b * NLS H c := by
  unfold prd
  rw [nls_flat]
  have e : ∀ x, NLS (fun t : Nat × Nat × Nat => F t.1 * G t.2.1 * H t.2.2) (b.flatMap (fun y => c.map (fun z => (x, y, z)))) = F x * (NLS G b * NLS H c) := fun x => by
    rw [nls_flat]
    have e2 : ∀ y, NLS (fun t : Nat × Nat × Nat => F t.1 * G t.2.1 * H t.2.2) (c.map (fun z => (x, y, z))) = G y * (F x * NLS H c) := fun y => by
      rw [nls_map]
      show NLS (fun z => F x * G y * H z) c = _
      rw [nls_mulL, Nat.mul_comm (F x) (G y), Nat.mul_assoc]
    rw [nls_fn e2, nls_mulR, Nat.mul_left_comm]
  rw [nls_fn e, nls_mulR, Nat.mul_assoc]
/-! what one kind leads to -/
def fcN (f : Int32) (n g : Nat) : Nat := (FAC f (Int32.ofNat n) (Int32.ofNat g)).toInt.toNat
theorem fcN_dec : ∀ f : Fin 6, ∀ n : Fin 5, NLS (fcN (Int32.ofNat f.val) n.val) (List.range' 0 (n.val + 1)) = 5 ^ n.val := by decide +kernel
theorem fcN_row {f : Int32} {n : Nat} (hf : 0 ≤ f.toInt ∧ f.toInt ≤ 5) (hn : n ≤ 4) : NLS (fcN f n) (List.range' 0 (n + 1)) = 5 ^ n := by
  obtain ⟨x, hx, rfl⟩ := nat_of (N := 5) (x := f) hf
  exact fcN_dec ⟨x, by omega⟩ ⟨n, by omega⟩
theorem fcN_v {f : Int32} {n g : Nat} (hf : 0 ≤ f.toInt ∧ f.toInt ≤ 5) (hn : n ≤ 4) (hg : g ≤ n) : (FAC f (Int32.ofNat n) (Int32.ofNat g)).toInt = ((fcN f n g : Nat) : Int) ∧ fcN f n g ≤ 5 ^ n := by
  obtain ⟨x, hx, rfl⟩ := nat_of (N := 5) (x := f) hf
  obtain ⟨d1, d2, d3, d4⟩ := fac_dec ⟨x, by omega⟩ ⟨n, by omega⟩ ⟨g, by omega⟩ (by show g ≤ n; omega)
  have d2 : 0 ≤ (STV (Int32.ofNat x) (Int32.ofNat n) (Int32.ofNat g)).toInt := d2
  have d3 : (STV (Int32.ofNat x) (Int32.ofNat n) (Int32.ofNat g)).toInt ≤ ((5 ^ n : Nat) : Int) := d3
  have d1 : STV (Int32.ofNat x) (Int32.ofNat n) (Int32.ofNat g) = FAC (Int32.ofNat x) (Int32.ofNat n) (Int32.ofNat g) := d1
  rw [d1] at d2 d3
  unfold fcN
  generalize (FAC (Int32.ofNat x) (Int32.ofNat n) (Int32.ofNat g)).toInt = z at d2 d3 ⊢
  generalize 5 ^ n = w at d3 ⊢
  exact ⟨by omega, by omega⟩
def tK (k : Nat) : Nat := dz0 (nAL k) + dz1 (nAL k) + dz2 (nAL k)
def wN (sh : Nat → Nat → Int32) (k : Nat) (t : Nat × Nat × Nat) : Nat := fcN (J_X4_fifths sh 0) (dz0 (nAL k)) t.1 * fcN (J_X4_fifths sh 1) (dz1 (nAL k)) t.2.1 * fcN (J_X4_fifths sh 2) (dz2 (nAL k)) t.2.2
def lvN (sh : Nat → Nat → Int32) (k i : Nat) : Nat := 5 ^ (4 - tK k) * wN sh k (dig i)
theorem has_prd : ∀ k : Fin 35, ((List.range' 0 35).filter (hasB k.val)).map dig = prd (List.range' 0 (dz0 (nAL k.val) + 1)) (List.range' 0 (dz1 (nAL k.val) + 1)) (List.range' 0 (dz2 (nAL k.val) + 1)) := by decide +kernel
theorem pw_dec : ∀ k : Fin 35, (PW k.val).toInt = ((5 ^ (4 - tK k.val) : Nat) : Int) ∧ tK k.val ≤ 4 := by decide +kernel
theorem has_d {k i : Nat} (h : hasB k i = true) : dz0 (nAL i) ≤ dz0 (nAL k) ∧ dz1 (nAL i) ≤ dz1 (nAL k) ∧ dz2 (nAL i) ≤ dz2 (nAL k) := by
  unfold hasB at h
  rw [Bool.and_eq_true, Bool.and_eq_true, decide_eq_true_eq, decide_eq_true_eq, decide_eq_true_eq] at h
  exact h
theorem lvN_v {sh sm : Nat → Nat → Int32} {k i : Nat} (K : HOK sh sm) (hk : k < 35) (hi : i < 35) (h : hasB k i = true) : (J_X4_leaving sh (zALL.getD k 0) (zALL.getD i 0)).toInt = ((lvN sh k i : Nat) : Int) := by
  obtain ⟨q1, q2, q3⟩ := has_d h
  obtain ⟨p1, p2⟩ := pw_dec ⟨k, hk⟩
  have p1 : (PW k).toInt = ((5 ^ (4 - tK k) : Nat) : Int) := p1
  have p2 : dz0 (nAL k) + dz1 (nAL k) + dz2 (nAL k) ≤ 4 := p2
  obtain ⟨a1, a2⟩ := fcN_v (f := J_X4_fifths sh 0) (fif_r K) (show dz0 (nAL k) ≤ 4 by omega) q1
  obtain ⟨b1, b2⟩ := fcN_v (f := J_X4_fifths sh 1) (fif_r K) (show dz1 (nAL k) ≤ 4 by omega) q2
  obtain ⟨c1, c2⟩ := fcN_v (f := J_X4_fifths sh 2) (fif_r K) (show dz2 (nAL k) ≤ 4 by omega) q3
  have m1 := pmul a2 b2
  have m2 := pmul m1 c2
  have r1 := Nat.le_trans m1 (p4le (show dz0 (nAL k) + dz1 (nAL k) ≤ 4 by omega))
  have r2 := Nat.le_trans m2 (p4le p2)
  have m3 := pmul (Nat.le_refl (5 ^ (4 - tK k))) m2
  have r3 := Nat.le_trans m3 (p4le (show 4 - tK k + (dz0 (nAL k) + dz1 (nAL k) + dz2 (nAL k)) ≤ 4 from by unfold tK; omega))
  have w1 := mul32 a1 b1 r1
  have w2 := mul32 w1 c1 r2
  rw [lv_w hk hi h]
  exact mul32 p1 w2 r3
/-- the table's places as numbers -/
def tbN (sh : Nat → Nat → Int32) (k b : Nat) : Nat := NSM (fun i => if hasB k i = true then (if bK k i = b then lvN sh k i else 0) else 0) 35 0
theorem row_625 {sh sm : Nat → Nat → Int32} {k : Nat} (K : HOK sh sm) (hk : k < 35) : NSM (fun i => if hasB k i = true then lvN sh k i else 0) 35 0 = 625 := by
  have p2 : dz0 (nAL k) + dz1 (nAL k) + dz2 (nAL k) ≤ 4 := (pw_dec ⟨k, hk⟩).2
  have hp : ((List.range' 0 35).filter (hasB k)).map dig = prd (List.range' 0 (dz0 (nAL k) + 1)) (List.range' 0 (dz1 (nAL k) + 1)) (List.range' 0 (dz2 (nAL k) + 1)) := has_prd ⟨k, hk⟩
  rw [nls_ne]
  have e : NLS (lvN sh k) ((List.range' 0 35).filter (hasB k)) = 5 ^ (4 - tK k) * NLS (wN sh k) (((List.range' 0 35).filter (hasB k)).map dig) := by
    rw [nls_map, ← nls_mulL]
    rfl
  have e2 : NLS (wN sh k) (prd (List.range' 0 (dz0 (nAL k) + 1)) (List.range' 0 (dz1 (nAL k) + 1)) (List.range' 0 (dz2 (nAL k) + 1))) = 5 ^ dz0 (nAL k) * 5 ^ dz1 (nAL k) * 5 ^ dz2 (nAL k) := by
    have z := nls_prd (fcN (J_X4_fifths sh 0) (dz0 (nAL k))) (fcN (J_X4_fifths sh 1) (dz1 (nAL k))) (fcN (J_X4_fifths sh 2) (dz2 (nAL k))) (List.range' 0 (dz0 (nAL k) + 1)) (List.range' 0 (dz1 (nAL k) + 1)) (List.range' 0 (dz2 (nAL k) + 1))
    rw [fcN_row (fif_r K) (by omega), fcN_row (fif_r K) (by omega), fcN_row (fif_r K) (by omega)] at z
    exact z
  rw [e, hp, e2, ← Nat.pow_add, ← Nat.pow_add, ← Nat.pow_add]
  have e3 : 4 - tK k + (dz0 (nAL k) + dz1 (nAL k) + dz2 (nAL k)) = 4 := by unfold tK; omega
  rw [e3]
theorem bK_lt {k i : Nat} (hk : k < 35) (hi : i < 35) (h : hasB k i = true) : bK k i < 15 := by
  rcases set_dec ⟨k, hk⟩ ⟨i, hi⟩ with ⟨_, q⟩ | ⟨_, _, _, q⟩
  · exact absurd h (by rw [show hasB k i = false from q]; decide)
  · exact q
theorem tbN_row {sh sm : Nat → Nat → Int32} {k : Nat} (K : HOK sh sm) (hk : k < 35) : NSM (fun b => tbN sh k b) 15 0 = 625 := by
  rw [← row_625 K hk]
  unfold tbN
  rw [nsm_fub]
  refine nsm_c 35 0 (fun i _ hi => ?_)
  by_cases h : hasB k i = true
  · have l := bK_lt hk (by omega) h
    rw [nsm_1 (k := bK k i) 15 0 (Nat.zero_le _) (by omega) (fun j _ _ h3 => by rw [if_pos h, if_neg (fun z => h3 z.symm)])]
    rw [if_pos h, if_pos rfl, if_pos h]
  · rw [if_neg h]
    exact nsm_z 15 0 (fun j _ _ => if_neg h)
theorem nsm_1le {f : Nat → Nat} {k : Nat} : ∀ (n i : Nat), i ≤ k → k < i + n → f k ≤ NSM f n i
  | 0, i, h1, h2 => by omega
  | n + 1, i, h1, h2 => by
    rw [nsm_s]
    by_cases e : i = k
    · subst e; omega
    · have := nsm_1le (f := f) (k := k) n (i + 1) (by omega) (by omega)
      omega
theorem tbN_le {sh sm : Nat → Nat → Int32} {k b : Nat} (K : HOK sh sm) (hk : k < 35) (hb : b < 15) : tbN sh k b ≤ 625 := by
  have z := nsm_1le (f := fun b => tbN sh k b) (k := b) 15 0 (Nat.zero_le _) (by omega)
  rw [tbN_row K hk] at z
  exact z
theorem tb_v {sh sm : Nat → Nat → Int32} {k b : Nat} (K : HOK sh sm) (hk : k < 35) (hb : b < 15) : (SMI (cK sh k (15 * k + b)) 35 0).toInt = ((tbN sh k b : Nat) : Int) := by
  have l := tbN_le K hk hb
  unfold tbN at l ⊢
  refine smi_n 35 0 (fun i _ hi => ?_) (by omega)
  unfold cK
  by_cases h : hasB k i = true
  · by_cases h2 : bK k i = b
    · rw [if_pos ⟨h, by rw [h2]⟩, if_pos h, if_pos h2]; exact lvN_v K hk (by omega) h
    · rw [if_neg (fun q => h2 (by have := q.2; omega)), if_pos h, if_neg h2]; rfl
  · rw [if_neg (fun q => h q.1), if_neg h]; rfl
/-- nobody more is there behind a Sunday -/
theorem less_dec : ∀ k i : Fin 35, hasB k.val i.val = true → tK (bK k.val i.val) ≤ tK k.val := by decide +kernel
theorem tbN_0 {sh : Nat → Nat → Int32} {k b : Nat} (hk : k < 35) (h : tK k < tK b) : tbN sh k b = 0 := by
  unfold tbN
  refine nsm_z 35 0 (fun i _ hi => ?_)
  by_cases q : hasB k i = true
  · rw [if_pos q]
    refine if_neg (fun z => ?_)
    have := less_dec ⟨k, hk⟩ ⟨i, by omega⟩ q
    rw [show bK k i = b from z] at this
    have w : tK b ≤ tK k := this
    omega
  · exact if_neg q
