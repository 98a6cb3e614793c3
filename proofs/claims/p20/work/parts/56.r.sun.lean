/-! the reference's Sundays -/
def LSM {α : Type} (f : α → Int32) : List α → Int32
  | [] => 0
  | a :: l => f a + LSM f l
theorem lsm_app {α : Type} (f : α → Int32) : ∀ (a b : List α), LSM f (a ++ b) = LSM f a + LSM f b
  | [], b => (Int32.zero_add _).symm
  | x :: a, b => by
    show f x + LSM f (a ++ b) = (f x + LSM f a) + LSM f b
    rw [lsm_app f a b, Int32.add_assoc]
theorem lsm_rev {α : Type} (f : α → Int32) : ∀ (a : List α), LSM f a.reverse = LSM f a
  | [] => rfl
  | x :: a => by
    rw [List.reverse_cons, lsm_app, lsm_rev f a]
    show LSM f a + (f x + 0) = f x + LSM f a
    rw [Int32.add_zero, Int32.add_comm]
theorem lsm_map {α β : Type} (f : β → Int32) (e : α → β) : ∀ (a : List α), LSM f (a.map e) = LSM (fun x => f (e x)) a
  | [] => rfl
  | x :: a => by
    show f (e x) + LSM f (a.map e) = f (e x) + LSM (fun x => f (e x)) a
    rw [lsm_map f e a]
theorem lsm_mul {α : Type} (f : α → Int32) (c : Int32) : ∀ (a : List α), LSM (fun x => c * f x) a = c * LSM f a
  | [] => Int32.mul_zero.symm
  | x :: a => by
    show c * f x + LSM (fun x => c * f x) a = c * (f x + LSM f a)
    rw [lsm_mul f c a, Int32.mul_add]
theorem smi_f {f : Nat → Int32} {p : Nat → Bool} : ∀ (n i : Nat), SMI (fun j => if p j = true then f j else 0) n i = LSM f ((List.range' i n).filter p)
  | 0, _ => rfl
  | n + 1, i => by
    show (if p i = true then f i else 0) + SMI (fun j => if p j = true then f j else 0) n (i + 1) = LSM f ((List.range' i (n + 1)).filter p)
    rw [smi_f n (i + 1), show List.range' i (n + 1) = i :: List.range' (i + 1) n from rfl]
    by_cases h : p i = true
    · rw [if_pos h, List.filter_cons_of_pos h]; rfl
    · rw [if_neg h, List.filter_cons_of_neg h, Int32.zero_add]
def FN (sh : Nat → Nat → Int32) (a : Int32) (n g : Nat) : Int32 := FAC (J_X4_fifths sh a) (Int32.ofNat n) (Int32.ofNat g)
def WW (sh : Nat → Nat → Int32) (k : Nat) (t : Nat × Nat × Nat) : Int32 := (FN sh 0 (dz0 (nAL k)) t.1 * FN sh 1 (dz1 (nAL k)) t.2.1) * FN sh 2 (dz2 (nAL k)) t.2.2
def PW (k : Nat) : Int32 := zPOW.getD ((29 : Int32) - J_X3_total (zALL.getD k 0)).toNatClampNeg 0
def dig (i : Nat) : Nat × Nat × Nat := (dz0 (nAL i), dz1 (nAL i), dz2 (nAL i))
theorem lv_w {sh : Nat → Nat → Int32} {k i : Nat} (hk : k < 35) (hi : i < 35) (h : hasB k i = true) : J_X4_leaving sh (zALL.getD k 0) (zALL.getD i 0) = PW k * WW sh k (dig i) := by
  have nh : ¬ J_X3_has (zALL.getD k 0) (zALL.getD i 0) = 0 := by
    rcases set_dec ⟨k, hk⟩ ⟨i, hi⟩ with ⟨_, q⟩ | ⟨q, _⟩
    · exact absurd h (by rw [show hasB k i = false from q]; decide)
    · exact q
  obtain ⟨a1, a2, a3, _, _⟩ := al_dec ⟨k, hk⟩
  obtain ⟨b1, b2, b3, _, _⟩ := al_dec ⟨i, hi⟩
  rw [lv_un nh]
  show ((zPOW.getD ((29 : Int32) - J_X3_total (zALL.getD k 0)).toNatClampNeg 0 * FAC (J_X4_fifths sh 0) (zALL.getD k 0 / 100) (zALL.getD i 0 / 100)) * FAC (J_X4_fifths sh 1) (zALL.getD k 0 / 10 - zALL.getD k 0 / 10 / 10 * 10) (zALL.getD i 0 / 10 - zALL.getD i 0 / 10 / 10 * 10)) * FAC (J_X4_fifths sh 2) (zALL.getD k 0 - zALL.getD k 0 / 10 * 10) (zALL.getD i 0 - zALL.getD i 0 / 10 * 10) = _
  have c1 : zALL.getD k 0 / 100 = Int32.ofNat (dz0 (nAL k)) := a1
  have c2 : zALL.getD k 0 / 10 - zALL.getD k 0 / 10 / 10 * 10 = Int32.ofNat (dz1 (nAL k)) := a2
  have c3 : zALL.getD k 0 - zALL.getD k 0 / 10 * 10 = Int32.ofNat (dz2 (nAL k)) := a3
  have c4 : zALL.getD i 0 / 100 = Int32.ofNat (dz0 (nAL i)) := b1
  have c5 : zALL.getD i 0 / 10 - zALL.getD i 0 / 10 / 10 * 10 = Int32.ofNat (dz1 (nAL i)) := b2
  have c6 : zALL.getD i 0 - zALL.getD i 0 / 10 * 10 = Int32.ofNat (dz2 (nAL i)) := b3
  rw [c1, c2, c3, c4, c5, c6]
  show ((PW k * FN sh 0 (dz0 (nAL k)) (dz0 (nAL i))) * FN sh 1 (dz1 (nAL k)) (dz1 (nAL i))) * FN sh 2 (dz2 (nAL k)) (dz2 (nAL i)) = PW k * ((FN sh 0 (dz0 (nAL k)) (dz0 (nAL i)) * FN sh 1 (dz1 (nAL k)) (dz1 (nAL i))) * FN sh 2 (dz2 (nAL k)) (dz2 (nAL i)))
  rw [Int32.mul_assoc, Int32.mul_assoc, Int32.mul_assoc]
/-- settle's table as a sum over a list -/
theorem settle_l {sh : Nat → Nat → Int32} {k b : Nat} (hk : k < 35) (hb : b < 15) : J_X4_settle sh (15 * k + b) = PW k * LSM (WW sh k) (((List.range' 0 35).filter (fun i => hasB k i && bK k i == b)).map dig) := by
  rw [settle_v hk hb, lsm_map, ← lsm_mul, ← smi_f]
  refine smi_c 35 0 (fun i _ h2 => ?_)
  show cK sh k (15 * k + b) i = if (hasB k i && bK k i == b) = true then PW k * WW sh k (dig i) else 0
  unfold cK
  by_cases h : hasB k i = true ∧ 15 * k + bK k i = 15 * k + b
  · have e : (hasB k i && bK k i == b) = true := by rw [h.1, show bK k i = b from by omega]; exact beq_self_eq_true b
    rw [if_pos h, if_pos e, lv_w hk (by omega) h.1]
  · have e : ¬ (hasB k i && bK k i == b) = true := fun q => h (by
      rw [Bool.and_eq_true, beq_iff_eq] at q
      exact ⟨q.1, by rw [q.2]⟩)
    rw [if_neg h, if_neg e]
def vld (k b m : Nat) : Bool := decide (dz1 (nAL b) ≤ dz0 (nAL k)) && (decide (m ≤ dz2 (nAL b)) && decide (dz2 (nAL b) - m ≤ dz2 (nAL k)))
def tri (k b m : Nat) : Nat × Nat × Nat := (dz0 (nAL k) - dz1 (nAL b), dz1 (nAL k) - m, dz2 (nAL k) - (dz2 (nAL b) - m))
theorem same_l : ∀ k : Fin 35, ∀ b : Fin 15, ((List.range' 0 35).filter (fun i => hasB k.val i && bK k.val i == b.val)).map dig = (((List.range' 0 (dz1 (nAL k.val) + 1)).filter (vld k.val b.val)).map (tri k.val b.val)).reverse := by decide +kernel
theorem stays_o {sm : Nat → Nat → Int32} {tm : Nat → Nat → Int64} {A n s : Int32} (h : s.toInt < 0 ∨ n.toInt < s.toInt) : J_X12_stays sm tm A n s = 0 := by
  refine if_pos ?_
  by_cases q : J_X12_in (s.toInt64) 0 (n.toInt64) = 0
  · exact q
  · have := in_t (i2l_t rfl rfl) (by decide : (0 : Int64).toInt = 0) (i2l_t rfl rfl) rfl q
    omega
theorem stays_i {sh sm : Nat → Nat → Int32} {tm : Nat → Nat → Int64} {A : Int32} {n s : Nat} (K : HOK sh sm) (hA : 0 ≤ A.toInt ∧ A.toInt ≤ 2) (hn : n ≤ 4) (hs : s ≤ n) : J_X12_stays sm tm A (Int32.ofNat n) (Int32.ofNat s) = FN sh A n (n - s) := by
  have e1 : (Int32.ofNat n).toInt = (n : Int) := ofn_t (by omega)
  have e2 : (Int32.ofNat (n - s)).toInt = ((n - s : Nat) : Int) := ofn_t (by omega)
  have e3 : (Int32.ofNat s).toInt = (s : Int) := ofn_t (by omega)
  have e : Int32.ofNat s = Int32.ofNat n - Int32.ofNat (n - s) := Int32.toInt_inj.mp (by rw [e3, i_sub e1 e2 (by omega) (by omega)]; omega)
  rw [e]
  exact (fac (sm := sm) (tm := tm) (A := A) (go_eq (tm := tm) K hA).symm (fif_r K) ⟨by omega, by omega⟩ ⟨by omega, by omega⟩).1
def TT (sh : Nat → Nat → Int32) (k b m : Nat) : Int32 := if vld k b m = true then WW sh k (tri k b m) else 0
theorem tt_v {sh sm : Nat → Nat → Int32} {tm : Nat → Nat → Int64} {k b m : Nat} (K : HOK sh sm) (hk : k < 35) (hb : b < 15) (hm : m ≤ dz1 (nAL k)) : (J_X12_stays sm tm 0 (Int32.ofNat (dz0 (nAL k))) (Int32.ofNat (dz1 (nAL b))) * J_X12_stays sm tm 1 (Int32.ofNat (dz1 (nAL k))) (Int32.ofNat m)) * J_X12_stays sm tm 2 (Int32.ofNat (dz2 (nAL k))) (Int32.ofNat (dz2 (nAL b)) - Int32.ofNat m) = TT sh k b m := by
  obtain ⟨_, _, _, a4, _⟩ := al_dec ⟨k, hk⟩
  obtain ⟨_, _, _, b4, _⟩ := al_dec ⟨b, by omega⟩
  have a4 : dz0 (nAL k) + dz1 (nAL k) + dz2 (nAL k) ≤ 4 := a4
  have b4 : dz0 (nAL b) + dz1 (nAL b) + dz2 (nAL b) ≤ 4 := b4
  have e2 : (Int32.ofNat (dz2 (nAL b)) - Int32.ofNat m).toInt = (dz2 (nAL b) : Int) - (m : Int) := i_sub (ofn_t (by omega)) (ofn_t (by omega)) (by omega) (by omega)
  unfold TT
  by_cases v : vld k b m = true
  · rw [if_pos v]
    unfold vld at v
    rw [Bool.and_eq_true, Bool.and_eq_true, decide_eq_true_eq, decide_eq_true_eq, decide_eq_true_eq] at v
    have e3 : Int32.ofNat (dz2 (nAL b)) - Int32.ofNat m = Int32.ofNat (dz2 (nAL b) - m) := Int32.toInt_inj.mp (by rw [e2, ofn_t (by omega)]; omega)
    rw [e3, stays_i K (by decide) (by omega) v.1, stays_i K (by decide) (by omega) hm, stays_i K (by decide) (by omega) v.2.2]
    rfl
  · rw [if_neg v]
    unfold vld at v
    rw [Bool.and_eq_true, Bool.and_eq_true, decide_eq_true_eq, decide_eq_true_eq, decide_eq_true_eq] at v
    by_cases c : dz1 (nAL b) ≤ dz0 (nAL k)
    · rw [stays_o (A := 2) (by rw [e2, ofn_t (by omega)]; omega), Int32.mul_zero]
    · rw [stays_o (A := 0) (by rw [ofn_t (by omega), ofn_t (by omega)]; omega), Int32.zero_mul, Int32.zero_mul]
theorem sun_l {sh sm : Nat → Nat → Int32} {tm : Nat → Nat → Int64} {k b : Nat} (K : HOK sh sm) (hk : k < 35) (hb : b < 15) : ∀ (n m f : Nat) (acc : Int32), m + n = dz1 (nAL k) + 1 → n + 1 ≤ f → LTs default (B_X12_sundayOf_26 sm tm (zALL.getD k 0) (zALL.getD b 0)) f (Int32.ofNat m, acc) = (acc + SMI (TT sh k b) n m) * PW k
  | 0, m, f, acc, h1, h2 => by
    obtain ⟨_, a2, _, a4, a5⟩ := al_dec ⟨k, hk⟩
    have a2 : zALL.getD k 0 / 10 - zALL.getD k 0 / 10 / 10 * 10 = Int32.ofNat (dz1 (nAL k)) := a2
    have a4 : dz0 (nAL k) + dz1 (nAL k) + dz2 (nAL k) ≤ 4 := a4
    have a5 : J_X12_power 5 ((4 : Int32) - J_X12_all (zALL.getD k 0)) = PW k := a5
    obtain ⟨f2, rfl⟩ : ∃ f2, f = f2 + 1 := ⟨f - 1, by omega⟩
    have c : (zALL.getD k 0 / 10 - zALL.getD k 0 / 10 / 10 * 10) < Int32.ofNat m := by rw [a2, Int32.lt_iff_toInt_lt, ofn_t (by omega), ofn_t (by omega)]; omega
    have e : B_X12_sundayOf_26 sm tm (zALL.getD k 0) (zALL.getD b 0) (Int32.ofNat m, acc) = Sum.inr (acc * J_X12_power 5 ((4 : Int32) - J_X12_all (zALL.getD k 0))) := if_pos c
    rw [LT_en e, a5]
    show acc * PW k = (acc + 0) * PW k
    rw [Int32.add_zero]
  | n + 1, m, f, acc, h1, h2 => by
    obtain ⟨a1, a2, a3, a4, _⟩ := al_dec ⟨k, hk⟩
    obtain ⟨_, b2, b3, b4, _⟩ := al_dec ⟨b, by omega⟩
    have a1 : zALL.getD k 0 / 100 = Int32.ofNat (dz0 (nAL k)) := a1
    have a2 : zALL.getD k 0 / 10 - zALL.getD k 0 / 10 / 10 * 10 = Int32.ofNat (dz1 (nAL k)) := a2
    have a3 : zALL.getD k 0 - zALL.getD k 0 / 10 * 10 = Int32.ofNat (dz2 (nAL k)) := a3
    have a4 : dz0 (nAL k) + dz1 (nAL k) + dz2 (nAL k) ≤ 4 := a4
    have b2 : zALL.getD b 0 / 10 - zALL.getD b 0 / 10 / 10 * 10 = Int32.ofNat (dz1 (nAL b)) := b2
    have b3 : zALL.getD b 0 - zALL.getD b 0 / 10 * 10 = Int32.ofNat (dz2 (nAL b)) := b3
    obtain ⟨f2, rfl⟩ : ∃ f2, f = f2 + 1 := ⟨f - 1, by omega⟩
    have c : ¬ (zALL.getD k 0 / 10 - zALL.getD k 0 / 10 / 10 * 10) < Int32.ofNat m := by rw [a2, Int32.lt_iff_toInt_lt, ofn_t (by omega), ofn_t (by omega)]; omega
    have c2 : ¬ (100 : Int32) ≤ zALL.getD b 0 := (al15 ⟨b, hb⟩).1
    have e : B_X12_sundayOf_26 sm tm (zALL.getD k 0) (zALL.getD b 0) (Int32.ofNat m, acc) = Sum.inl (Int32.ofNat m + 1, acc + (J_X12_stays sm tm 0 (zALL.getD k 0 / 100) (zALL.getD b 0 / 10 - zALL.getD b 0 / 10 / 10 * 10) * J_X12_stays sm tm 1 (zALL.getD k 0 / 10 - zALL.getD k 0 / 10 / 10 * 10) (Int32.ofNat m)) * J_X12_stays sm tm 2 (zALL.getD k 0 - zALL.getD k 0 / 10 * 10) ((zALL.getD b 0 - zALL.getD b 0 / 10 * 10) - Int32.ofNat m)) := (if_neg c).trans (if_neg c2)
    rw [a1, a2, a3, b2, b3, tt_v K hk hb (by omega)] at e
    rw [LT_st e, ofn_s (by omega), sun_l K hk hb n (m + 1) f2 _ (by omega) (by omega), Int32.add_assoc]
    rfl
/-- the table is the reference's Sunday -/
theorem sun_eq {sh sm : Nat → Nat → Int32} {tm : Nat → Nat → Int64} {k b : Nat} (K : HOK sh sm) (hk : k < 35) (hb : b < 15) : J_X4_settle sh (15 * k + b) = J_X12_sundayOf sm tm (zALL.getD k 0) (zALL.getD b 0) := by
  have a4 : dz0 (nAL k) + dz1 (nAL k) + dz2 (nAL k) ≤ 4 := (al_dec ⟨k, hk⟩).2.2.2.1
  have e : J_X12_sundayOf sm tm (zALL.getD k 0) (zALL.getD b 0) = ((0 : Int32) + SMI (TT sh k b) (dz1 (nAL k) + 1) 0) * PW k := sun_l K hk hb (dz1 (nAL k) + 1) 0 11 0 (by omega) (by omega)
  have s : ((List.range' 0 35).filter (fun i => hasB k i && bK k i == b)).map dig = (((List.range' 0 (dz1 (nAL k) + 1)).filter (vld k b)).map (tri k b)).reverse := same_l ⟨k, hk⟩ ⟨b, hb⟩
  rw [e, settle_l hk hb, s, lsm_rev, lsm_map, ← smi_f, Int32.zero_add, Int32.mul_comm]
  rfl
