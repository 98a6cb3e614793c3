/-! both readers side by side: a figure -/
def TX (f g : Nat → Int32) (n : Int32) : Prop := ∀ j : Nat, (j : Int) < n.toInt → (f j) &&& 255 = g j
def chA (g : Nat → Int32) (n p : Int32) : Int32 := if n ≤ p then -9 else g p.toNatClampNeg
def FOK (g : Nat → Int32) (n p m : Int32) : Prop := ¬ chA g n p - 48 < 0 ∧ ¬ 9 < chA g n p - 48 ∧ ¬ ((m >>> ((chA g n p - 48) &&& 31)) &&& 1) = 0
theorem nlt0 {p : Int32} (h : 0 ≤ p.toInt) : ¬ p < 0 := fun q => by
  have := f_lt rfl (by decide : (0 : Int32).toInt = 0) q
  omega
theorem fok_v {g : Nat → Int32} {n p m : Int32} (h : FOK g n p m) : 0 ≤ (chA g n p - 48).toInt ∧ (chA g n p - 48).toInt ≤ 9 := ⟨f_nlt rfl (by decide) h.1, f_nlt (by decide) rfl h.2.1⟩
theorem fok_9 {g : Nat → Int32} {n p m : Int32} (h : FOK g n p m) : ¬ chA g n p - 48 = -9 := fun q => h.1 (by rw [q]; decide)
theorem fok_n {g : Nat → Int32} {n p m : Int32} (h : FOK g n p m) : ¬ n ≤ p := fun q => h.1 (by unfold chA; rw [if_pos q]; decide)
theorem here_c {sc st : Nat → Nat → Int32} {g : Nat → Int32} {n p : Int32} (hp : sc 0 1 = p) (hn : st 0 1 = n) (h0 : 0 ≤ p.toInt) (ht : TX (st 1) g n) : J_X2_here sc st = chA g n p := by
  show J_X10_at st (sc 0 1) = chA g n p
  unfold J_X10_at chA
  rw [hp, hn, if_neg (nlt0 h0)]
  by_cases h : n ≤ p
  · rw [if_pos h, if_pos h]
  · rw [if_neg h, if_neg h]
    have q := f_nle rfl rfl h
    exact ht _ (by show ((p.toInt.toNat : Nat) : Int) < n.toInt; omega)
theorem figC_ok {sc st : Nat → Nat → Int32} {g : Nat → Int32} {n p m : Int32} (hp : sc 0 1 = p) (hn : st 0 1 = n) (h0 : 0 ≤ p.toInt) (ht : TX (st 1) g n) (h : FOK g n p m) : J_X2_figure sc st m = (chA g n p - 48, p + 1, sc 0 2) := by
  dsimp only [J_X2_figure]
  rw [here_c hp hn h0 ht, if_neg h.1, if_neg h.2.1, if_neg h.2.2]
  show (chA g n p - 48, sc 0 1 + 1, sc 0 2) = _
  rw [hp]
theorem figC_no {sc st : Nat → Nat → Int32} {g : Nat → Int32} {n p m : Int32} (hp : sc 0 1 = p) (hn : st 0 1 = n) (h0 : 0 ≤ p.toInt) (ht : TX (st 1) g n) (h : ¬ FOK g n p m) : J_X2_figure sc st m = (-9, p, 1) := by
  dsimp only [J_X2_figure]
  rw [here_c hp hn h0 ht]
  have e : ((-9 : Int32), sc 0 1, J_X2_stop sc st) = (-9, p, 1) := by rw [hp]; rfl
  by_cases h1 : chA g n p - 48 < 0
  · rw [if_pos h1]; exact e
  · rw [if_neg h1]
    by_cases h2 : 9 < chA g n p - 48
    · rw [if_pos h2]; exact e
    · rw [if_neg h2]
      by_cases h3 : ((m >>> ((chA g n p - 48) &&& 31)) &&& 1) = 0
      · rw [if_pos h3]; exact e
      · exact absurd ⟨h1, h2, h3⟩ h
theorem in_no {v : Int32} (h : 0 ≤ v.toInt ∧ v.toInt ≤ 9) : ¬ J_X12_in v.toInt64 0 9 = 0 := fun q => by
  have := in_f (r := J_X12_in v.toInt64 0 9) (Int32.toInt_toInt64 v) (by decide : (0 : Int64).toInt = 0) (by decide : (9 : Int64).toInt = 9) rfl q
  omega
theorem in_ok {v : Int32} (h : v.toInt < 0 ∨ 9 < v.toInt) : J_X12_in v.toInt64 0 9 = 0 := by
  by_cases q : J_X12_in v.toInt64 0 9 = 0
  · exact q
  · have := in_t (r := J_X12_in v.toInt64 0 9) (Int32.toInt_toInt64 v) (by decide : (0 : Int64).toInt = 0) (by decide : (9 : Int64).toInt = 9) rfl q
    omega
theorem figR_ok {sm : Nat → Nat → Int32} {tm : Nat → Nat → Int64} {g : Nat → Int32} {n p m : Int32} (hg : sm 3 = g) (hl : sm 0 3 = n) (ha : sm 0 4 = p) (hf : sm 0 5 = -9) (h : FOK g n p m) : J_X12_figure sm tm m = (chA g n p - 48, p + 1, -9) := by
  have hn := fok_n h
  have hv := fok_v h
  have h3 := h.2.2
  have ec : chA g n p = g p.toNatClampNeg := if_neg hn
  rw [ec] at hv h3 ⊢
  dsimp only [J_X12_figure]
  rw [hg, hl, ha, if_pos hf, if_neg hn, if_neg (in_no hv), if_neg h3, hf]
theorem fail_9 {sm : Nat → Nat → Int32} {tm : Nat → Nat → Int64} {p : Int32} (ha : sm 0 4 = p) (hf : sm 0 5 = -9) : J_X12_fail sm tm = p := by
  unfold J_X12_fail; rw [if_pos hf, ha]
theorem fail_x {sm : Nat → Nat → Int32} {tm : Nat → Nat → Int64} (hf : ¬ sm 0 5 = -9) : J_X12_fail sm tm = sm 0 5 := by
  unfold J_X12_fail; rw [if_neg hf]
theorem figR_no {sm : Nat → Nat → Int32} {tm : Nat → Nat → Int64} {g : Nat → Int32} {n p m : Int32} (hg : sm 3 = g) (hl : sm 0 3 = n) (ha : sm 0 4 = p) (hf : sm 0 5 = -9) (h : ¬ FOK g n p m) : J_X12_figure sm tm m = (0, p, p) := by
  have e : ((0 : Int32), sm 0 4, J_X12_fail sm tm) = (0, p, p) := by rw [fail_9 ha hf, ha]
  dsimp only [J_X12_figure]
  rw [if_pos hf]
  by_cases hn : sm 0 3 ≤ sm 0 4
  · rw [if_pos hn, if_pos (in_ok (Or.inl (by decide)))]; exact e
  · rw [if_neg hn]
    have ec : chA g n p = sm 3 (sm 0 4).toNatClampNeg := by rw [hg, ha]; exact if_neg (by rw [← hl, ← ha]; exact hn)
    by_cases h1 : J_X12_in ((sm 3 (sm 0 4).toNatClampNeg - 48).toInt64) 0 9 = 0
    · rw [if_pos h1]; exact e
    · rw [if_neg h1]
      by_cases h2 : ((m >>> ((sm 3 (sm 0 4).toNatClampNeg - 48) &&& 31)) &&& 1) = 0
      · rw [if_pos h2]; exact e
      · exfalso
        apply h
        unfold FOK
        rw [ec]
        have hv := in_t (r := J_X12_in ((sm 3 (sm 0 4).toNatClampNeg - 48).toInt64) 0 9) (Int32.toInt_toInt64 _) (by decide : (0 : Int64).toInt = 0) (by decide : (9 : Int64).toInt = 9) rfl h1
        refine ⟨fun q => ?_, fun q => ?_, h2⟩
        · have := f_lt rfl (by decide : (0 : Int32).toInt = 0) q; omega
        · have := f_lt (by decide : (9 : Int32).toInt = 9) rfl q; omega
theorem figR_x {sm : Nat → Nat → Int32} {tm : Nat → Nat → Int64} {m : Int32} (hf : ¬ sm 0 5 = -9) : J_X12_figure sm tm m = (0, sm 0 4, sm 0 5) := by
  dsimp only [J_X12_figure]
  rw [if_neg hf, if_pos (in_ok (Or.inl (by decide))), fail_x hf]
