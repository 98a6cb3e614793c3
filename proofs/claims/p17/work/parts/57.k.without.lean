/-! without some means -/
def MG (b x : Int32) : Int32 := if b = 0 then x else -9
def M0 (b x : Int32) : Int32 := if b = 0 then x else 0
theorem mg_0 {b x : Int32} (h : b = 0) : MG b x = x := if_pos h
theorem mg_1 {b x : Int32} (h : ¬ b = 0) : MG b x = -9 := if_neg h
theorem m0_0 {b x : Int32} (h : b = 0) : M0 b x = x := if_pos h
theorem m0_1 {b x : Int32} (h : ¬ b = 0) : M0 b x = 0 := if_neg h
theorem cpm_v {sh so : Nat → Nat → Int32} {p : Int32} : ∃ T : Nat → Int32, J_X4_copy sh so p = (so 0 0, so 0 1, va_cpy (so 1) (sh 1) ((0 : Int32).toNatClampNeg) ((0 : Int32).toNatClampNeg) ((5 : Int32).toNatClampNeg), va_cpy (so 2) (sh 2) ((0 : Int32).toNatClampNeg) ((0 : Int32).toNatClampNeg) ((5 : Int32).toNatClampNeg), va_cpy (so 3) (sh 3) ((0 : Int32).toNatClampNeg) ((0 : Int32).toNatClampNeg) ((3 : Int32).toNatClampNeg), va_cpy (so 4) (sh 4) ((0 : Int32).toNatClampNeg) ((0 : Int32).toNatClampNeg) ((3 : Int32).toNatClampNeg), so 0 6, so 0 7, MG (p &&& 1) (so 0 8), MG (p &&& 2) (so 0 9), MG (p &&& 4) (so 0 10), MG (p &&& 8) (so 0 11), M0 (p &&& 8) (so 0 12), T) ∧ TBT (M0 (p &&& 8) (so 0 12)) (va_cpy (so 3) (sh 3) ((0 : Int32).toNatClampNeg) ((0 : Int32).toNatClampNeg) ((3 : Int32).toNatClampNeg)) T := by
  by_cases c0 : p &&& 1 = 0
  · by_cases c1 : p &&& 2 = 0
    · by_cases c2 : p &&& 4 = 0
      · by_cases c3 : p &&& 8 = 0
        · rw [mg_0 c0, mg_0 c1, mg_0 c2, mg_0 c3, m0_0 c3]
          unfold J_X4_copy
          rw [if_pos c0, if_pos c1, if_pos c2, if_pos c3, if_pos c3]
          exact ⟨_, rfl, tb_of2 rfl rfl rfl⟩
        · rw [mg_0 c0, mg_0 c1, mg_0 c2, mg_1 c3, m0_1 c3]
          unfold J_X4_copy
          rw [if_pos c0, if_pos c1, if_pos c2, if_neg c3, if_neg c3]
          exact ⟨_, rfl, tb_of2 rfl rfl rfl⟩
      · by_cases c3 : p &&& 8 = 0
        · rw [mg_0 c0, mg_0 c1, mg_1 c2, mg_0 c3, m0_0 c3]
          unfold J_X4_copy
          rw [if_pos c0, if_pos c1, if_neg c2, if_pos c3, if_pos c3]
          exact ⟨_, rfl, tb_of2 rfl rfl rfl⟩
        · rw [mg_0 c0, mg_0 c1, mg_1 c2, mg_1 c3, m0_1 c3]
          unfold J_X4_copy
          rw [if_pos c0, if_pos c1, if_neg c2, if_neg c3, if_neg c3]
          exact ⟨_, rfl, tb_of2 rfl rfl rfl⟩
    · by_cases c2 : p &&& 4 = 0
      · by_cases c3 : p &&& 8 = 0
        · rw [mg_0 c0, mg_1 c1, mg_0 c2, mg_0 c3, m0_0 c3]
          unfold J_X4_copy
          rw [if_pos c0, if_neg c1, if_pos c2, if_pos c3, if_pos c3]
          exact ⟨_, rfl, tb_of2 rfl rfl rfl⟩
        · rw [mg_0 c0, mg_1 c1, mg_0 c2, mg_1 c3, m0_1 c3]
          unfold J_X4_copy
          rw [if_pos c0, if_neg c1, if_pos c2, if_neg c3, if_neg c3]
          exact ⟨_, rfl, tb_of2 rfl rfl rfl⟩
      · by_cases c3 : p &&& 8 = 0
        · rw [mg_0 c0, mg_1 c1, mg_1 c2, mg_0 c3, m0_0 c3]
          unfold J_X4_copy
          rw [if_pos c0, if_neg c1, if_neg c2, if_pos c3, if_pos c3]
          exact ⟨_, rfl, tb_of2 rfl rfl rfl⟩
        · rw [mg_0 c0, mg_1 c1, mg_1 c2, mg_1 c3, m0_1 c3]
          unfold J_X4_copy
          rw [if_pos c0, if_neg c1, if_neg c2, if_neg c3, if_neg c3]
          exact ⟨_, rfl, tb_of2 rfl rfl rfl⟩
  · by_cases c1 : p &&& 2 = 0
    · by_cases c2 : p &&& 4 = 0
      · by_cases c3 : p &&& 8 = 0
        · rw [mg_1 c0, mg_0 c1, mg_0 c2, mg_0 c3, m0_0 c3]
          unfold J_X4_copy
          rw [if_neg c0, if_pos c1, if_pos c2, if_pos c3, if_pos c3]
          exact ⟨_, rfl, tb_of2 rfl rfl rfl⟩
        · rw [mg_1 c0, mg_0 c1, mg_0 c2, mg_1 c3, m0_1 c3]
          unfold J_X4_copy
          rw [if_neg c0, if_pos c1, if_pos c2, if_neg c3, if_neg c3]
          exact ⟨_, rfl, tb_of2 rfl rfl rfl⟩
      · by_cases c3 : p &&& 8 = 0
        · rw [mg_1 c0, mg_0 c1, mg_1 c2, mg_0 c3, m0_0 c3]
          unfold J_X4_copy
          rw [if_neg c0, if_pos c1, if_neg c2, if_pos c3, if_pos c3]
          exact ⟨_, rfl, tb_of2 rfl rfl rfl⟩
        · rw [mg_1 c0, mg_0 c1, mg_1 c2, mg_1 c3, m0_1 c3]
          unfold J_X4_copy
          rw [if_neg c0, if_pos c1, if_neg c2, if_neg c3, if_neg c3]
          exact ⟨_, rfl, tb_of2 rfl rfl rfl⟩
    · by_cases c2 : p &&& 4 = 0
      · by_cases c3 : p &&& 8 = 0
        · rw [mg_1 c0, mg_1 c1, mg_0 c2, mg_0 c3, m0_0 c3]
          unfold J_X4_copy
          rw [if_neg c0, if_neg c1, if_pos c2, if_pos c3, if_pos c3]
          exact ⟨_, rfl, tb_of2 rfl rfl rfl⟩
        · rw [mg_1 c0, mg_1 c1, mg_0 c2, mg_1 c3, m0_1 c3]
          unfold J_X4_copy
          rw [if_neg c0, if_neg c1, if_pos c2, if_neg c3, if_neg c3]
          exact ⟨_, rfl, tb_of2 rfl rfl rfl⟩
      · by_cases c3 : p &&& 8 = 0
        · rw [mg_1 c0, mg_1 c1, mg_1 c2, mg_0 c3, m0_0 c3]
          unfold J_X4_copy
          rw [if_neg c0, if_neg c1, if_neg c2, if_pos c3, if_pos c3]
          exact ⟨_, rfl, tb_of2 rfl rfl rfl⟩
        · rw [mg_1 c0, mg_1 c1, mg_1 c2, mg_1 c3, m0_1 c3]
          unfold J_X4_copy
          rw [if_neg c0, if_neg c1, if_neg c2, if_neg c3, if_neg c3]
          exact ⟨_, rfl, tb_of2 rfl rfl rfl⟩
def VM (V : Nat → Int32) (p : Int32) : Nat → Int32 := (upd (upd (upd (upd V (4 : Int32).toNatClampNeg (MG (p &&& 1) (V (4 : Int32).toNatClampNeg))) (5 : Int32).toNatClampNeg (MG (p &&& 2) (V (5 : Int32).toNatClampNeg))) (6 : Int32).toNatClampNeg (MG (p &&& 4) (V (6 : Int32).toNatClampNeg))) (7 : Int32).toNatClampNeg (MG (p &&& 8) (V (7 : Int32).toNatClampNeg)))
theorem w0_ : (0 : Int32).toNatClampNeg = 0 := by decide
theorem w4_ : (4 : Int32).toNatClampNeg = 4 := by decide
theorem w5_ : (5 : Int32).toNatClampNeg = 5 := by decide
theorem w6_ : (6 : Int32).toNatClampNeg = 6 := by decide
theorem w7_ : (7 : Int32).toNatClampNeg = 7 := by decide
theorem vm_n {V : Nat → Int32} {p : Int32} {i : Nat} (h : ¬ i = 4 ∧ ¬ i = 5 ∧ ¬ i = 6 ∧ ¬ i = 7) : VM V p i = V i := by
  unfold VM
  rw [w4_, w5_, w6_, w7_, pk_un h.2.2.2, pk_un h.2.2.1, pk_un h.2.1, pk_un h.1]
theorem vm_4 {V : Nat → Int32} {p : Int32} : VM V p 4 = MG (p &&& 1) (V 4) := by
  unfold VM
  rw [w4_, w5_, w6_, w7_, pk_un (show ¬ (4 : Nat) = 7 by decide), pk_un (show ¬ (4 : Nat) = 6 by decide), pk_un (show ¬ (4 : Nat) = 5 by decide), pk_us]
theorem vm_5 {V : Nat → Int32} {p : Int32} : VM V p 5 = MG (p &&& 2) (V 5) := by
  unfold VM
  rw [w4_, w5_, w6_, w7_, pk_un (show ¬ (5 : Nat) = 7 by decide), pk_un (show ¬ (5 : Nat) = 6 by decide), pk_us]
theorem vm_6 {V : Nat → Int32} {p : Int32} : VM V p 6 = MG (p &&& 4) (V 6) := by
  unfold VM
  rw [w4_, w5_, w6_, w7_, pk_un (show ¬ (6 : Nat) = 7 by decide), pk_us]
theorem vm_7 {V : Nat → Int32} {p : Int32} : VM V p 7 = MG (p &&& 8) (V 7) := by
  unfold VM
  rw [w4_, w5_, w6_, w7_, pk_us]
theorem bits : ∀ k : Fin 16, ((Int32.ofNat k.val &&& 1) = 0 ∨ (Int32.ofNat k.val &&& 1) = 1) ∧ ((Int32.ofNat k.val &&& 2) = 0 ∨ (Int32.ofNat k.val &&& 2) = 2) ∧ ((Int32.ofNat k.val &&& 4) = 0 ∨ (Int32.ofNat k.val &&& 4) = 4) ∧ ((Int32.ofNat k.val &&& 8) = 0 ∨ (Int32.ofNat k.val &&& 8) = 8) := by decide +kernel
theorem wr_v {sm : Nat → Nat → Int32} {tm : Nat → Nat → Int64} {p q : Int32} (h : ¬ J_X12_in p.toInt64 0 15 = 0) (b : ((p &&& 1) = 0 ∨ (p &&& 1) = 1) ∧ ((p &&& 2) = 0 ∨ (p &&& 2) = 2) ∧ ((p &&& 4) = 0 ∨ (p &&& 4) = 4) ∧ ((p &&& 8) = 0 ∨ (p &&& 8) = 8)) : (J_X12_without sm tm p q).1 = J_X12_told ((J_X12_layBest (up2 sm 2 (VM (sm 2) p)) tm 0).1 (0 : Int32).toNatClampNeg) (J_X12_parts ((sm 2) (0 : Int32).toNatClampNeg)) q := by
  obtain ⟨b0, b1, b2, b3⟩ := b
  rcases b0 with a0 | a0
  · rcases b1 with a1 | a1
    · rcases b2 with a2 | a2
      · rcases b3 with a3 | a3
        · have n0 : ¬ (p &&& 1) = 1 := by rw [a0]; decide
          have n1 : ¬ (p &&& 2) = 2 := by rw [a1]; decide
          have n2 : ¬ (p &&& 4) = 4 := by rw [a2]; decide
          have n3 : ¬ (p &&& 8) = 8 := by rw [a3]; decide
          have ev : VM (sm 2) p = (upd (upd (upd (upd (sm 2) (4 : Int32).toNatClampNeg ((sm 2) (4 : Int32).toNatClampNeg)) (5 : Int32).toNatClampNeg ((sm 2) (5 : Int32).toNatClampNeg)) (6 : Int32).toNatClampNeg ((sm 2) (6 : Int32).toNatClampNeg)) (7 : Int32).toNatClampNeg ((sm 2) (7 : Int32).toNatClampNeg)) := by unfold VM; rw [mg_0 a0, mg_0 a1, mg_0 a2, mg_0 a3]
          have e0 : (upd (upd (upd (upd (upd (upd (upd (upd (sm 2) (4 : Int32).toNatClampNeg ((sm 2) (4 : Int32).toNatClampNeg)) (5 : Int32).toNatClampNeg ((sm 2) (5 : Int32).toNatClampNeg)) (6 : Int32).toNatClampNeg ((sm 2) (6 : Int32).toNatClampNeg)) (7 : Int32).toNatClampNeg ((sm 2) (7 : Int32).toNatClampNeg)) (4 : Int32).toNatClampNeg ((sm 2) (4 : Int32).toNatClampNeg)) (5 : Int32).toNatClampNeg ((sm 2) (5 : Int32).toNatClampNeg)) (6 : Int32).toNatClampNeg ((sm 2) (6 : Int32).toNatClampNeg)) (7 : Int32).toNatClampNeg ((sm 2) (7 : Int32).toNatClampNeg)) (0 : Int32).toNatClampNeg = (sm 2) (0 : Int32).toNatClampNeg := by
            generalize ((sm 2) (4 : Int32).toNatClampNeg) = x4
            generalize ((sm 2) (5 : Int32).toNatClampNeg) = x5
            generalize ((sm 2) (6 : Int32).toNatClampNeg) = x6
            generalize ((sm 2) (7 : Int32).toNatClampNeg) = x7
            rw [w0_, w4_, w5_, w6_, w7_, pk_un (show ¬ (0 : Nat) = 7 by decide), pk_un (show ¬ (0 : Nat) = 6 by decide), pk_un (show ¬ (0 : Nat) = 5 by decide), pk_un (show ¬ (0 : Nat) = 4 by decide), pk_un (show ¬ (0 : Nat) = 7 by decide), pk_un (show ¬ (0 : Nat) = 6 by decide), pk_un (show ¬ (0 : Nat) = 5 by decide), pk_un (show ¬ (0 : Nat) = 4 by decide)]
          rw [ev]
          unfold J_X12_without
          rw [if_neg h, if_neg n0, if_neg n1, if_neg n2, if_neg n3]
          exact congrArg (fun z => J_X12_told ((J_X12_layBest (up2 sm 2 (upd (upd (upd (upd (sm 2) (4 : Int32).toNatClampNeg ((sm 2) (4 : Int32).toNatClampNeg)) (5 : Int32).toNatClampNeg ((sm 2) (5 : Int32).toNatClampNeg)) (6 : Int32).toNatClampNeg ((sm 2) (6 : Int32).toNatClampNeg)) (7 : Int32).toNatClampNeg ((sm 2) (7 : Int32).toNatClampNeg))) tm 0).1 (0 : Int32).toNatClampNeg) (J_X12_parts z) q) e0
        · have n0 : ¬ (p &&& 1) = 1 := by rw [a0]; decide
          have n1 : ¬ (p &&& 2) = 2 := by rw [a1]; decide
          have n2 : ¬ (p &&& 4) = 4 := by rw [a2]; decide
          have n3 : ¬ (p &&& 8) = 0 := by rw [a3]; decide
          have ev : VM (sm 2) p = (upd (upd (upd (upd (sm 2) (4 : Int32).toNatClampNeg ((sm 2) (4 : Int32).toNatClampNeg)) (5 : Int32).toNatClampNeg ((sm 2) (5 : Int32).toNatClampNeg)) (6 : Int32).toNatClampNeg ((sm 2) (6 : Int32).toNatClampNeg)) (7 : Int32).toNatClampNeg (-9)) := by unfold VM; rw [mg_0 a0, mg_0 a1, mg_0 a2, mg_1 n3]
          have e0 : (upd (upd (upd (upd (upd (upd (upd (upd (sm 2) (4 : Int32).toNatClampNeg ((sm 2) (4 : Int32).toNatClampNeg)) (5 : Int32).toNatClampNeg ((sm 2) (5 : Int32).toNatClampNeg)) (6 : Int32).toNatClampNeg ((sm 2) (6 : Int32).toNatClampNeg)) (7 : Int32).toNatClampNeg (-9)) (4 : Int32).toNatClampNeg ((sm 2) (4 : Int32).toNatClampNeg)) (5 : Int32).toNatClampNeg ((sm 2) (5 : Int32).toNatClampNeg)) (6 : Int32).toNatClampNeg ((sm 2) (6 : Int32).toNatClampNeg)) (7 : Int32).toNatClampNeg ((sm 2) (7 : Int32).toNatClampNeg)) (0 : Int32).toNatClampNeg = (sm 2) (0 : Int32).toNatClampNeg := by
            generalize ((sm 2) (4 : Int32).toNatClampNeg) = x4
            generalize ((sm 2) (5 : Int32).toNatClampNeg) = x5
            generalize ((sm 2) (6 : Int32).toNatClampNeg) = x6
            generalize ((sm 2) (7 : Int32).toNatClampNeg) = x7
            rw [w0_, w4_, w5_, w6_, w7_, pk_un (show ¬ (0 : Nat) = 7 by decide), pk_un (show ¬ (0 : Nat) = 6 by decide), pk_un (show ¬ (0 : Nat) = 5 by decide), pk_un (show ¬ (0 : Nat) = 4 by decide), pk_un (show ¬ (0 : Nat) = 7 by decide), pk_un (show ¬ (0 : Nat) = 6 by decide), pk_un (show ¬ (0 : Nat) = 5 by decide), pk_un (show ¬ (0 : Nat) = 4 by decide)]
          rw [ev]
          unfold J_X12_without
          rw [if_neg h, if_neg n0, if_neg n1, if_neg n2, if_pos a3]
          exact congrArg (fun z => J_X12_told ((J_X12_layBest (up2 sm 2 (upd (upd (upd (upd (sm 2) (4 : Int32).toNatClampNeg ((sm 2) (4 : Int32).toNatClampNeg)) (5 : Int32).toNatClampNeg ((sm 2) (5 : Int32).toNatClampNeg)) (6 : Int32).toNatClampNeg ((sm 2) (6 : Int32).toNatClampNeg)) (7 : Int32).toNatClampNeg (-9))) tm 0).1 (0 : Int32).toNatClampNeg) (J_X12_parts z) q) e0
      · rcases b3 with a3 | a3
        · have n0 : ¬ (p &&& 1) = 1 := by rw [a0]; decide
          have n1 : ¬ (p &&& 2) = 2 := by rw [a1]; decide
          have n2 : ¬ (p &&& 4) = 0 := by rw [a2]; decide
          have n3 : ¬ (p &&& 8) = 8 := by rw [a3]; decide
          have ev : VM (sm 2) p = (upd (upd (upd (upd (sm 2) (4 : Int32).toNatClampNeg ((sm 2) (4 : Int32).toNatClampNeg)) (5 : Int32).toNatClampNeg ((sm 2) (5 : Int32).toNatClampNeg)) (6 : Int32).toNatClampNeg (-9)) (7 : Int32).toNatClampNeg ((sm 2) (7 : Int32).toNatClampNeg)) := by unfold VM; rw [mg_0 a0, mg_0 a1, mg_1 n2, mg_0 a3]
          have e0 : (upd (upd (upd (upd (upd (upd (upd (upd (sm 2) (4 : Int32).toNatClampNeg ((sm 2) (4 : Int32).toNatClampNeg)) (5 : Int32).toNatClampNeg ((sm 2) (5 : Int32).toNatClampNeg)) (6 : Int32).toNatClampNeg (-9)) (7 : Int32).toNatClampNeg ((sm 2) (7 : Int32).toNatClampNeg)) (4 : Int32).toNatClampNeg ((sm 2) (4 : Int32).toNatClampNeg)) (5 : Int32).toNatClampNeg ((sm 2) (5 : Int32).toNatClampNeg)) (6 : Int32).toNatClampNeg ((sm 2) (6 : Int32).toNatClampNeg)) (7 : Int32).toNatClampNeg ((sm 2) (7 : Int32).toNatClampNeg)) (0 : Int32).toNatClampNeg = (sm 2) (0 : Int32).toNatClampNeg := by
            generalize ((sm 2) (4 : Int32).toNatClampNeg) = x4
            generalize ((sm 2) (5 : Int32).toNatClampNeg) = x5
            generalize ((sm 2) (6 : Int32).toNatClampNeg) = x6
            generalize ((sm 2) (7 : Int32).toNatClampNeg) = x7
            rw [w0_, w4_, w5_, w6_, w7_, pk_un (show ¬ (0 : Nat) = 7 by decide), pk_un (show ¬ (0 : Nat) = 6 by decide), pk_un (show ¬ (0 : Nat) = 5 by decide), pk_un (show ¬ (0 : Nat) = 4 by decide), pk_un (show ¬ (0 : Nat) = 7 by decide), pk_un (show ¬ (0 : Nat) = 6 by decide), pk_un (show ¬ (0 : Nat) = 5 by decide), pk_un (show ¬ (0 : Nat) = 4 by decide)]
          rw [ev]
          unfold J_X12_without
          rw [if_neg h, if_neg n0, if_neg n1, if_pos a2, if_neg n3]
          exact congrArg (fun z => J_X12_told ((J_X12_layBest (up2 sm 2 (upd (upd (upd (upd (sm 2) (4 : Int32).toNatClampNeg ((sm 2) (4 : Int32).toNatClampNeg)) (5 : Int32).toNatClampNeg ((sm 2) (5 : Int32).toNatClampNeg)) (6 : Int32).toNatClampNeg (-9)) (7 : Int32).toNatClampNeg ((sm 2) (7 : Int32).toNatClampNeg))) tm 0).1 (0 : Int32).toNatClampNeg) (J_X12_parts z) q) e0
        · have n0 : ¬ (p &&& 1) = 1 := by rw [a0]; decide
          have n1 : ¬ (p &&& 2) = 2 := by rw [a1]; decide
          have n2 : ¬ (p &&& 4) = 0 := by rw [a2]; decide
          have n3 : ¬ (p &&& 8) = 0 := by rw [a3]; decide
          have ev : VM (sm 2) p = (upd (upd (upd (upd (sm 2) (4 : Int32).toNatClampNeg ((sm 2) (4 : Int32).toNatClampNeg)) (5 : Int32).toNatClampNeg ((sm 2) (5 : Int32).toNatClampNeg)) (6 : Int32).toNatClampNeg (-9)) (7 : Int32).toNatClampNeg (-9)) := by unfold VM; rw [mg_0 a0, mg_0 a1, mg_1 n2, mg_1 n3]
          have e0 : (upd (upd (upd (upd (upd (upd (upd (upd (sm 2) (4 : Int32).toNatClampNeg ((sm 2) (4 : Int32).toNatClampNeg)) (5 : Int32).toNatClampNeg ((sm 2) (5 : Int32).toNatClampNeg)) (6 : Int32).toNatClampNeg (-9)) (7 : Int32).toNatClampNeg (-9)) (4 : Int32).toNatClampNeg ((sm 2) (4 : Int32).toNatClampNeg)) (5 : Int32).toNatClampNeg ((sm 2) (5 : Int32).toNatClampNeg)) (6 : Int32).toNatClampNeg ((sm 2) (6 : Int32).toNatClampNeg)) (7 : Int32).toNatClampNeg ((sm 2) (7 : Int32).toNatClampNeg)) (0 : Int32).toNatClampNeg = (sm 2) (0 : Int32).toNatClampNeg := by
            generalize ((sm 2) (4 : Int32).toNatClampNeg) = x4
            generalize ((sm 2) (5 : Int32).toNatClampNeg) = x5
            generalize ((sm 2) (6 : Int32).toNatClampNeg) = x6
            generalize ((sm 2) (7 : Int32).toNatClampNeg) = x7
            rw [w0_, w4_, w5_, w6_, w7_, pk_un (show ¬ (0 : Nat) = 7 by decide), pk_un (show ¬ (0 : Nat) = 6 by decide), pk_un (show ¬ (0 : Nat) = 5 by decide), pk_un (show ¬ (0 : Nat) = 4 by decide), pk_un (show ¬ (0 : Nat) = 7 by decide), pk_un (show ¬ (0 : Nat) = 6 by decide), pk_un (show ¬ (0 : Nat) = 5 by decide), pk_un (show ¬ (0 : Nat) = 4 by decide)]
          rw [ev]
          unfold J_X12_without
          rw [if_neg h, if_neg n0, if_neg n1, if_pos a2, if_pos a3]
          exact congrArg (fun z => J_X12_told ((J_X12_layBest (up2 sm 2 (upd (upd (upd (upd (sm 2) (4 : Int32).toNatClampNeg ((sm 2) (4 : Int32).toNatClampNeg)) (5 : Int32).toNatClampNeg ((sm 2) (5 : Int32).toNatClampNeg)) (6 : Int32).toNatClampNeg (-9)) (7 : Int32).toNatClampNeg (-9))) tm 0).1 (0 : Int32).toNatClampNeg) (J_X12_parts z) q) e0
    · rcases b2 with a2 | a2
      · rcases b3 with a3 | a3
        · have n0 : ¬ (p &&& 1) = 1 := by rw [a0]; decide
          have n1 : ¬ (p &&& 2) = 0 := by rw [a1]; decide
          have n2 : ¬ (p &&& 4) = 4 := by rw [a2]; decide
          have n3 : ¬ (p &&& 8) = 8 := by rw [a3]; decide
          have ev : VM (sm 2) p = (upd (upd (upd (upd (sm 2) (4 : Int32).toNatClampNeg ((sm 2) (4 : Int32).toNatClampNeg)) (5 : Int32).toNatClampNeg (-9)) (6 : Int32).toNatClampNeg ((sm 2) (6 : Int32).toNatClampNeg)) (7 : Int32).toNatClampNeg ((sm 2) (7 : Int32).toNatClampNeg)) := by unfold VM; rw [mg_0 a0, mg_1 n1, mg_0 a2, mg_0 a3]
          have e0 : (upd (upd (upd (upd (upd (upd (upd (upd (sm 2) (4 : Int32).toNatClampNeg ((sm 2) (4 : Int32).toNatClampNeg)) (5 : Int32).toNatClampNeg (-9)) (6 : Int32).toNatClampNeg ((sm 2) (6 : Int32).toNatClampNeg)) (7 : Int32).toNatClampNeg ((sm 2) (7 : Int32).toNatClampNeg)) (4 : Int32).toNatClampNeg ((sm 2) (4 : Int32).toNatClampNeg)) (5 : Int32).toNatClampNeg ((sm 2) (5 : Int32).toNatClampNeg)) (6 : Int32).toNatClampNeg ((sm 2) (6 : Int32).toNatClampNeg)) (7 : Int32).toNatClampNeg ((sm 2) (7 : Int32).toNatClampNeg)) (0 : Int32).toNatClampNeg = (sm 2) (0 : Int32).toNatClampNeg := by
            generalize ((sm 2) (4 : Int32).toNatClampNeg) = x4
            generalize ((sm 2) (5 : Int32).toNatClampNeg) = x5
            generalize ((sm 2) (6 : Int32).toNatClampNeg) = x6
            generalize ((sm 2) (7 : Int32).toNatClampNeg) = x7
            rw [w0_, w4_, w5_, w6_, w7_, pk_un (show ¬ (0 : Nat) = 7 by decide), pk_un (show ¬ (0 : Nat) = 6 by decide), pk_un (show ¬ (0 : Nat) = 5 by decide), pk_un (show ¬ (0 : Nat) = 4 by decide), pk_un (show ¬ (0 : Nat) = 7 by decide), pk_un (show ¬ (0 : Nat) = 6 by decide), pk_un (show ¬ (0 : Nat) = 5 by decide), pk_un (show ¬ (0 : Nat) = 4 by decide)]
          rw [ev]
          unfold J_X12_without
          rw [if_neg h, if_neg n0, if_pos a1, if_neg n2, if_neg n3]
          exact congrArg (fun z => J_X12_told ((J_X12_layBest (up2 sm 2 (upd (upd (upd (upd (sm 2) (4 : Int32).toNatClampNeg ((sm 2) (4 : Int32).toNatClampNeg)) (5 : Int32).toNatClampNeg (-9)) (6 : Int32).toNatClampNeg ((sm 2) (6 : Int32).toNatClampNeg)) (7 : Int32).toNatClampNeg ((sm 2) (7 : Int32).toNatClampNeg))) tm 0).1 (0 : Int32).toNatClampNeg) (J_X12_parts z) q) e0
        · have n0 : ¬ (p &&& 1) = 1 := by rw [a0]; decide
          have n1 : ¬ (p &&& 2) = 0 := by rw [a1]; decide
          have n2 : ¬ (p &&& 4) = 4 := by rw [a2]; decide
          have n3 : ¬ (p &&& 8) = 0 := by rw [a3]; decide
          have ev : VM (sm 2) p = (upd (upd (upd (upd (sm 2) (4 : Int32).toNatClampNeg ((sm 2) (4 : Int32).toNatClampNeg)) (5 : Int32).toNatClampNeg (-9)) (6 : Int32).toNatClampNeg ((sm 2) (6 : Int32).toNatClampNeg)) (7 : Int32).toNatClampNeg (-9)) := by unfold VM; rw [mg_0 a0, mg_1 n1, mg_0 a2, mg_1 n3]
          have e0 : (upd (upd (upd (upd (upd (upd (upd (upd (sm 2) (4 : Int32).toNatClampNeg ((sm 2) (4 : Int32).toNatClampNeg)) (5 : Int32).toNatClampNeg (-9)) (6 : Int32).toNatClampNeg ((sm 2) (6 : Int32).toNatClampNeg)) (7 : Int32).toNatClampNeg (-9)) (4 : Int32).toNatClampNeg ((sm 2) (4 : Int32).toNatClampNeg)) (5 : Int32).toNatClampNeg ((sm 2) (5 : Int32).toNatClampNeg)) (6 : Int32).toNatClampNeg ((sm 2) (6 : Int32).toNatClampNeg)) (7 : Int32).toNatClampNeg ((sm 2) (7 : Int32).toNatClampNeg)) (0 : Int32).toNatClampNeg = (sm 2) (0 : Int32).toNatClampNeg := by
            generalize ((sm 2) (4 : Int32).toNatClampNeg) = x4
            generalize ((sm 2) (5 : Int32).toNatClampNeg) = x5
            generalize ((sm 2) (6 : Int32).toNatClampNeg) = x6
            generalize ((sm 2) (7 : Int32).toNatClampNeg) = x7
            rw [w0_, w4_, w5_, w6_, w7_, pk_un (show ¬ (0 : Nat) = 7 by decide), pk_un (show ¬ (0 : Nat) = 6 by decide), pk_un (show ¬ (0 : Nat) = 5 by decide), pk_un (show ¬ (0 : Nat) = 4 by decide), pk_un (show ¬ (0 : Nat) = 7 by decide), pk_un (show ¬ (0 : Nat) = 6 by decide), pk_un (show ¬ (0 : Nat) = 5 by decide), pk_un (show ¬ (0 : Nat) = 4 by decide)]
          rw [ev]
          unfold J_X12_without
          rw [if_neg h, if_neg n0, if_pos a1, if_neg n2, if_pos a3]
          exact congrArg (fun z => J_X12_told ((J_X12_layBest (up2 sm 2 (upd (upd (upd (upd (sm 2) (4 : Int32).toNatClampNeg ((sm 2) (4 : Int32).toNatClampNeg)) (5 : Int32).toNatClampNeg (-9)) (6 : Int32).toNatClampNeg ((sm 2) (6 : Int32).toNatClampNeg)) (7 : Int32).toNatClampNeg (-9))) tm 0).1 (0 : Int32).toNatClampNeg) (J_X12_parts z) q) e0
      · rcases b3 with a3 | a3
        · have n0 : ¬ (p &&& 1) = 1 := by rw [a0]; decide
          have n1 : ¬ (p &&& 2) = 0 := by rw [a1]; decide
          have n2 : ¬ (p &&& 4) = 0 := by rw [a2]; decide
          have n3 : ¬ (p &&& 8) = 8 := by rw [a3]; decide
          have ev : VM (sm 2) p = (upd (upd (upd (upd (sm 2) (4 : Int32).toNatClampNeg ((sm 2) (4 : Int32).toNatClampNeg)) (5 : Int32).toNatClampNeg (-9)) (6 : Int32).toNatClampNeg (-9)) (7 : Int32).toNatClampNeg ((sm 2) (7 : Int32).toNatClampNeg)) := by unfold VM; rw [mg_0 a0, mg_1 n1, mg_1 n2, mg_0 a3]
          have e0 : (upd (upd (upd (upd (upd (upd (upd (upd (sm 2) (4 : Int32).toNatClampNeg ((sm 2) (4 : Int32).toNatClampNeg)) (5 : Int32).toNatClampNeg (-9)) (6 : Int32).toNatClampNeg (-9)) (7 : Int32).toNatClampNeg ((sm 2) (7 : Int32).toNatClampNeg)) (4 : Int32).toNatClampNeg ((sm 2) (4 : Int32).toNatClampNeg)) (5 : Int32).toNatClampNeg ((sm 2) (5 : Int32).toNatClampNeg)) (6 : Int32).toNatClampNeg ((sm 2) (6 : Int32).toNatClampNeg)) (7 : Int32).toNatClampNeg ((sm 2) (7 : Int32).toNatClampNeg)) (0 : Int32).toNatClampNeg = (sm 2) (0 : Int32).toNatClampNeg := by
            generalize ((sm 2) (4 : Int32).toNatClampNeg) = x4
            generalize ((sm 2) (5 : Int32).toNatClampNeg) = x5
            generalize ((sm 2) (6 : Int32).toNatClampNeg) = x6
            generalize ((sm 2) (7 : Int32).toNatClampNeg) = x7
            rw [w0_, w4_, w5_, w6_, w7_, pk_un (show ¬ (0 : Nat) = 7 by decide), pk_un (show ¬ (0 : Nat) = 6 by decide), pk_un (show ¬ (0 : Nat) = 5 by decide), pk_un (show ¬ (0 : Nat) = 4 by decide), pk_un (show ¬ (0 : Nat) = 7 by decide), pk_un (show ¬ (0 : Nat) = 6 by decide), pk_un (show ¬ (0 : Nat) = 5 by decide), pk_un (show ¬ (0 : Nat) = 4 by decide)]
          rw [ev]
          unfold J_X12_without
          rw [if_neg h, if_neg n0, if_pos a1, if_pos a2, if_neg n3]
          exact congrArg (fun z => J_X12_told ((J_X12_layBest (up2 sm 2 (upd (upd (upd (upd (sm 2) (4 : Int32).toNatClampNeg ((sm 2) (4 : Int32).toNatClampNeg)) (5 : Int32).toNatClampNeg (-9)) (6 : Int32).toNatClampNeg (-9)) (7 : Int32).toNatClampNeg ((sm 2) (7 : Int32).toNatClampNeg))) tm 0).1 (0 : Int32).toNatClampNeg) (J_X12_parts z) q) e0
        · have n0 : ¬ (p &&& 1) = 1 := by rw [a0]; decide
          have n1 : ¬ (p &&& 2) = 0 := by rw [a1]; decide
          have n2 : ¬ (p &&& 4) = 0 := by rw [a2]; decide
          have n3 : ¬ (p &&& 8) = 0 := by rw [a3]; decide
          have ev : VM (sm 2) p = (upd (upd (upd (upd (sm 2) (4 : Int32).toNatClampNeg ((sm 2) (4 : Int32).toNatClampNeg)) (5 : Int32).toNatClampNeg (-9)) (6 : Int32).toNatClampNeg (-9)) (7 : Int32).toNatClampNeg (-9)) := by unfold VM; rw [mg_0 a0, mg_1 n1, mg_1 n2, mg_1 n3]
          have e0 : (upd (upd (upd (upd (upd (upd (upd (upd (sm 2) (4 : Int32).toNatClampNeg ((sm 2) (4 : Int32).toNatClampNeg)) (5 : Int32).toNatClampNeg (-9)) (6 : Int32).toNatClampNeg (-9)) (7 : Int32).toNatClampNeg (-9)) (4 : Int32).toNatClampNeg ((sm 2) (4 : Int32).toNatClampNeg)) (5 : Int32).toNatClampNeg ((sm 2) (5 : Int32).toNatClampNeg)) (6 : Int32).toNatClampNeg ((sm 2) (6 : Int32).toNatClampNeg)) (7 : Int32).toNatClampNeg ((sm 2) (7 : Int32).toNatClampNeg)) (0 : Int32).toNatClampNeg = (sm 2) (0 : Int32).toNatClampNeg := by
            generalize ((sm 2) (4 : Int32).toNatClampNeg) = x4
            generalize ((sm 2) (5 : Int32).toNatClampNeg) = x5
            generalize ((sm 2) (6 : Int32).toNatClampNeg) = x6
            generalize ((sm 2) (7 : Int32).toNatClampNeg) = x7
            rw [w0_, w4_, w5_, w6_, w7_, pk_un (show ¬ (0 : Nat) = 7 by decide), pk_un (show ¬ (0 : Nat) = 6 by decide), pk_un (show ¬ (0 : Nat) = 5 by decide), pk_un (show ¬ (0 : Nat) = 4 by decide), pk_un (show ¬ (0 : Nat) = 7 by decide), pk_un (show ¬ (0 : Nat) = 6 by decide), pk_un (show ¬ (0 : Nat) = 5 by decide), pk_un (show ¬ (0 : Nat) = 4 by decide)]
          rw [ev]
          unfold J_X12_without
          rw [if_neg h, if_neg n0, if_pos a1, if_pos a2, if_pos a3]
          exact congrArg (fun z => J_X12_told ((J_X12_layBest (up2 sm 2 (upd (upd (upd (upd (sm 2) (4 : Int32).toNatClampNeg ((sm 2) (4 : Int32).toNatClampNeg)) (5 : Int32).toNatClampNeg (-9)) (6 : Int32).toNatClampNeg (-9)) (7 : Int32).toNatClampNeg (-9))) tm 0).1 (0 : Int32).toNatClampNeg) (J_X12_parts z) q) e0
  · rcases b1 with a1 | a1
    · rcases b2 with a2 | a2
      · rcases b3 with a3 | a3
        · have n0 : ¬ (p &&& 1) = 0 := by rw [a0]; decide
          have n1 : ¬ (p &&& 2) = 2 := by rw [a1]; decide
          have n2 : ¬ (p &&& 4) = 4 := by rw [a2]; decide
          have n3 : ¬ (p &&& 8) = 8 := by rw [a3]; decide
          have ev : VM (sm 2) p = (upd (upd (upd (upd (sm 2) (4 : Int32).toNatClampNeg (-9)) (5 : Int32).toNatClampNeg ((sm 2) (5 : Int32).toNatClampNeg)) (6 : Int32).toNatClampNeg ((sm 2) (6 : Int32).toNatClampNeg)) (7 : Int32).toNatClampNeg ((sm 2) (7 : Int32).toNatClampNeg)) := by unfold VM; rw [mg_1 n0, mg_0 a1, mg_0 a2, mg_0 a3]
          have e0 : (upd (upd (upd (upd (upd (upd (upd (upd (sm 2) (4 : Int32).toNatClampNeg (-9)) (5 : Int32).toNatClampNeg ((sm 2) (5 : Int32).toNatClampNeg)) (6 : Int32).toNatClampNeg ((sm 2) (6 : Int32).toNatClampNeg)) (7 : Int32).toNatClampNeg ((sm 2) (7 : Int32).toNatClampNeg)) (4 : Int32).toNatClampNeg ((sm 2) (4 : Int32).toNatClampNeg)) (5 : Int32).toNatClampNeg ((sm 2) (5 : Int32).toNatClampNeg)) (6 : Int32).toNatClampNeg ((sm 2) (6 : Int32).toNatClampNeg)) (7 : Int32).toNatClampNeg ((sm 2) (7 : Int32).toNatClampNeg)) (0 : Int32).toNatClampNeg = (sm 2) (0 : Int32).toNatClampNeg := by
            generalize ((sm 2) (4 : Int32).toNatClampNeg) = x4
            generalize ((sm 2) (5 : Int32).toNatClampNeg) = x5
            generalize ((sm 2) (6 : Int32).toNatClampNeg) = x6
            generalize ((sm 2) (7 : Int32).toNatClampNeg) = x7
            rw [w0_, w4_, w5_, w6_, w7_, pk_un (show ¬ (0 : Nat) = 7 by decide), pk_un (show ¬ (0 : Nat) = 6 by decide), pk_un (show ¬ (0 : Nat) = 5 by decide), pk_un (show ¬ (0 : Nat) = 4 by decide), pk_un (show ¬ (0 : Nat) = 7 by decide), pk_un (show ¬ (0 : Nat) = 6 by decide), pk_un (show ¬ (0 : Nat) = 5 by decide), pk_un (show ¬ (0 : Nat) = 4 by decide)]
          rw [ev]
          unfold J_X12_without
          rw [if_neg h, if_pos a0, if_neg n1, if_neg n2, if_neg n3]
          exact congrArg (fun z => J_X12_told ((J_X12_layBest (up2 sm 2 (upd (upd (upd (upd (sm 2) (4 : Int32).toNatClampNeg (-9)) (5 : Int32).toNatClampNeg ((sm 2) (5 : Int32).toNatClampNeg)) (6 : Int32).toNatClampNeg ((sm 2) (6 : Int32).toNatClampNeg)) (7 : Int32).toNatClampNeg ((sm 2) (7 : Int32).toNatClampNeg))) tm 0).1 (0 : Int32).toNatClampNeg) (J_X12_parts z) q) e0
        · have n0 : ¬ (p &&& 1) = 0 := by rw [a0]; decide
          have n1 : ¬ (p &&& 2) = 2 := by rw [a1]; decide
          have n2 : ¬ (p &&& 4) = 4 := by rw [a2]; decide
          have n3 : ¬ (p &&& 8) = 0 := by rw [a3]; decide
          have ev : VM (sm 2) p = (upd (upd (upd (upd (sm 2) (4 : Int32).toNatClampNeg (-9)) (5 : Int32).toNatClampNeg ((sm 2) (5 : Int32).toNatClampNeg)) (6 : Int32).toNatClampNeg ((sm 2) (6 : Int32).toNatClampNeg)) (7 : Int32).toNatClampNeg (-9)) := by unfold VM; rw [mg_1 n0, mg_0 a1, mg_0 a2, mg_1 n3]
          have e0 : (upd (upd (upd (upd (upd (upd (upd (upd (sm 2) (4 : Int32).toNatClampNeg (-9)) (5 : Int32).toNatClampNeg ((sm 2) (5 : Int32).toNatClampNeg)) (6 : Int32).toNatClampNeg ((sm 2) (6 : Int32).toNatClampNeg)) (7 : Int32).toNatClampNeg (-9)) (4 : Int32).toNatClampNeg ((sm 2) (4 : Int32).toNatClampNeg)) (5 : Int32).toNatClampNeg ((sm 2) (5 : Int32).toNatClampNeg)) (6 : Int32).toNatClampNeg ((sm 2) (6 : Int32).toNatClampNeg)) (7 : Int32).toNatClampNeg ((sm 2) (7 : Int32).toNatClampNeg)) (0 : Int32).toNatClampNeg = (sm 2) (0 : Int32).toNatClampNeg := by
            generalize ((sm 2) (4 : Int32).toNatClampNeg) = x4
            generalize ((sm 2) (5 : Int32).toNatClampNeg) = x5
            generalize ((sm 2) (6 : Int32).toNatClampNeg) = x6
            generalize ((sm 2) (7 : Int32).toNatClampNeg) = x7
            rw [w0_, w4_, w5_, w6_, w7_, pk_un (show ¬ (0 : Nat) = 7 by decide), pk_un (show ¬ (0 : Nat) = 6 by decide), pk_un (show ¬ (0 : Nat) = 5 by decide), pk_un (show ¬ (0 : Nat) = 4 by decide), pk_un (show ¬ (0 : Nat) = 7 by decide), pk_un (show ¬ (0 : Nat) = 6 by decide), pk_un (show ¬ (0 : Nat) = 5 by decide), pk_un (show ¬ (0 : Nat) = 4 by decide)]
          rw [ev]
          unfold J_X12_without
          rw [if_neg h, if_pos a0, if_neg n1, if_neg n2, if_pos a3]
          exact congrArg (fun z => J_X12_told ((J_X12_layBest (up2 sm 2 (upd (upd (upd (upd (sm 2) (4 : Int32).toNatClampNeg (-9)) (5 : Int32).toNatClampNeg ((sm 2) (5 : Int32).toNatClampNeg)) (6 : Int32).toNatClampNeg ((sm 2) (6 : Int32).toNatClampNeg)) (7 : Int32).toNatClampNeg (-9))) tm 0).1 (0 : Int32).toNatClampNeg) (J_X12_parts z) q) e0
      · rcases b3 with a3 | a3
        · have n0 : ¬ (p &&& 1) = 0 := by rw [a0]; decide
          have n1 : ¬ (p &&& 2) = 2 := by rw [a1]; decide
          have n2 : ¬ (p &&& 4) = 0 := by rw [a2]; decide
          have n3 : ¬ (p &&& 8) = 8 := by rw [a3]; decide
          have ev : VM (sm 2) p = (upd (upd (upd (upd (sm 2) (4 : Int32).toNatClampNeg (-9)) (5 : Int32).toNatClampNeg ((sm 2) (5 : Int32).toNatClampNeg)) (6 : Int32).toNatClampNeg (-9)) (7 : Int32).toNatClampNeg ((sm 2) (7 : Int32).toNatClampNeg)) := by unfold VM; rw [mg_1 n0, mg_0 a1, mg_1 n2, mg_0 a3]
          have e0 : (upd (upd (upd (upd (upd (upd (upd (upd (sm 2) (4 : Int32).toNatClampNeg (-9)) (5 : Int32).toNatClampNeg ((sm 2) (5 : Int32).toNatClampNeg)) (6 : Int32).toNatClampNeg (-9)) (7 : Int32).toNatClampNeg ((sm 2) (7 : Int32).toNatClampNeg)) (4 : Int32).toNatClampNeg ((sm 2) (4 : Int32).toNatClampNeg)) (5 : Int32).toNatClampNeg ((sm 2) (5 : Int32).toNatClampNeg)) (6 : Int32).toNatClampNeg ((sm 2) (6 : Int32).toNatClampNeg)) (7 : Int32).toNatClampNeg ((sm 2) (7 : Int32).toNatClampNeg)) (0 : Int32).toNatClampNeg = (sm 2) (0 : Int32).toNatClampNeg := by
            generalize ((sm 2) (4 : Int32).toNatClampNeg) = x4
            generalize ((sm 2) (5 : Int32).toNatClampNeg) = x5
            generalize ((sm 2) (6 : Int32).toNatClampNeg) = x6
            generalize ((sm 2) (7 : Int32).toNatClampNeg) = x7
            rw [w0_, w4_, w5_, w6_, w7_, pk_un (show ¬ (0 : Nat) = 7 by decide), pk_un (show ¬ (0 : Nat) = 6 by decide), pk_un (show ¬ (0 : Nat) = 5 by decide), pk_un (show ¬ (0 : Nat) = 4 by decide), pk_un (show ¬ (0 : Nat) = 7 by decide), pk_un (show ¬ (0 : Nat) = 6 by decide), pk_un (show ¬ (0 : Nat) = 5 by decide), pk_un (show ¬ (0 : Nat) = 4 by decide)]
          rw [ev]
          unfold J_X12_without
          rw [if_neg h, if_pos a0, if_neg n1, if_pos a2, if_neg n3]
          exact congrArg (fun z => J_X12_told ((J_X12_layBest (up2 sm 2 (upd (upd (upd (upd (sm 2) (4 : Int32).toNatClampNeg (-9)) (5 : Int32).toNatClampNeg ((sm 2) (5 : Int32).toNatClampNeg)) (6 : Int32).toNatClampNeg (-9)) (7 : Int32).toNatClampNeg ((sm 2) (7 : Int32).toNatClampNeg))) tm 0).1 (0 : Int32).toNatClampNeg) (J_X12_parts z) q) e0
        · have n0 : ¬ (p &&& 1) = 0 := by rw [a0]; decide
          have n1 : ¬ (p &&& 2) = 2 := by rw [a1]; decide
          have n2 : ¬ (p &&& 4) = 0 := by rw [a2]; decide
          have n3 : ¬ (p &&& 8) = 0 := by rw [a3]; decide
          have ev : VM (sm 2) p = (upd (upd (upd (upd (sm 2) (4 : Int32).toNatClampNeg (-9)) (5 : Int32).toNatClampNeg ((sm 2) (5 : Int32).toNatClampNeg)) (6 : Int32).toNatClampNeg (-9)) (7 : Int32).toNatClampNeg (-9)) := by unfold VM; rw [mg_1 n0, mg_0 a1, mg_1 n2, mg_1 n3]
          have e0 : (upd (upd (upd (upd (upd (upd (upd (upd (sm 2) (4 : Int32).toNatClampNeg (-9)) (5 : Int32).toNatClampNeg ((sm 2) (5 : Int32).toNatClampNeg)) (6 : Int32).toNatClampNeg (-9)) (7 : Int32).toNatClampNeg (-9)) (4 : Int32).toNatClampNeg ((sm 2) (4 : Int32).toNatClampNeg)) (5 : Int32).toNatClampNeg ((sm 2) (5 : Int32).toNatClampNeg)) (6 : Int32).toNatClampNeg ((sm 2) (6 : Int32).toNatClampNeg)) (7 : Int32).toNatClampNeg ((sm 2) (7 : Int32).toNatClampNeg)) (0 : Int32).toNatClampNeg = (sm 2) (0 : Int32).toNatClampNeg := by
            generalize ((sm 2) (4 : Int32).toNatClampNeg) = x4
            generalize ((sm 2) (5 : Int32).toNatClampNeg) = x5
            generalize ((sm 2) (6 : Int32).toNatClampNeg) = x6
            generalize ((sm 2) (7 : Int32).toNatClampNeg) = x7
            rw [w0_, w4_, w5_, w6_, w7_, pk_un (show ¬ (0 : Nat) = 7 by decide), pk_un (show ¬ (0 : Nat) = 6 by decide), pk_un (show ¬ (0 : Nat) = 5 by decide), pk_un (show ¬ (0 : Nat) = 4 by decide), pk_un (show ¬ (0 : Nat) = 7 by decide), pk_un (show ¬ (0 : Nat) = 6 by decide), pk_un (show ¬ (0 : Nat) = 5 by decide), pk_un (show ¬ (0 : Nat) = 4 by decide)]
          rw [ev]
          unfold J_X12_without
          rw [if_neg h, if_pos a0, if_neg n1, if_pos a2, if_pos a3]
          exact congrArg (fun z => J_X12_told ((J_X12_layBest (up2 sm 2 (upd (upd (upd (upd (sm 2) (4 : Int32).toNatClampNeg (-9)) (5 : Int32).toNatClampNeg ((sm 2) (5 : Int32).toNatClampNeg)) (6 : Int32).toNatClampNeg (-9)) (7 : Int32).toNatClampNeg (-9))) tm 0).1 (0 : Int32).toNatClampNeg) (J_X12_parts z) q) e0
    · rcases b2 with a2 | a2
      · rcases b3 with a3 | a3
        · have n0 : ¬ (p &&& 1) = 0 := by rw [a0]; decide
          have n1 : ¬ (p &&& 2) = 0 := by rw [a1]; decide
          have n2 : ¬ (p &&& 4) = 4 := by rw [a2]; decide
          have n3 : ¬ (p &&& 8) = 8 := by rw [a3]; decide
          have ev : VM (sm 2) p = (upd (upd (upd (upd (sm 2) (4 : Int32).toNatClampNeg (-9)) (5 : Int32).toNatClampNeg (-9)) (6 : Int32).toNatClampNeg ((sm 2) (6 : Int32).toNatClampNeg)) (7 : Int32).toNatClampNeg ((sm 2) (7 : Int32).toNatClampNeg)) := by unfold VM; rw [mg_1 n0, mg_1 n1, mg_0 a2, mg_0 a3]
          have e0 : (upd (upd (upd (upd (upd (upd (upd (upd (sm 2) (4 : Int32).toNatClampNeg (-9)) (5 : Int32).toNatClampNeg (-9)) (6 : Int32).toNatClampNeg ((sm 2) (6 : Int32).toNatClampNeg)) (7 : Int32).toNatClampNeg ((sm 2) (7 : Int32).toNatClampNeg)) (4 : Int32).toNatClampNeg ((sm 2) (4 : Int32).toNatClampNeg)) (5 : Int32).toNatClampNeg ((sm 2) (5 : Int32).toNatClampNeg)) (6 : Int32).toNatClampNeg ((sm 2) (6 : Int32).toNatClampNeg)) (7 : Int32).toNatClampNeg ((sm 2) (7 : Int32).toNatClampNeg)) (0 : Int32).toNatClampNeg = (sm 2) (0 : Int32).toNatClampNeg := by
            generalize ((sm 2) (4 : Int32).toNatClampNeg) = x4
            generalize ((sm 2) (5 : Int32).toNatClampNeg) = x5
            generalize ((sm 2) (6 : Int32).toNatClampNeg) = x6
            generalize ((sm 2) (7 : Int32).toNatClampNeg) = x7
            rw [w0_, w4_, w5_, w6_, w7_, pk_un (show ¬ (0 : Nat) = 7 by decide), pk_un (show ¬ (0 : Nat) = 6 by decide), pk_un (show ¬ (0 : Nat) = 5 by decide), pk_un (show ¬ (0 : Nat) = 4 by decide), pk_un (show ¬ (0 : Nat) = 7 by decide), pk_un (show ¬ (0 : Nat) = 6 by decide), pk_un (show ¬ (0 : Nat) = 5 by decide), pk_un (show ¬ (0 : Nat) = 4 by decide)]
          rw [ev]
          unfold J_X12_without
          rw [if_neg h, if_pos a0, if_pos a1, if_neg n2, if_neg n3]
          exact congrArg (fun z => J_X12_told ((J_X12_layBest (up2 sm 2 (upd (upd (upd (upd (sm 2) (4 : Int32).toNatClampNeg (-9)) (5 : Int32).toNatClampNeg (-9)) (6 : Int32).toNatClampNeg ((sm 2) (6 : Int32).toNatClampNeg)) (7 : Int32).toNatClampNeg ((sm 2) (7 : Int32).toNatClampNeg))) tm 0).1 (0 : Int32).toNatClampNeg) (J_X12_parts z) q) e0
        · have n0 : ¬ (p &&& 1) = 0 := by rw [a0]; decide
          have n1 : ¬ (p &&& 2) = 0 := by rw [a1]; decide
          have n2 : ¬ (p &&& 4) = 4 := by rw [a2]; decide
          have n3 : ¬ (p &&& 8) = 0 := by rw [a3]; decide
          have ev : VM (sm 2) p = (upd (upd (upd (upd (sm 2) (4 : Int32).toNatClampNeg (-9)) (5 : Int32).toNatClampNeg (-9)) (6 : Int32).toNatClampNeg ((sm 2) (6 : Int32).toNatClampNeg)) (7 : Int32).toNatClampNeg (-9)) := by unfold VM; rw [mg_1 n0, mg_1 n1, mg_0 a2, mg_1 n3]
          have e0 : (upd (upd (upd (upd (upd (upd (upd (upd (sm 2) (4 : Int32).toNatClampNeg (-9)) (5 : Int32).toNatClampNeg (-9)) (6 : Int32).toNatClampNeg ((sm 2) (6 : Int32).toNatClampNeg)) (7 : Int32).toNatClampNeg (-9)) (4 : Int32).toNatClampNeg ((sm 2) (4 : Int32).toNatClampNeg)) (5 : Int32).toNatClampNeg ((sm 2) (5 : Int32).toNatClampNeg)) (6 : Int32).toNatClampNeg ((sm 2) (6 : Int32).toNatClampNeg)) (7 : Int32).toNatClampNeg ((sm 2) (7 : Int32).toNatClampNeg)) (0 : Int32).toNatClampNeg = (sm 2) (0 : Int32).toNatClampNeg := by
            generalize ((sm 2) (4 : Int32).toNatClampNeg) = x4
            generalize ((sm 2) (5 : Int32).toNatClampNeg) = x5
            generalize ((sm 2) (6 : Int32).toNatClampNeg) = x6
            generalize ((sm 2) (7 : Int32).toNatClampNeg) = x7
            rw [w0_, w4_, w5_, w6_, w7_, pk_un (show ¬ (0 : Nat) = 7 by decide), pk_un (show ¬ (0 : Nat) = 6 by decide), pk_un (show ¬ (0 : Nat) = 5 by decide), pk_un (show ¬ (0 : Nat) = 4 by decide), pk_un (show ¬ (0 : Nat) = 7 by decide), pk_un (show ¬ (0 : Nat) = 6 by decide), pk_un (show ¬ (0 : Nat) = 5 by decide), pk_un (show ¬ (0 : Nat) = 4 by decide)]
          rw [ev]
          unfold J_X12_without
          rw [if_neg h, if_pos a0, if_pos a1, if_neg n2, if_pos a3]
          exact congrArg (fun z => J_X12_told ((J_X12_layBest (up2 sm 2 (upd (upd (upd (upd (sm 2) (4 : Int32).toNatClampNeg (-9)) (5 : Int32).toNatClampNeg (-9)) (6 : Int32).toNatClampNeg ((sm 2) (6 : Int32).toNatClampNeg)) (7 : Int32).toNatClampNeg (-9))) tm 0).1 (0 : Int32).toNatClampNeg) (J_X12_parts z) q) e0
      · rcases b3 with a3 | a3
        · have n0 : ¬ (p &&& 1) = 0 := by rw [a0]; decide
          have n1 : ¬ (p &&& 2) = 0 := by rw [a1]; decide
          have n2 : ¬ (p &&& 4) = 0 := by rw [a2]; decide
          have n3 : ¬ (p &&& 8) = 8 := by rw [a3]; decide
          have ev : VM (sm 2) p = (upd (upd (upd (upd (sm 2) (4 : Int32).toNatClampNeg (-9)) (5 : Int32).toNatClampNeg (-9)) (6 : Int32).toNatClampNeg (-9)) (7 : Int32).toNatClampNeg ((sm 2) (7 : Int32).toNatClampNeg)) := by unfold VM; rw [mg_1 n0, mg_1 n1, mg_1 n2, mg_0 a3]
          have e0 : (upd (upd (upd (upd (upd (upd (upd (upd (sm 2) (4 : Int32).toNatClampNeg (-9)) (5 : Int32).toNatClampNeg (-9)) (6 : Int32).toNatClampNeg (-9)) (7 : Int32).toNatClampNeg ((sm 2) (7 : Int32).toNatClampNeg)) (4 : Int32).toNatClampNeg ((sm 2) (4 : Int32).toNatClampNeg)) (5 : Int32).toNatClampNeg ((sm 2) (5 : Int32).toNatClampNeg)) (6 : Int32).toNatClampNeg ((sm 2) (6 : Int32).toNatClampNeg)) (7 : Int32).toNatClampNeg ((sm 2) (7 : Int32).toNatClampNeg)) (0 : Int32).toNatClampNeg = (sm 2) (0 : Int32).toNatClampNeg := by
            generalize ((sm 2) (4 : Int32).toNatClampNeg) = x4
            generalize ((sm 2) (5 : Int32).toNatClampNeg) = x5
            generalize ((sm 2) (6 : Int32).toNatClampNeg) = x6
            generalize ((sm 2) (7 : Int32).toNatClampNeg) = x7
            rw [w0_, w4_, w5_, w6_, w7_, pk_un (show ¬ (0 : Nat) = 7 by decide), pk_un (show ¬ (0 : Nat) = 6 by decide), pk_un (show ¬ (0 : Nat) = 5 by decide), pk_un (show ¬ (0 : Nat) = 4 by decide), pk_un (show ¬ (0 : Nat) = 7 by decide), pk_un (show ¬ (0 : Nat) = 6 by decide), pk_un (show ¬ (0 : Nat) = 5 by decide), pk_un (show ¬ (0 : Nat) = 4 by decide)]
          rw [ev]
          unfold J_X12_without
          rw [if_neg h, if_pos a0, if_pos a1, if_pos a2, if_neg n3]
          exact congrArg (fun z => J_X12_told ((J_X12_layBest (up2 sm 2 (upd (upd (upd (upd (sm 2) (4 : Int32).toNatClampNeg (-9)) (5 : Int32).toNatClampNeg (-9)) (6 : Int32).toNatClampNeg (-9)) (7 : Int32).toNatClampNeg ((sm 2) (7 : Int32).toNatClampNeg))) tm 0).1 (0 : Int32).toNatClampNeg) (J_X12_parts z) q) e0
        · have n0 : ¬ (p &&& 1) = 0 := by rw [a0]; decide
          have n1 : ¬ (p &&& 2) = 0 := by rw [a1]; decide
          have n2 : ¬ (p &&& 4) = 0 := by rw [a2]; decide
          have n3 : ¬ (p &&& 8) = 0 := by rw [a3]; decide
          have ev : VM (sm 2) p = (upd (upd (upd (upd (sm 2) (4 : Int32).toNatClampNeg (-9)) (5 : Int32).toNatClampNeg (-9)) (6 : Int32).toNatClampNeg (-9)) (7 : Int32).toNatClampNeg (-9)) := by unfold VM; rw [mg_1 n0, mg_1 n1, mg_1 n2, mg_1 n3]
          have e0 : (upd (upd (upd (upd (upd (upd (upd (upd (sm 2) (4 : Int32).toNatClampNeg (-9)) (5 : Int32).toNatClampNeg (-9)) (6 : Int32).toNatClampNeg (-9)) (7 : Int32).toNatClampNeg (-9)) (4 : Int32).toNatClampNeg ((sm 2) (4 : Int32).toNatClampNeg)) (5 : Int32).toNatClampNeg ((sm 2) (5 : Int32).toNatClampNeg)) (6 : Int32).toNatClampNeg ((sm 2) (6 : Int32).toNatClampNeg)) (7 : Int32).toNatClampNeg ((sm 2) (7 : Int32).toNatClampNeg)) (0 : Int32).toNatClampNeg = (sm 2) (0 : Int32).toNatClampNeg := by
            generalize ((sm 2) (4 : Int32).toNatClampNeg) = x4
            generalize ((sm 2) (5 : Int32).toNatClampNeg) = x5
            generalize ((sm 2) (6 : Int32).toNatClampNeg) = x6
            generalize ((sm 2) (7 : Int32).toNatClampNeg) = x7
            rw [w0_, w4_, w5_, w6_, w7_, pk_un (show ¬ (0 : Nat) = 7 by decide), pk_un (show ¬ (0 : Nat) = 6 by decide), pk_un (show ¬ (0 : Nat) = 5 by decide), pk_un (show ¬ (0 : Nat) = 4 by decide), pk_un (show ¬ (0 : Nat) = 7 by decide), pk_un (show ¬ (0 : Nat) = 6 by decide), pk_un (show ¬ (0 : Nat) = 5 by decide), pk_un (show ¬ (0 : Nat) = 4 by decide)]
          rw [ev]
          unfold J_X12_without
          rw [if_neg h, if_pos a0, if_pos a1, if_pos a2, if_pos a3]
          exact congrArg (fun z => J_X12_told ((J_X12_layBest (up2 sm 2 (upd (upd (upd (upd (sm 2) (4 : Int32).toNatClampNeg (-9)) (5 : Int32).toNatClampNeg (-9)) (6 : Int32).toNatClampNeg (-9)) (7 : Int32).toNatClampNeg (-9))) tm 0).1 (0 : Int32).toNatClampNeg) (J_X12_parts z) q) e0
/-- the bare house -/
def shM (sh : Nat → Nat → Int32) (p : Int32) (g1 g2 g3 g4 g5 : Nat → Int32) : Nat → Nat → Int32 := lS [(lI [(sh 0 0), (sh 0 1), 0, 0, 0, 0, (sh 0 6), (sh 0 7), MG (p &&& 1) (sh 0 8), MG (p &&& 2) (sh 0 9), MG (p &&& 4) (sh 0 10), MG (p &&& 8) (sh 0 11), M0 (p &&& 8) (sh 0 12)]), g1, g2, g3, g4, g5]
theorem mg_r {b x : Int32} (h : -9 ≤ x.toInt ∧ x.toInt ≤ 9) : -9 ≤ (MG b x).toInt ∧ (MG b x).toInt ≤ 9 := by
  by_cases c : b = 0
  · rw [mg_0 c]; exact h
  · rw [mg_1 c]; decide
theorem mg_n {b x : Int32} (h : NN x) : NN (MG b x) := by
  by_cases c : b = 0
  · rw [mg_0 c]; exact h
  · rw [mg_1 c]; exact Or.inl (by decide)
theorem hok_m {sh sm : Nat → Nat → Int32} {p : Int32} {g1 g2 g3 g4 g5 : Nat → Int32} (K : HOK sh sm) (e1 : ∀ j, j < 5 → sh 1 j = g1 j) (e2 : ∀ j, j < 5 → sh 2 j = g2 j) (e3 : ∀ j, j < 3 → sh 3 j = g3 j) (e4 : ∀ j, j < 3 → sh 4 j = g4 j) (ho : ∀ j, 0 ≤ (g2 j).toInt ∧ (g2 j).toInt ≤ 4) (hg : ∀ j, 0 ≤ (g3 j).toInt ∧ (g3 j).toInt ≤ 5) : HOK (shM sh p g1 g2 g3 g4 g5) (up2 sm 2 (VM (sm 2) p)) := by
  obtain ⟨⟨h0, h1, h2, h3, h4, h5, h6, h7, h8, a1, a2, a3, a4⟩, ⟨r1, r2, r3, r4, r5, r6, r7, r8, r9⟩, wk, hk, fl, _, _⟩ := K
  have V : VOKw (VM (sm 2) p) (sh 0 0) (sh 0 1, g1, g2, g3, g4, sh 0 6, sh 0 7, MG (p &&& 1) (sh 0 8), MG (p &&& 2) (sh 0 9), MG (p &&& 4) (sh 0 10), MG (p &&& 8) (sh 0 11), M0 (p &&& 8) (sh 0 12)) :=
    ⟨(vm_n (by decide)).trans h0, (vm_n (by decide)).trans h1, (vm_n (by decide)).trans h2, (vm_n (by decide)).trans h3, vm_4.trans (congrArg (MG _) h4), vm_5.trans (congrArg (MG _) h5), vm_6.trans (congrArg (MG _) h6), vm_7.trans (congrArg (MG _) h7), fun q => by
      by_cases c : (p &&& 8) = 0
      · have q : ¬ MG (p &&& 8) (sh 0 11) = -9 := q
        rw [mg_0 c] at q
        show VM (sm 2) p 8 = M0 (p &&& 8) (sh 0 12)
        rw [m0_0 c, vm_n (by decide)]
        exact h8 q
      · exact absurd (mg_1 c) q, fun j hj => ((vm_n (by omega)).trans (a1 j hj)).trans (e1 j hj), fun j hj => ((vm_n (by omega)).trans (a2 j hj)).trans (e2 j hj), fun j hj => ((vm_n (by omega)).trans (a3 j hj)).trans (e3 j hj), fun j hj => ((vm_n (by omega)).trans (a4 j hj)).trans (e4 j hj)⟩
  have R : HRT (sh 0 1, g1, g2, g3, g4, sh 0 6, sh 0 7, MG (p &&& 1) (sh 0 8), MG (p &&& 2) (sh 0 9), MG (p &&& 4) (sh 0 10), MG (p &&& 8) (sh 0 11), M0 (p &&& 8) (sh 0 12)) :=
    ⟨fun j hj => by
      have z := r1 j hj
      show 0 ≤ (g1 j).toInt ∧ (g1 j).toInt ≤ 99
      rw [← e1 j hj]; exact z, fun j hj => by
      have z := r2 j hj
      show 0 ≤ (g4 j).toInt ∧ (g4 j).toInt ≤ 9
      rw [← e4 j hj]; exact z, r3, r4, mg_r r5, mg_r r6, mg_r r7, mg_r r8, fun q => by
      by_cases c : (p &&& 8) = 0
      · have q : MG (p &&& 8) (sh 0 11) = -9 := q
        rw [mg_0 c] at q
        exact (m0_0 c).trans (r9 q)
      · exact m0_1 c⟩
  have F : 0 ≤ (M0 (p &&& 8) (sh 0 12)).toInt ∧ (M0 (p &&& 8) (sh 0 12)).toInt ≤ 5 := by
    by_cases c : (p &&& 8) = 0
    · rw [m0_0 c]; exact fl
    · rw [m0_1 c]; decide
  exact ⟨V, R, wk, hk, F, ho, hg⟩
theorem hnt_m {sh : Nat → Nat → Int32} {p : Int32} {g1 g2 g3 g4 g5 : Nat → Int32} (N : HNT (HT sh)) : HNT (HT (shM sh p g1 g2 g3 g4 g5)) := ⟨mg_n N.1, mg_n N.2.1, mg_n N.2.2.1, mg_n N.2.2.2⟩
/-- what stands in the bare plan -/
def BNP (x w0 : Int32) (C : Nat → Int64) (s0 : Int32) (V : Nat → Int32) : Prop := ¬ x = -9 → w0 = s0 ∧ ∀ W : Nat, s0 = Int32.ofNat W → W ≤ 5 → C 0 = (BVL (smV (VM V x)) tz0 W W 0 0).1 ∧ ∃ z : Nat, (BVL (smV (VM V x)) tz0 W W 0 0).1.toInt = ((z : Nat) : Int)
theorem lf_0 {spl : Nat → Nat → Int32} {tpl : Nat → Nat → Int64} : J_X6_leastFrom spl tpl 0 0 0 = tpl 1 0 := by
  have e : (J_X6_place 0 (J_X3_kind 0) 0).toNatClampNeg = 0 := by decide +kernel
  show tpl 1 (J_X6_place 0 (J_X3_kind 0) 0).toNatClampNeg = tpl 1 0
  rw [e]
/-- the class's answer and the reference's, when the bare plan stands -/
theorem wo_t {sh sm : Nat → Nat → Int32} {tm : Nat → Nat → Int64} {spl : Nat → Nat → Int32} {tpl : Nat → Nat → Int64} {p q : Int32} {W : Nat} (K : HOK sh sm) (w0 : sh 0 0 = Int32.ofNat W) (hW : W ≤ 5) (h : ¬ J_X12_in p.toInt64 0 15 = 0) (b : ((p &&& 1) = 0 ∨ (p &&& 1) = 1) ∧ ((p &&& 2) = 0 ∨ (p &&& 2) = 2) ∧ ((p &&& 4) = 0 ∨ (p &&& 4) = 4) ∧ ((p &&& 8) = 0 ∨ (p &&& 8) = 8)) (s : spl 0 0 = Int32.ofNat W) (c : tpl 1 0 = (BVL (smV (VM (sm 2) p)) tz0 W W 0 0).1) (z : ∃ z : Nat, (BVL (smV (VM (sm 2) p)) tz0 W W 0 0).1.toInt = ((z : Nat) : Int)) : J_X11_told (J_X6_leastFrom spl tpl 0 0 0) (J_X6_scale spl tpl 0) q = (J_X12_without sm tm p q).1 := by
  have K2 : HOK (shM sh p (sh 1) (sh 2) (sh 3) (sh 4) (sh 5)) (up2 sm 2 (VM (sm 2) p)) := hok_m K (fun _ _ => rfl) (fun _ _ => rfl) (fun _ _ => rfl) (fun _ _ => rfl) K.2.2.2.2.2.1 K.2.2.2.2.2.2
  have wt : (sh 0 0).toInt = (W : Int) := by rw [w0, ofn_t (by omega)]
  have V0 : (sm 2) (0 : Int32).toNatClampNeg = Int32.ofNat W := by rw [n0_, ← w0]; exact K.1.1
  have hk := K.2.2.2.1
  have i0 : ¬ J_X12_isHands (up2 sm 2 (VM (sm 2) p)) tm (Int32.ofNat 0) = 0 := fun q => by
    have y := (ih50 (tm := tm) K2 (x := 0) (by decide)).mp q
    have hk2 : 0 ≤ ((shM sh p (sh 1) (sh 2) (sh 3) (sh 4) (sh 5)) 0 1).toInt := hk.1
    simp at y
    omega
  obtain ⟨V2, B, A, l1, l2⟩ := lbe_v (sm := up2 sm 2 (VM (sm 2) p)) (tm := tm) (P := 0) (W := W) K2 wt (Nat.zero_le W)
  have l3 := (l2 0 0 (by decide) (by decide) i0).1
  have e0 : J_X12_layBest (up2 sm 2 (VM (sm 2) p)) tm 0 = (V2, B, A) := l1
  rw [wr_v h b, e0, V0, (parts_v hW).1, lf_0, c]
  have sc : J_X6_scale spl tpl 0 = SCN W 1 := sc_v (spl := spl) (tpl := tpl) (P := 0) s hW (Nat.zero_le W)
  rw [sc]
  have e2 : V2 (0 : Int32).toNatClampNeg = (BVL (smV (VM (sm 2) p)) tz0 W W 0 0).1 := by
    have eb : BVL (smV (VM (sm 2) p)) tz0 W W 0 0 = BVL (up2 sm 2 (VM (sm 2) p)) tm W W 0 0 := bvl_v (sm := up2 sm 2 (VM (sm 2) p)) (tm := tm) W 0 0
    rw [n0_, eb]
    exact l3
  have e3 : J_X12_told (V2 (0 : Int32).toNatClampNeg) (SCN W 1) q = J_X12_told (BVL (smV (VM (sm 2) p)) tz0 W W 0 0).1 (SCN W 1) q := by rw [e2]
  refine Eq.trans ?_ e3.symm
  obtain ⟨x, hx⟩ := z
  exact told_alike (tlk_1 hx (parts_v hW).2 hW)
theorem cpy_5 {f g : Nat → Int32} (n : Int32) (k : Nat) (hn : n.toNatClampNeg = k) : ∀ j, j < k → f j = va_cpy f g ((0 : Int32).toNatClampNeg) ((0 : Int32).toNatClampNeg) (n.toNatClampNeg) j := fun j hj => (cpy_j (by rw [hn]; exact hj)).symm
theorem cpy_r {f g : Nat → Int32} {n : Int32} {a b : Int} (hf : ∀ j, a ≤ (f j).toInt ∧ (f j).toInt ≤ b) (hg : ∀ j, a ≤ (g j).toInt ∧ (g j).toInt ≤ b) : ∀ j, a ≤ (va_cpy f g ((0 : Int32).toNatClampNeg) ((0 : Int32).toNatClampNeg) (n.toNatClampNeg) j).toInt ∧ (va_cpy f g ((0 : Int32).toNatClampNeg) ((0 : Int32).toNatClampNeg) (n.toNatClampNeg) j).toInt ≤ b := fun j => by
  unfold va_cpy
  split
  · exact hf _
  · exact hg _
set_option maxHeartbeats 4000000 in
theorem without_alike {sx sh sbh sbp sm : Nat → Nat → Int32} {tbp tm : Nat → Nat → Int64} {p0 p1 q0 q1 : Int32} {t : Int64 × Int32 × Int32 × (Nat → Int32) × (Nat → Int32) × (Nat → Int32) × (Nat → Int32) × Int32 × Int32 × Int32 × Int32 × Int32 × Int32 × Int32 × (Nat → Int32) × Int32 × (Nat → Int64) × (Nat → Int32) × (Nat → Int64) × (Nat → Int32) × Int32} {t2 : Int64 × (Nat → Int64) × (Nat → Int64) × (Nat → Int32) × (Nat → Int32)} (h1 : t = J_X11_without sx sh sbh sbp tbp p0 p1) (h2 : t2 = J_X12_without sm tm q0 q1) (e0 : q0 = p0) (e1 : q1 = p1) (K : HOK sh sm) (N : HNT (HT sh)) (Bo : ∀ j, 0 ≤ (sbh 2 j).toInt ∧ (sbh 2 j).toInt ≤ 4) (Bg : ∀ j, 0 ≤ (sbh 3 j).toInt ∧ (sbh 3 j).toInt ≤ 5) (P : BNP (sx 0 16) (sbp 0 0) (tbp 1) (sh 0 0) (sm 2)) : t.1 = t2.1 ∧ BNP t.2.2.2.2.2.2.2.2.2.2.2.2.2.2.2.2.2.2.2.2 t.2.2.2.2.2.2.2.2.2.2.2.2.2.2.2.1 (t.2.2.2.2.2.2.2.2.2.2.2.2.2.2.2.2.1) (sh 0 0) (sm 2) := by
  subst e0 e1
  rw [h2]
  have wk := K.2.2.1
  obtain ⟨W, hW, w0⟩ := nat_of (N := 5) (x := sh 0 0) ⟨wk.1, wk.2⟩
  have wt : (sh 0 0).toInt = (W : Int) := by rw [w0, ofn_t (by omega)]
  have iz : J_X12_in (q0.toInt64) 0 15 = 0 ↔ (q0.toInt < 0 ∨ 15 < q0.toInt) := in_z (K := 15) (by decide)
  have one : ∀ W2 : Nat, sh 0 0 = Int32.ofNat W2 → W2 ≤ 5 → W2 = W := fun W2 y1 y2 => by
    have a := congrArg Int32.toInt (w0.symm.trans y1)
    rw [ofn_t (by omega), ofn_t (by omega)] at a
    omega
  have out : J_X12_in (q0.toInt64) 0 15 = 0 → (J_X12_without sm tm q0 q1).1 = -2 := fun q => by
    unfold J_X12_without
    rw [if_pos q]
  unfold J_X11_without at h1
  by_cases c1 : q0 < 0
  · have d := f_lt rfl (by decide : (0 : Int32).toInt = 0) c1
    rw [if_pos c1] at h1
    rw [h1, out (iz.mpr (Or.inl d))]
    exact ⟨rfl, P⟩
  · have d1 := f_nlt rfl (by decide : (0 : Int32).toInt = 0) c1
    rw [if_neg c1] at h1
    by_cases c2 : q0 ≤ 15
    · have d2 := f_le rfl (by decide : (15 : Int32).toInt = 15) c2
      rw [if_pos c2] at h1
      have hi : ¬ J_X12_in (q0.toInt64) 0 15 = 0 := fun q => by have := iz.mp q; omega
      have bt : ((q0 &&& 1) = 0 ∨ (q0 &&& 1) = 1) ∧ ((q0 &&& 2) = 0 ∨ (q0 &&& 2) = 2) ∧ ((q0 &&& 4) = 0 ∨ (q0 &&& 4) = 4) ∧ ((q0 &&& 8) = 0 ∨ (q0 &&& 8) = 8) := by
        obtain ⟨k, hk, ek⟩ := nat_of (N := 15) (x := q0) ⟨d1, d2⟩
        rw [ek]
        exact bits ⟨k, by omega⟩
      by_cases c3 : (sx 0 16) = q0
      · rw [if_pos c3] at h1
        have n9 : ¬ sx 0 16 = -9 := fun q => by
          rw [c3] at q
          rw [q] at d1
          exact absurd d1 (by decide)
        obtain ⟨p1, p2⟩ := P n9
        obtain ⟨p3, p4⟩ := p2 W w0 hW
        rw [c3] at p3 p4
        have z := wo_t (sh := sh) (sm := sm) (tm := tm) (spl := (lS [(lI [(sbp 0 0)]), (fun _ => 0), (sbp 2), (fun _ => 0), (sbp 4)])) (tpl := (lT [(lJ []), (tbp 1), (fun _ => 0), (tbp 3), (fun _ => 0)])) (p := q0) (q := q1) K w0 hW hi bt (p1.trans w0) p3 p4
        rw [← z, h1]
        exact ⟨rfl, P⟩
      · rw [if_neg c3] at h1
        obtain ⟨T, y1, y2⟩ := cpm_v (sh := (lS [(lI [(sbh 0 0), (sbh 0 1), 0, 0, 0, 0, (sbh 0 6), (sbh 0 7), (sbh 0 8), (sbh 0 9), (sbh 0 10), (sbh 0 11), (sbh 0 12)]), (sbh 1), (sbh 2), (sbh 3), (sbh 4), (sbh 5)])) (so := (lS [(lI [(sh 0 0), (sh 0 1), 0, 0, 0, 0, (sh 0 6), (sh 0 7), (sh 0 8), (sh 0 9), (sh 0 10), (sh 0 11), (sh 0 12)]), (sh 1), (sh 2), (sh 3), (sh 4), (sh 5)])) (p := q0)
        have y1 : J_X4_copy (lS [(lI [(sbh 0 0), (sbh 0 1), 0, 0, 0, 0, (sbh 0 6), (sbh 0 7), (sbh 0 8), (sbh 0 9), (sbh 0 10), (sbh 0 11), (sbh 0 12)]), (sbh 1), (sbh 2), (sbh 3), (sbh 4), (sbh 5)]) (lS [(lI [(sh 0 0), (sh 0 1), 0, 0, 0, 0, (sh 0 6), (sh 0 7), (sh 0 8), (sh 0 9), (sh 0 10), (sh 0 11), (sh 0 12)]), (sh 1), (sh 2), (sh 3), (sh 4), (sh 5)]) q0 = (sh 0 0, sh 0 1, va_cpy (sh 1) (sbh 1) ((0 : Int32).toNatClampNeg) ((0 : Int32).toNatClampNeg) ((5 : Int32).toNatClampNeg), va_cpy (sh 2) (sbh 2) ((0 : Int32).toNatClampNeg) ((0 : Int32).toNatClampNeg) ((5 : Int32).toNatClampNeg), va_cpy (sh 3) (sbh 3) ((0 : Int32).toNatClampNeg) ((0 : Int32).toNatClampNeg) ((3 : Int32).toNatClampNeg), va_cpy (sh 4) (sbh 4) ((0 : Int32).toNatClampNeg) ((0 : Int32).toNatClampNeg) ((3 : Int32).toNatClampNeg), sh 0 6, sh 0 7, MG (q0 &&& 1) (sh 0 8), MG (q0 &&& 2) (sh 0 9), MG (q0 &&& 4) (sh 0 10), MG (q0 &&& 8) (sh 0 11), M0 (q0 &&& 8) (sh 0 12), T) := y1
        have K2 : HOK (shM sh q0 (va_cpy (sh 1) (sbh 1) ((0 : Int32).toNatClampNeg) ((0 : Int32).toNatClampNeg) ((5 : Int32).toNatClampNeg)) (va_cpy (sh 2) (sbh 2) ((0 : Int32).toNatClampNeg) ((0 : Int32).toNatClampNeg) ((5 : Int32).toNatClampNeg)) (va_cpy (sh 3) (sbh 3) ((0 : Int32).toNatClampNeg) ((0 : Int32).toNatClampNeg) ((3 : Int32).toNatClampNeg)) (va_cpy (sh 4) (sbh 4) ((0 : Int32).toNatClampNeg) ((0 : Int32).toNatClampNeg) ((3 : Int32).toNatClampNeg)) T) (up2 sm 2 (VM (sm 2) q0)) := hok_m K (cpy_5 5 5 (by decide)) (cpy_5 5 5 (by decide)) (cpy_5 3 3 (by decide)) (cpy_5 3 3 (by decide)) (cpy_r K.2.2.2.2.2.1 Bo) (cpy_r K.2.2.2.2.2.2 Bg)
        have TB : TBL (shM sh q0 (va_cpy (sh 1) (sbh 1) ((0 : Int32).toNatClampNeg) ((0 : Int32).toNatClampNeg) ((5 : Int32).toNatClampNeg)) (va_cpy (sh 2) (sbh 2) ((0 : Int32).toNatClampNeg) ((0 : Int32).toNatClampNeg) ((5 : Int32).toNatClampNeg)) (va_cpy (sh 3) (sbh 3) ((0 : Int32).toNatClampNeg) ((0 : Int32).toNatClampNeg) ((3 : Int32).toNatClampNeg)) (va_cpy (sh 4) (sbh 4) ((0 : Int32).toNatClampNeg) ((0 : Int32).toNatClampNeg) ((3 : Int32).toNatClampNeg)) T) := tbl_of y2
        obtain ⟨MC, hMC, hm⟩ := mc_v (sh := (shM sh q0 (va_cpy (sh 1) (sbh 1) ((0 : Int32).toNatClampNeg) ((0 : Int32).toNatClampNeg) ((5 : Int32).toNatClampNeg)) (va_cpy (sh 2) (sbh 2) ((0 : Int32).toNatClampNeg) ((0 : Int32).toNatClampNeg) ((5 : Int32).toNatClampNeg)) (va_cpy (sh 3) (sbh 3) ((0 : Int32).toNatClampNeg) ((0 : Int32).toNatClampNeg) ((3 : Int32).toNatClampNeg)) (va_cpy (sh 4) (sbh 4) ((0 : Int32).toNatClampNeg) ((0 : Int32).toNatClampNeg) ((3 : Int32).toNatClampNeg)) T))
        obtain ⟨C, F, L, R, s1, s2, s3⟩ := sv_v (spl := (lS [(lI [(sbp 0 0)]), (fun _ => 0), (sbp 2), (fun _ => 0), (sbp 4)])) (sm := up2 sm 2 (VM (sm 2) q0)) (tpl := (lT [(lJ []), (tbp 1), (fun _ => 0), (tbp 3), (fun _ => 0)])) (tm := tm) K2 TB (hnt_m N) w0 hW hMC hm
        have s1 : J_X6_solve (lS [(lI [(sbp 0 0)]), (fun _ => 0), (sbp 2), (fun _ => 0), (sbp 4)]) (lT [(lJ []), (tbp 1), (fun _ => 0), (tbp 3), (fun _ => 0)]) (shM sh q0 (va_cpy (sh 1) (sbh 1) ((0 : Int32).toNatClampNeg) ((0 : Int32).toNatClampNeg) ((5 : Int32).toNatClampNeg)) (va_cpy (sh 2) (sbh 2) ((0 : Int32).toNatClampNeg) ((0 : Int32).toNatClampNeg) ((5 : Int32).toNatClampNeg)) (va_cpy (sh 3) (sbh 3) ((0 : Int32).toNatClampNeg) ((0 : Int32).toNatClampNeg) ((3 : Int32).toNatClampNeg)) (va_cpy (sh 4) (sbh 4) ((0 : Int32).toNatClampNeg) ((0 : Int32).toNatClampNeg) ((3 : Int32).toNatClampNeg)) T) = (sh 0 0, C, F, L, R) := s1
        have h1 : t = (J_X11_told (J_X6_leastFrom (lS [(lI [(sh 0 0)]), (fun _ => 0), F, (fun _ => 0), R]) (lT [(lJ []), C, (fun _ => 0), L, (fun _ => 0)]) 0 0 0) (J_X6_scale (lS [(lI [(sh 0 0)]), (fun _ => 0), F, (fun _ => 0), R]) (lT [(lJ []), C, (fun _ => 0), L, (fun _ => 0)]) 0) q1, sh 0 0, sh 0 1, va_cpy (sh 1) (sbh 1) ((0 : Int32).toNatClampNeg) ((0 : Int32).toNatClampNeg) ((5 : Int32).toNatClampNeg), va_cpy (sh 2) (sbh 2) ((0 : Int32).toNatClampNeg) ((0 : Int32).toNatClampNeg) ((5 : Int32).toNatClampNeg), va_cpy (sh 3) (sbh 3) ((0 : Int32).toNatClampNeg) ((0 : Int32).toNatClampNeg) ((3 : Int32).toNatClampNeg), va_cpy (sh 4) (sbh 4) ((0 : Int32).toNatClampNeg) ((0 : Int32).toNatClampNeg) ((3 : Int32).toNatClampNeg), sh 0 6, sh 0 7, MG (q0 &&& 1) (sh 0 8), MG (q0 &&& 2) (sh 0 9), MG (q0 &&& 4) (sh 0 10), MG (q0 &&& 8) (sh 0 11), M0 (q0 &&& 8) (sh 0 12), T, sh 0 0, C, F, L, R, q0) := h1.trans (lt_e y1.symm (lt_e s1.symm rfl))
        have i0 : tot (zALL.getD 0 0) ≤ ((shM sh q0 (va_cpy (sh 1) (sbh 1) ((0 : Int32).toNatClampNeg) ((0 : Int32).toNatClampNeg) ((5 : Int32).toNatClampNeg)) (va_cpy (sh 2) (sbh 2) ((0 : Int32).toNatClampNeg) ((0 : Int32).toNatClampNeg) ((5 : Int32).toNatClampNeg)) (va_cpy (sh 3) (sbh 3) ((0 : Int32).toNatClampNeg) ((0 : Int32).toNatClampNeg) ((3 : Int32).toNatClampNeg)) (va_cpy (sh 4) (sbh 4) ((0 : Int32).toNatClampNeg) ((0 : Int32).toNatClampNeg) ((3 : Int32).toNatClampNeg)) T) 0 1).toInt := by
          rw [show tot (zALL.getD 0 0) = 0 from by decide]
          exact K.2.2.2.1.1
        have c0 := (s2 0 0 0 (Nat.le_refl 0) (Nat.zero_le W) (by decide) i0 (Nat.zero_le _)).1
        have n0 : nAL 0 = 0 := by decide
        rw [n0] at c0
        have eb : (BVL (smV (VM (sm 2) q0)) tz0 W W 0 0) = BVL (up2 sm 2 (VM (sm 2) q0)) tm W W 0 0 := bvl_v (sm := up2 sm 2 (VM (sm 2) q0)) (tm := tm) W 0 0
        have c0 : C 0 = (BVL (smV (VM (sm 2) q0)) tz0 W W 0 0).1 := by rw [eb]; exact c0
        have x0 : ∃ z : Nat, (BVL (smV (VM (sm 2) q0)) tz0 W W 0 0).1.toInt = ((z : Nat) : Int) := by
          obtain ⟨x, x1, _⟩ := s3 W (Nat.le_refl W) 0 0 (by decide) (by decide) i0
          rw [n0] at x1
          exact ⟨x, by rw [eb]; exact x1⟩
        have z := wo_t (sh := sh) (sm := sm) (tm := tm) (spl := lS [(lI [(sh 0 0)]), (fun _ => 0), F, (fun _ => 0), R]) (tpl := lT [(lJ []), C, (fun _ => 0), L, (fun _ => 0)]) (p := q0) (q := q1) K w0 hW hi bt w0 c0 x0
        rw [← z, h1]
        refine ⟨rfl, fun _ => ⟨rfl, fun W2 y3 y4 => ?_⟩⟩
        have e := one W2 y3 y4
        subst e
        exact ⟨c0, x0⟩
    · have d2 := f_nle rfl (by decide : (15 : Int32).toInt = 15) c2
      rw [if_neg c2] at h1
      rw [h1, out (iz.mpr (Or.inr d2))]
      exact ⟨rfl, P⟩
