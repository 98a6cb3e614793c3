/-! both readers of a RULE answer alike -/
def bcN (f : Int32) : Int32 := J_J6_bitCount_0f7a4 f
def SIMQ (n : Int32) (c : SD) (a : SQ) : Prop := c.1 = a.1 ∧ c.2.1 = 0 ∧ a.2.1 = -9 ∧ 0 ≤ c.1.toInt ∧ c.1.toInt ≤ n.toInt ∧ c.2.2.1 = a.2.2.2.2 ∧ (0 ≤ a.2.2.2.2.toInt ∧ a.2.2.2.2.toInt ≤ 31) ∧ (∀ j : Nat, j < 5 → ((a.2.2.2.2 >>> (Int32.ofNat j &&& 31)) &&& 1) = 0 → c.2.2.2 j = a.2.2.2.1 j) ∧ a.2.2.1 = 5 - bcN a.2.2.2.2
theorem bc_dec : ∀ f : Fin 32, ∀ v : Fin 10, ¬ ((Int32.ofNat f.val >>> (Int32.ofNat v.val &&& 31)) &&& 1) = 0 → (v.val ≤ 4 ∧ 0 ≤ (Int32.ofNat f.val &&& (((1 : Int32) <<< (Int32.ofNat v.val &&& 31)) ^^^ (-1))).toInt ∧ (Int32.ofNat f.val &&& (((1 : Int32) <<< (Int32.ofNat v.val &&& 31)) ^^^ (-1))).toInt ≤ 31 ∧ (5 : Int32) - bcN (Int32.ofNat f.val) + 1 = 5 - bcN (Int32.ofNat f.val &&& (((1 : Int32) <<< (Int32.ofNat v.val &&& 31)) ^^^ (-1))) ∧ (bcN (Int32.ofNat f.val)).toInt = (bcN (Int32.ofNat f.val &&& (((1 : Int32) <<< (Int32.ofNat v.val &&& 31)) ^^^ (-1)))).toInt + 1) := by decide +kernel
theorem bb_dec : ∀ f : Fin 32, ∀ v : Fin 5, ∀ j : Fin 5, ((((Int32.ofNat f.val &&& (((1 : Int32) <<< (Int32.ofNat v.val &&& 31)) ^^^ (-1))) >>> (Int32.ofNat j.val &&& 31)) &&& 1) = 0) → j.val = v.val ∨ ((Int32.ofNat f.val >>> (Int32.ofNat j.val &&& 31)) &&& 1) = 0 := by decide +kernel
theorem b0_dec : ∀ f : Fin 32, ∀ v : Fin 10, (bcN (Int32.ofNat f.val)).toInt = 0 → ((Int32.ofNat f.val >>> (Int32.ofNat v.val &&& 31)) &&& 1) = 0 := by decide +kernel
theorem b1_dec : ∀ f : Fin 32, ∀ j : Fin 5, (((Int32.ofNat f.val >>> (Int32.ofNat j.val &&& 31)) &&& 1) = 0 ∧ ¬ ((Int32.ofNat f.val >>> (Int32.ofNat j.val &&& 31)) &&& 1) = 1) ∨ (¬ ((Int32.ofNat f.val >>> (Int32.ofNat j.val &&& 31)) &&& 1) = 0 ∧ ((Int32.ofNat f.val >>> (Int32.ofNat j.val &&& 31)) &&& 1) = 1) := by decide +kernel
theorem qp_no {sm : Nat → Nat → Int32} {tm : Nat → Nat → Int64} {g : Nat → Int32} {n : Int32} {a : SQ} (hg : sm 3 = g) (hl : sm 0 3 = n) (hf : a.2.1 = -9) (h0 : 0 ≤ a.1.toInt) (h : ¬ FOK g n a.1 a.2.2.2.2) : (QP sm tm a).2.1 = a.1 := by
  have e1 := figR_no (sm := QS sm a) (tm := tm) (g := g) (n := n) (p := a.1) (m := a.2.2.2.2) hg hl rfl hf h
  unfold QP
  rw [e1]
  dsimp only
  rw [figR_x (sm := QS sm (a.1, a.1, a.2.2.1, a.2.2.2.1, 0)) (show ¬ a.1 = -9 from n9 h0)]
  rfl
theorem qp_no1 {sm : Nat → Nat → Int32} {tm : Nat → Nat → Int64} {g : Nat → Int32} {n : Int32} {a : SQ} (hg : sm 3 = g) (hl : sm 0 3 = n) (hf : a.2.1 = -9) (h : FOK g n a.1 a.2.2.2.2) (h1 : ¬ FOK g n (a.1 + 1) 31) : (QP sm tm a).2.1 = a.1 + 1 := by
  have e1 := figR_ok (sm := QS sm a) (tm := tm) (g := g) (n := n) (p := a.1) (m := a.2.2.2.2) hg hl rfl hf h
  have e2 := figR_no (sm := QS sm (a.1 + 1, -9, a.2.2.1, a.2.2.2.1, 0)) (tm := tm) (g := g) (n := n) (p := a.1 + 1) (m := 31) hg hl rfl rfl h1
  unfold QP
  rw [e1]
  dsimp only
  rw [e2]
theorem qp_ok {sm : Nat → Nat → Int32} {tm : Nat → Nat → Int64} {g : Nat → Int32} {n : Int32} {a : SQ} (hg : sm 3 = g) (hl : sm 0 3 = n) (hf : a.2.1 = -9) (h : FOK g n a.1 a.2.2.2.2) (h1 : FOK g n (a.1 + 1) 31) : QP sm tm a = (a.1 + 1 + 1, -9, a.2.2.1 + 1, upd a.2.2.2.1 (chA g n a.1 - 48).toNatClampNeg (chA g n (a.1 + 1) - 48), a.2.2.2.2 &&& (((1 : Int32) <<< ((chA g n a.1 - 48) &&& 31)) ^^^ (-1))) := by
  have e1 := figR_ok (sm := QS sm a) (tm := tm) (g := g) (n := n) (p := a.1) (m := a.2.2.2.2) hg hl rfl hf h
  have e2 := figR_ok (sm := QS sm (a.1 + 1, -9, a.2.2.1, a.2.2.2.1, 0)) (tm := tm) (g := g) (n := n) (p := a.1 + 1) (m := 31) hg hl rfl rfl h1
  unfold QP
  rw [e1]
  dsimp only
  rw [e2]
theorem dp_no {sr sc st : Nat → Nat → Int32} {g : Nat → Int32} {n p : Int32} (hp : sc 0 1 = p) (hn : st 0 1 = n) (h0 : 0 ≤ p.toInt) (ht : TX (st 1) g n) (h : ¬ FOK g n p (sr 0 3)) : (J_X8_readException sr sc st).1 = p ∧ (J_X8_readException sr sc st).2.1 = 1 := by
  have e1 := figC_no hp hn h0 ht h
  dsimp only [J_X8_readException, LetF]
  rw [e1]
  dsimp only
  rw [if_pos rfl]
  exact ⟨rfl, rfl⟩
theorem dp_no1 {sr sc st : Nat → Nat → Int32} {g : Nat → Int32} {n p : Int32} (hp : sc 0 1 = p) (hq : sc 0 2 = 0) (hn : st 0 1 = n) (h0 : 0 ≤ p.toInt) (h4 : p.toInt ≤ 64) (ht : TX (st 1) g n) (h : FOK g n p (sr 0 3)) (h1 : ¬ FOK g n (p + 1) 31) : (J_X8_readException sr sc st).1 = p + 1 ∧ (J_X8_readException sr sc st).2.1 = 1 := by
  have b1 := pl1 h0 (by omega)
  have e1 := figC_ok hp hn h0 ht h
  rw [hq] at e1
  have e2 := fC2_no (sc := sc) (x := p + 1) hn (by omega) ht h1
  dsimp only [J_X8_readException, LetF]
  rw [e1, show J_X2_figures 0 4 = 31 from by decide]
  dsimp only
  rw [if_neg (fok_9 h), e2]
  dsimp only
  rw [if_pos rfl]
  exact ⟨rfl, rfl⟩
theorem dp_ok {sr sc st : Nat → Nat → Int32} {g : Nat → Int32} {n p : Int32} (hp : sc 0 1 = p) (hq : sc 0 2 = 0) (hn : st 0 1 = n) (h0 : 0 ≤ p.toInt) (h4 : p.toInt ≤ 64) (ht : TX (st 1) g n) (h : FOK g n p (sr 0 3)) (h1 : FOK g n (p + 1) 31) : J_X8_readException sr sc st = (p + 1 + 1, 0, sr 0 3 &&& (((1 : Int32) <<< ((chA g n p - 48) &&& 31)) ^^^ (-1)), upd (sr 1) (chA g n p - 48).toNatClampNeg (chA g n (p + 1) - 48)) := by
  have b1 := pl1 h0 (by omega)
  have e1 := figC_ok hp hn h0 ht h
  rw [hq] at e1
  have e2 := fC2_ok (sc := sc) (x := p + 1) hn (by omega) ht h1
  dsimp only [J_X8_readException, LetF]
  rw [e1, show J_X2_figures 0 4 = 31 from by decide]
  dsimp only
  rw [if_neg (fok_9 h), e2]
  dsimp only
  rw [if_neg (fok_9 h1)]
theorem qit_any {sm : Nat → Nat → Int32} {tm : Nat → Nat → Int64} {K : Nat} {a : SQ} (h : ¬ a.2.1 = -9 ∨ sm 0 3 ≤ a.1 ∨ sm 3 a.1.toNatClampNeg = 76) : QIT sm tm K a = a := by
  cases K with
  | zero => rfl
  | succ K => rcases h with h | h | h; exact qit_e1 h; exact qit_e2 h; exact qit_e3 h
theorem dit_any {sr sc st : Nat → Nat → Int32} {k : Nat} {a : SD} (h : J_X2_hasMore (CSc sc a.1 a.2.1) st = 0 ∨ J_X2_here (CSc sc a.1 a.2.1) st = 76) : DIT sr sc st k a = a := by
  cases k with
  | zero => rfl
  | succ k =>
    show (if J_X2_hasMore (CSc sc a.1 a.2.1) st = 0 then a else if J_X2_here (CSc sc a.1 a.2.1) st = 76 then a else DIT sr sc st k (DP sr sc st a)) = a
    rcases h with h | h
    · rw [if_pos h]
    · rw [if_pos h]; split <;> rfl
def OUTQ (g : Nat → Int32) (n : Int32) (c : SD) (a : SQ) : Prop := (c.2.1 = 1 ∧ a.2.1 = c.1 ∧ 0 ≤ c.1.toInt) ∨ (SIMQ n c a ∧ (n ≤ c.1 ∨ chA g n c.1 = 76)) ∨ (c.2.1 = 0 ∧ a.2.1 = c.1 ∧ 0 ≤ c.1.toInt ∧ ¬ chA g n c.1 = 76)
theorem simq_run {sr sc st sm : Nat → Nat → Int32} {tm : Nat → Nat → Int64} {n : Int32} (hn : st 0 1 = n) (hl : sm 0 3 = n) (ht : TX (st 1) (sm 3) n) (hn4 : n.toInt ≤ 64) :
    ∀ (k K : Nat) (c : SD) (a : SQ), SIMQ n c a → (bcN a.2.2.2.2).toInt = (k : Int) → k + 1 ≤ K → OUTQ (sm 3) n (DIT sr sc st k c) (QIT sm tm K a) := by
  intro k
  induction k with
  | zero =>
    intro K c a S hk hK
    by_cases hr : n ≤ a.1
    · rw [qit_any (Or.inr (Or.inl (by rw [hl]; exact hr)))]
      exact Or.inr (Or.inl ⟨S, Or.inl (by show n ≤ c.1; rw [S.1]; exact hr)⟩)
    · have ec : chA (sm 3) n a.1 = sm 3 a.1.toNatClampNeg := if_neg hr
      by_cases h76 : sm 3 a.1.toNatClampNeg = 76
      · rw [qit_any (Or.inr (Or.inr h76))]
        exact Or.inr (Or.inl ⟨S, Or.inr (by show chA (sm 3) n c.1 = 76; rw [S.1, ec]; exact h76)⟩)
      · obtain ⟨K2, rfl⟩ : ∃ z, K = z + 1 := ⟨K - 1, by omega⟩
        have h0 : 0 ≤ a.1.toInt := by rw [← S.1]; exact S.2.2.2.1
        have hF : ¬ FOK (sm 3) n a.1 a.2.2.2.2 := fun h => by
          obtain ⟨f, hf, e⟩ := nat_of (N := 31) S.2.2.2.2.2.2.1
          obtain ⟨v, hv, e2⟩ := nat_of (N := 9) (fok_v h)
          have h3 := h.2.2
          rw [e, e2] at h3
          rw [e] at hk
          exact h3 (b0_dec ⟨f, by omega⟩ ⟨v, by omega⟩ hk)
        have q := qp_no (tm := tm) rfl hl S.2.2.1 h0 hF
        have e2 : QIT sm tm (K2 + 1) a = QP sm tm a := (qit_go S.2.2.1 (by rw [hl]; exact hr) h76 rfl).trans (qit_any (Or.inl (by rw [q]; exact n9 h0)))
        rw [e2]
        exact Or.inr (Or.inr ⟨S.2.1, by show (QP sm tm a).2.1 = c.1; rw [q, S.1], S.2.2.2.1, by show ¬ chA (sm 3) n c.1 = 76; rw [S.1, ec]; exact h76⟩)
  | succ k ih =>
    intro K c a S hk hK
    by_cases hr : n ≤ a.1
    · rw [qit_any (Or.inr (Or.inl (by rw [hl]; exact hr))), dit_any (Or.inl (hm_end (by rw [hn, S.1]; exact hr)))]
      exact Or.inr (Or.inl ⟨S, Or.inl (by rw [S.1]; exact hr)⟩)
    · have ec : chA (sm 3) n a.1 = sm 3 a.1.toNatClampNeg := if_neg hr
      have hh : J_X2_here (CSc sc c.1 c.2.1) st = chA (sm 3) n a.1 := here_c (p := a.1) S.1 hn (by rw [← S.1]; exact S.2.2.2.1) ht
      by_cases h76 : sm 3 a.1.toNatClampNeg = 76
      · rw [qit_any (Or.inr (Or.inr h76)), dit_any (Or.inr (by rw [hh, ec]; exact h76))]
        exact Or.inr (Or.inl ⟨S, Or.inr (by rw [S.1, ec]; exact h76)⟩)
      · obtain ⟨K2, rfl⟩ : ∃ z, K = z + 1 := ⟨K - 1, by omega⟩
        obtain ⟨s1, s2, s3, s4, s5, s6, s7, s8, s9⟩ := S
        have h0 : 0 ≤ a.1.toInt := by rw [← s1]; exact s4
        have h4 : a.1.toInt ≤ 64 := by rw [← s1]; omega
        have b1 := pl1 h0 (by omega)
        have b2 := pl1 (p := a.1 + 1) (by omega) (by omega)
        have e1 : DIT sr sc st (k + 1) c = DIT sr sc st k (DP sr sc st c) := (if_neg (hm_go s2 (by rw [hn, s1]; exact hr))).trans (if_neg (by rw [hh, ec]; exact h76))
        have e2 : QIT sm tm (K2 + 1) a = QIT sm tm K2 (QP sm tm a) := qit_go s3 (by rw [hl]; exact hr) h76 rfl
        rw [e1, e2]
        have eu : (DSr sr c) 0 3 = a.2.2.2.2 := s6
        by_cases hF : FOK (sm 3) n a.1 a.2.2.2.2
        · by_cases hF1 : FOK (sm 3) n (a.1 + 1) 31
          · have d := dp_ok (sr := DSr sr c) (sc := CSc sc c.1 c.2.1) (p := a.1) s1 s2 hn h0 h4 ht (by rw [eu]; exact hF) hF1
            have q := qp_ok (tm := tm) rfl hl s3 hF hF1
            have ed : DP sr sc st c = _ := d
            rw [ed, q, eu]
            have hlt := fok_lt hF1
            obtain ⟨f, hf, ef⟩ := nat_of (N := 31) s7
            obtain ⟨v, hv, ev⟩ := nat_of (N := 9) (fok_v hF)
            have h3 := hF.2.2
            rw [ef, ev] at h3
            obtain ⟨k1, k2, k3, k4, k5⟩ := bc_dec ⟨f, by omega⟩ ⟨v, by omega⟩ h3
            have k1' : v ≤ 4 := k1
            refine ih K2 _ _ ⟨rfl, rfl, rfl, by show 0 ≤ (a.1 + 1 + 1).toInt; omega, by show (a.1 + 1 + 1).toInt ≤ n.toInt; omega, rfl, ?_, ?_, ?_⟩ ?_ (by omega)
            · show 0 ≤ (a.2.2.2.2 &&& (((1 : Int32) <<< ((chA (sm 3) n a.1 - 48) &&& 31)) ^^^ (-1))).toInt ∧ (a.2.2.2.2 &&& (((1 : Int32) <<< ((chA (sm 3) n a.1 - 48) &&& 31)) ^^^ (-1))).toInt ≤ 31
              rw [ef, ev]; exact ⟨k2, k3⟩
            · intro j hj hb
              show upd c.2.2.2 (chA (sm 3) n a.1 - 48).toNatClampNeg (chA (sm 3) n (a.1 + 1) - 48) j = upd a.2.2.2.1 (chA (sm 3) n a.1 - 48).toNatClampNeg (chA (sm 3) n (a.1 + 1) - 48) j
              by_cases e : j = (chA (sm 3) n a.1 - 48).toNatClampNeg
              · rw [← e, pk_us, pk_us]
              · rw [pk_un e, pk_un e]
                refine s8 j hj ?_
                have hb2 : (((a.2.2.2.2 &&& (((1 : Int32) <<< ((chA (sm 3) n a.1 - 48) &&& 31)) ^^^ (-1))) >>> (Int32.ofNat j &&& 31)) &&& 1) = 0 := hb
                rw [ef, ev] at hb2
                have hcn : (chA (sm 3) n a.1 - 48).toNatClampNeg = v := by rw [ev]; exact cN_of (ofn_t (by omega))
                rcases bb_dec ⟨f, by omega⟩ ⟨v, by omega⟩ ⟨j, hj⟩ hb2 with z | z
                · exact absurd (show j = v from z) (by rw [← hcn]; exact e)
                · rw [ef]; exact z
            · show a.2.2.1 + 1 = 5 - bcN (a.2.2.2.2 &&& (((1 : Int32) <<< ((chA (sm 3) n a.1 - 48) &&& 31)) ^^^ (-1)))
              rw [s9, ef, ev]; exact k4
            · show (bcN (a.2.2.2.2 &&& (((1 : Int32) <<< ((chA (sm 3) n a.1 - 48) &&& 31)) ^^^ (-1)))).toInt = (k : Int)
              rw [ef] at hk
              rw [ef, ev]
              have k5' : (bcN (Int32.ofNat f)).toInt = (bcN (Int32.ofNat f &&& (((1 : Int32) <<< (Int32.ofNat v &&& 31)) ^^^ (-1)))).toInt + 1 := k5
              omega
          · have d := dp_no1 (sr := DSr sr c) (sc := CSc sc c.1 c.2.1) (p := a.1) s1 s2 hn h0 h4 ht (by rw [eu]; exact hF) hF1
            have q := qp_no1 (tm := tm) rfl hl s3 hF hF1
            have x9 : ¬ (a.1 + 1) = -9 := n9 (by omega)
            have d1 : (DP sr sc st c).1 = a.1 + 1 := d.1
            have d2 : (DP sr sc st c).2.1 = 1 := d.2
            rw [dit_any (Or.inl (hm_stop (by rw [d2]; decide))), qit_any (Or.inl (by rw [q]; exact x9))]
            exact Or.inl ⟨d2, by rw [q, d1], by rw [d1]; omega⟩
        · have d := dp_no (sr := DSr sr c) (sc := CSc sc c.1 c.2.1) (p := a.1) s1 hn h0 ht (by rw [eu]; exact hF)
          have q := qp_no (tm := tm) rfl hl s3 h0 hF
          have d1 : (DP sr sc st c).1 = a.1 := d.1
          have d2 : (DP sr sc st c).2.1 = 1 := d.2
          rw [dit_any (Or.inl (hm_stop (by rw [d2]; decide))), qit_any (Or.inl (by rw [q]; exact n9 h0))]
          exact Or.inl ⟨d2, by rw [q, d1], by rw [d1]; exact h0⟩
