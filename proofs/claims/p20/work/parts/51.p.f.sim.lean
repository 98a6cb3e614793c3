/-! the end of a RULE -/
theorem re_stop {sr sc st : Nat → Nat → Int32} {p : Int32} (hp : sc 0 1 = p) (hq : sc 0 2 = 1) (h0 : 0 ≤ p.toInt) : (J_X8_readEnd sr sc st).1 = p ∧ (J_X8_readEnd sr sc st).2.1 = 1 := by
  have e : J_X2_stoppedAt sc st = p := by unfold J_X2_stoppedAt; rw [if_neg (by rw [hq]; decide), hp]
  dsimp only [J_X8_readEnd, LetF]
  rw [e, if_neg (n9 h0)]
  exact ⟨hp, hq⟩
theorem re_no {sr sc st : Nat → Nat → Int32} {g : Nat → Int32} {n p : Int32} (hp : sc 0 1 = p) (hq : sc 0 2 = 0) (hn : st 0 1 = n) (h0 : 0 ≤ p.toInt) (ht : TX (st 1) g n) (h : ¬ chA g n p = 76) : (J_X8_readEnd sr sc st).1 = p ∧ (J_X8_readEnd sr sc st).2.1 = 1 := by
  have e : J_X2_stoppedAt sc st = -9 := by unfold J_X2_stoppedAt; rw [if_pos hq]
  dsimp only [J_X8_readEnd, LetF]
  rw [e, if_pos rfl, here_c hp hn h0 ht, if_neg h]
  exact ⟨hp, rfl⟩
theorem re_fig {sr sc st : Nat → Nat → Int32} {g : Nat → Int32} {n p : Int32} (hp : sc 0 1 = p) (hq : sc 0 2 = 0) (hn : st 0 1 = n) (h0 : 0 ≤ p.toInt) (h4 : p.toInt ≤ 64) (ht : TX (st 1) g n) (h : chA g n p = 76) (hF : ¬ FOK g n (p + 1) 31) : (J_X8_readEnd sr sc st).1 = p + 1 ∧ (J_X8_readEnd sr sc st).2.1 = 1 := by
  have e : J_X2_stoppedAt sc st = -9 := by unfold J_X2_stoppedAt; rw [if_pos hq]
  have e1 := fC1_no (sc := sc) (m := 31) hp hn h0 h4 ht hF
  dsimp only [J_X8_readEnd, LetF]
  rw [e, if_pos rfl, here_c hp hn h0 ht, if_pos h, show J_X2_figures 0 4 = 31 from by decide, e1]
  dsimp only
  rw [if_pos rfl]
  exact ⟨rfl, rfl⟩
theorem re_more {sr sc st : Nat → Nat → Int32} {g : Nat → Int32} {n p : Int32} (hp : sc 0 1 = p) (hq : sc 0 2 = 0) (hn : st 0 1 = n) (h0 : 0 ≤ p.toInt) (h4 : p.toInt ≤ 64) (ht : TX (st 1) g n) (h : chA g n p = 76) (hF : FOK g n (p + 1) 31) (hm : ¬ n ≤ p + 1 + 1) : (J_X8_readEnd sr sc st).1 = p + 1 + 1 ∧ (J_X8_readEnd sr sc st).2.1 = 1 := by
  have e : J_X2_stoppedAt sc st = -9 := by unfold J_X2_stoppedAt; rw [if_pos hq]
  have e1 := fC1_ok (sc := sc) (m := 31) hp hq hn h0 h4 ht hF
  have e2 : ¬ J_X2_hasMore (up2 sc 0 (upd (upd (sc 0) 1 (p + 1 + 1)) 2 0)) st = 0 := hm_go (sc := sc) (p := p + 1 + 1) rfl (by rw [hn]; exact hm)
  dsimp only [J_X8_readEnd, LetF]
  rw [e, if_pos rfl, here_c hp hn h0 ht, if_pos h, show J_X2_figures 0 4 = 31 from by decide, e1]
  dsimp only
  rw [if_neg (fok_9 hF), if_neg e2]
  exact ⟨rfl, rfl⟩
theorem re_ok {sr sc st : Nat → Nat → Int32} {g : Nat → Int32} {n p : Int32} (hp : sc 0 1 = p) (hq : sc 0 2 = 0) (hn : st 0 1 = n) (h0 : 0 ≤ p.toInt) (h4 : p.toInt ≤ 64) (ht : TX (st 1) g n) (h : chA g n p = 76) (hF : FOK g n (p + 1) 31) (hm : n ≤ p + 1 + 1) : J_X8_readEnd sr sc st = (p + 1 + 1, 0, chA g n (p + 1) - 48) := by
  have e : J_X2_stoppedAt sc st = -9 := by unfold J_X2_stoppedAt; rw [if_pos hq]
  have e1 := fC1_ok (sc := sc) (m := 31) hp hq hn h0 h4 ht hF
  have e2 : J_X2_hasMore (up2 sc 0 (upd (upd (sc 0) 1 (p + 1 + 1)) 2 0)) st = 0 := hm_end (sc := sc) (p := p + 1 + 1) (q := 0) (by rw [hn]; exact hm)
  dsimp only [J_X8_readEnd, LetF]
  rw [e, if_pos rfl, here_c hp hn h0 ht, if_pos h, show J_X2_figures 0 4 = 31 from by decide, e1]
  dsimp only
  rw [if_neg (fok_9 hF), if_pos e2]
theorem qe_x {sm : Nat → Nat → Int32} {tm : Nat → Nat → Int64} {a : SQ} (h : ¬ a.2.1 = -9) : (QE sm tm a).1 = a.2.1 := by
  have e1 : QB sm tm a = (a.1, a.2.1) := (qb_1 h).trans (by rw [fail_x (sm := QS sm a) h]; rfl)
  have e2 : J_X12_figure (QS sm (a.1, a.2.1, a.2.2.1, a.2.2.2.1, 0)) tm 31 = (0, a.1, a.2.1) := figR_x (sm := QS sm (a.1, a.2.1, a.2.2.1, a.2.2.2.1, 0)) h
  unfold QE
  rw [e1]
  dsimp only
  rw [e2]
  dsimp only
  rw [if_neg h]
theorem qe_no {sm : Nat → Nat → Int32} {tm : Nat → Nat → Int64} {a : SQ} (hf : a.2.1 = -9) (h0 : 0 ≤ a.1.toInt) (h : sm 0 3 ≤ a.1 ∨ ¬ sm 3 a.1.toNatClampNeg = 76) : (QE sm tm a).1 = a.1 := by
  have e0 : QB sm tm a = (a.1, J_X12_fail (QS sm a) tm) := by rcases h with h | h; exact qb_2 h; exact qb_3 h
  have e1 : QB sm tm a = (a.1, a.1) := e0.trans (by rw [fail_9 (sm := QS sm a) (p := a.1) rfl hf])
  have e2 : J_X12_figure (QS sm (a.1, a.1, a.2.2.1, a.2.2.2.1, 0)) tm 31 = (0, a.1, a.1) := figR_x (sm := QS sm (a.1, a.1, a.2.2.1, a.2.2.2.1, 0)) (n9 h0)
  unfold QE
  rw [e1]
  dsimp only
  rw [e2]
  dsimp only
  rw [if_neg (n9 h0)]
theorem qe_fig {sm : Nat → Nat → Int32} {tm : Nat → Nat → Int64} {n : Int32} {a : SQ} (hl : sm 0 3 = n) (hf : a.2.1 = -9) (h0 : 0 ≤ a.1.toInt) (h4 : a.1.toInt ≤ 64) (h1 : ¬ sm 0 3 ≤ a.1) (h2 : sm 3 a.1.toNatClampNeg = 76) (hF : ¬ FOK (sm 3) n (a.1 + 1) 31) : (QE sm tm a).1 = a.1 + 1 := by
  have b1 := pl1 h0 (by omega)
  have e1 := qb_4 (tm := tm) hf h1 h2
  have e2 := figR_no (sm := QS sm (a.1 + 1, a.2.1, a.2.2.1, a.2.2.2.1, 0)) (tm := tm) (g := sm 3) (n := n) (p := a.1 + 1) (m := 31) rfl hl rfl hf hF
  unfold QE
  rw [e1]
  dsimp only
  rw [e2]
  dsimp only
  rw [if_neg (show ¬ (a.1 + 1) = -9 from n9 (by omega))]
theorem qe_more {sm : Nat → Nat → Int32} {tm : Nat → Nat → Int64} {n : Int32} {a : SQ} (hl : sm 0 3 = n) (hf : a.2.1 = -9) (h1 : ¬ sm 0 3 ≤ a.1) (h2 : sm 3 a.1.toNatClampNeg = 76) (hF : FOK (sm 3) n (a.1 + 1) 31) (hm : ¬ n ≤ a.1 + 1 + 1) : (QE sm tm a).1 = a.1 + 1 + 1 := by
  have e1 := qb_4 (tm := tm) hf h1 h2
  have e2 := figR_ok (sm := QS sm (a.1 + 1, a.2.1, a.2.2.1, a.2.2.2.1, 0)) (tm := tm) (g := sm 3) (n := n) (p := a.1 + 1) (m := 31) rfl hl rfl hf hF
  unfold QE
  rw [e1]
  dsimp only
  rw [e2]
  dsimp only
  rw [if_pos rfl, if_neg (by rw [hl]; exact hm)]
  exact fail_9 (p := a.1 + 1 + 1) rfl rfl
theorem qe_ok {sm : Nat → Nat → Int32} {tm : Nat → Nat → Int64} {n : Int32} {a : SQ} (hl : sm 0 3 = n) (hf : a.2.1 = -9) (h1 : ¬ sm 0 3 ≤ a.1) (h2 : sm 3 a.1.toNatClampNeg = 76) (hF : FOK (sm 3) n (a.1 + 1) 31) (hm : n ≤ a.1 + 1 + 1) : QE sm tm a = (-9, a.1 + 1 + 1, -9, a.2.2.1, PFn (LVP a.2.2.2.2 (chA (sm 3) n (a.1 + 1) - 48) a.2.2.2.1) 5 a.2.2.2.1) := by
  have e1 := qb_4 (tm := tm) hf h1 h2
  have e2 := figR_ok (sm := QS sm (a.1 + 1, a.2.1, a.2.2.1, a.2.2.2.1, 0)) (tm := tm) (g := sm 3) (n := n) (p := a.1 + 1) (m := 31) rfl hl rfl hf hF
  unfold QE
  rw [e1]
  dsimp only
  rw [e2]
  dsimp only
  rw [if_pos rfl, if_pos (by rw [hl]; exact hm)]
/-- the LEVEL of a WEEK as the class's reader has it -/
def clv (u : Int32) (f : Nat → Int32) (o : Int32) (j : Nat) : Int32 := if ((u >>> (Int32.ofNat j &&& 31)) &&& 1) = 0 then f j else o
def RUOK (u : Int32) (f : Nat → Int32) (o ex : Int32) (lv : Nat → Int32) : Prop := (∀ j : Nat, j < 5 → clv u f o j = lv j) ∧ ex = 5 - bcN u
theorem b31_dec : ∀ j : Fin 5, ¬ (((31 : Int32) >>> (Int32.ofNat j.val &&& 31)) &&& 1) = 0 := by decide +kernel
theorem r8_eq {sr sc st : Nat → Nat → Int32} : J_X8_read sr sc st = (J_X2_stoppedAt (CSc sc (DE sr sc st).1 (DE sr sc st).2.1) st, (DE sr sc st).1, (DE sr sc st).2.1, (DB sr sc st).2.2.1, (DB sr sc st).2.2.2, (DE sr sc st).2.2) := rfl
theorem db_eq {sr sc st : Nat → Nat → Int32} : DB sr sc st = DIT sr sc st 5 (D0 sr sc st) := rfl
theorem de_eq {sr sc st : Nat → Nat → Int32} : DE sr sc st = J_X8_readEnd (DSr sr (DB sr sc st)) (CSc sc (DB sr sc st).1 (DB sr sc st).2.1) st := rfl
theorem rr_eq {sm : Nat → Nat → Int32} {tm : Nat → Nat → Int64} : J_X12_readRule sm tm = QE sm tm (QIT sm tm 200 (Q0 sm)) := rfl
theorem rule_alike {sr sc st sm : Nat → Nat → Int32} {tm : Nat → Nat → Int64} {n : Int32} (hn : st 0 1 = n) (hl : sm 0 3 = n) (ht : TX (st 1) (sm 3) n) (hn0 : 0 ≤ n.toInt) (hn4 : n.toInt ≤ 64) :
    (J_X8_read sr sc st).1 = (J_X12_readRule sm tm).1 ∧ ((J_X8_read sr sc st).1 = -9 → RUOK (J_X8_read sr sc st).2.2.2.1 (J_X8_read sr sc st).2.2.2.2.1 (J_X8_read sr sc st).2.2.2.2.2 (J_X12_readRule sm tm).2.2.2.1 (J_X12_readRule sm tm).2.2.2.2) := by
  have e31 : J_X2_figures 0 4 = 31 := by decide
  have S0 : SIMQ n (D0 sr sc st) (Q0 sm) := ⟨rfl, rfl, rfl, by show 0 ≤ (0 : Int32).toInt; decide, by show (0 : Int32).toInt ≤ n.toInt; rw [show (0 : Int32).toInt = 0 from by decide]; exact hn0, e31, by show 0 ≤ (31 : Int32).toInt ∧ (31 : Int32).toInt ≤ 31; decide, fun j hj hb => absurd hb (b31_dec ⟨j, hj⟩), by show (0 : Int32) = 5 - bcN 31; decide +kernel⟩
  have o := simq_run (sr := sr) (sc := sc) (tm := tm) hn hl ht hn4 5 200 _ _ S0 (by show (bcN 31).toInt = ((5 : Nat) : Int); decide +kernel) (by decide)
  have eD := de_eq (sr := sr) (sc := sc) (st := st)
  rw [← db_eq] at o
  rw [r8_eq, rr_eq]
  obtain ⟨A, hA⟩ : ∃ z, QIT sm tm 200 (Q0 sm) = z := ⟨_, rfl⟩
  obtain ⟨D, hD⟩ : ∃ z, DB sr sc st = z := ⟨_, rfl⟩
  obtain ⟨E, hE⟩ : ∃ z, DE sr sc st = z := ⟨_, rfl⟩
  rw [hA, hD] at o
  rw [hE, hD] at eD
  rw [hA, hD, hE]
  clear S0 hA hD hE
  dsimp only
  have stop : ∀ x : Int32, 0 ≤ x.toInt → E.1 = x ∧ E.2.1 = 1 → (QE sm tm A).1 = x → J_X2_stoppedAt (CSc sc E.1 E.2.1) st = (QE sm tm A).1 ∧ (J_X2_stoppedAt (CSc sc E.1 E.2.1) st = -9 → RUOK D.2.2.1 D.2.2.2 E.2.2 (QE sm tm A).2.2.2.1 (QE sm tm A).2.2.2.2) := by
    intro x hx h1 h2
    have e1 : J_X2_stoppedAt (CSc sc E.1 E.2.1) st = x := (sa_1 h1.2).trans h1.1
    refine ⟨e1.trans h2.symm, fun q => ?_⟩
    rw [e1] at q
    exact absurd q (n9 hx)
  rcases o with ⟨t1, t2, t3⟩ | ⟨S, hx⟩ | ⟨t1, t2, t3, t4⟩
  · exact stop _ t3 (by rw [eD]; exact re_stop (sr := DSr sr D) (sc := CSc sc D.1 D.2.1) rfl t1 t3) ((qe_x (by rw [t2]; exact n9 t3)).trans t2)
  · obtain ⟨s1, s2, s3, s4, s5, s6, s7, s8, s9⟩ := S
    have h0 : 0 ≤ A.1.toInt := by rw [← s1]; exact s4
    have h4 : A.1.toInt ≤ 64 := by rw [← s1]; omega
    have b1 := pl1 h0 (by omega)
    have b2 := pl1 (p := A.1 + 1) (by omega) (by omega)
    by_cases hr : n ≤ A.1
    · have hc : ¬ chA (sm 3) n A.1 = 76 := by unfold chA; rw [if_pos hr]; decide
      exact stop _ h0 (by rw [eD]; exact re_no (sr := DSr sr D) (sc := CSc sc D.1 D.2.1) (p := A.1) s1 s2 hn h0 ht hc) (qe_no s3 h0 (Or.inl (by rw [hl]; exact hr)))
    · have ec : chA (sm 3) n A.1 = sm 3 A.1.toNatClampNeg := if_neg hr
      have h76 : chA (sm 3) n A.1 = 76 := by
        rcases hx with hx | hx
        · rw [s1] at hx; exact absurd hx hr
        · rw [s1] at hx; exact hx
      have hrl : ¬ sm 0 3 ≤ A.1 := by rw [hl]; exact hr
      by_cases hF : FOK (sm 3) n (A.1 + 1) 31
      · by_cases hm : n ≤ A.1 + 1 + 1
        · have e1 := re_ok (sr := DSr sr D) (sc := CSc sc D.1 D.2.1) (p := A.1) s1 s2 hn h0 h4 ht h76 hF hm
          have e2 := qe_ok (tm := tm) hl s3 hrl (by rw [← ec]; exact h76) hF hm
          rw [e1] at eD
          have eJ : J_X2_stoppedAt (CSc sc E.1 E.2.1) st = -9 := sa_0 (by rw [eD])
          rw [e2]
          refine ⟨eJ, fun _ => ⟨fun j hj => ?_, ?_⟩⟩
          · show clv D.2.2.1 D.2.2.2 E.2.2 j = PFn (LVP A.2.2.2.2 (chA (sm 3) n (A.1 + 1) - 48) A.2.2.2.1) 5 A.2.2.2.1 j
            rw [eD, pf_at hj, s6]
            unfold clv LVP
            obtain ⟨f, hf, ef⟩ := nat_of (N := 31) s7
            have d := b1_dec ⟨f, by omega⟩ ⟨j, hj⟩
            have s8j := s8 j hj
            rw [ef] at s8j ⊢
            rcases d with d | d
            · rw [if_pos d.1, if_neg d.2]; exact s8j d.1
            · rw [if_neg d.1, if_pos d.2]
          · show A.2.2.1 = 5 - bcN D.2.2.1
            rw [s6]; exact s9
        · exact stop (A.1 + 1 + 1) (by omega) (by rw [eD]; exact re_more (sr := DSr sr D) (sc := CSc sc D.1 D.2.1) (p := A.1) s1 s2 hn h0 h4 ht h76 hF hm) (qe_more (tm := tm) hl s3 hrl (by rw [← ec]; exact h76) hF hm)
      · exact stop (A.1 + 1) (by omega) (by rw [eD]; exact re_fig (sr := DSr sr D) (sc := CSc sc D.1 D.2.1) (p := A.1) s1 s2 hn h0 h4 ht h76 hF) (qe_fig (tm := tm) hl s3 h0 h4 hrl (by rw [← ec]; exact h76) hF)
  · exact stop _ t3 (by rw [eD]; exact re_no (sr := DSr sr D) (sc := CSc sc D.1 D.2.1) rfl t1 hn t3 ht t4) ((qe_x (by rw [t2]; exact n9 t3)).trans t2)
