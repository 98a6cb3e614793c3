/-! from the first PART to the end: both readers of a HOUSE answer alike -/
theorem hm_stop {sc st : Nat → Nat → Int32} {p q : Int32} (h : ¬ q = 0) : J_X2_hasMore (CSc sc p q) st = 0 := by
  show (if q = 0 then if st 0 1 ≤ p then (0 : Int32) else 1 else 0) = 0
  rw [if_neg h]
theorem hm_end {sc st : Nat → Nat → Int32} {p q : Int32} (h : st 0 1 ≤ p) : J_X2_hasMore (CSc sc p q) st = 0 := by
  show (if q = 0 then if st 0 1 ≤ p then (0 : Int32) else 1 else 0) = 0
  rw [if_pos h]
  split <;> rfl
theorem hm_go {sc st : Nat → Nat → Int32} {p q : Int32} (hq : q = 0) (h : ¬ st 0 1 ≤ p) : ¬ J_X2_hasMore (CSc sc p q) st = 0 := by
  show ¬ (if q = 0 then if st 0 1 ≤ p then (0 : Int32) else 1 else 0) = 0
  rw [if_pos hq, if_neg h]
  decide
theorem rit_any {sm : Nat → Nat → Int32} {tm : Nat → Nat → Int64} {K : Nat} {a : SR} (h : sm 0 3 ≤ a.2.1 ∨ ¬ a.2.2.1 = -9) : RIT sm tm K a = a := by
  cases K with
  | zero => rfl
  | succ K => rcases h with h | h; exact rit_e2 h; exact rit_e1 h
theorem cit_any {sr sc st sh : Nat → Nat → Int32} {w : Int32} {k : Nat} {a : SC} (h : J_X2_hasMore (CSc sc a.1 a.2.1) st = 0) : CIT sr sc st sh w k a = a := by
  cases k with
  | zero => rfl
  | succ k => exact if_pos h
def OUTE (n w : Int32) (c : SC) (a : SR) : Prop := (c.2.1 = 1 ∧ a.2.2.1 = c.1 ∧ 0 ≤ c.1.toInt) ∨ SIM n w c a
theorem sim_run {sr sc st sh sm : Nat → Nat → Int32} {tm : Nat → Nat → Int64} {n w : Int32} (hn : st 0 1 = n) (hl : sm 0 3 = n) (ht : TX (st 1) (sm 3) n) (hn4 : n.toInt ≤ 64) (hw : 0 ≤ w.toInt ∧ w.toInt ≤ 5) :
    ∀ (k K : Nat) (c : SC) (a : SR), SIM n w c a → n.toInt - c.1.toInt ≤ (k : Int) → n.toInt - c.1.toInt ≤ (K : Int) → OUTE n w (CIT sr sc st sh w k c) (RIT sm tm K a) := by
  intro k
  induction k with
  | zero =>
    intro K c a S h1 h2
    have hr : n ≤ a.2.1 := Int32.le_iff_toInt_le.mpr (by rw [← S.1]; omega)
    rw [rit_any (Or.inl (by rw [hl]; exact hr))]
    exact Or.inr S
  | succ k ih =>
    intro K c a S h1 h2
    by_cases hr : n ≤ a.2.1
    · rw [rit_any (Or.inl (by rw [hl]; exact hr)), cit_any (hm_end (by rw [hn, S.1]; exact hr))]
      exact Or.inr S
    · have hlt := f_nle rfl rfl hr
      have hc : c.1.toInt = a.2.1.toInt := by rw [S.1]
      obtain ⟨K2, rfl⟩ : ∃ z, K = z + 1 := ⟨K - 1, by omega⟩
      have e1 : CIT sr sc st sh w (k + 1) c = CIT sr sc st sh w k (CP sr sc st sh w c) := if_neg (hm_go S.2.1 (by rw [hn, S.1]; exact hr))
      have e2 : RIT sm tm (K2 + 1) a = RIT sm tm K2 (RP sm tm a) := rit_go S.2.2.1 (by rw [hl]; exact hr) rfl
      rw [e1, e2]
      rcases sim_step (sr := sr) (sc := sc) (sh := sh) (tm := tm) hn hl ht hn4 hw S hr with ⟨t1, t2, t3⟩ | ⟨S2, hp⟩
      · rw [cit_any (hm_stop (by rw [t1]; decide)), rit_any (Or.inr (by rw [t2]; exact n9 t3))]
        exact Or.inl ⟨t1, t2, t3⟩
      · exact ih K2 _ _ S2 (by omega) (by omega)
theorem rw_a {sr sc st sh : Nat → Nat → Int32} {g : Nat → Int32} {n : Int32} (hp : sc 0 1 = 0) (hn : st 0 1 = n) (ht : TX (st 1) g n) (h : ¬ chA g n 0 = 78) : (J_X5_readWeeks sr sc st sh).1 = 0 ∧ (J_X5_readWeeks sr sc st sh).2.1 = 1 := by
  have e0 := here_c hp hn (by decide) ht
  dsimp only [J_X5_readWeeks]
  rw [e0, if_neg h]
  exact ⟨hp, rfl⟩
theorem rw_b {sr sc st sh : Nat → Nat → Int32} {g : Nat → Int32} {n : Int32} (hp : sc 0 1 = 0) (hn : st 0 1 = n) (ht : TX (st 1) g n) (h : chA g n 0 = 78) (hF : ¬ FOK g n (0 + 1) 62) : (J_X5_readWeeks sr sc st sh).1 = 0 + 1 ∧ (J_X5_readWeeks sr sc st sh).2.1 = 1 := by
  have e0 := here_c hp hn (by decide) ht
  have e1 := fC1_no (sc := sc) (m := 62) hp hn (by decide) (by decide) ht hF
  dsimp only [J_X5_readWeeks]
  rw [e0, if_pos h, show J_X2_figures 1 5 = 62 from by decide, e1]
  dsimp only
  rw [if_pos rfl]
  exact ⟨rfl, rfl⟩
theorem rw_c {sr sc st sh : Nat → Nat → Int32} {g : Nat → Int32} {n : Int32} (hp : sc 0 1 = 0) (hq : sc 0 2 = 0) (hn : st 0 1 = n) (ht : TX (st 1) g n) (h : chA g n 0 = 78) (hF : FOK g n (0 + 1) 62) : J_X5_readWeeks sr sc st sh = (0 + 1 + 1, 0, J_X5_expectParts sr (up2 sc 0 (upd (upd (sc 0) 1 (0 + 1 + 1)) 2 0)) st (chA g n (0 + 1) - 48), chA g n (0 + 1) - 48) := by
  have e0 := here_c hp hn (by decide) ht
  have e1 := fC1_ok (sc := sc) (m := 62) hp hq hn (by decide) (by decide) ht hF
  dsimp only [J_X5_readWeeks]
  rw [e0, if_pos h, show J_X2_figures 1 5 = 62 from by decide, e1]
  dsimp only
  rw [if_neg (fok_9 hF)]
def EPf (f : Nat → Int32) (A B C : Int32) : Nat → Int32 := upd (upd (upd (upd (upd (upd (upd (upd (upd (upd (upd f 7 A) 15 A) 18 A) 6 A) 19 A) 0 A) 1 A) 22 B) 14 B) 16 C) 3 C
theorem ep_eq {sr sc st : Nat → Nat → Int32} {v : Int32} : J_X5_expectParts sr sc st v = EPf (sr 1) (J_X2_figures 0 0) (J_X2_figures 0 (v - 1)) (J_X2_figures 0 2) := by
  show eoF (J_X2_figures 0 2) [81, 68] (eoF (J_X2_figures 0 (v - 1)) [87, 79] (eoF (J_X2_figures 0 0) [72, 80, 83, 71, 84, 65, 66] (sr 1))) = _
  simp only [eoF]
  rw [show ((72 : Int32) - 65).toNatClampNeg = 7 from by decide, show ((80 : Int32) - 65).toNatClampNeg = 15 from by decide, show ((83 : Int32) - 65).toNatClampNeg = 18 from by decide, show ((71 : Int32) - 65).toNatClampNeg = 6 from by decide, show ((84 : Int32) - 65).toNatClampNeg = 19 from by decide, show ((65 : Int32) - 65).toNatClampNeg = 0 from by decide, show ((66 : Int32) - 65).toNatClampNeg = 1 from by decide, show ((87 : Int32) - 65).toNatClampNeg = 22 from by decide, show ((79 : Int32) - 65).toNatClampNeg = 14 from by decide, show ((81 : Int32) - 65).toNatClampNeg = 16 from by decide, show ((68 : Int32) - 65).toNatClampNeg = 3 from by decide]
  rfl
theorem u0_ep {f : Nat → Int32} {A B C : Int32} (h : U0 f) : U0 (EPf f A B C) := u0_up2 (u0_up2 (u0_up2 (u0_up2 (u0_up2 (u0_up2 (u0_up2 (u0_up2 (u0_up2 (u0_up2 (u0_up2 h (by decide)) (by decide)) (by decide)) (by decide)) (by decide)) (by decide)) (by decide)) (by decide)) (by decide)) (by decide)) (by decide)
theorem b62 : ∀ v : Fin 10, ¬ (((62 : Int32) >>> (Int32.ofNat v.val &&& 31)) &&& 1) = 0 → 1 ≤ v.val ∧ v.val ≤ 5 := by decide +kernel
theorem fw_d : ∀ v : Fin 6, 1 ≤ v.val → J_X2_figures 0 (Int32.ofNat v.val - 1) = mW (Int32.ofNat v.val) &&& ((0 : Int32) ^^^ (-1)) := by decide +kernel
theorem sbm0 (m : Int32) : SBM m 0 := ⟨by decide, by decide, by rw [Int32.zero_and]⟩
theorem uok_start {f : Nat → Int32} {v : Int32} (h : U0 f) (hv : 1 ≤ v.toInt ∧ v.toInt ≤ 5) : UOK (EPf f (J_X2_figures 0 0) (J_X2_figures 0 (v - 1)) (J_X2_figures 0 2)) v 0 0 0 0 0 := by
  have e : J_X2_figures 0 (v - 1) = mW v &&& ((0 : Int32) ^^^ (-1)) := by
    obtain ⟨k, hk, rfl⟩ := nat_of (x := v) (N := 5) ⟨by omega, hv.2⟩
    have q : (Int32.ofNat k).toInt = (k : Int) := ofn_t (by omega)
    exact fw_d ⟨k, by omega⟩ (by show 1 ≤ k; omega)
  have e2 : J_X2_figures 0 2 = 7 &&& ((0 : Int32) ^^^ (-1)) := by decide
  have e3 : ∀ q ∈ onL, J_X2_figures 0 0 = o1 0 q.2 := by decide +kernel
  refine ⟨fun q hq => ?_, by decide, ⟨?_, sbm0 _⟩, ⟨?_, sbm0 _⟩, ⟨?_, sbm0 _⟩, ⟨?_, sbm0 _⟩, u0_ep h⟩
  · rw [← e3 q hq]
    simp only [onL, List.mem_cons, List.not_mem_nil, or_false] at hq
    rcases hq with rfl | rfl | rfl | rfl | rfl | rfl | rfl <;> rfl
  · rw [← e]; rfl
  · rw [← e]; rfl
  · rw [← e2]; rfl
  · rw [← e2]; rfl
theorem bv_d1 : ∀ j : Fin 5, bvN (10 + j.val) = 0 ∧ bvN (15 + j.val) = 1 := by decide +kernel
theorem bv_d2 : ∀ j : Fin 3, bvN (20 + j.val) = 1 ∧ bvN (23 + j.val) = 4 := by decide +kernel
theorem pf_at {P f : Nat → Int32} {k j : Nat} (h : j < k) : PFn P k f j = P j := if_pos h
theorem vok_start {f : Nat → Int32} {sh : Nat → Nat → Int32} {v : Int32} : VOK (upd (PFn bvN 26 f) (0 : Int32).toNatClampNeg v) v (J_X4_clear sh).2 := by
  rw [show ((0 : Int32).toNatClampNeg) = 0 from by decide]
  have g : ∀ j : Nat, j ≠ 0 → j < 26 → upd (PFn bvN 26 f) 0 v j = bvN j := fun j h1 h2 => (pk_un h1).trans (pf_at h2)
  refine ⟨pk_us, (g 1 (by decide) (by decide)).trans (show bvN 1 = 2 from by decide), (g 2 (by decide) (by decide)).trans (show bvN 2 = 1 from by decide), (g 3 (by decide) (by decide)).trans (show bvN 3 = 1 from by decide), (g 4 (by decide) (by decide)).trans (show bvN 4 = -9 from by decide), (g 5 (by decide) (by decide)).trans (show bvN 5 = -9 from by decide), (g 6 (by decide) (by decide)).trans (show bvN 6 = -9 from by decide), (g 7 (by decide) (by decide)).trans (show bvN 7 = -9 from by decide), (g 8 (by decide) (by decide)).trans (show bvN 8 = 0 from by decide), fun j hj => ?_, fun j hj => ?_, fun j hj => ?_, fun j hj => ?_⟩
  · exact ((g (10 + j) (by omega) (by omega)).trans (bv_d1 ⟨j, hj⟩).1).trans (if_pos hj).symm
  · exact ((g (15 + j) (by omega) (by omega)).trans (bv_d1 ⟨j, hj⟩).2).trans (if_pos hj).symm
  · exact ((g (20 + j) (by omega) (by omega)).trans (bv_d2 ⟨j, hj⟩).1).trans (if_pos hj).symm
  · exact ((g (23 + j) (by omega) (by omega)).trans (bv_d2 ⟨j, hj⟩).2).trans (if_pos hj).symm
def UP (t : SC) : Prop := U0 t.2.2.1
theorem up_if {c : Prop} [Decidable c] {a b : SC} (h1 : c → UP a) (h2 : ¬ c → UP b) : UP (if c then a else b) := by
  by_cases q : c
  · rw [if_pos q]; exact h1 q
  · rw [if_neg q]; exact h2 q
theorem u0_part {sr sc st sh : Nat → Nat → Int32} (h : U0 (sr 1)) : UP (J_X5_readPart sr sc st sh) := by
  unfold J_X5_readPart
  dsimp only [LetF]
  refine up_if (fun _ => h) (fun _ => up_if (fun _ => h) (fun _ => up_if (fun _ => h) (fun q => up_if (fun _ => ?_) (fun _ => ?_))))
  · exact up_if (fun _ => u0_upd h q) (fun _ => up_if (fun _ => u0_upd h q) (fun _ => up_if (fun _ => u0_upd h q) (fun _ => u0_upd h q)))
  · exact up_if (fun _ => h) (fun _ => up_if (fun _ => u0_upd h q) (fun _ => up_if (fun _ => u0_upd h q) (fun _ => up_if (fun _ => u0_upd h q) (fun _ => u0_upd h q))))
theorem u0_cit {sr sc st sh : Nat → Nat → Int32} {w : Int32} : ∀ (k : Nat) (a : SC), U0 a.2.2.1 → U0 (CIT sr sc st sh w k a).2.2.1 := by
  intro k
  induction k with
  | zero => intro a h; exact h
  | succ k ih =>
    intro a h
    by_cases q : J_X2_hasMore (CSc sc a.1 a.2.1) st = 0
    · rw [cit_any q]; exact h
    · have e : CIT sr sc st sh w (k + 1) a = CIT sr sc st sh w k (CP sr sc st sh w a) := if_neg q
      rw [e]; exact ih _ (u0_part (sr := CSr sr a) h)
theorem u0_weeks {sr sc st sh : Nat → Nat → Int32} (h : U0 (sr 1)) : U0 (J_X5_readWeeks sr sc st sh).2.2.1 := by
  dsimp only [J_X5_readWeeks]
  by_cases c1 : J_X2_here sc st = 78
  · rw [if_pos c1]
    by_cases c2 : (J_X2_figure (up2 sc 0 (upd (sc 0) 1 (J_X2_step sc st))) st (J_X2_figures 1 5)).1 = -9
    · rw [if_pos c2]; exact h
    · rw [if_neg c2]
      show U0 (J_X5_expectParts sr _ st _)
      rw [ep_eq]; exact u0_ep h
  · rw [if_neg c1]; exact h
theorem rd_eq {sr sc st sh : Nat → Nat → Int32} : J_X5_read sr sc st sh = (J_X2_stoppedAt (CSc sc (CB sr sc st sh).1 (CB sr sc st sh).2.1) st, (CB sr sc st sh).1, (CB sr sc st sh).2.1, (CB sr sc st sh).2.2.1, (CW4 sr sc st sh).2.2.2, (CB sr sc st sh).2.2.2) := rfl
theorem c0_eq {sr sc st sh : Nat → Nat → Int32} : C0 sr sc st sh = ((CW4 sr sc st sh).1, (CW4 sr sc st sh).2.1, (CW4 sr sc st sh).2.2.1, (J_X4_clear sh).2) := rfl
theorem cw_eq {sr sc st sh : Nat → Nat → Int32} : CW4 sr sc st sh = J_X5_readWeeks sr (CSc sc (J_X2_start sc st).1 (J_X2_start sc st).2) st (CSh sh (J_X4_clear sh).1 (CA sr sc st sh)) := rfl
theorem cb_eq {sr sc st sh : Nat → Nat → Int32} : CB sr sc st sh = CIT sr sc st sh (CW4 sr sc st sh).2.2.2 64 (C0 sr sc st sh) := rfl
theorem u0_cb {sr sc st sh : Nat → Nat → Int32} (h : U0 (sr 1)) : U0 (CB sr sc st sh).2.2.1 := by
  rw [cb_eq]
  have w : U0 (CW4 sr sc st sh).2.2.1 := by rw [cw_eq]; exact u0_weeks h
  have c : U0 (C0 sr sc st sh).2.2.1 := by rw [c0_eq]; exact w
  exact u0_cit _ _ c
theorem u0_read {sr sc st sh : Nat → Nat → Int32} (h : U0 (sr 1)) : U0 (J_X5_read sr sc st sh).2.2.2.1 := by
  have c := u0_cb (sc := sc) (st := st) (sh := sh) h
  rw [rd_eq]
  generalize CB sr sc st sh = b at c ⊢
  exact c
theorem sa_0 {sc st : Nat → Nat → Int32} {p q : Int32} (h : q = 0) : J_X2_stoppedAt (CSc sc p q) st = -9 := by
  show (if q = 0 then (-9 : Int32) else p) = -9
  rw [if_pos h]
theorem sa_1 {sc st : Nat → Nat → Int32} {p q : Int32} (h : q = 1) : J_X2_stoppedAt (CSc sc p q) st = p := by
  show (if q = 0 then (-9 : Int32) else p) = p
  rw [if_neg (by rw [h]; decide)]
/-- what both readers of a HOUSE answer, and what they have read if it is one -/
theorem house_alike {sr sc st sh sm : Nat → Nat → Int32} {tm : Nat → Nat → Int64} {n : Int32} (hn : st 0 1 = n) (hl : sm 0 3 = n) (ht : TX (st 1) (sm 3) n) (hn0 : 0 ≤ n.toInt) (hn4 : n.toInt ≤ 64) (hu : U0 (sr 1)) :
    (J_X5_read sr sc st sh).1 = (J_X12_readHouse sm tm).1 ∧ ((J_X5_read sr sc st sh).1 = -9 → VOK (J_X12_readHouse sm tm).2.1 (J_X5_read sr sc st sh).2.2.2.2.1 (J_X5_read sr sc st sh).2.2.2.2.2) := by
  rw [rd_eq]
  obtain ⟨b, hB⟩ : ∃ z, CB sr sc st sh = z := ⟨_, rfl⟩
  obtain ⟨A, hA⟩ : ∃ z, RIT sm tm 200 (RH0 sm tm) = z := ⟨_, rfl⟩
  rw [hB]
  dsimp only
  have hB2 := cb_eq.symm.trans hB
  have stop : ∀ x : Int32, 0 ≤ x.toInt → (C0 sr sc st sh).1 = x → (C0 sr sc st sh).2.1 = 1 → J_X2_stoppedAt (CSc sc b.1 b.2.1) st = x := by
    intro x hx h1 h2
    have e : CIT sr sc st sh (CW4 sr sc st sh).2.2.2 64 (C0 sr sc st sh) = C0 sr sc st sh := cit_any (hm_stop (by rw [h2]; decide))
    rw [← hB2, e, sa_1 h2, h1]
  by_cases h78 : chA (sm 3) n 0 = 78
  · have hn1 : ¬ n ≤ 0 := fun q => by rw [chA, if_pos q] at h78; exact absurd h78 (by decide)
    have r0 : ¬ sm 0 3 = 0 := fun q => hn1 (by rw [← hl, q]; decide)
    have r1 : sm 3 (0 : Int32).toNatClampNeg = 78 := by rw [chA, if_neg hn1] at h78; exact h78
    have eR : J_X12_readHouse sm tm = (A.2.2.1, A) := by
      unfold J_X12_readHouse; rw [if_neg r0, if_pos r1, hA]
    by_cases hF : FOK (sm 3) n (0 + 1) 62
    · have ew := rw_c (sr := sr) (sc := CSc sc (J_X2_start sc st).1 (J_X2_start sc st).2) (sh := CSh sh (J_X4_clear sh).1 (CA sr sc st sh)) rfl rfl hn ht h78 hF
      have ew4 : CW4 sr sc st sh = _ := ew
      have hv := fok_v hF
      have hv5 : 1 ≤ (chA (sm 3) n (0 + 1) - 48).toInt ∧ (chA (sm 3) n (0 + 1) - 48).toInt ≤ 5 := by
        obtain ⟨k, hk, e⟩ := nat_of (N := 9) hv
        have hb := hF.2.2
        rw [e] at hb ⊢
        have := b62 ⟨k, by omega⟩ hb
        rw [ofn_t (by omega)]
        have t1 : 1 ≤ k := this.1
        have t2 : k ≤ 5 := this.2
        omega
      have ef := figR_ok (sm := RS sm (PFn bvN 26 (sm 1), 1, -9, 0, 0, 0, 0, 0)) (tm := tm) (g := sm 3) (n := n) (p := 0 + 1) (m := 62) rfl hl rfl rfl hF
      have eR0 : RH0 sm tm = (upd (PFn bvN 26 (sm 1)) (0 : Int32).toNatClampNeg (chA (sm 3) n (0 + 1) - 48), 0 + 1 + 1, -9, 0, 0, 0, 0, 0) := by
        unfold RH0; rw [ef]
      have eC0 : C0 sr sc st sh = (0 + 1 + 1, 0, EPf (sr 1) (J_X2_figures 0 0) (J_X2_figures 0 (chA (sm 3) n (0 + 1) - 48 - 1)) (J_X2_figures 0 2), (J_X4_clear sh).2) := by
        unfold C0; rw [ew4, ep_eq]
      have hlt := fok_lt hF
      have p2 : ((0 : Int32) + 1 + 1).toInt = 2 := by decide
      have p1 : ((0 : Int32) + 1).toInt = 1 := by decide
      have S : SIM n (chA (sm 3) n (0 + 1) - 48) (C0 sr sc st sh) (RH0 sm tm) := by
        rw [eC0, eR0]
        exact ⟨rfl, rfl, rfl, by show 0 ≤ ((0 : Int32) + 1 + 1).toInt; omega, by show ((0 : Int32) + 1 + 1).toInt ≤ n.toInt; omega, uok_start hu hv5, vok_start⟩
      have eC1 : (C0 sr sc st sh).1.toInt = 2 := by rw [eC0]; exact p2
      have o := sim_run (sr := sr) (sc := sc) (sh := sh) (tm := tm) hn hl ht hn4 ⟨by omega, hv5.2⟩ 64 200 _ _ S (by omega) (by omega)
      have eW : (CW4 sr sc st sh).2.2.2 = chA (sm 3) n (0 + 1) - 48 := by rw [ew4]
      rw [← eW, hB2, hA, eW] at o
      rw [eR]
      rcases o with ⟨t1, t2, t3⟩ | S2
      · have e1 : J_X2_stoppedAt (CSc sc b.1 b.2.1) st = b.1 := sa_1 t1
        refine ⟨e1.trans t2.symm, fun q => ?_⟩
        rw [e1] at q
        exact absurd q (n9 t3)
      · have e1 : J_X2_stoppedAt (CSc sc b.1 b.2.1) st = -9 := sa_0 S2.2.1
        refine ⟨e1.trans S2.2.2.1.symm, fun _ => ?_⟩
        show VOK A.1 (CW4 sr sc st sh).2.2.2 b.2.2.2
        rw [eW]
        exact S2.2.2.2.2.2.2
    · have ew := rw_b (sr := sr) (sc := CSc sc (J_X2_start sc st).1 (J_X2_start sc st).2) (sh := CSh sh (J_X4_clear sh).1 (CA sr sc st sh)) rfl hn ht h78 hF
      have e1 := stop (0 + 1) (by decide) ew.1 ew.2
      have ef := figR_no (sm := RS sm (PFn bvN 26 (sm 1), 1, -9, 0, 0, 0, 0, 0)) (tm := tm) (g := sm 3) (n := n) (p := 0 + 1) (m := 62) rfl hl rfl rfl hF
      have e2 : (J_X12_readHouse sm tm).1 = 0 + 1 := by
        rw [eR]
        have z : (RH0 sm tm).2.2.1 = 0 + 1 := by unfold RH0; rw [ef]
        rw [rit_any (Or.inr (by rw [z]; decide))] at hA
        rw [← hA]
        exact z
      exact ⟨e1.trans e2.symm, fun q => absurd (e1.symm.trans q) (by decide)⟩
  · have ew := rw_a (sr := sr) (sc := CSc sc (J_X2_start sc st).1 (J_X2_start sc st).2) (sh := CSh sh (J_X4_clear sh).1 (CA sr sc st sh)) rfl hn ht h78
    have e1 := stop 0 (by decide) ew.1 ew.2
    have e2 : (J_X12_readHouse sm tm).1 = 0 := by
      unfold J_X12_readHouse
      by_cases r0 : sm 0 3 = 0
      · rw [if_pos r0]
      · rw [if_neg r0]
        have hn1 : ¬ n ≤ 0 := fun q => r0 (by rw [hl]; exact Int32.toInt_inj.mp (by have z := Int32.le_iff_toInt_le.mp q; have y : (0 : Int32).toInt = 0 := (by decide); omega))
        rw [chA, if_neg hn1] at h78
        rw [if_neg h78]
    exact ⟨e1.trans e2.symm, fun q => absurd (e1.symm.trans q) (by decide)⟩
