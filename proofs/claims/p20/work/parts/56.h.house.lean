/-! what a HOUSE holds: ranges; what both sides have after make -/
def HRG (w d : Nat → Int32) (pay sp lg tp ap bo fl : Int32) : Prop := (∀ j : Nat, j < 5 → 0 ≤ (w j).toInt ∧ (w j).toInt ≤ 99) ∧ (∀ j : Nat, j < 3 → 0 ≤ (d j).toInt ∧ (d j).toInt ≤ 9) ∧ (0 ≤ pay.toInt ∧ pay.toInt ≤ 9) ∧ (0 ≤ sp.toInt ∧ sp.toInt ≤ 9) ∧ (-9 ≤ lg.toInt ∧ lg.toInt ≤ 9) ∧ (-9 ≤ tp.toInt ∧ tp.toInt ≤ 9) ∧ (-9 ≤ ap.toInt ∧ ap.toInt ≤ 9) ∧ (-9 ≤ bo.toInt ∧ bo.toInt ≤ 9) ∧ (bo = -9 → fl = 0)
def HRT (t : SP) : Prop := HRG t.2.1 t.2.2.2.2.1 t.2.2.2.2.2.1 t.2.2.2.2.2.2.1 t.2.2.2.2.2.2.2.1 t.2.2.2.2.2.2.2.2.1 t.2.2.2.2.2.2.2.2.2.1 t.2.2.2.2.2.2.2.2.2.2.1 t.2.2.2.2.2.2.2.2.2.2.2
def HT (sh : Nat → Nat → Int32) : SP := (sh 0 1, sh 1, sh 2, sh 3, sh 4, sh 0 6, sh 0 7, sh 0 8, sh 0 9, sh 0 10, sh 0 11, sh 0 12)
theorem hrg_pm {sh : Nat → Nat → Int32} {L x y : Int32} (h : HRT (HT sh)) (hx : 0 ≤ x.toInt ∧ x.toInt ≤ 9) : HRG (sh 1) (sh 4) (sh 0 6) (sh 0 7) (J_X4_putMeans sh L x y).1 (J_X4_putMeans sh L x y).2.1 (J_X4_putMeans sh L x y).2.2.1 (J_X4_putMeans sh L x y).2.2.2.1 (J_X4_putMeans sh L x y).2.2.2.2 := by
  obtain ⟨h1, h2, h3, h4, h5, h6, h7, h8, h9⟩ := h
  have hx2 : -9 ≤ x.toInt ∧ x.toInt ≤ 9 := ⟨by omega, hx.2⟩
  have hn : x = -9 → y = 0 := fun q => absurd hx.1 (by rw [q]; decide)
  unfold J_X4_putMeans
  by_cases c1 : L = 65
  · rw [if_pos c1]; exact ⟨h1, h2, h3, h4, h5, h6, hx2, h8, h9⟩
  · rw [if_neg c1]
    by_cases c2 : L = 66
    · rw [if_pos c2]; exact ⟨h1, h2, h3, h4, h5, h6, h7, hx2, hn⟩
    · rw [if_neg c2]
      by_cases c3 : L = 71
      · rw [if_pos c3]; exact ⟨h1, h2, h3, h4, hx2, h6, h7, h8, h9⟩
      · rw [if_neg c3]
        by_cases c4 : L = 84
        · rw [if_pos c4]; exact ⟨h1, h2, h3, h4, h5, hx2, h7, h8, h9⟩
        · rw [if_neg c4]; exact ⟨h1, h2, h3, h4, h5, h6, h7, h8, h9⟩
theorem hr_if {c : Prop} [Decidable c] {a b : SP} (h1 : HRT a) (h2 : HRT b) : HRT (if c then a else b) := by
  by_cases q : c
  · rw [if_pos q]; exact h1
  · rw [if_neg q]; exact h2
theorem upd_rg {f : Nat → Int32} {i n : Nat} {x : Int32} {lo hi : Int} (h : ∀ j : Nat, j < n → lo ≤ (f j).toInt ∧ (f j).toInt ≤ hi) (hx : lo ≤ x.toInt ∧ x.toInt ≤ hi) : ∀ j : Nat, j < n → lo ≤ (upd f i x j).toInt ∧ (upd f i x j).toInt ≤ hi := by
  intro j hj
  by_cases e : j = i
  · rw [e, pk_us]; exact hx
  · rw [pk_un e]; exact h j hj
theorem hrt_put {sh : Nat → Nat → Int32} {L a x y : Int32} (h : HRT (HT sh)) (hx : 0 ≤ x.toInt ∧ x.toInt ≤ 9) (hy : 0 ≤ y.toInt ∧ y.toInt ≤ 9) : HRT (J_X4_put sh L a x y) := by
  have hM : HRG (sh 1) (sh 4) (sh 0 6) (sh 0 7) (J_X4_putMeans sh L x y).1 (J_X4_putMeans sh L x y).2.1 (J_X4_putMeans sh L x y).2.2.1 (J_X4_putMeans sh L x y).2.2.2.1 (J_X4_putMeans sh L x y).2.2.2.2 := hrg_pm h hx
  have hm : ((10 : Int32) * x).toInt = 10 * x.toInt := i_mul (by decide) rfl (by omega) (by omega)
  have hs : ((10 : Int32) * x + y).toInt = 10 * x.toInt + y.toInt := i_add hm rfl (by omega) (by omega)
  obtain ⟨h1, h2, h3, h4, h5, h6, h7, h8, h9⟩ := id h
  have hD : HRT (sh 0 1, sh 1, sh 2, sh 3, upd (sh 4) a.toNatClampNeg x, sh 0 6, sh 0 7, sh 0 8, sh 0 9, sh 0 10, sh 0 11, sh 0 12) := ⟨h1, upd_rg h2 hx, h3, h4, h5, h6, h7, h8, h9⟩
  have hW : HRT (sh 0 1, upd (sh 1) a.toNatClampNeg (10 * x + y), sh 2, sh 3, sh 4, sh 0 6, sh 0 7, sh 0 8, sh 0 9, sh 0 10, sh 0 11, sh 0 12) := ⟨upd_rg h1 (by rw [hs]; omega), h2, h3, h4, h5, h6, h7, h8, h9⟩
  have hP : HRT (sh 0 1, sh 1, sh 2, sh 3, sh 4, x, sh 0 7, sh 0 8, sh 0 9, sh 0 10, sh 0 11, sh 0 12) := ⟨h1, h2, hx, h4, h5, h6, h7, h8, h9⟩
  have hS : HRT (sh 0 1, sh 1, sh 2, sh 3, sh 4, sh 0 6, x, sh 0 8, sh 0 9, sh 0 10, sh 0 11, sh 0 12) := ⟨h1, h2, h3, hx, h5, h6, h7, h8, h9⟩
  unfold J_X4_put
  dsimp only
  exact hr_if hD (hr_if hM (hr_if hM (hr_if hM (hr_if h (hr_if hM (hr_if hM (hr_if hM (hr_if hM (hr_if hM (hr_if hM (hr_if h (hr_if hP (hr_if h (hr_if hM (hr_if hS (hr_if hM (hr_if hM (hr_if hM (hr_if hW (hM))))))))))))))))))))
def HRP (t : SC) : Prop := HRT t.2.2.2
theorem hp_if {c : Prop} [Decidable c] {a b : SC} (h1 : c → HRP a) (h2 : ¬ c → HRP b) : HRP (if c then a else b) := by
  by_cases q : c
  · rw [if_pos q]; exact h1 q
  · rw [if_neg q]; exact h2 q
theorem fig_v {sc st : Nat → Nat → Int32} {m : Int32} (q : ¬ (J_X2_figure sc st m).1 = -9) : 0 ≤ (J_X2_figure sc st m).1.toInt ∧ (J_X2_figure sc st m).1.toInt ≤ 9 := by
  dsimp only [J_X2_figure] at q ⊢
  by_cases c1 : J_X2_here sc st - 48 < 0
  · rw [if_pos c1] at q; exact absurd rfl q
  · rw [if_neg c1] at q ⊢
    by_cases c2 : 9 < J_X2_here sc st - 48
    · rw [if_pos c2] at q; exact absurd rfl q
    · rw [if_neg c2] at q ⊢
      by_cases c3 : ((m >>> ((J_X2_here sc st - 48) &&& 31)) &&& 1) = 0
      · rw [if_pos c3] at q; exact absurd rfl q
      · rw [if_neg c3]; exact ⟨f_nlt rfl (by decide) c1, f_nlt (by decide) rfl c2⟩
theorem z09 : 0 ≤ (0 : Int32).toInt ∧ (0 : Int32).toInt ≤ 9 := by decide
theorem hrt_part {sr sc st sh : Nat → Nat → Int32} (h : HRT (HT sh)) : HRP (J_X5_readPart sr sc st sh) := by
  unfold J_X5_readPart
  dsimp only [LetF]
  refine hp_if (fun _ => h) (fun _ => hp_if (fun _ => h) (fun _ => hp_if (fun _ => h) (fun _ => hp_if (fun _ => ?_) (fun _ => ?_))))
  · exact hp_if (fun _ => h) (fun q1 => hp_if (fun _ => hrt_put h (fig_v q1) z09) (fun _ => hp_if (fun _ => h) (fun q2 => hrt_put h (fig_v q1) (fig_v q2))))
  · exact hp_if (fun _ => h) (fun _ => hp_if (fun _ => h) (fun q1 => hp_if (fun _ => hrt_put h (fig_v q1) z09) (fun _ => hp_if (fun _ => h) (fun q2 => hrt_put h (fig_v q1) (fig_v q2)))))
theorem hrt_cit {sr sc st sh : Nat → Nat → Int32} {w : Int32} : ∀ (k : Nat) (a : SC), HRT a.2.2.2 → HRT (CIT sr sc st sh w k a).2.2.2 := by
  intro k
  induction k with
  | zero => intro a h; exact h
  | succ k ih =>
    intro a h
    by_cases q : J_X2_hasMore (CSc sc a.1 a.2.1) st = 0
    · rw [cit_any q]; exact h
    · have e : CIT sr sc st sh w (k + 1) a = CIT sr sc st sh w k (CP sr sc st sh w a) := if_neg q
      rw [e]; exact ih _ (hrt_part (sr := CSr sr a) (sc := CSc sc a.1 a.2.1) (st := st) (sh := CSh sh w a) h)
theorem hrt_clear {sh : Nat → Nat → Int32} : HRT (J_X4_clear sh).2 := by
  have p1 : 0 ≤ (1 : Int32).toInt ∧ (1 : Int32).toInt ≤ 9 := by decide
  have p9 : -9 ≤ (-9 : Int32).toInt ∧ (-9 : Int32).toInt ≤ 9 := by decide
  refine ⟨fun j hj => ?_, fun j hj => ?_, p1, p1, p9, p9, p9, p9, fun _ => rfl⟩
  · have e : (J_X4_clear sh).2.2.1 j = 0 := if_pos hj
    rw [e]; decide
  · have e : (J_X4_clear sh).2.2.2.2.2.1 j = 4 := if_pos hj
    rw [e]; decide
theorem hrt_read {sr sc st sh : Nat → Nat → Int32} : HRT (J_X5_read sr sc st sh).2.2.2.2.2 := by
  have c : HRT (C0 sr sc st sh).2.2.2 := by rw [c0_eq]; exact hrt_clear
  have b : HRT (CB sr sc st sh).2.2.2 := by rw [cb_eq]; exact hrt_cit _ _ c
  rw [rd_eq]
  generalize CB sr sc st sh = z at b ⊢
  exact b
def LIV (f : Nat → Int32) (o d w h c od k cs : Int32) : Prop := f 0 = w ∧ f 1 = h ∧ f 2 = c ∧ f 3 = k ∧ f 4 = cs ∧ o = od ∧ (k = 1 → d = h) ∧ (0 ≤ c.toInt ∧ c.toInt ≤ 2) ∧ (0 ≤ od.toInt ∧ od.toInt ≤ 2)
def LV1 (f : Nat → Int32) (w h c od k cs : Int32) : Prop := LIV f (f 5) (f 6) w h c od k cs
def LV2 (f : Nat → Int32) (w h c od k cs : Int32) : Prop := LIV (fun j => f (7 + j)) (f 12) (f 13) w h c od k cs
def KPF (f g : Nat → Int32) : Prop := f 0 = g 0 ∧ f 1 = g 1
def WLT (k w W : Int32) : Prop := k = 1 → w.toInt < W.toInt
def KWL (f k w W : Int32) : Prop := ¬ f = 0 → WLT k w W
def CPT (sh so : Nat → Nat → Int32) : Nat → Int32 := (J_X4_copy sh so 0).2.2.2.2.2.2.2.2.2.2.2.2.2
theorem cp_0 {sh so : Nat → Nat → Int32} : J_X4_copy sh so 0 = (so 0 0, so 0 1, va_cpy (so 1) (sh 1) ((0 : Int32).toNatClampNeg) ((0 : Int32).toNatClampNeg) ((5 : Int32).toNatClampNeg), va_cpy (so 2) (sh 2) ((0 : Int32).toNatClampNeg) ((0 : Int32).toNatClampNeg) ((5 : Int32).toNatClampNeg), va_cpy (so 3) (sh 3) ((0 : Int32).toNatClampNeg) ((0 : Int32).toNatClampNeg) ((3 : Int32).toNatClampNeg), va_cpy (so 4) (sh 4) ((0 : Int32).toNatClampNeg) ((0 : Int32).toNatClampNeg) ((3 : Int32).toNatClampNeg), so 0 6, so 0 7, so 0 8, so 0 9, so 0 10, so 0 11, so 0 12, CPT sh so) := by
  unfold CPT J_X4_copy
  rw [if_pos (by decide), if_pos (by decide), if_pos (by decide), if_pos (by decide), if_pos (by decide)]
theorem cpy_j {f g : Nat → Int32} {n : Int32} {j : Nat} (h : j < n.toNatClampNeg) : va_cpy f g ((0 : Int32).toNatClampNeg) ((0 : Int32).toNatClampNeg) n.toNatClampNeg j = f j := by
  rw [show ((0 : Int32).toNatClampNeg) = 0 from by decide, pk_cpy_in (Nat.zero_le _) (by omega)]
  rw [Nat.zero_add, Nat.sub_zero]
theorem vok_cpy {V : Nat → Int32} {w : Int32} {t : SP} {g1 g2 g3 g4 : Nat → Int32} (h : VOK V w t) : VOK V w (t.1, va_cpy t.2.1 g1 ((0 : Int32).toNatClampNeg) ((0 : Int32).toNatClampNeg) ((5 : Int32).toNatClampNeg), va_cpy t.2.2.1 g2 ((0 : Int32).toNatClampNeg) ((0 : Int32).toNatClampNeg) ((5 : Int32).toNatClampNeg), va_cpy t.2.2.2.1 g3 ((0 : Int32).toNatClampNeg) ((0 : Int32).toNatClampNeg) ((3 : Int32).toNatClampNeg), va_cpy t.2.2.2.2.1 g4 ((0 : Int32).toNatClampNeg) ((0 : Int32).toNatClampNeg) ((3 : Int32).toNatClampNeg), t.2.2.2.2.2) := by
  have n5 : (5 : Int32).toNatClampNeg = 5 := by decide
  have n3 : (3 : Int32).toNatClampNeg = 3 := by decide
  obtain ⟨h0, h1, h2, h3, h4, h5, h6, h7, h8, a1, a2, a3, a4⟩ := h
  exact ⟨h0, h1, h2, h3, h4, h5, h6, h7, h8, fun j hj => (a1 j hj).trans (cpy_j (by rw [n5]; exact hj)).symm, fun j hj => (a2 j hj).trans (cpy_j (by rw [n5]; exact hj)).symm, fun j hj => (a3 j hj).trans (cpy_j (by rw [n3]; exact hj)).symm, fun j hj => (a4 j hj).trans (cpy_j (by rw [n3]; exact hj)).symm⟩
theorem hrt_cpy {t : SP} {g1 g2 g3 g4 : Nat → Int32} (h : HRT t) : HRT (t.1, va_cpy t.2.1 g1 ((0 : Int32).toNatClampNeg) ((0 : Int32).toNatClampNeg) ((5 : Int32).toNatClampNeg), va_cpy t.2.2.1 g2 ((0 : Int32).toNatClampNeg) ((0 : Int32).toNatClampNeg) ((5 : Int32).toNatClampNeg), va_cpy t.2.2.2.1 g3 ((0 : Int32).toNatClampNeg) ((0 : Int32).toNatClampNeg) ((3 : Int32).toNatClampNeg), va_cpy t.2.2.2.2.1 g4 ((0 : Int32).toNatClampNeg) ((0 : Int32).toNatClampNeg) ((3 : Int32).toNatClampNeg), t.2.2.2.2.2) := by
  have n5 : (5 : Int32).toNatClampNeg = 5 := by decide
  have n3 : (3 : Int32).toNatClampNeg = 3 := by decide
  obtain ⟨h1, h2, h3⟩ := h
  exact ⟨fun j hj => by have e := cpy_j (f := t.2.1) (g := g1) (n := 5) (j := j) (by rw [n5]; exact hj); show 0 ≤ (va_cpy t.2.1 g1 ((0 : Int32).toNatClampNeg) ((0 : Int32).toNatClampNeg) ((5 : Int32).toNatClampNeg) j).toInt ∧ (va_cpy t.2.1 g1 ((0 : Int32).toNatClampNeg) ((0 : Int32).toNatClampNeg) ((5 : Int32).toNatClampNeg) j).toInt ≤ 99; rw [e]; exact h1 j hj, fun j hj => by have e := cpy_j (f := t.2.2.2.2.1) (g := g4) (n := 3) (j := j) (by rw [n3]; exact hj); show 0 ≤ (va_cpy t.2.2.2.2.1 g4 ((0 : Int32).toNatClampNeg) ((0 : Int32).toNatClampNeg) ((3 : Int32).toNatClampNeg) j).toInt ∧ (va_cpy t.2.2.2.2.1 g4 ((0 : Int32).toNatClampNeg) ((0 : Int32).toNatClampNeg) ((3 : Int32).toNatClampNeg) j).toInt ≤ 9; rw [e]; exact h2 j hj, h3⟩
theorem vok_pf {V f : Nat → Int32} {w : Int32} {t : SP} (h : VOK V w t) : VOK (PFn V 26 f) w t := by
  obtain ⟨h0, h1, h2, h3, h4, h5, h6, h7, h8, a1, a2, a3, a4⟩ := h
  exact ⟨(pf_at (by decide)).trans h0, (pf_at (by decide)).trans h1, (pf_at (by decide)).trans h2, (pf_at (by decide)).trans h3, (pf_at (by decide)).trans h4, (pf_at (by decide)).trans h5, (pf_at (by decide)).trans h6, (pf_at (by decide)).trans h7, (pf_at (by decide)).trans h8, fun j hj => (pf_at (by omega)).trans (a1 j hj), fun j hj => (pf_at (by omega)).trans (a2 j hj), fun j hj => (pf_at (by omega)).trans (a3 j hj), fun j hj => (pf_at (by omega)).trans (a4 j hj)⟩
theorem mk_c {sx shr shc st sd sh ssu : Nat → Nat → Int32} {y : Int32 × Int32 × Int32 × (Nat → Int32) × Int32 × SP} (hy : (J_X5_read (lS [(lI []), (shr 1)]) shc (lS [(lI [0, (st 0 1)]), (st 1)]) (lS [(lI [(sd 0 0), (sd 0 1), 0, 0, 0, 0, (sd 0 6), (sd 0 7), (sd 0 8), (sd 0 9), (sd 0 10), (sd 0 11), (sd 0 12)]), (sd 1), (sd 2), (sd 3), (sd 4), (sd 5)])) = y) (q : y.1 = -9) : J_X11_make sx shr shc st sd sh ssu = (y.2.2.2.2.1, y.2.2.2.1, y.2.2.2.2.1, y.2.2.2.2.2.1, va_cpy y.2.2.2.2.2.2.1 (sh 1) ((0 : Int32).toNatClampNeg) ((0 : Int32).toNatClampNeg) ((5 : Int32).toNatClampNeg), va_cpy y.2.2.2.2.2.2.2.1 (sh 2) ((0 : Int32).toNatClampNeg) ((0 : Int32).toNatClampNeg) ((5 : Int32).toNatClampNeg), va_cpy y.2.2.2.2.2.2.2.2.1 (sh 3) ((0 : Int32).toNatClampNeg) ((0 : Int32).toNatClampNeg) ((3 : Int32).toNatClampNeg), va_cpy y.2.2.2.2.2.2.2.2.2.1 (sh 4) ((0 : Int32).toNatClampNeg) ((0 : Int32).toNatClampNeg) ((3 : Int32).toNatClampNeg), y.2.2.2.2.2.2.2.2.2.2.1, y.2.2.2.2.2.2.2.2.2.2.2.1, y.2.2.2.2.2.2.2.2.2.2.2.2.1, y.2.2.2.2.2.2.2.2.2.2.2.2.2.1, y.2.2.2.2.2.2.2.2.2.2.2.2.2.2.1, y.2.2.2.2.2.2.2.2.2.2.2.2.2.2.2.1, y.2.2.2.2.2.2.2.2.2.2.2.2.2.2.2.2, CPT (lS [(lI [(sh 0 0), (sh 0 1), 0, 0, 0, 0, (sh 0 6), (sh 0 7), (sh 0 8), (sh 0 9), (sh 0 10), (sh 0 11), (sh 0 12)]), (sh 1), (sh 2), (sh 3), (sh 4), (sh 5)]) (lS [(lI [y.2.2.2.2.1, y.2.2.2.2.2.1, 0, 0, 0, 0, y.2.2.2.2.2.2.2.2.2.2.1, y.2.2.2.2.2.2.2.2.2.2.2.1, y.2.2.2.2.2.2.2.2.2.2.2.2.1, y.2.2.2.2.2.2.2.2.2.2.2.2.2.1, y.2.2.2.2.2.2.2.2.2.2.2.2.2.2.1, y.2.2.2.2.2.2.2.2.2.2.2.2.2.2.2.1, y.2.2.2.2.2.2.2.2.2.2.2.2.2.2.2.2]), y.2.2.2.2.2.2.1, y.2.2.2.2.2.2.2.1, y.2.2.2.2.2.2.2.2.1, y.2.2.2.2.2.2.2.2.2.1, (sd 5)]), 0, 0, 0, 0, 0, 0, (PFn (fun _ => vp_nar .boolean 0) 2 (sx 2))) := by
  dsimp only [J_X11_make, LetF]
  rw [hy, if_pos q, cp_0]
  rfl
theorem mk_cn {sx shr shc st sd sh ssu : Nat → Nat → Int32} {y : Int32 × Int32 × Int32 × (Nat → Int32) × Int32 × SP} (hy : (J_X5_read (lS [(lI []), (shr 1)]) shc (lS [(lI [0, (st 0 1)]), (st 1)]) (lS [(lI [(sd 0 0), (sd 0 1), 0, 0, 0, 0, (sd 0 6), (sd 0 7), (sd 0 8), (sd 0 9), (sd 0 10), (sd 0 11), (sd 0 12)]), (sd 1), (sd 2), (sd 3), (sd 4), (sd 5)])) = y) (q : ¬ y.1 = -9) : J_X11_make sx shr shc st sd sh ssu = (-3, y.2.2.2.1, sh 0 0, sh 0 1, sh 1, sh 2, sh 3, sh 4, sh 0 6, sh 0 7, sh 0 8, sh 0 9, sh 0 10, sh 0 11, sh 0 12, sh 5, ssu 0 0, ssu 0 1, ssu 0 2, ssu 0 3, ssu 0 4, ssu 0 5, sx 2) := by
  dsimp only [J_X11_make, LetF]
  rw [hy, if_neg q]
theorem mk_r {sm : Nat → Nat → Int32} {tm : Nat → Nat → Int64} {y : Int32 × (Nat → Int32) × Int32 × Int32 × Int32 × Int32 × Int32 × Int32 × Int32} (hy : J_X12_readHouse sm tm = y) (q : y.1 = -9) : J_X12_make sm tm = (PFn y.2.1 26 (sm 2) (0 : Int32).toNatClampNeg, y.2.1, y.2.2.1, y.2.2.2.1, y.2.2.2.2.1, y.2.2.2.2.2.1, y.2.2.2.2.2.2.1, y.2.2.2.2.2.2.2.1, y.2.2.2.2.2.2.2.2, PFn y.2.1 26 (sm 2), (upd (upd (sm 14) (0 : Int32).toNatClampNeg (vp_nar .boolean 0)) (1 : Int32).toNatClampNeg (vp_nar .boolean 0)), PFn (fun _ => 0) 5 (sm 13), 0, 0) := by
  dsimp only [J_X12_make]
  rw [hy, if_pos q]
  rfl
theorem mk_rn {sm : Nat → Nat → Int32} {tm : Nat → Nat → Int64} {y : Int32 × (Nat → Int32) × Int32 × Int32 × Int32 × Int32 × Int32 × Int32 × Int32} (hy : J_X12_readHouse sm tm = y) (q : ¬ y.1 = -9) : J_X12_make sm tm = (-3, y.2.1, y.2.2.1, y.2.2.2.1, y.2.2.2.2.1, y.2.2.2.2.2.1, y.2.2.2.2.2.2.1, y.2.2.2.2.2.2.2.1, y.2.2.2.2.2.2.2.2, sm 2, sm 14, sm 13, sm 0 22, sm 0 23) := by
  dsimp only [J_X12_make]
  rw [hy, if_neg q]
theorem make_alike {sx shr shc st sd sh ssu sk1 sk2 sm : Nat → Nat → Int32} {tm : Nat → Nat → Int64} {t : Int32 × (Nat → Int32) × Int32 × Int32 × (Nat → Int32) × (Nat → Int32) × (Nat → Int32) × (Nat → Int32) × Int32 × Int32 × Int32 × Int32 × Int32 × Int32 × Int32 × (Nat → Int32) × Int32 × Int32 × Int32 × Int32 × Int32 × Int32 × (Nat → Int32)} {t2 : Int32 × (Nat → Int32) × Int32 × Int32 × Int32 × Int32 × Int32 × Int32 × Int32 × (Nat → Int32) × (Nat → Int32) × (Nat → Int32) × Int32 × Int32} (h1 : t = J_X11_make sx shr shc st sd sh ssu) (h2 : t2 = J_X12_make sm tm) (hn : (sm 0 3).toInt = (st 0 1).toInt) (hb : 0 ≤ (st 0 1).toInt ∧ (st 0 1).toInt ≤ 64) (htx : TX (st 1) (sm 3) (st 0 1)) (hu : U0 (shr 1)) (hv : VOK (sm 2) (sh 0 0) (sh 0 1, sh 1, sh 2, sh 3, sh 4, sh 0 6, sh 0 7, sh 0 8, sh 0 9, sh 0 10, sh 0 11, sh 0 12)) (hr : HRT (sh 0 1, sh 1, sh 2, sh 3, sh 4, sh 0 6, sh 0 7, sh 0 8, sh 0 9, sh 0 10, sh 0 11, sh 0 12)) (hl : LIV (sm 13) (sm 0 22) (sm 0 23) (ssu 0 0) (ssu 0 1) (ssu 0 2) (ssu 0 3) (ssu 0 4) (ssu 0 5)) (hk : KPF (sx 2) (sm 14)) (hl2 : WLT (ssu 0 4) (ssu 0 0) (sh 0 0)) (b1 : KWL (sx 2 0) (sk1 0 4) (sk1 0 0) (sh 0 0)) (b2 : KWL (sx 2 1) (sk2 0 4) (sk2 0 0) (sh 0 0)) :
    t.1 = t2.1 ∧ U0 t.2.1 ∧ VOK t2.2.2.2.2.2.2.2.2.2.1 t.2.2.1 (t.2.2.2.1, t.2.2.2.2.1, t.2.2.2.2.2.1, t.2.2.2.2.2.2.1, t.2.2.2.2.2.2.2.1, t.2.2.2.2.2.2.2.2.1, t.2.2.2.2.2.2.2.2.2.1, t.2.2.2.2.2.2.2.2.2.2.1, t.2.2.2.2.2.2.2.2.2.2.2.1, t.2.2.2.2.2.2.2.2.2.2.2.2.1, t.2.2.2.2.2.2.2.2.2.2.2.2.2.1, t.2.2.2.2.2.2.2.2.2.2.2.2.2.2.1) ∧ HRT (t.2.2.2.1, t.2.2.2.2.1, t.2.2.2.2.2.1, t.2.2.2.2.2.2.1, t.2.2.2.2.2.2.2.1, t.2.2.2.2.2.2.2.2.1, t.2.2.2.2.2.2.2.2.2.1, t.2.2.2.2.2.2.2.2.2.2.1, t.2.2.2.2.2.2.2.2.2.2.2.1, t.2.2.2.2.2.2.2.2.2.2.2.2.1, t.2.2.2.2.2.2.2.2.2.2.2.2.2.1, t.2.2.2.2.2.2.2.2.2.2.2.2.2.2.1) ∧ LIV t2.2.2.2.2.2.2.2.2.2.2.2.1 t2.2.2.2.2.2.2.2.2.2.2.2.2.1 t2.2.2.2.2.2.2.2.2.2.2.2.2.2 t.2.2.2.2.2.2.2.2.2.2.2.2.2.2.2.2.1 t.2.2.2.2.2.2.2.2.2.2.2.2.2.2.2.2.2.1 t.2.2.2.2.2.2.2.2.2.2.2.2.2.2.2.2.2.2.1 t.2.2.2.2.2.2.2.2.2.2.2.2.2.2.2.2.2.2.2.1 t.2.2.2.2.2.2.2.2.2.2.2.2.2.2.2.2.2.2.2.2.1 t.2.2.2.2.2.2.2.2.2.2.2.2.2.2.2.2.2.2.2.2.2.1 ∧ KPF t.2.2.2.2.2.2.2.2.2.2.2.2.2.2.2.2.2.2.2.2.2.2 t2.2.2.2.2.2.2.2.2.2.2.1 ∧ WLT t.2.2.2.2.2.2.2.2.2.2.2.2.2.2.2.2.2.2.2.2.1 t.2.2.2.2.2.2.2.2.2.2.2.2.2.2.2.2.1 t.2.2.1 ∧ KWL (t.2.2.2.2.2.2.2.2.2.2.2.2.2.2.2.2.2.2.2.2.2.2 0) (sk1 0 4) (sk1 0 0) t.2.2.1 ∧ KWL (t.2.2.2.2.2.2.2.2.2.2.2.2.2.2.2.2.2.2.2.2.2.2 1) (sk2 0 4) (sk2 0 0) t.2.2.1 := by
  have en : sm 0 3 = st 0 1 := Int32.toInt_inj.mp hn
  have ha := house_alike (sr := (lS [(lI []), (shr 1)])) (sc := shc) (st := (lS [(lI [0, (st 0 1)]), (st 1)])) (sh := (lS [(lI [(sd 0 0), (sd 0 1), 0, 0, 0, 0, (sd 0 6), (sd 0 7), (sd 0 8), (sd 0 9), (sd 0 10), (sd 0 11), (sd 0 12)]), (sd 1), (sd 2), (sd 3), (sd 4), (sd 5)])) (sm := sm) (tm := tm) (n := st 0 1) rfl en htx hb.1 hb.2 hu
  have hg : HRT (J_X5_read (lS [(lI []), (shr 1)]) shc (lS [(lI [0, (st 0 1)]), (st 1)]) (lS [(lI [(sd 0 0), (sd 0 1), 0, 0, 0, 0, (sd 0 6), (sd 0 7), (sd 0 8), (sd 0 9), (sd 0 10), (sd 0 11), (sd 0 12)]), (sd 1), (sd 2), (sd 3), (sd 4), (sd 5)])).2.2.2.2.2 := hrt_read
  have hu2 : U0 (J_X5_read (lS [(lI []), (shr 1)]) shc (lS [(lI [0, (st 0 1)]), (st 1)]) (lS [(lI [(sd 0 0), (sd 0 1), 0, 0, 0, 0, (sd 0 6), (sd 0 7), (sd 0 8), (sd 0 9), (sd 0 10), (sd 0 11), (sd 0 12)]), (sd 1), (sd 2), (sd 3), (sd 4), (sd 5)])).2.2.2.1 := u0_read (sr := (lS [(lI []), (shr 1)])) hu
  obtain ⟨y, hy⟩ : ∃ z, (J_X5_read (lS [(lI []), (shr 1)]) shc (lS [(lI [0, (st 0 1)]), (st 1)]) (lS [(lI [(sd 0 0), (sd 0 1), 0, 0, 0, 0, (sd 0 6), (sd 0 7), (sd 0 8), (sd 0 9), (sd 0 10), (sd 0 11), (sd 0 12)]), (sd 1), (sd 2), (sd 3), (sd 4), (sd 5)])) = z := ⟨_, rfl⟩
  obtain ⟨y2, hy2⟩ : ∃ z, J_X12_readHouse sm tm = z := ⟨_, rfl⟩
  rw [hy, hy2] at ha
  rw [hy] at hg hu2
  have n0 : (0 : Int32).toNatClampNeg = 0 := by decide
  have n1 : (1 : Int32).toNatClampNeg = 1 := by decide
  by_cases q : y.1 = -9
  · have q2 : y2.1 = -9 := ha.1.symm.trans q
    have hvo := ha.2 q
    have hp := vok_pf (f := sm 2) hvo
    have hp2 : VOK (PFn y2.2.1 26 (sm 2)) y.2.2.2.2.1 (y.2.2.2.2.2.1, va_cpy y.2.2.2.2.2.2.1 (sh 1) ((0 : Int32).toNatClampNeg) ((0 : Int32).toNatClampNeg) ((5 : Int32).toNatClampNeg), va_cpy y.2.2.2.2.2.2.2.1 (sh 2) ((0 : Int32).toNatClampNeg) ((0 : Int32).toNatClampNeg) ((5 : Int32).toNatClampNeg), va_cpy y.2.2.2.2.2.2.2.2.1 (sh 3) ((0 : Int32).toNatClampNeg) ((0 : Int32).toNatClampNeg) ((3 : Int32).toNatClampNeg), va_cpy y.2.2.2.2.2.2.2.2.2.1 (sh 4) ((0 : Int32).toNatClampNeg) ((0 : Int32).toNatClampNeg) ((3 : Int32).toNatClampNeg), y.2.2.2.2.2.2.2.2.2.2.1, y.2.2.2.2.2.2.2.2.2.2.2.1, y.2.2.2.2.2.2.2.2.2.2.2.2.1, y.2.2.2.2.2.2.2.2.2.2.2.2.2.1, y.2.2.2.2.2.2.2.2.2.2.2.2.2.2.1, y.2.2.2.2.2.2.2.2.2.2.2.2.2.2.2.1, y.2.2.2.2.2.2.2.2.2.2.2.2.2.2.2.2) := vok_cpy hp
    have hg2 : HRT (y.2.2.2.2.2.1, va_cpy y.2.2.2.2.2.2.1 (sh 1) ((0 : Int32).toNatClampNeg) ((0 : Int32).toNatClampNeg) ((5 : Int32).toNatClampNeg), va_cpy y.2.2.2.2.2.2.2.1 (sh 2) ((0 : Int32).toNatClampNeg) ((0 : Int32).toNatClampNeg) ((5 : Int32).toNatClampNeg), va_cpy y.2.2.2.2.2.2.2.2.1 (sh 3) ((0 : Int32).toNatClampNeg) ((0 : Int32).toNatClampNeg) ((3 : Int32).toNatClampNeg), va_cpy y.2.2.2.2.2.2.2.2.2.1 (sh 4) ((0 : Int32).toNatClampNeg) ((0 : Int32).toNatClampNeg) ((3 : Int32).toNatClampNeg), y.2.2.2.2.2.2.2.2.2.2.1, y.2.2.2.2.2.2.2.2.2.2.2.1, y.2.2.2.2.2.2.2.2.2.2.2.2.1, y.2.2.2.2.2.2.2.2.2.2.2.2.2.1, y.2.2.2.2.2.2.2.2.2.2.2.2.2.2.1, y.2.2.2.2.2.2.2.2.2.2.2.2.2.2.2.1, y.2.2.2.2.2.2.2.2.2.2.2.2.2.2.2.2) := hrt_cpy hg
    have hk0 : (PFn (fun _ => vp_nar .boolean 0) 2 (sx 2)) 0 = 0 := by show vp_nar .boolean 0 = 0; decide
    have hk1 : (PFn (fun _ => vp_nar .boolean 0) 2 (sx 2)) 1 = 0 := by show vp_nar .boolean 0 = 0; decide
    rw [h1, h2, mk_c hy q, mk_r hy2 q2, n0, n1]
    have z01 : ¬ (0 : Int32) = 1 := by decide
    have z02 : 0 ≤ (0 : Int32).toInt ∧ (0 : Int32).toInt ≤ 2 := by decide
    refine ⟨hp.1.symm, hu2, ?_, ?_, ⟨rfl, rfl, rfl, rfl, rfl, rfl, fun z => absurd z z01, z02, z02⟩, ⟨rfl, rfl⟩, fun z => absurd z z01, fun z => absurd hk0 z, fun z => absurd hk1 z⟩
    · rw [n0] at hp2; exact hp2
    · rw [n0] at hg2; exact hg2
  · have q2 : ¬ y2.1 = -9 := fun z => q (ha.1.trans z)
    rw [h1, h2, mk_cn hy q, mk_rn hy2 q2]
    exact ⟨rfl, hu2, hv, hr, hl, hk, hl2, b1, b2⟩
/-! the start -/
def ZR (f : Nat → Int32) : Prop := ∀ j : Nat, f j = 0
def CLM (f : Nat → Int32) : Prop := f 0 = 1 ∧ ∀ j : Nat, j ≠ 0 → j < 26 → f j = bvN j
theorem clm_of {f g h k : Nat → Int32} (e1 : f = PFn bvN 26 k) (e2 : g = upd f (0 : Int32).toNatClampNeg 1) (e3 : h = PFn g 26 k) : CLM h := by
  subst e1 e2 e3
  refine ⟨rfl, fun j h1 h2 => ?_⟩
  rw [pf_at h2, show ((0 : Int32).toNatClampNeg) = 0 from by decide, pk_un h1, pf_at h2]
def CLR (w : Int32) (t : SP) : Prop := w = 1 ∧ t.1 = 2 ∧ (∀ j : Nat, j < 5 → t.2.1 j = 0) ∧ (∀ j : Nat, j < 5 → t.2.2.1 j = 1) ∧ (∀ j : Nat, j < 3 → t.2.2.2.1 j = 1) ∧ (∀ j : Nat, j < 3 → t.2.2.2.2.1 j = 4) ∧ t.2.2.2.2.2 = (1, 1, -9, -9, -9, -9, 0)
theorem clr_of {sh : Nat → Nat → Int32} {t : Int32 × SP} (h : t = J_X4_clear sh) : CLR t.1 t.2 := by
  subst h
  exact ⟨rfl, rfl, fun j hj => if_pos hj, fun j hj => if_pos hj, fun j hj => if_pos hj, fun j hj => if_pos hj, rfl⟩
theorem vk_start {f : Nat → Int32} {w : Int32} {t : SP} (h : CLR w t) (m : CLM f) : VOK f w t := by
  obtain ⟨a0, a1, a2, a3, a4, a5, a6⟩ := h
  obtain ⟨m0, m1⟩ := m
  have p : ∀ k : Nat, k ≠ 0 → k < 26 → ∀ x y : Int32, bvN k = x → y = x → f k = y := fun k h1 h2 x y e1 e2 => (m1 k h1 h2).trans (e1.trans e2.symm)
  refine ⟨m0.trans a0.symm, p 1 (by decide) (by decide) 2 _ (by decide) a1, p 2 (by decide) (by decide) 1 _ (by decide) (by rw [a6]), p 3 (by decide) (by decide) 1 _ (by decide) (by rw [a6]), p 4 (by decide) (by decide) (-9) _ (by decide) (by rw [a6]), p 5 (by decide) (by decide) (-9) _ (by decide) (by rw [a6]), p 6 (by decide) (by decide) (-9) _ (by decide) (by rw [a6]), p 7 (by decide) (by decide) (-9) _ (by decide) (by rw [a6]), p 8 (by decide) (by decide) 0 _ (by decide) (by rw [a6]), fun j hj => ?_, fun j hj => ?_, fun j hj => ?_, fun j hj => ?_⟩
  · exact p (10 + j) (by omega) (by omega) 0 _ (bv_d1 ⟨j, hj⟩).1 (a2 j hj)
  · exact p (15 + j) (by omega) (by omega) 1 _ (bv_d1 ⟨j, hj⟩).2 (a3 j hj)
  · exact p (20 + j) (by omega) (by omega) 1 _ (bv_d2 ⟨j, hj⟩).1 (a4 j hj)
  · exact p (23 + j) (by omega) (by omega) 4 _ (bv_d2 ⟨j, hj⟩).2 (a5 j hj)
theorem rg_start {w : Int32} {t : SP} (h : CLR w t) : HRT t := by
  obtain ⟨a0, a1, a2, a3, a4, a5, a6⟩ := h
  unfold HRT
  rw [a6]
  exact ⟨fun j hj => by rw [a2 j hj]; decide, fun j hj => by rw [a5 j hj]; decide, by decide, by decide, by decide, by decide, by decide, by decide, fun _ => rfl⟩
def Z6 (w h c od k cs : Int32) : Prop := w = 0 ∧ h = 0 ∧ c = 0 ∧ od = 0 ∧ k = 0 ∧ cs = 0
theorem li_start {f : Nat → Int32} {o d w h c od k cs : Int32} (z : ZR f) (ho : o = 0) (hz : Z6 w h c od k cs) : LIV f o d w h c od k cs := by
  obtain ⟨z0, z1, z2, z3, z4, z5⟩ := hz
  subst z0 z1 z2 z3 z4 z5
  exact ⟨z 0, z 1, z 2, z 3, z 4, ho, fun q => absurd q (by decide), by decide, by decide⟩
theorem lv1_start {f : Nat → Int32} {w h c od k cs : Int32} (z : ZR f) (hz : Z6 w h c od k cs) : LV1 f w h c od k cs := li_start z (z 5) hz
theorem lv2_start {f : Nat → Int32} {w h c od k cs : Int32} (z : ZR f) (hz : Z6 w h c od k cs) : LV2 f w h c od k cs := li_start (fun j => z (7 + j)) (z 12) hz
theorem wl_start {w h c od k cs W : Int32} (hz : Z6 w h c od k cs) : WLT k w W := fun q => absurd (hz.2.2.2.2.1.symm.trans q) (by decide)
theorem kp_start {f g : Nat → Int32} (z : ZR f) (y : ZR g) : KPF f g := ⟨(z 0).trans (y 0).symm, (z 1).trans (y 1).symm⟩
theorem kw_start {f : Nat → Int32} {n : Nat} {k w W : Int32} (z : ZR f) : KWL (f n) k w W := fun q => absurd (z n) q
