def HNP (t : SC) : Prop := HNT t.2.2.2
theorem hnp_if {c : Prop} [Decidable c] {a b : SC} (h1 : c → HNP a) (h2 : ¬ c → HNP b) : HNP (if c then a else b) := by
  by_cases q : c
  · rw [if_pos q]; exact h1 q
  · rw [if_neg q]; exact h2 q
theorem hnt_part {sr sc st sh : Nat → Nat → Int32} (h : HNT (HT sh)) : HNP (J_X5_readPart sr sc st sh) := by
  unfold J_X5_readPart
  dsimp only [LetF]
  refine hnp_if (fun _ => h) (fun _ => hnp_if (fun _ => h) (fun _ => hnp_if (fun _ => h) (fun _ => hnp_if (fun _ => ?_) (fun _ => ?_))))
  · exact hnp_if (fun _ => h) (fun q1 => hnp_if (fun _ => hnt_put h (fig_v q1)) (fun _ => hnp_if (fun _ => h) (fun q2 => hnt_put h (fig_v q1))))
  · exact hnp_if (fun _ => h) (fun _ => hnp_if (fun _ => h) (fun q1 => hnp_if (fun _ => hnt_put h (fig_v q1)) (fun _ => hnp_if (fun _ => h) (fun q2 => hnt_put h (fig_v q1)))))
theorem hnt_cit {sr sc st sh : Nat → Nat → Int32} {w : Int32} : ∀ (k : Nat) (a : SC), HNT a.2.2.2 → HNT (CIT sr sc st sh w k a).2.2.2 := by
  intro k
  induction k with
  | zero => intro a h; exact h
  | succ k ih =>
    intro a h
    by_cases q : J_X2_hasMore (CSc sc a.1 a.2.1) st = 0
    · rw [cit_any q]; exact h
    · have e : CIT sr sc st sh w (k + 1) a = CIT sr sc st sh w k (CP sr sc st sh w a) := if_neg q
      rw [e]; exact ih _ (hnt_part (sr := CSr sr a) (sc := CSc sc a.1 a.2.1) (st := st) (sh := CSh sh w a) h)
