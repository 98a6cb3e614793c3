theorem ge_v {sx sh sm sco : Nat → Nat → Int32} {tm tco : Nat → Nat → Int64} {r p2 p3 : Int32} {P W : Nat} (K : HOK sh sm) (hL : LVL (sx 1) (sm 4)) (hr : 0 ≤ r.toInt ∧ r.toInt ≤ 2) (h3 : 0 ≤ p3.toInt ∧ p3.toInt ≤ 2) (T : TBL sh) (hW : (sh 0 0).toInt = (W : Int)) (hP : P ≤ W) (hh : 0 ≤ p2.toInt ∧ p2.toInt ≤ 400 ∧ tot p2 ≤ 4) (ht : tot p2 ≤ (sh 0 1).toInt) : (J_X11_goToTheEnd sx sh sco tco r (Int32.ofNat P) p2 p3).2.2.1 = SCN (W - P) 1 ∧ (J_X11_goToTheEnd sx sh sco tco r (Int32.ofNat P) p2 p3).2.2.2.1 = VAL sm tm r W (W - P) p3 p2.toNatClampNeg := by
  obtain ⟨k1, k2⟩ := kd_v hh
  have z : ∀ k, k < 35 → (vp_updL (J_J7_fill_d0a16_35 (fun _ _ => 0) (fun _ => (tco 1)) 0) ((J_X3_kind p2)).toNatClampNeg 1) k = if k = (J_X3_kind p2).toNatClampNeg then 1 else 0 := fun k hk => by
    by_cases q : k = (J_X3_kind p2).toNatClampNeg
    · rw [q, updL_s, if_pos rfl]
    · rw [updL_n q, if_neg q]; exact if_pos hk
  have HA : AVK sh (vp_updL (J_J7_fill_d0a16_35 (fun _ _ => 0) (fun _ => (tco 1)) 0) ((J_X3_kind p2)).toNatClampNeg 1) := fun k hk q => by
    by_cases e : k = (J_X3_kind p2).toNatClampNeg
    · rw [e, k1]; exact ht
    · rw [z k hk, if_neg e] at q; exact absurd rfl q
  obtain ⟨A2, D2, ss2, si2, r1⟩ := ge_w (sx := sx) (sco := sco) (tm := tm) (tco := tco) (p2 := p2) (y8 := (vp_updL (J_J7_fill_d0a16_35 (fun _ _ => 0) (fun _ => (tco 1)) 0) ((J_X3_kind p2)).toNatClampNeg 1, (1 : Int64), (0 : Int64))) K hL hr h3 T hW hP (W - P) P 6 1 0 (tco 0 4) (tco 0 5) (vp_updL (J_J7_fill_d0a16_35 (fun _ _ => 0) (fun _ => (tco 1)) 0) ((J_X3_kind p2)).toNatClampNeg 1) (tco 2) (Nat.le_refl P) (by omega) (by have := K.2.2.1; omega) HA
  have e : J_X11_goToTheEnd sx sh sco tco r (Int32.ofNat P) p2 p3 = _ := r1
  rw [e]
  refine ⟨rfl, ?_⟩
  show 0 * SCN (W - P) 1 + SML (fun k => (vp_updL (J_J7_fill_d0a16_35 (fun _ _ => 0) (fun _ => (tco 1)) 0) ((J_X3_kind p2)).toNatClampNeg 1) k * VAL sm tm r W (W - P) (if P = P then p3 else 0) (nAL k)) 35 0 = _
  rw [Int64.zero_mul, Int64.zero_add, if_pos rfl, sml_1 (k := (J_X3_kind p2).toNatClampNeg) 35 0 (Nat.zero_le _) (by omega) (fun j _ hj hne => by rw [z j (by omega), if_neg hne, Int64.zero_mul])]
  rw [z _ k2, if_pos rfl, Int64.one_mul]
  have e5 : Int32.ofNat (nAL (J_X3_kind p2).toNatClampNeg) = p2 := (nk_v k2).trans k1
  have e6 := congrArg Int32.toNatClampNeg e5
  rw [ofn_c (k := nAL (J_X3_kind p2).toNatClampNeg) (Nat.lt_of_lt_of_le (nAL_lt ⟨_, k2⟩) (by decide))] at e6
  rw [e6]

