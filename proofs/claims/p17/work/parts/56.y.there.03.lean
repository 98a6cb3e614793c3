theorem ga_v {sx sh sm sco : Nat → Nat → Int32} {tm tco : Nat → Nat → Int64} {r : Int32} {W : Nat} (K : HOK sh sm) (hL : LVL (sx 1) (sm 4)) (hr : 0 ≤ r.toInt ∧ r.toInt ≤ 2) (T : TBL sh) (hW : (W : Int) ≤ (sh 0 0).toInt) : ∃ (A D L L2 : Nat → Int64) (cs ss si : Int64), J_X11_goAheadOf sx sh sco tco r (Int32.ofNat W) = (A, D, SCN W 1, cs, ss, si) ∧ J_X12_layLikely sm tm r (Int32.ofNat W) = (L, L2) ∧ AHK sh A L W := by
  have wk := K.2.2.1
  obtain ⟨l, L, L2, e1, e2, e3⟩ := lk_v (sm := sm) (tm := tm) (p0 := r) (W := W) (by omega)
  have z : ∀ k, k < 35 → (vp_updL (J_J7_fill_d0a16_35 (fun _ _ => 0) (fun _ => (tco 1)) 0) ((J_X3_kind 0)).toNatClampNeg 1) k = if k = 0 then 1 else 0 := fun k hk => by
    have e0 : (J_X3_kind 0).toNatClampNeg = 0 := by decide
    rw [e0]
    by_cases q : k = 0
    · rw [q, updL_s, if_pos rfl]
    · rw [updL_n q, if_neg q]; exact if_pos hk
  obtain ⟨A, D, cs, ss, si, g1, g2⟩ := ga_w (sx := sx) (sco := sco) (tm := tm) (tco := tco) (y9 := (vp_updL (J_J7_fill_d0a16_35 (fun _ _ => 0) (fun _ => (tco 1)) 0) ((J_X3_kind 0)).toNatClampNeg 1, (1 : Int64), (0 : Int64))) K hL hr T hW W 0 6 1 0 (tco 0 4) (tco 0 5) (vp_updL (J_J7_fill_d0a16_35 (fun _ _ => 0) (fun _ => (tco 1)) 0) ((J_X3_kind 0)).toNatClampNeg 1) (tco 2) l L (by omega) (by omega) (ahk_0 z e2 K.2.2.2.1.1) e3
  exact ⟨A, D, L, L2, cs, ss, si, g1, e1, g2⟩
