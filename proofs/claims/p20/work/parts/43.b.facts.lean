theorem dgi {x a b c : Int} (h : x = 100 * a + 10 * b + c) (hb : 0 ≤ b ∧ b ≤ 9) (hc : 0 ≤ c ∧ c ≤ 9) : x / 100 = a ∧ x / 10 % 10 = b ∧ x % 10 = c := by
  subst h
  refine ⟨by omega, by omega, by omega⟩
theorem dgo (x : Int) (h : 0 ≤ x) : ∃ a b c : Int, x = 100 * a + 10 * b + c ∧ 0 ≤ a ∧ (0 ≤ b ∧ b ≤ 9) ∧ (0 ≤ c ∧ c ≤ 9) ∧ x / 100 = a ∧ x / 10 % 10 = b ∧ x % 10 = c :=
  ⟨x / 100, x / 10 % 10, x % 10, by omega, by omega, by omega, by omega, rfl, rfl, rfl⟩
theorem less_r {r h g : Int32} (w : r = J_X3_lessYoungestFirst h g) (hh : 0 ≤ h.toInt ∧ h.toInt ≤ 400 ∧ h.toInt / 100 + h.toInt / 10 % 10 + h.toInt % 10 ≤ 4) (hg : 0 ≤ g.toInt ∧ g.toInt ≤ h.toInt / 100 + h.toInt / 10 % 10 + h.toInt % 10) :
    (0 ≤ r.toInt ∧ r.toInt ≤ 400 ∧ r.toInt / 100 + r.toInt / 10 % 10 + r.toInt % 10 ≤ 4) ∧ r.toInt / 100 + r.toInt / 10 % 10 + r.toInt % 10 = h.toInt / 100 + h.toInt / 10 % 10 + h.toInt % 10 - g.toInt := by
  obtain ⟨d1, d2, -⟩ := dg (x := h) hh.1
  obtain ⟨a, b, c, hx, ha, hb, hc, e1, e2, e3⟩ := dgo h.toInt hh.1
  rw [e1, e2, e3] at hh hg ⊢
  rw [e1] at d1
  rw [e2] at d2
  obtain ⟨y, ey⟩ : ∃ z : Int32, z = if (h / 100) < g then (h / 100) else g := ⟨_, rfl⟩
  have hy := i_min (x := g) (y := h / 100) rfl d1 ey
  have hgy : (g - y).toInt = g.toInt - y.toInt := i_sub rfl rfl (by omega) (by omega)
  obtain ⟨m, em⟩ : ∃ z : Int32, z = if ((h / 10) - (h / 10) / 10 * 10) < (g - y) then ((h / 10) - (h / 10) / 10 * 10) else (g - y) := ⟨_, rfl⟩
  have hm := i_min (x := g - y) (y := h / 10 - h / 10 / 10 * 10) hgy d2 em
  have e : r = ((h - 100 * y) - 10 * m) - ((g - y) - m) := by rw [w]; unfold J_X3_lessYoungestFirst; rw [← ey, ← em]
  have by' : 0 ≤ y.toInt ∧ y.toInt ≤ a ∧ y.toInt ≤ g.toInt := by omega
  have bm' : 0 ≤ m.toInt ∧ m.toInt ≤ b ∧ m.toInt ≤ g.toInt - y.toInt := by omega
  have bk : g.toInt - y.toInt - m.toInt ≤ c := by omega
  have h1 : (100 * y).toInt = 100 * y.toInt := i_mul (by decide) rfl (by omega) (by omega)
  have h2 : (h - 100 * y).toInt = h.toInt - 100 * y.toInt := i_sub rfl h1 (by omega) (by omega)
  have h3 : (10 * m).toInt = 10 * m.toInt := i_mul (by decide) rfl (by omega) (by omega)
  have h4 : (h - 100 * y - 10 * m).toInt = h.toInt - 100 * y.toInt - 10 * m.toInt := i_sub h2 h3 (by omega) (by omega)
  have h5 : (g - y - m).toInt = g.toInt - y.toInt - m.toInt := i_sub hgy rfl (by omega) (by omega)
  have h6 := i_sub h4 h5 (by omega) (by omega)
  rw [← e] at h6
  have hr : r.toInt = 100 * (a - y.toInt) + 10 * (b - m.toInt) + (c - (g.toInt - y.toInt - m.toInt)) := by omega
  obtain ⟨f1, f2, f3⟩ := dgi hr (by omega) (by omega)
  rw [f1, f2, f3]
  refine ⟨⟨by omega, by omega, by omega⟩, by omega⟩
theorem act_t {a : Int32} (ha : 0 ≤ a.toInt) : (J_X0_letGo a).toInt = a.toInt / 1000 ∧ (J_X0_taken a).toInt = a.toInt / 100 % 10 ∧ (J_X0_taught a).toInt = a.toInt / 10 % 10 ∧ (J_X0_ordered a).toInt = a.toInt % 10 := by
  have r := i_rng a
  have h1 : (a / 100).toInt = a.toInt / 100 := i_div rfl (by decide) ha (by decide) r.2
  have h2 : (a / 10).toInt = a.toInt / 10 := i_div rfl (by decide) ha (by decide) r.2
  exact ⟨i_div rfl (by decide) ha (by decide) r.2, i_rem h1 (by decide) (by omega) (by decide) (by omega) (by decide), i_rem h2 (by decide) (by omega) (by decide) (by omega) (by decide), i_rem rfl (by decide) ha (by decide) r.2 (by decide)⟩
def tot (x : Int32) : Int := x.toInt / 100 + x.toInt / 10 % 10 + x.toInt % 10
def hasI (h g : Int32) : Prop := g.toInt / 100 ≤ h.toInt / 100 ∧ g.toInt / 10 % 10 ≤ h.toInt / 10 % 10 ∧ g.toInt % 10 ≤ h.toInt % 10
theorem tot_0 {x : Int32} (h : 0 ≤ x.toInt) : 0 ≤ tot x := by unfold tot; omega
theorem less_t {r h g : Int32} (w : r = J_X3_lessYoungestFirst h g) (hh : 0 ≤ h.toInt ∧ h.toInt ≤ 400 ∧ tot h ≤ 4) (hg : 0 ≤ g.toInt ∧ g.toInt ≤ tot h) : (0 ≤ r.toInt ∧ r.toInt ≤ 400 ∧ tot r ≤ 4) ∧ tot r = tot h - g.toInt := less_r w hh hg
theorem lg_b {r a : Int32} (w : r = J_X0_letGo a) (ha : 0 ≤ a.toInt) : 0 ≤ r.toInt := by rw [w, (act_t ha).1]; exact Int.ediv_nonneg ha (by decide)
theorem tk_b {r a : Int32} (w : r = J_X0_taken a) (ha : 0 ≤ a.toInt) : 0 ≤ r.toInt ∧ r.toInt ≤ 9 := by rw [w, (act_t ha).2.1]; omega
theorem tg_b {r a : Int32} (w : r = J_X0_taught a) (ha : 0 ≤ a.toInt) : 0 ≤ r.toInt ∧ r.toInt ≤ 9 := by rw [w, (act_t ha).2.2.1]; omega
theorem or_b {r a : Int32} (w : r = J_X0_ordered a) (ha : 0 ≤ a.toInt) : 0 ≤ r.toInt ∧ r.toInt ≤ 9 := by rw [w, (act_t ha).2.2.2]; omega
theorem act_of {a l t e : Int32} (h : a.toInt = 1000 * l.toInt + 100 * t.toInt + 10 * e.toInt) (hl : 0 ≤ l.toInt) (ht : 0 ≤ t.toInt ∧ t.toInt ≤ 9) (he : 0 ≤ e.toInt ∧ e.toInt ≤ 9) : l = J_X0_letGo a ∧ t = J_X0_taken a ∧ e = J_X0_taught a := by
  obtain ⟨a1, a2, a3, -⟩ := act_t (a := a) (by omega)
  exact ⟨Int32.toInt_inj.mp (by rw [a1]; omega), Int32.toInt_inj.mp (by rw [a2]; omega), Int32.toInt_inj.mp (by rw [a3]; omega)⟩
theorem done_i {st tk tg r : Int32} {hook X : Int} (s1 : 0 ≤ st.toInt ∧ st.toInt ≤ 400 ∧ tot st ≤ 4) (hk : hook ≤ 4) (ht : 0 ≤ tk.toInt) (c2 : tk.toInt ≤ hook - tot st) (hX : X = st.toInt + 100 * tk.toInt) (c3 : tg.toInt = 0 ∨ (tg.toInt = 1 ∧ 0 < X / 100)) (e : r = (st + 100 * tk) - 90 * tg) :
    (0 ≤ r.toInt ∧ r.toInt ≤ 400 ∧ tot r ≤ 4) ∧ tot r ≤ hook := by
  unfold tot at *
  obtain ⟨x, y, z, hx, h0, hy, hz, e1, e2, e3⟩ := dgo st.toInt s1.1
  rw [e1, e2, e3] at s1 c2
  clear e1 e2 e3
  have h1 : (100 * tk).toInt = 100 * tk.toInt := i_mul (by decide) rfl (by omega) (by omega)
  have h2 : (st + 100 * tk).toInt = st.toInt + 100 * tk.toInt := i_add rfl h1 (by omega) (by omega)
  obtain ⟨g1, -, -⟩ := dgi (show X = 100 * (x + tk.toInt) + 10 * y + z by omega) hy hz
  rw [g1] at c3
  clear g1 hX
  have hq : 0 ≤ tg.toInt ∧ tg.toInt ≤ 1 := by omega
  have hq2 : tg.toInt ≤ x + tk.toInt := by omega
  clear c3
  have h3 : (90 * tg).toInt = 90 * tg.toInt := i_mul (by decide) rfl (by omega) (by omega)
  have h4 := i_sub h2 h3 (by omega) (by omega)
  rw [← e] at h4
  obtain ⟨f1, f2, f3⟩ := dgi (show r.toInt = 100 * (x + tk.toInt - tg.toInt) + 10 * (y + tg.toInt) + z by omega) (by omega) hz
  rw [f1, f2, f3]
  refine ⟨⟨by omega, by omega, by omega⟩, by omega⟩
theorem done_t {h a g st tk tg r : Int32} {hook X : Int} (hh : 0 ≤ h.toInt ∧ h.toInt ≤ 400 ∧ tot h ≤ 4) (w1 : g = J_X0_letGo a) (w2 : tk = J_X0_taken a) (w3 : tg = J_X0_taught a) (w : st = J_X3_lessYoungestFirst h g) (hk : hook ≤ 4) (g0 : 0 ≤ g.toInt) (c1 : g.toInt ≤ tot h) (ht : 0 ≤ tk.toInt) (c2 : tk.toInt ≤ hook - tot st) (hX : X = st.toInt + 100 * tk.toInt) (c3 : tg.toInt = 0 ∨ (tg.toInt = 1 ∧ 0 < X / 100)) (hr : r = J_X0_done h a) :
    (0 ≤ r.toInt ∧ r.toInt ≤ 400 ∧ tot r ≤ 4) ∧ tot r ≤ hook :=
  done_i (less_t w hh ⟨g0, c1⟩).1 hk ht c2 hX c3 (by rw [hr, J_X0_done, w, w1, w2, w3])
theorem bs_r {r h g : Int32} (w : r = J_X3_behindSunday h g) (hh : 0 ≤ h.toInt ∧ h.toInt ≤ 400 ∧ h.toInt / 100 + h.toInt / 10 % 10 + h.toInt % 10 ≤ 4) (g0 : 0 ≤ g.toInt) (hs : g.toInt / 100 ≤ h.toInt / 100 ∧ g.toInt / 10 % 10 ≤ h.toInt / 10 % 10 ∧ g.toInt % 10 ≤ h.toInt % 10) :
    (0 ≤ r.toInt ∧ r.toInt ≤ 400 ∧ r.toInt / 100 + r.toInt / 10 % 10 + r.toInt % 10 ≤ 4) ∧ r.toInt < 100 ∧ r.toInt / 100 + r.toInt / 10 % 10 + r.toInt % 10 ≤ h.toInt / 100 + h.toInt / 10 % 10 + h.toInt % 10 := by
  obtain ⟨a, b, c, hx, ha, hb, hc, e1, e2, e3⟩ := dgo h.toInt hh.1
  obtain ⟨a', b', c', hx', ha', hb', hc', e1', e2', e3'⟩ := dgo g.toInt g0
  rw [e1, e2, e3] at hh hs ⊢
  rw [e1', e2', e3'] at hs
  clear e1 e2 e3 e1' e2' e3'
  have hd : (h - g).toInt = h.toInt - g.toInt := i_sub rfl rfl (by omega) (by omega)
  have hp : 0 ≤ (h - g).toInt := by rw [hd]; omega
  obtain ⟨d1, d2, d3⟩ := dg (x := h - g) hp
  have hsd : (h - g).toInt = 100 * (a - a') + 10 * (b - b') + (c - c') := by rw [hd]; omega
  have hb1 : 0 ≤ b - b' ∧ b - b' ≤ 9 := ⟨by omega, by omega⟩
  have hc1 : 0 ≤ c - c' ∧ c - c' ≤ 9 := ⟨by omega, by omega⟩
  obtain ⟨f1, f2, f3⟩ := dgi hsd hb1 hc1
  rw [f1] at d1
  rw [f2] at d2
  rw [f3] at d3
  clear f1 f2 f3
  have h1 : (10 * ((h - g) / 100)).toInt = 10 * (a - a') := i_mul (by decide) d1 (by omega) (by omega)
  have h2 := i_add h1 d2 (by omega) (by omega)
  have h3 := i_add h2 d3 (by omega) (by omega)
  have e : r = (10 * ((h - g) / 100)) + ((h - g) / 10 - (h - g) / 10 / 10 * 10) + ((h - g) - (h - g) / 10 * 10) := w
  rw [← e] at h3
  obtain ⟨k1, k2, k3⟩ := dgi (show r.toInt = 100 * 0 + 10 * (a - a') + ((b - b') + (c - c')) by omega) (by omega) (by omega)
  rw [k1, k2, k3]
  refine ⟨⟨by omega, by omega, by omega⟩, by omega, by omega⟩
theorem bs_t {r h g : Int32} (w : r = J_X3_behindSunday h g) (hh : 0 ≤ h.toInt ∧ h.toInt ≤ 400 ∧ tot h ≤ 4) (g0 : 0 ≤ g.toInt) (hs : hasI h g) : (0 ≤ r.toInt ∧ r.toInt ≤ 400 ∧ tot r ≤ 4) ∧ r.toInt < 100 ∧ tot r ≤ tot h := bs_r w hh g0 hs
theorem age_b {h g a r q : Int32} (w1 : r = J_X3_ofAge h a) (w2 : q = J_X3_ofAge g a) (hh : 0 ≤ h.toInt ∧ h.toInt ≤ 400 ∧ tot h ≤ 4) (g0 : 0 ≤ g.toInt) (hs : hasI h g) : 0 ≤ q.toInt ∧ q.toInt ≤ r.toInt ∧ r.toInt ≤ 4 := by
  have k1 := ofAge_t w1 hh.1
  have k2 := ofAge_t w2 g0
  have hs2 : g.toInt / 100 ≤ h.toInt / 100 ∧ g.toInt / 10 % 10 ≤ h.toInt / 10 % 10 ∧ g.toInt % 10 ≤ h.toInt % 10 := hs
  have hh2 : h.toInt / 100 + h.toInt / 10 % 10 + h.toInt % 10 ≤ 4 := hh.2.2
  obtain ⟨x, y, z, hx, h0, hy, hz, e1, e2, e3⟩ := dgo h.toInt hh.1
  obtain ⟨x', y', z', hx', h0', hy', hz', e1', e2', e3'⟩ := dgo g.toInt g0
  rw [e1, e2, e3] at k1 hh2 hs2
  rw [e1', e2', e3'] at k2 hs2
  clear w1 w2 hs e1 e2 e3 e1' e2' e3' hx hx' hh g0
  rcases k1 with ⟨a1, a2⟩ | ⟨a1, a2⟩ | ⟨a1, a3, a2⟩ <;> rcases k2 with ⟨b1, b2⟩ | ⟨b1, b2⟩ | ⟨b1, b3, b2⟩ <;> first | (exact absurd b1 (by omega)) | (exact absurd b3 (by omega)) | omega
theorem agep {x a r : Int32} (w : r = J_X3_ofAge x a) (h : 0 ≤ x.toInt) : (a.toInt = 0 → r.toInt = x.toInt / 100) ∧ 0 ≤ r.toInt := by
  have k := ofAge_t w h
  constructor
  · intro q; omega
  · omega
