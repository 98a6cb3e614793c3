/-! all hands of a WEEK, all WEEKS -/
theorem cs_k {spl sh : Nat → Nat → Int32} {tpl : Nat → Nat → Int64} {w M : Nat} (H : ∀ j, 0 ≤ (sh 2 j).toInt ∧ (sh 2 j).toInt ≤ 4) (hw : w ≤ 5) (hM : M < 3) : ∀ (n κ : Nat) (g : Nat → Int64) (r : Nat → Int32), κ + n = 35 → ∃ (G : Nat → Int64) (R : Nat → Int32), LTs default (B_X6_chooseActs_18 spl tpl sh (Int32.ofNat w) (Int32.ofNat M)) (n + 1) (Int32.ofNat κ, g, r) = (G, R) ∧ (∀ x, (∀ d y, d ≤ M → y < 35 → ¬ x = (3 * w + d) * 35 + y) → G x = g x ∧ R x = r x) ∧ (∀ d y, d ≤ M → y < κ → G ((3 * w + d) * 35 + y) = g ((3 * w + d) * 35 + y) ∧ R ((3 * w + d) * 35 + y) = r ((3 * w + d) * 35 + y)) ∧ ∀ d y, d ≤ M → κ ≤ y → y < 35 → J_X3_total (zALL.getD y 0) ≤ sh 0 1 → (R ((3 * w + d) * 35 + y), G ((3 * w + d) * 35 + y)) = CAR spl sh (tpl 3) (Int32.ofNat w) (zALL.getD y 0) (Int32.ofNat d) (J_X6_scale spl tpl (Int32.ofNat w))
  | 0, κ, g, r, h => by
    have e : κ = 35 := by omega
    subst e
    have e2 : B_X6_chooseActs_18 spl tpl sh (Int32.ofNat w) (Int32.ofNat M) (Int32.ofNat 35, g, r) = Sum.inr (g, r) := rfl
    exact ⟨g, r, LT_en e2, fun x _ => ⟨rfl, rfl⟩, fun d y _ _ => ⟨rfl, rfl⟩, fun d y q1 q2 q3 => by omega⟩
  | n + 1, κ, g, r, h => by
    have ck : ¬ (35 : Int32) ≤ Int32.ofNat κ := fun q => by have := f_le (by decide : (35 : Int32).toInt = 35) (ofn_t (k := κ) (by omega)) q; omega
    have ek : (Int32.ofNat κ).toNatClampNeg = κ := ofn_c (by omega)
    by_cases c : J_X3_total (zALL.getD κ 0) ≤ sh 0 1
    · obtain ⟨G1, R1, b1, b2, _, b4⟩ := cs_c (spl := spl) (sh := sh) (tpl := tpl) (g21 := g) (g22 := r) (κ := κ) (w := w) (M := M) H hw (by omega) hM (M + 1) 0 4 g r (by omega) (by omega)
      have c2 : J_X3_total (zALL.getD (Int32.ofNat κ).toNatClampNeg 0) ≤ sh 0 1 := by rw [ek]; exact c
      have e1 : B_X6_chooseActs_18 spl tpl sh (Int32.ofNat w) (Int32.ofNat M) (Int32.ofNat κ, g, r) = LTs (Sum.inl default) (B_X6_chooseActs_50_2 spl tpl sh (Int32.ofNat w) (Int32.ofNat κ) g r (Int32.ofNat M)) 4 ((0 : Int32), g, r) := by
        unfold B_X6_chooseActs_18
        try dsimp only [LetF]
        exact (if_neg ck).trans (if_pos c2)
      have e2 := e1.trans b1
      obtain ⟨G, R, k1, k2, k3, k4⟩ := cs_k (spl := spl) (sh := sh) (tpl := tpl) H hw hM n (κ + 1) G1 R1 (by omega)
      refine ⟨G, R, by rw [LT_st e2]; exact k1, fun x hx => ?_, fun d y hd hy => ?_, fun d y q1 q2 q3 q4 => ?_⟩
      · obtain ⟨z1, z2⟩ := k2 x hx
        obtain ⟨z3, z4⟩ := b2 x (fun d hd => hx d κ hd (by omega))
        exact ⟨z1.trans z3, z2.trans z4⟩
      · obtain ⟨z1, z2⟩ := k3 d y hd (by omega)
        obtain ⟨z3, z4⟩ := b2 ((3 * w + d) * 35 + y) (fun d2 hd2 => by omega)
        exact ⟨z1.trans z3, z2.trans z4⟩
      · by_cases q : y = κ
        · subst q
          obtain ⟨z1, z2⟩ := k3 d y q1 (by omega)
          rw [z1, z2]
          exact b4 d (Nat.zero_le d) q1
        · exact k4 d y q1 (by omega) q3 q4
    · have c2 : ¬ J_X3_total (zALL.getD (Int32.ofNat κ).toNatClampNeg 0) ≤ sh 0 1 := by rw [ek]; exact c
      have e2 : B_X6_chooseActs_18 spl tpl sh (Int32.ofNat w) (Int32.ofNat M) (Int32.ofNat κ, g, r) = Sum.inl (Int32.ofNat κ + 1, g, r) := by
        unfold B_X6_chooseActs_18
        try dsimp only [LetF]
        exact (if_neg ck).trans (if_neg c2)
      obtain ⟨G, R, k1, k2, k3, k4⟩ := cs_k (spl := spl) (sh := sh) (tpl := tpl) H hw hM n (κ + 1) g r (by omega)
      refine ⟨G, R, by rw [LT_st e2, ofn_s (by omega)]; exact k1, k2, fun d y hd hy => k3 d y hd (by omega), fun d y q1 q2 q3 q4 => ?_⟩
      by_cases q : y = κ
      · rw [q] at q4; exact absurd q4 c
      · exact k4 d y q1 (by omega) q3 q4
theorem cs_v {spl sh : Nat → Nat → Int32} {tpl : Nat → Nat → Int64} {w M : Nat} (H : ∀ j, 0 ≤ (sh 2 j).toInt ∧ (sh 2 j).toInt ≤ 4) (hw : w ≤ 5) (hM : M < 3) (hm : J_X4_mostComing sh = Int32.ofNat M) : ∃ (G : Nat → Int64) (R : Nat → Int32), J_X6_chooseActs spl tpl sh (Int32.ofNat w) = (G, R) ∧ (∀ x, (∀ d y, d ≤ M → y < 35 → ¬ x = (3 * w + d) * 35 + y) → G x = tpl 1 x ∧ R x = spl 2 x) ∧ ∀ d y, d ≤ M → y < 35 → J_X3_total (zALL.getD y 0) ≤ sh 0 1 → (R ((3 * w + d) * 35 + y), G ((3 * w + d) * 35 + y)) = CAR spl sh (tpl 3) (Int32.ofNat w) (zALL.getD y 0) (Int32.ofNat d) (J_X6_scale spl tpl (Int32.ofNat w)) := by
  obtain ⟨G, R, k1, k2, _, k4⟩ := cs_k (spl := spl) (sh := sh) (tpl := tpl) H hw hM 35 0 (tpl 1) (spl 2) rfl
  have e : J_X6_chooseActs spl tpl sh (Int32.ofNat w) = LTs default (B_X6_chooseActs_18 spl tpl sh (Int32.ofNat w) (J_X4_mostComing sh)) 36 ((0 : Int32), (tpl 1), (spl 2)) := rfl
  rw [hm] at e
  exact ⟨G, R, e.trans k1, k2, fun d y q1 q2 q3 => k4 d y q1 (Nat.zero_le y) q2 q3⟩
/-! the first of the least is one alone -/
def FM (P : Nat → Prop) (v : Nat → Nat) (N k0 : Nat) : Prop := k0 < N ∧ P k0 ∧ ∀ k, k < N → P k → v k0 < v k ∨ (v k0 = v k ∧ k0 ≤ k)
theorem fm_1 {P : Nat → Prop} {v : Nat → Nat} {N a b : Nat} (h1 : FM P v N a) (h2 : FM P v N b) : a = b := by
  obtain ⟨a1, a2, a3⟩ := h1
  obtain ⟨b1, b2, b3⟩ := h2
  have x := a3 b b1 b2
  have y := b3 a a1 a2
  omega
theorem lg_n {A B : Int64} {a b : Nat} (hA : A.toInt = ((a : Nat) : Int)) (hB : B.toInt = ((b : Nat) : Int)) : 0 ≤ lg_cmp A B ↔ b ≤ a := by
  rw [lg_cmp_ge, Int64.le_iff_toInt_le, hA, hB]
  omega
theorem lg_0 {A : Int64} {a : Nat} (hA : A.toInt = ((a : Nat) : Int)) : ¬ lg_cmp A 0 < 0 := fun q => by
  have := Int64.lt_iff_toInt_lt.mp ((lg_cmp_lt A 0).mp q)
  rw [hA, show (0 : Int64).toInt = 0 from by decide] at this
  omega
theorem fb_fm {ok : Nat → Bool} {v : Nat → Int64} {vn : Nat → Nat} (hv : ∀ k, k < 150 → ok k = true → (v k).toInt = ((vn k : Nat) : Int)) : ∀ (n k a : Nat), k + n = 150 → FM (fun i => ok i = true) vn k a → ∃ b, FM (fun i => ok i = true) vn 150 b ∧ FBs ok v AK n k (v a, AK a) = (v b, AK b)
  | 0, k, a, h, H => by
    have e : k = 150 := by omega
    subst e
    exact ⟨a, H, rfl⟩
  | n + 1, k, a, h, H => by
    obtain ⟨a1, a2, a3⟩ := H
    show ∃ b, FM (fun i => ok i = true) vn 150 b ∧ FBs ok v AK n (k + 1) (if ok k = true then (if lg_cmp (v a) 0 < 0 then (v k, AK k) else if 0 ≤ lg_cmp (v k) (v a) then (v a, AK a) else (v k, AK k)) else (v a, AK a)) = (v b, AK b)
    by_cases q : ok k = true
    · have va := hv a (by omega) a2
      have vk := hv k (by omega) q
      rw [if_pos q, if_neg (lg_0 va)]
      by_cases z : 0 ≤ lg_cmp (v k) (v a)
      · have z2 := (lg_n vk va).mp z
        rw [if_pos z]
        refine fb_fm hv n (k + 1) a (by omega) ⟨by omega, a2, fun i hi oi => ?_⟩
        by_cases e : i = k
        · subst e; omega
        · exact a3 i (by omega) oi
      · have z2 : ¬ vn a ≤ vn k := fun y => z ((lg_n vk va).mpr y)
        rw [if_neg z]
        refine fb_fm hv n (k + 1) k (by omega) ⟨by omega, q, fun i hi oi => ?_⟩
        by_cases e : i = k
        · subst e; exact Or.inr ⟨rfl, Nat.le_refl _⟩
        · have := a3 i (by omega) oi; omega
    · rw [if_neg q]
      refine fb_fm hv n (k + 1) a (by omega) ⟨by omega, a2, fun i hi oi => ?_⟩
      by_cases e : i = k
      · rw [e] at oi; exact absurd oi q
      · exact a3 i (by omega) oi
theorem fb1_fm {ok : Nat → Bool} {v : Nat → Int64} {vn : Nat → Nat} (hv : ∀ k, k < 150 → ok k = true → (v k).toInt = ((vn k : Nat) : Int)) (h0 : ok 0 = true) : ∃ b, FM (fun i => ok i = true) vn 150 b ∧ FB1 ok v = (v b, AK b) := by
  refine fb_fm hv 149 1 0 rfl ⟨by omega, h0, fun i hi _ => ?_⟩
  have e : i = 0 := by omega
  subst e
  exact Or.inr ⟨rfl, Nat.le_refl _⟩
theorem fc_fm {ok : Nat → Bool} {u : Nat → Int64} {fo : Nat → Int32} {un : Nat → Nat} (hu : ∀ j, j < 50 → ok j = true → (u j).toInt = ((un j : Nat) : Int)) : ∀ (n j a : Nat), j + n = 50 → FM (fun i => ok i = true) un j a → ∃ b, FM (fun i => ok i = true) un 50 b ∧ FC ok u fo n j (fo a, u a) = (fo b, u b)
  | 0, j, a, h, H => by
    have e : j = 50 := by omega
    subst e
    exact ⟨a, H, rfl⟩
  | n + 1, j, a, h, H => by
    obtain ⟨a1, a2, a3⟩ := H
    show ∃ b, FM (fun i => ok i = true) un 50 b ∧ FC ok u fo n (j + 1) (if ok j = true then (if 0 ≤ lg_cmp (u j) (u a) then (fo a, u a) else (fo j, u j)) else (fo a, u a)) = (fo b, u b)
    by_cases q : ok j = true
    · have va := hu a (by omega) a2
      have vk := hu j (by omega) q
      rw [if_pos q]
      by_cases z : 0 ≤ lg_cmp (u j) (u a)
      · have z2 := (lg_n vk va).mp z
        rw [if_pos z]
        refine fc_fm hu n (j + 1) a (by omega) ⟨by omega, a2, fun i hi oi => ?_⟩
        by_cases e : i = j
        · subst e; omega
        · exact a3 i (by omega) oi
      · have z2 : ¬ un a ≤ un j := fun y => z ((lg_n vk va).mpr y)
        rw [if_neg z]
        refine fc_fm hu n (j + 1) j (by omega) ⟨by omega, q, fun i hi oi => ?_⟩
        by_cases e : i = j
        · subst e; exact Or.inr ⟨rfl, Nat.le_refl _⟩
        · have := a3 i (by omega) oi; omega
    · rw [if_neg q]
      refine fc_fm hu n (j + 1) a (by omega) ⟨by omega, a2, fun i hi oi => ?_⟩
      by_cases e : i = j
      · rw [e] at oi; exact absurd oi q
      · exact a3 i (by omega) oi
theorem fc_g {ok : Nat → Bool} {u : Nat → Int64} {fo : Nat → Int32} {n j : Nat} {s : Int32 × Int64} (h : ok j = true) (z : ¬ 0 ≤ lg_cmp (u j) s.2) : FC ok u fo (n + 1) j s = FC ok u fo n (j + 1) (fo j, u j) := by
  show FC ok u fo n (j + 1) (if ok j = true then (if 0 ≤ lg_cmp (u j) s.2 then s else (fo j, u j)) else s) = _
  rw [if_pos h, if_neg z]
theorem car_fm {ok : Nat → Bool} {u : Nat → Int64} {fo : Nat → Int32} {un : Nat → Nat} (hu : ∀ j, j < 50 → ok j = true → (u j).toInt = ((un j : Nat) : Int)) (h0 : ok 0 = true) (hm : un 0 < 9223372036854775807) : ∃ b, FM (fun i => ok i = true) un 50 b ∧ FC ok u fo 50 0 (0, MAXL) = (fo b, u b) := by
  have z : ¬ 0 ≤ lg_cmp (u 0) MAXL := fun q => by
    have := (lg_n (a := un 0) (b := 9223372036854775807) (hu 0 (by decide) h0) (by decide)).mp q
    omega
  have e : FC ok u fo 50 0 (0, MAXL) = FC ok u fo 49 1 (fo 0, u 0) := fc_g (n := 49) (j := 0) (s := (0, MAXL)) h0 z
  rw [e]
  refine fc_fm hu 49 1 0 rfl ⟨by omega, h0, fun i hi _ => ?_⟩
  have e : i = 0 := by omega
  subst e
  exact Or.inr ⟨rfl, Nat.le_refl _⟩
theorem fo_fm {v : Nat → Int64} {vn : Nat → Nat} {M : Nat} (hv : ∀ o, o ≤ M → (v o).toInt = ((vn o : Nat) : Int)) : ∀ (n o a : Nat), 1 ≤ o → o + n = M + 1 → FM (fun _ => True) vn o a → ∃ b, FM (fun _ => True) vn (M + 1) b ∧ FO v n o (v a, Int32.ofNat a) = (v b, Int32.ofNat b)
  | 0, o, a, h0, h, H => by
    have e : o = M + 1 := by omega
    subst e
    exact ⟨a, H, rfl⟩
  | n + 1, o, a, h0, h, H => by
    obtain ⟨a1, _, a3⟩ := H
    have va := hv a (by omega)
    have vk := hv o (by omega)
    show ∃ b, FM (fun _ => True) vn (M + 1) b ∧ FO v n (o + 1) (if o = 0 then (v 0, 0) else if 0 ≤ lg_cmp (v o) (v a) then (v a, Int32.ofNat a) else (v o, Int32.ofNat o)) = (v b, Int32.ofNat b)
    rw [if_neg (show ¬ o = 0 by omega)]
    by_cases z : 0 ≤ lg_cmp (v o) (v a)
    · have z2 := (lg_n vk va).mp z
      rw [if_pos z]
      refine fo_fm hv n (o + 1) a (by omega) (by omega) ⟨by omega, trivial, fun i hi _ => ?_⟩
      by_cases e : i = o
      · subst e; omega
      · exact a3 i (by omega) trivial
    · have z2 : ¬ vn a ≤ vn o := fun y => z ((lg_n vk va).mpr y)
      rw [if_neg z]
      refine fo_fm hv n (o + 1) o (by omega) (by omega) ⟨by omega, trivial, fun i hi _ => ?_⟩
      by_cases e : i = o
      · subst e; exact Or.inr ⟨rfl, Nat.le_refl _⟩
      · have := a3 i (by omega) trivial; omega
theorem fo1_fm {v : Nat → Int64} {vn : Nat → Nat} {M : Nat} {s : Int64 × Int32} (hv : ∀ o, o ≤ M → (v o).toInt = ((vn o : Nat) : Int)) : ∃ b, FM (fun _ => True) vn (M + 1) b ∧ FO v (M + 1) 0 s = (v b, Int32.ofNat b) := by
  have e : FO v (M + 1) 0 s = FO v M 1 (v 0, Int32.ofNat 0) := by
    show FO v M 1 (if (0 : Nat) = 0 then (v 0, 0) else _) = _
    rw [if_pos rfl]
    rfl
  rw [e]
  refine fo_fm hv M 1 0 (by omega) (by omega) ⟨by omega, trivial, fun i hi _ => ?_⟩
  have e : i = 0 := by omega
  subst e
  exact Or.inr ⟨rfl, Nat.le_refl _⟩
/-- orders first, then acts: the same as all at once -/
theorem fm_2 {okK : Nat → Prop} {okJ : Nat → Prop} {M : Nat} {v : Nat → Nat} {c : Nat → Nat} {o : Nat → Nat → Nat} {or : Nat → Nat} {j0 : Nat} (hM : M < 3) (h1 : ∀ j d, j < 50 → d < 3 → (okK (3 * j + d) ↔ okJ j ∧ d ≤ M)) (h2 : ∀ j d, j < 50 → okJ j → d ≤ M → v (3 * j + d) = c j + o j d) (h3 : ∀ j, j < 50 → okJ j → FM (fun _ => True) (o j) (M + 1) (or j)) (h4 : FM okJ (fun j => c j + o j (or j)) 50 j0) : FM okK v 150 (3 * j0 + or j0) := by
  obtain ⟨a1, a2, a3⟩ := h4
  obtain ⟨b1, _, b3⟩ := h3 j0 a1 a2
  refine ⟨by omega, (h1 j0 (or j0) a1 (by omega)).mpr ⟨a2, by omega⟩, fun k hk ok => ?_⟩
  have ek : k = 3 * (k / 3) + k % 3 := by omega
  rw [ek] at ok ⊢
  obtain ⟨d1, d2⟩ := (h1 (k / 3) (k % 3) (by omega) (by omega)).mp ok
  rw [h2 j0 (or j0) a1 a2 (by omega), h2 (k / 3) (k % 3) (by omega) d1 d2]
  have x := a3 (k / 3) (by omega) d1
  obtain ⟨e1, _, e3⟩ := h3 (k / 3) (by omega) d1
  have y := e3 (k % 3) (by omega) trivial
  have x : c j0 + o j0 (or j0) < c (k / 3) + o (k / 3) (or (k / 3)) ∨ (c j0 + o j0 (or j0) = c (k / 3) + o (k / 3) (or (k / 3)) ∧ j0 ≤ k / 3) := x
  by_cases ej : j0 = k / 3
  · rw [ej] at x ⊢
    generalize k / 3 = J at x y ⊢
    omega
  · omega
