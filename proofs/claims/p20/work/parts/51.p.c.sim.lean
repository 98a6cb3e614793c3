/-! the relation between both readers' states, and that a PART keeps it -/
def o1 (l k : Int32) : Int32 := if ((l >>> (k &&& 31)) &&& 1) = 0 then 1 else 0
def onL : List (Nat × Int32) := [(7, 0), (15, 1), (18, 2), (6, 3), (19, 4), (0, 5), (1, 6)]
def usL : List Nat := [0, 1, 3, 6, 7, 14, 15, 16, 18, 19, 22]
def U0 (U : Nat → Int32) : Prop := ∀ j : Nat, j < 26 → j ∉ usL → U j = 0
def mW (w : Int32) : Int32 := ((1 : Int32) <<< (w &&& 31)) - 1
def SBM (m t : Int32) : Prop := 0 ≤ t.toInt ∧ t.toInt ≤ 31 ∧ t &&& m = t
def UOK (U : Nat → Int32) (w l a b c d : Int32) : Prop := (∀ q ∈ onL, U q.1 = o1 l q.2) ∧ (0 ≤ l.toInt ∧ l.toInt ≤ 127) ∧ (U 22 = mW w &&& (a ^^^ (-1)) ∧ SBM (mW w) a) ∧ (U 14 = mW w &&& (b ^^^ (-1)) ∧ SBM (mW w) b) ∧ (U 16 = 7 &&& (c ^^^ (-1)) ∧ SBM 7 c) ∧ (U 3 = 7 &&& (d ^^^ (-1)) ∧ SBM 7 d) ∧ U0 U
theorem nat_of {x : Int32} {N : Nat} (h : 0 ≤ x.toInt ∧ x.toInt ≤ (N : Int)) : ∃ k : Nat, k ≤ N ∧ x = Int32.ofNat k := ⟨x.toInt.toNat, by omega, (ofn_tn h.1).symm⟩
theorem ofn_t {k : Nat} (h : k < 1000) : (Int32.ofNat k).toInt = (k : Int) := nI_toInt (by omega)
theorem bt_dec : ∀ m t : Fin 32, ∀ v : Fin 10, (Int32.ofNat t.val &&& Int32.ofNat m.val = Int32.ofNat t.val) → ¬ (((Int32.ofNat m.val &&& (Int32.ofNat t.val ^^^ (-1))) >>> (Int32.ofNat v.val &&& 31)) &&& 1) = 0 → (v.val ≤ 4 ∧ 0 ≤ (Int32.ofNat t.val ||| ((1 : Int32) <<< (Int32.ofNat v.val &&& 31))).toInt ∧ (Int32.ofNat t.val ||| ((1 : Int32) <<< (Int32.ofNat v.val &&& 31))).toInt ≤ 31 ∧ (Int32.ofNat t.val ||| ((1 : Int32) <<< (Int32.ofNat v.val &&& 31))) &&& Int32.ofNat m.val = (Int32.ofNat t.val ||| ((1 : Int32) <<< (Int32.ofNat v.val &&& 31))) ∧ Int32.ofNat m.val &&& ((Int32.ofNat t.val ||| ((1 : Int32) <<< (Int32.ofNat v.val &&& 31))) ^^^ (-1)) = (Int32.ofNat m.val &&& (Int32.ofNat t.val ^^^ (-1))) &&& (((1 : Int32) <<< (Int32.ofNat v.val &&& 31)) ^^^ (-1))) := by decide +kernel
theorem bt {m t v : Int32} (hm : 0 ≤ m.toInt ∧ m.toInt ≤ 31) (ht : SBM m t) (hv : 0 ≤ v.toInt ∧ v.toInt ≤ 9) (hb : ¬ (((m &&& (t ^^^ (-1))) >>> (v &&& 31)) &&& 1) = 0) : v.toInt ≤ 4 ∧ SBM m (t ||| ((1 : Int32) <<< (v &&& 31))) ∧ m &&& ((t ||| ((1 : Int32) <<< (v &&& 31))) ^^^ (-1)) = (m &&& (t ^^^ (-1))) &&& (((1 : Int32) <<< (v &&& 31)) ^^^ (-1)) := by
  obtain ⟨h1, h2, h3⟩ := ht
  obtain ⟨a, ha, rfl⟩ := nat_of (N := 31) hm
  obtain ⟨b, hb2, rfl⟩ := nat_of (N := 31) ⟨h1, h2⟩
  obtain ⟨c, hc, rfl⟩ := nat_of (N := 9) hv
  obtain ⟨k1, k2, k3, k4, k5⟩ := bt_dec ⟨a, by omega⟩ ⟨b, by omega⟩ ⟨c, by omega⟩ h3 hb
  exact ⟨by rw [ofn_t (by omega)]; show (c : Int) ≤ 4; exact Int.ofNat_le.mpr k1, ⟨k2, k3, k4⟩, k5⟩
theorem bz_dec : ∀ m t : Fin 32, (Int32.ofNat t.val &&& Int32.ofNat m.val = Int32.ofNat t.val) → ((Int32.ofNat m.val &&& (Int32.ofNat t.val ^^^ (-1))) = 0 ↔ Int32.ofNat t.val = Int32.ofNat m.val) := by decide +kernel
theorem bz {m t : Int32} (hm : 0 ≤ m.toInt ∧ m.toInt ≤ 31) (ht : SBM m t) : (m &&& (t ^^^ (-1))) = 0 ↔ t = m := by
  obtain ⟨h1, h2, h3⟩ := ht
  obtain ⟨a, ha, rfl⟩ := nat_of (N := 31) hm
  obtain ⟨b, hb2, rfl⟩ := nat_of (N := 31) ⟨h1, h2⟩
  exact bz_dec ⟨a, by omega⟩ ⟨b, by omega⟩ h3
theorem on_dec : ∀ l : Fin 128, ∀ k j : Fin 7, ((Int32.ofNat l.val >>> (Int32.ofNat k.val &&& 31)) &&& 1) = 0 → o1 (Int32.ofNat l.val ||| ((1 : Int32) <<< (Int32.ofNat k.val &&& 31))) (Int32.ofNat j.val) = (if Int32.ofNat j.val = Int32.ofNat k.val then 0 else o1 (Int32.ofNat l.val) (Int32.ofNat j.val)) ∧ 0 ≤ (Int32.ofNat l.val ||| ((1 : Int32) <<< (Int32.ofNat k.val &&& 31))).toInt ∧ (Int32.ofNat l.val ||| ((1 : Int32) <<< (Int32.ofNat k.val &&& 31))).toInt ≤ 127 := by decide +kernel
theorem on_f : ∀ q ∈ onL, ∃ j : Fin 7, q.2 = Int32.ofNat j.val := by decide +kernel
theorem on_i : ∀ q ∈ onL, ∀ r ∈ onL, (q.1 = r.1 ↔ q.2 = r.2) := by decide +kernel
theorem on_ne : ∀ q ∈ onL, q.1 ≠ 22 ∧ q.1 ≠ 14 ∧ q.1 ≠ 16 ∧ q.1 ≠ 3 ∧ q.1 ∈ usL := by decide +kernel
theorem on_t {l : Int32} {q r : Nat × Int32} (hl : 0 ≤ l.toInt ∧ l.toInt ≤ 127) (hq : q ∈ onL) (hr : r ∈ onL) (hb : ((l >>> (r.2 &&& 31)) &&& 1) = 0) : o1 (l ||| ((1 : Int32) <<< (r.2 &&& 31))) q.2 = (if q.1 = r.1 then 0 else o1 l q.2) ∧ 0 ≤ (l ||| ((1 : Int32) <<< (r.2 &&& 31))).toInt ∧ (l ||| ((1 : Int32) <<< (r.2 &&& 31))).toInt ≤ 127 := by
  obtain ⟨j, hj⟩ := on_f q hq
  obtain ⟨k, hk⟩ := on_f r hr
  obtain ⟨a, ha, rfl⟩ := nat_of (N := 127) hl
  have hi := on_i q hq r hr
  rw [hk] at hb hi ⊢
  rw [hj] at hi ⊢
  have d := on_dec ⟨a, by omega⟩ k j hb
  refine ⟨d.1.trans ?_, d.2⟩
  by_cases e : q.1 = r.1
  · rw [if_pos (hi.mp e), if_pos e]
  · rw [if_neg (fun z => e (hi.mpr z)), if_neg e]
theorem u0_upd {f : Nat → Int32} {i : Nat} {x : Int32} (h : U0 f) (hi : ¬ f i = 0) : U0 (upd f i x) := fun j hj hn => by
  by_cases e : j = i
  · subst e; exact absurd (h j hj hn) hi
  · rw [pk_un e]; exact h j hj hn
theorem u0_up2 {f : Nat → Int32} {i : Nat} {x : Int32} (h : U0 f) (hi : i ∈ usL) : U0 (upd f i x) := fun j hj hn => by
  rw [pk_un (fun e => hn (by rw [e]; exact hi))]; exact h j hj hn
theorem uok_once {U : Nat → Int32} {w l a b c d : Int32} {r : Nat × Int32} (h : UOK U w l a b c d) (hr : r ∈ onL) (hb : ((l >>> (r.2 &&& 31)) &&& 1) = 0) : UOK (upd U r.1 (U r.1 &&& (((1 : Int32) <<< ((0 : Int32) &&& 31)) ^^^ (-1)))) w (l ||| ((1 : Int32) <<< (r.2 &&& 31))) a b c d := by
  obtain ⟨h1, h2, h3, h4, h5, h6, h7⟩ := h
  have hz : U r.1 &&& (((1 : Int32) <<< ((0 : Int32) &&& 31)) ^^^ (-1)) = 0 := by rw [h1 r hr]; unfold o1; rw [if_pos hb]; decide
  rw [hz]
  obtain ⟨n1, n2, n3, n4, n5⟩ := on_ne r hr
  refine ⟨fun q hq => ?_, (on_t h2 hr hr hb).2, ⟨(pk_un n1.symm).trans h3.1, h3.2⟩, ⟨(pk_un n2.symm).trans h4.1, h4.2⟩, ⟨(pk_un n3.symm).trans h5.1, h5.2⟩, ⟨(pk_un n4.symm).trans h6.1, h6.2⟩, u0_up2 h7 n5⟩
  rw [(on_t h2 hq hr hb).1]
  by_cases e : q.1 = r.1
  · rw [if_pos e, e, pk_us]
  · rw [if_neg e, pk_un e]; exact h1 q hq
theorem bit_4 {m t v : Int32} (hv : 0 ≤ v.toInt ∧ v.toInt ≤ 9) (hb : ¬ (((7 &&& (t ^^^ (-1))) >>> (v &&& 31)) &&& 1) = 0) : v.toInt ≤ 2 :=
  (bitn (a := 7 &&& (t ^^^ (-1))) (r := v) rfl rfl hb hv).2.2 (and_l (by decide) (by decide))
theorem m7 : 0 ≤ (7 : Int32).toInt ∧ (7 : Int32).toInt ≤ 31 := by decide
theorem mW_d : ∀ w : Fin 6, 0 ≤ (mW (Int32.ofNat w.val)).toInt ∧ (mW (Int32.ofNat w.val)).toInt ≤ 31 := by decide +kernel
theorem mW_t {w : Int32} (h : 0 ≤ w.toInt ∧ w.toInt ≤ 5) : 0 ≤ (mW w).toInt ∧ (mW w).toInt ≤ 31 := by
  obtain ⟨a, ha, rfl⟩ := nat_of (N := 5) h
  exact mW_d ⟨a, by omega⟩
theorem uok_W {U : Nat → Int32} {w l a b c d v : Int32} (h : UOK U w l a b c d) (hm : 0 ≤ (mW w).toInt ∧ (mW w).toInt ≤ 31) (hv : 0 ≤ v.toInt ∧ v.toInt ≤ 9) (hb : ¬ ((U 22 >>> (v &&& 31)) &&& 1) = 0) : UOK (upd U 22 (U 22 &&& (((1 : Int32) <<< (v &&& 31)) ^^^ (-1)))) w l (a ||| ((1 : Int32) <<< (v &&& 31))) b c d := by
  obtain ⟨h1, h2, h3, h4, h5, h6, h7⟩ := h
  rw [h3.1] at hb
  have k := bt hm h3.2 hv hb
  exact ⟨fun q hq => (pk_un (on_ne q hq).1).trans (h1 q hq), h2, ⟨by rw [pk_us, h3.1, k.2.2], k.2.1⟩, ⟨(pk_un (by decide)).trans h4.1, h4.2⟩, ⟨(pk_un (by decide)).trans h5.1, h5.2⟩, ⟨(pk_un (by decide)).trans h6.1, h6.2⟩, u0_up2 h7 (by decide)⟩
theorem uok_O {U : Nat → Int32} {w l a b c d v : Int32} (h : UOK U w l a b c d) (hm : 0 ≤ (mW w).toInt ∧ (mW w).toInt ≤ 31) (hv : 0 ≤ v.toInt ∧ v.toInt ≤ 9) (hb : ¬ ((U 14 >>> (v &&& 31)) &&& 1) = 0) : UOK (upd U 14 (U 14 &&& (((1 : Int32) <<< (v &&& 31)) ^^^ (-1)))) w l a (b ||| ((1 : Int32) <<< (v &&& 31))) c d := by
  obtain ⟨h1, h2, h3, h4, h5, h6, h7⟩ := h
  rw [h4.1] at hb
  have k := bt hm h4.2 hv hb
  exact ⟨fun q hq => (pk_un (on_ne q hq).2.1).trans (h1 q hq), h2, ⟨(pk_un (by decide)).trans h3.1, h3.2⟩, ⟨by rw [pk_us, h4.1, k.2.2], k.2.1⟩, ⟨(pk_un (by decide)).trans h5.1, h5.2⟩, ⟨(pk_un (by decide)).trans h6.1, h6.2⟩, u0_up2 h7 (by decide)⟩
theorem uok_Q {U : Nat → Int32} {w l a b c d v : Int32} (h : UOK U w l a b c d)  (hv : 0 ≤ v.toInt ∧ v.toInt ≤ 9) (hb : ¬ ((U 16 >>> (v &&& 31)) &&& 1) = 0) : UOK (upd U 16 (U 16 &&& (((1 : Int32) <<< (v &&& 31)) ^^^ (-1)))) w l a b (c ||| ((1 : Int32) <<< (v &&& 31))) d := by
  obtain ⟨h1, h2, h3, h4, h5, h6, h7⟩ := h
  rw [h5.1] at hb
  have k := bt m7 h5.2 hv hb
  exact ⟨fun q hq => (pk_un (on_ne q hq).2.2.1).trans (h1 q hq), h2, ⟨(pk_un (by decide)).trans h3.1, h3.2⟩, ⟨(pk_un (by decide)).trans h4.1, h4.2⟩, ⟨by rw [pk_us, h5.1, k.2.2], k.2.1⟩, ⟨(pk_un (by decide)).trans h6.1, h6.2⟩, u0_up2 h7 (by decide)⟩
theorem uok_D {U : Nat → Int32} {w l a b c d v : Int32} (h : UOK U w l a b c d)  (hv : 0 ≤ v.toInt ∧ v.toInt ≤ 9) (hb : ¬ ((U 3 >>> (v &&& 31)) &&& 1) = 0) : UOK (upd U 3 (U 3 &&& (((1 : Int32) <<< (v &&& 31)) ^^^ (-1)))) w l a b c (d ||| ((1 : Int32) <<< (v &&& 31))) := by
  obtain ⟨h1, h2, h3, h4, h5, h6, h7⟩ := h
  rw [h6.1] at hb
  have k := bt m7 h6.2 hv hb
  exact ⟨fun q hq => (pk_un (on_ne q hq).2.2.2.1).trans (h1 q hq), h2, ⟨(pk_un (by decide)).trans h3.1, h3.2⟩, ⟨(pk_un (by decide)).trans h4.1, h4.2⟩, ⟨(pk_un (by decide)).trans h5.1, h5.2⟩, ⟨by rw [pk_us, h6.1, k.2.2], k.2.1⟩, u0_up2 h7 (by decide)⟩
abbrev SP := Int32 × (Nat → Int32) × (Nat → Int32) × (Nat → Int32) × (Nat → Int32) × Int32 × Int32 × Int32 × Int32 × Int32 × Int32 × Int32
def VOK (V : Nat → Int32) (w : Int32) (t : SP) : Prop := V 0 = w ∧ V 1 = t.1 ∧ V 2 = t.2.2.2.2.2.1 ∧ V 3 = t.2.2.2.2.2.2.1 ∧ V 4 = t.2.2.2.2.2.2.2.1 ∧ V 5 = t.2.2.2.2.2.2.2.2.1 ∧ V 6 = t.2.2.2.2.2.2.2.2.2.1 ∧ V 7 = t.2.2.2.2.2.2.2.2.2.2.1 ∧ V 8 = t.2.2.2.2.2.2.2.2.2.2.2 ∧ (∀ j : Nat, j < 5 → V (10 + j) = t.2.1 j) ∧ (∀ j : Nat, j < 5 → V (15 + j) = t.2.2.1 j) ∧ (∀ j : Nat, j < 3 → V (20 + j) = t.2.2.2.1 j) ∧ (∀ j : Nat, j < 3 → V (23 + j) = t.2.2.2.2.1 j)
theorem vok_1 {V : Nat → Int32} {w x : Int32} {t : SP} (h : VOK V w t) : VOK (upd V 1 x) w (x, t.2.1, t.2.2.1, t.2.2.2.1, t.2.2.2.2.1, t.2.2.2.2.2.1, t.2.2.2.2.2.2.1, t.2.2.2.2.2.2.2.1, t.2.2.2.2.2.2.2.2.1, t.2.2.2.2.2.2.2.2.2.1, t.2.2.2.2.2.2.2.2.2.2.1, t.2.2.2.2.2.2.2.2.2.2.2) := by
  obtain ⟨h0, h1, h2, h3, h4, h5, h6, h7, h8, h9, h10, h11, h12⟩ := h
  exact ⟨(pk_un (by decide)).trans h0, pk_us, (pk_un (by decide)).trans h2, (pk_un (by decide)).trans h3, (pk_un (by decide)).trans h4, (pk_un (by decide)).trans h5, (pk_un (by decide)).trans h6, (pk_un (by decide)).trans h7, (pk_un (by decide)).trans h8, fun j hj => (pk_un (by omega)).trans (h9 j hj), fun j hj => (pk_un (by omega)).trans (h10 j hj), fun j hj => (pk_un (by omega)).trans (h11 j hj), fun j hj => (pk_un (by omega)).trans (h12 j hj)⟩
theorem vok_2 {V : Nat → Int32} {w x : Int32} {t : SP} (h : VOK V w t) : VOK (upd V 2 x) w (t.1, t.2.1, t.2.2.1, t.2.2.2.1, t.2.2.2.2.1, x, t.2.2.2.2.2.2.1, t.2.2.2.2.2.2.2.1, t.2.2.2.2.2.2.2.2.1, t.2.2.2.2.2.2.2.2.2.1, t.2.2.2.2.2.2.2.2.2.2.1, t.2.2.2.2.2.2.2.2.2.2.2) := by
  obtain ⟨h0, h1, h2, h3, h4, h5, h6, h7, h8, h9, h10, h11, h12⟩ := h
  exact ⟨(pk_un (by decide)).trans h0, (pk_un (by decide)).trans h1, pk_us, (pk_un (by decide)).trans h3, (pk_un (by decide)).trans h4, (pk_un (by decide)).trans h5, (pk_un (by decide)).trans h6, (pk_un (by decide)).trans h7, (pk_un (by decide)).trans h8, fun j hj => (pk_un (by omega)).trans (h9 j hj), fun j hj => (pk_un (by omega)).trans (h10 j hj), fun j hj => (pk_un (by omega)).trans (h11 j hj), fun j hj => (pk_un (by omega)).trans (h12 j hj)⟩
theorem vok_3 {V : Nat → Int32} {w x : Int32} {t : SP} (h : VOK V w t) : VOK (upd V 3 x) w (t.1, t.2.1, t.2.2.1, t.2.2.2.1, t.2.2.2.2.1, t.2.2.2.2.2.1, x, t.2.2.2.2.2.2.2.1, t.2.2.2.2.2.2.2.2.1, t.2.2.2.2.2.2.2.2.2.1, t.2.2.2.2.2.2.2.2.2.2.1, t.2.2.2.2.2.2.2.2.2.2.2) := by
  obtain ⟨h0, h1, h2, h3, h4, h5, h6, h7, h8, h9, h10, h11, h12⟩ := h
  exact ⟨(pk_un (by decide)).trans h0, (pk_un (by decide)).trans h1, (pk_un (by decide)).trans h2, pk_us, (pk_un (by decide)).trans h4, (pk_un (by decide)).trans h5, (pk_un (by decide)).trans h6, (pk_un (by decide)).trans h7, (pk_un (by decide)).trans h8, fun j hj => (pk_un (by omega)).trans (h9 j hj), fun j hj => (pk_un (by omega)).trans (h10 j hj), fun j hj => (pk_un (by omega)).trans (h11 j hj), fun j hj => (pk_un (by omega)).trans (h12 j hj)⟩
theorem vok_4 {V : Nat → Int32} {w x : Int32} {t : SP} (h : VOK V w t) : VOK (upd V 4 x) w (t.1, t.2.1, t.2.2.1, t.2.2.2.1, t.2.2.2.2.1, t.2.2.2.2.2.1, t.2.2.2.2.2.2.1, x, t.2.2.2.2.2.2.2.2.1, t.2.2.2.2.2.2.2.2.2.1, t.2.2.2.2.2.2.2.2.2.2.1, t.2.2.2.2.2.2.2.2.2.2.2) := by
  obtain ⟨h0, h1, h2, h3, h4, h5, h6, h7, h8, h9, h10, h11, h12⟩ := h
  exact ⟨(pk_un (by decide)).trans h0, (pk_un (by decide)).trans h1, (pk_un (by decide)).trans h2, (pk_un (by decide)).trans h3, pk_us, (pk_un (by decide)).trans h5, (pk_un (by decide)).trans h6, (pk_un (by decide)).trans h7, (pk_un (by decide)).trans h8, fun j hj => (pk_un (by omega)).trans (h9 j hj), fun j hj => (pk_un (by omega)).trans (h10 j hj), fun j hj => (pk_un (by omega)).trans (h11 j hj), fun j hj => (pk_un (by omega)).trans (h12 j hj)⟩
theorem vok_5 {V : Nat → Int32} {w x : Int32} {t : SP} (h : VOK V w t) : VOK (upd V 5 x) w (t.1, t.2.1, t.2.2.1, t.2.2.2.1, t.2.2.2.2.1, t.2.2.2.2.2.1, t.2.2.2.2.2.2.1, t.2.2.2.2.2.2.2.1, x, t.2.2.2.2.2.2.2.2.2.1, t.2.2.2.2.2.2.2.2.2.2.1, t.2.2.2.2.2.2.2.2.2.2.2) := by
  obtain ⟨h0, h1, h2, h3, h4, h5, h6, h7, h8, h9, h10, h11, h12⟩ := h
  exact ⟨(pk_un (by decide)).trans h0, (pk_un (by decide)).trans h1, (pk_un (by decide)).trans h2, (pk_un (by decide)).trans h3, (pk_un (by decide)).trans h4, pk_us, (pk_un (by decide)).trans h6, (pk_un (by decide)).trans h7, (pk_un (by decide)).trans h8, fun j hj => (pk_un (by omega)).trans (h9 j hj), fun j hj => (pk_un (by omega)).trans (h10 j hj), fun j hj => (pk_un (by omega)).trans (h11 j hj), fun j hj => (pk_un (by omega)).trans (h12 j hj)⟩
theorem vok_6 {V : Nat → Int32} {w x : Int32} {t : SP} (h : VOK V w t) : VOK (upd V 6 x) w (t.1, t.2.1, t.2.2.1, t.2.2.2.1, t.2.2.2.2.1, t.2.2.2.2.2.1, t.2.2.2.2.2.2.1, t.2.2.2.2.2.2.2.1, t.2.2.2.2.2.2.2.2.1, x, t.2.2.2.2.2.2.2.2.2.2.1, t.2.2.2.2.2.2.2.2.2.2.2) := by
  obtain ⟨h0, h1, h2, h3, h4, h5, h6, h7, h8, h9, h10, h11, h12⟩ := h
  exact ⟨(pk_un (by decide)).trans h0, (pk_un (by decide)).trans h1, (pk_un (by decide)).trans h2, (pk_un (by decide)).trans h3, (pk_un (by decide)).trans h4, (pk_un (by decide)).trans h5, pk_us, (pk_un (by decide)).trans h7, (pk_un (by decide)).trans h8, fun j hj => (pk_un (by omega)).trans (h9 j hj), fun j hj => (pk_un (by omega)).trans (h10 j hj), fun j hj => (pk_un (by omega)).trans (h11 j hj), fun j hj => (pk_un (by omega)).trans (h12 j hj)⟩
theorem vok_7 {V : Nat → Int32} {w x y : Int32} {t : SP} (h : VOK V w t) : VOK (upd (upd V 7 x) 8 y) w (t.1, t.2.1, t.2.2.1, t.2.2.2.1, t.2.2.2.2.1, t.2.2.2.2.2.1, t.2.2.2.2.2.2.1, t.2.2.2.2.2.2.2.1, t.2.2.2.2.2.2.2.2.1, t.2.2.2.2.2.2.2.2.2.1, x, y) := by
  obtain ⟨h0, h1, h2, h3, h4, h5, h6, h7, h8, h9, h10, h11, h12⟩ := h
  exact ⟨(pk_un (by decide)).trans ((pk_un (by decide)).trans h0), (pk_un (by decide)).trans ((pk_un (by decide)).trans h1), (pk_un (by decide)).trans ((pk_un (by decide)).trans h2), (pk_un (by decide)).trans ((pk_un (by decide)).trans h3), (pk_un (by decide)).trans ((pk_un (by decide)).trans h4), (pk_un (by decide)).trans ((pk_un (by decide)).trans h5), (pk_un (by decide)).trans ((pk_un (by decide)).trans h6), (pk_un (by decide)).trans (pk_us), pk_us, fun j hj => (pk_un (by omega)).trans ((pk_un (by omega)).trans (h9 j hj)), fun j hj => (pk_un (by omega)).trans ((pk_un (by omega)).trans (h10 j hj)), fun j hj => (pk_un (by omega)).trans ((pk_un (by omega)).trans (h11 j hj)), fun j hj => (pk_un (by omega)).trans ((pk_un (by omega)).trans (h12 j hj))⟩
theorem add_cn {k : Nat} {v : Int32} {K : Int32} (hK : K.toInt = (k : Int)) (hk : k < 100) (hv : 0 ≤ v.toInt ∧ v.toInt ≤ 9) : (K + v).toNatClampNeg = k + v.toNatClampNeg := by
  have e : (K + v).toInt = (k : Int) + v.toInt := i_add hK rfl (by omega) (by omega)
  show (K + v).toInt.toNat = k + v.toInt.toNat
  omega
theorem vok_W {V : Nat → Int32} {w v x : Int32} {t : SP} (h : VOK V w t) (hv : 0 ≤ v.toInt ∧ v.toInt ≤ 4) : VOK (upd V (10 + v).toNatClampNeg x) w (t.1, upd t.2.1 v.toNatClampNeg x, t.2.2.1, t.2.2.2.1, t.2.2.2.2.1, t.2.2.2.2.2.1, t.2.2.2.2.2.2.1, t.2.2.2.2.2.2.2.1, t.2.2.2.2.2.2.2.2.1, t.2.2.2.2.2.2.2.2.2.1, t.2.2.2.2.2.2.2.2.2.2.1, t.2.2.2.2.2.2.2.2.2.2.2) := by
  obtain ⟨h0, h1, h2, h3, h4, h5, h6, h7, h8, h9, h10, h11, h12⟩ := h
  have hn : v.toNatClampNeg < 5 := by show v.toInt.toNat < 5; omega
  rw [add_cn (k := 10) (by decide) (by decide) ⟨by omega, by omega⟩]
  refine ⟨(pk_un (by omega)).trans h0, (pk_un (by omega)).trans h1, (pk_un (by omega)).trans h2, (pk_un (by omega)).trans h3, (pk_un (by omega)).trans h4, (pk_un (by omega)).trans h5, (pk_un (by omega)).trans h6, (pk_un (by omega)).trans h7, (pk_un (by omega)).trans h8, ?_, ?_, ?_, ?_⟩
  · intro j hj
    by_cases e : j = v.toNatClampNeg
    · rw [e, pk_us]; exact pk_us.symm
    · rw [pk_un (by omega)]; exact (h9 j hj).trans (pk_un e).symm
  · exact fun j hj => (pk_un (by omega)).trans (h10 j hj)
  · exact fun j hj => (pk_un (by omega)).trans (h11 j hj)
  · exact fun j hj => (pk_un (by omega)).trans (h12 j hj)
theorem vok_O {V : Nat → Int32} {w v x : Int32} {t : SP} (h : VOK V w t) (hv : 0 ≤ v.toInt ∧ v.toInt ≤ 4) : VOK (upd V (15 + v).toNatClampNeg x) w (t.1, t.2.1, upd t.2.2.1 v.toNatClampNeg x, t.2.2.2.1, t.2.2.2.2.1, t.2.2.2.2.2.1, t.2.2.2.2.2.2.1, t.2.2.2.2.2.2.2.1, t.2.2.2.2.2.2.2.2.1, t.2.2.2.2.2.2.2.2.2.1, t.2.2.2.2.2.2.2.2.2.2.1, t.2.2.2.2.2.2.2.2.2.2.2) := by
  obtain ⟨h0, h1, h2, h3, h4, h5, h6, h7, h8, h9, h10, h11, h12⟩ := h
  have hn : v.toNatClampNeg < 5 := by show v.toInt.toNat < 5; omega
  rw [add_cn (k := 15) (by decide) (by decide) ⟨by omega, by omega⟩]
  refine ⟨(pk_un (by omega)).trans h0, (pk_un (by omega)).trans h1, (pk_un (by omega)).trans h2, (pk_un (by omega)).trans h3, (pk_un (by omega)).trans h4, (pk_un (by omega)).trans h5, (pk_un (by omega)).trans h6, (pk_un (by omega)).trans h7, (pk_un (by omega)).trans h8, ?_, ?_, ?_, ?_⟩
  · exact fun j hj => (pk_un (by omega)).trans (h9 j hj)
  · intro j hj
    by_cases e : j = v.toNatClampNeg
    · rw [e, pk_us]; exact pk_us.symm
    · rw [pk_un (by omega)]; exact (h10 j hj).trans (pk_un e).symm
  · exact fun j hj => (pk_un (by omega)).trans (h11 j hj)
  · exact fun j hj => (pk_un (by omega)).trans (h12 j hj)
theorem vok_Q {V : Nat → Int32} {w v x : Int32} {t : SP} (h : VOK V w t) (hv : 0 ≤ v.toInt ∧ v.toInt ≤ 2) : VOK (upd V (20 + v).toNatClampNeg x) w (t.1, t.2.1, t.2.2.1, upd t.2.2.2.1 v.toNatClampNeg x, t.2.2.2.2.1, t.2.2.2.2.2.1, t.2.2.2.2.2.2.1, t.2.2.2.2.2.2.2.1, t.2.2.2.2.2.2.2.2.1, t.2.2.2.2.2.2.2.2.2.1, t.2.2.2.2.2.2.2.2.2.2.1, t.2.2.2.2.2.2.2.2.2.2.2) := by
  obtain ⟨h0, h1, h2, h3, h4, h5, h6, h7, h8, h9, h10, h11, h12⟩ := h
  have hn : v.toNatClampNeg < 3 := by show v.toInt.toNat < 3; omega
  rw [add_cn (k := 20) (by decide) (by decide) ⟨by omega, by omega⟩]
  refine ⟨(pk_un (by omega)).trans h0, (pk_un (by omega)).trans h1, (pk_un (by omega)).trans h2, (pk_un (by omega)).trans h3, (pk_un (by omega)).trans h4, (pk_un (by omega)).trans h5, (pk_un (by omega)).trans h6, (pk_un (by omega)).trans h7, (pk_un (by omega)).trans h8, ?_, ?_, ?_, ?_⟩
  · exact fun j hj => (pk_un (by omega)).trans (h9 j hj)
  · exact fun j hj => (pk_un (by omega)).trans (h10 j hj)
  · intro j hj
    by_cases e : j = v.toNatClampNeg
    · rw [e, pk_us]; exact pk_us.symm
    · rw [pk_un (by omega)]; exact (h11 j hj).trans (pk_un e).symm
  · exact fun j hj => (pk_un (by omega)).trans (h12 j hj)
theorem vok_D {V : Nat → Int32} {w v x : Int32} {t : SP} (h : VOK V w t) (hv : 0 ≤ v.toInt ∧ v.toInt ≤ 2) : VOK (upd V (23 + v).toNatClampNeg x) w (t.1, t.2.1, t.2.2.1, t.2.2.2.1, upd t.2.2.2.2.1 v.toNatClampNeg x, t.2.2.2.2.2.1, t.2.2.2.2.2.2.1, t.2.2.2.2.2.2.2.1, t.2.2.2.2.2.2.2.2.1, t.2.2.2.2.2.2.2.2.2.1, t.2.2.2.2.2.2.2.2.2.2.1, t.2.2.2.2.2.2.2.2.2.2.2) := by
  obtain ⟨h0, h1, h2, h3, h4, h5, h6, h7, h8, h9, h10, h11, h12⟩ := h
  have hn : v.toNatClampNeg < 3 := by show v.toInt.toNat < 3; omega
  rw [add_cn (k := 23) (by decide) (by decide) ⟨by omega, by omega⟩]
  refine ⟨(pk_un (by omega)).trans h0, (pk_un (by omega)).trans h1, (pk_un (by omega)).trans h2, (pk_un (by omega)).trans h3, (pk_un (by omega)).trans h4, (pk_un (by omega)).trans h5, (pk_un (by omega)).trans h6, (pk_un (by omega)).trans h7, (pk_un (by omega)).trans h8, ?_, ?_, ?_, ?_⟩
  · exact fun j hj => (pk_un (by omega)).trans (h9 j hj)
  · exact fun j hj => (pk_un (by omega)).trans (h10 j hj)
  · exact fun j hj => (pk_un (by omega)).trans (h11 j hj)
  · intro j hj
    by_cases e : j = v.toNatClampNeg
    · rw [e, pk_us]; exact pk_us.symm
    · rw [pk_un (by omega)]; exact (h12 j hj).trans (pk_un e).symm
def SIM (n w : Int32) (c : SC) (a : SR) : Prop := c.1 = a.2.1 ∧ c.2.1 = 0 ∧ a.2.2.1 = -9 ∧ 0 ≤ c.1.toInt ∧ c.1.toInt ≤ n.toInt ∧ UOK c.2.2.1 w a.2.2.2.1 a.2.2.2.2.1 a.2.2.2.2.2.1 a.2.2.2.2.2.2.1 a.2.2.2.2.2.2.2 ∧ VOK a.1 w c.2.2.2
def OUTS (n w p : Int32) (c : SC) (a : SR) : Prop := (c.2.1 = 1 ∧ a.2.2.1 = c.1 ∧ 0 ≤ c.1.toInt) ∨ (SIM n w c a ∧ p.toInt < c.1.toInt)
theorem out_stop {n w p x : Int32} {c : SC} {a : SR} (h1 : c.1 = x ∧ c.2.1 = 1) (h2 : a.2.2.1 = x) (hx : 0 ≤ x.toInt) : OUTS n w p c a := Or.inl ⟨h1.2, h2.trans h1.1.symm, by rw [h1.1]; exact hx⟩
theorem fok_lt {g : Nat → Int32} {n p m : Int32} (h : FOK g n p m) : p.toInt < n.toInt := f_nle rfl rfl (fok_n h)
theorem st_none {L : Int32} {sr sc st sh sm : Nat → Nat → Int32} {tm : Nat → Nat → Int64} {n w : Int32} {c : SC} {a : SR} (hn : st 0 1 = n) (hl : sm 0 3 = n) (ht : TX (st 1) (sm 3) n) (hn4 : n.toInt ≤ 64) (hw : 0 ≤ w.toInt ∧ w.toInt ≤ 5) (S : SIM n w c a) (hr : ¬ n ≤ a.2.1) (hL : chA (sm 3) n a.2.1 = L) (h : L < 65 ∨ 90 < L ∨ c.2.2.1 (L - 65).toNatClampNeg = 0) (ho : J_X12_once L = -9) (h1 : ¬ L = 87) (h2 : ¬ L = 79) (h3 : ¬ L = 81) (h5 : ¬ L = 68) : OUTS n w a.2.1 (CP sr sc st sh w c) (RP sm tm a) := by
  obtain ⟨s1, s2, s3, s4, s5, s6, s7⟩ := S
  have hmW := mW_t hw
  have b0 : a.2.1.toInt = c.1.toInt := by rw [s1]
  have q0 : 0 ≤ a.2.1.toInt := by omega
  have q4 : a.2.1.toInt ≤ 64 := by omega
  have b1 := pl1 (p := a.2.1) q0 (by omega)
  have b2 := pl1 (p := a.2.1 + 1) (by omega) (by omega)
  have b3 := pl1 (p := a.2.1 + 1 + 1) (by omega) (by omega)
  have b4 := pl1 (p := a.2.1 + 1 + 1 + 1) (by omega) (by omega)
  have hR : RP sm tm a = J_X12_readPart (RS sm a) tm L := by
    unfold RP; rw [show sm 3 a.2.1.toNatClampNeg = L from (if_neg hr).symm.trans hL]
  have hC : CP sr sc st sh w c = J_X5_readPart (CSr sr c) (CSc sc c.1 c.2.1) st (CSh sh w c) := rfl
  rw [hR, hC]
  exact out_stop (cp_no (sr := CSr sr c) (sc := CSc sc c.1 c.2.1) (st := st) (sh := CSh sh w c) (g := sm 3) (n := n) (p := a.2.1) (L := L) s1 s2 hn q0 q4 ht hL h) (rp_no (sm := RS sm a) (tm := tm) (g := sm 3) (n := n) (p := a.2.1) (L := L) rfl hl rfl s3 q0 q4 (Or.inl ho) (fun e => absurd e h1) (fun e => absurd e h2) (fun e => absurd e h3) (fun e => absurd e h5)) q0
theorem st_72 {sr sc st sh sm : Nat → Nat → Int32} {tm : Nat → Nat → Int64} {n w : Int32} {c : SC} {a : SR} (hn : st 0 1 = n) (hl : sm 0 3 = n) (ht : TX (st 1) (sm 3) n) (hn4 : n.toInt ≤ 64) (hw : 0 ≤ w.toInt ∧ w.toInt ≤ 5) (S : SIM n w c a) (hr : ¬ n ≤ a.2.1) (hL : chA (sm 3) n a.2.1 = 72) : OUTS n w a.2.1 (CP sr sc st sh w c) (RP sm tm a) := by
  obtain ⟨s1, s2, s3, s4, s5, s6, s7⟩ := S
  have hmW := mW_t hw
  have b0 : a.2.1.toInt = c.1.toInt := by rw [s1]
  have q0 : 0 ≤ a.2.1.toInt := by omega
  have q4 : a.2.1.toInt ≤ 64 := by omega
  have b1 := pl1 (p := a.2.1) q0 (by omega)
  have b2 := pl1 (p := a.2.1 + 1) (by omega) (by omega)
  have b3 := pl1 (p := a.2.1 + 1 + 1) (by omega) (by omega)
  have b4 := pl1 (p := a.2.1 + 1 + 1 + 1) (by omega) (by omega)
  have hR : RP sm tm a = J_X12_readPart (RS sm a) tm 72 := by
    unfold RP; rw [show sm 3 a.2.1.toNatClampNeg = 72 from (if_neg hr).symm.trans hL]
  have hC : CP sr sc st sh w c = J_X5_readPart (CSr sr c) (CSc sc c.1 c.2.1) st (CSh sh w c) := rfl
  rw [hR, hC]
  have hu : c.2.2.1 7 = o1 a.2.2.2.1 0 := s6.1 (7, 0) (by decide)
  have hi : (((72 : Int32) - 65).toNatClampNeg) = 7 := by decide
  by_cases hb : ((a.2.2.2.1 >>> ((0 : Int32) &&& 31)) &&& 1) = 0
  · have hU : ¬ (CSr sr c) 1 ((72 : Int32) - 65).toNatClampNeg = 0 := by
      show ¬ c.2.2.1 ((72 : Int32) - 65).toNatClampNeg = 0
      rw [hi, hu]; unfold o1; rw [if_pos hb]; decide
    have hFF : J_X5_firstFigures 72 = 30 := by decide
    by_cases hF : FOK (sm 3) n (a.2.1 + 1) 30
    · have e1 := cpA_ok (sr := CSr sr c) (sc := CSc sc c.1 c.2.1) (st := st) (sh := CSh sh w c) (g := sm 3) (n := n) (p := a.2.1) (L := 72) s1 s2 hn q0 q4 ht hL (by decide) (by decide) hU (by decide) (by decide) (by rw [hFF]; exact hF)
      have e2 := rpO0_ok (sm := RS sm a) (tm := tm) (g := sm 3) (n := n) (p := a.2.1) (L := 72) rfl hl rfl s3 q0 q4 (k := 0) (by decide) (by decide) hb rfl hF
      have f1 := fok_lt hF
      rw [e1, e2, show (((0 : Int32) + 1).toNatClampNeg) = 1 from by decide, hi]
      exact Or.inr ⟨⟨rfl, rfl, rfl, by show 0 ≤ (a.2.1 + 1 + 1).toInt; omega, by show (a.2.1 + 1 + 1).toInt ≤ n.toInt; omega, uok_once (r := (7, 0)) s6 (by decide) hb, vok_1 s7⟩, by show a.2.1.toInt < (a.2.1 + 1 + 1).toInt; omega⟩
    · exact out_stop (cpA_no (sr := CSr sr c) (sc := CSc sc c.1 c.2.1) (st := st) (sh := CSh sh w c) (g := sm 3) (n := n) (p := a.2.1) (L := 72) s1 s2 hn q0 q4 ht hL (by decide) (by decide) hU (by decide) (by rw [hFF]; exact hF)) (rpO0_no (sm := RS sm a) (tm := tm) (g := sm 3) (n := n) (p := a.2.1) (L := 72) rfl hl rfl s3 q0 q4 (k := 0) (by decide) (by decide) hb rfl hF) (by omega)
  · exact out_stop (cp_no (sr := CSr sr c) (sc := CSc sc c.1 c.2.1) (st := st) (sh := CSh sh w c) (g := sm 3) (n := n) (p := a.2.1) (L := 72) s1 s2 hn q0 q4 ht hL (Or.inr (Or.inr (by show c.2.2.1 ((72 : Int32) - 65).toNatClampNeg = 0; rw [hi, hu]; exact if_neg hb)))) (rp_no (sm := RS sm a) (tm := tm) (g := sm 3) (n := n) (p := a.2.1) (L := 72) rfl hl rfl s3 q0 q4 (Or.inr (by rw [show J_X12_once 72 = 0 from by decide]; exact hb)) (fun e => absurd e (by decide)) (fun e => absurd e (by decide)) (fun e => absurd e (by decide)) (fun e => absurd e (by decide))) q0
theorem st_80 {sr sc st sh sm : Nat → Nat → Int32} {tm : Nat → Nat → Int64} {n w : Int32} {c : SC} {a : SR} (hn : st 0 1 = n) (hl : sm 0 3 = n) (ht : TX (st 1) (sm 3) n) (hn4 : n.toInt ≤ 64) (hw : 0 ≤ w.toInt ∧ w.toInt ≤ 5) (S : SIM n w c a) (hr : ¬ n ≤ a.2.1) (hL : chA (sm 3) n a.2.1 = 80) : OUTS n w a.2.1 (CP sr sc st sh w c) (RP sm tm a) := by
  obtain ⟨s1, s2, s3, s4, s5, s6, s7⟩ := S
  have hmW := mW_t hw
  have b0 : a.2.1.toInt = c.1.toInt := by rw [s1]
  have q0 : 0 ≤ a.2.1.toInt := by omega
  have q4 : a.2.1.toInt ≤ 64 := by omega
  have b1 := pl1 (p := a.2.1) q0 (by omega)
  have b2 := pl1 (p := a.2.1 + 1) (by omega) (by omega)
  have b3 := pl1 (p := a.2.1 + 1 + 1) (by omega) (by omega)
  have b4 := pl1 (p := a.2.1 + 1 + 1 + 1) (by omega) (by omega)
  have hR : RP sm tm a = J_X12_readPart (RS sm a) tm 80 := by
    unfold RP; rw [show sm 3 a.2.1.toNatClampNeg = 80 from (if_neg hr).symm.trans hL]
  have hC : CP sr sc st sh w c = J_X5_readPart (CSr sr c) (CSc sc c.1 c.2.1) st (CSh sh w c) := rfl
  rw [hR, hC]
  have hu : c.2.2.1 15 = o1 a.2.2.2.1 1 := s6.1 (15, 1) (by decide)
  have hi : (((80 : Int32) - 65).toNatClampNeg) = 15 := by decide
  by_cases hb : ((a.2.2.2.1 >>> ((1 : Int32) &&& 31)) &&& 1) = 0
  · have hU : ¬ (CSr sr c) 1 ((80 : Int32) - 65).toNatClampNeg = 0 := by
      show ¬ c.2.2.1 ((80 : Int32) - 65).toNatClampNeg = 0
      rw [hi, hu]; unfold o1; rw [if_pos hb]; decide
    have hFF : J_X5_firstFigures 80 = 1023 := by decide
    by_cases hF : FOK (sm 3) n (a.2.1 + 1) 1023
    · have e1 := cpA_ok (sr := CSr sr c) (sc := CSc sc c.1 c.2.1) (st := st) (sh := CSh sh w c) (g := sm 3) (n := n) (p := a.2.1) (L := 80) s1 s2 hn q0 q4 ht hL (by decide) (by decide) hU (by decide) (by decide) (by rw [hFF]; exact hF)
      have e2 := rpO1_ok (sm := RS sm a) (tm := tm) (g := sm 3) (n := n) (p := a.2.1) (L := 80) rfl hl rfl s3 q0 q4 (k := 1) (by decide) (by decide) hb (by decide) (by decide) hF
      have f1 := fok_lt hF
      rw [e1, e2, show (((1 : Int32) + 1).toNatClampNeg) = 2 from by decide, hi]
      exact Or.inr ⟨⟨rfl, rfl, rfl, by show 0 ≤ (a.2.1 + 1 + 1).toInt; omega, by show (a.2.1 + 1 + 1).toInt ≤ n.toInt; omega, uok_once (r := (15, 1)) s6 (by decide) hb, vok_2 s7⟩, by show a.2.1.toInt < (a.2.1 + 1 + 1).toInt; omega⟩
    · exact out_stop (cpA_no (sr := CSr sr c) (sc := CSc sc c.1 c.2.1) (st := st) (sh := CSh sh w c) (g := sm 3) (n := n) (p := a.2.1) (L := 80) s1 s2 hn q0 q4 ht hL (by decide) (by decide) hU (by decide) (by rw [hFF]; exact hF)) (rpO1_no (sm := RS sm a) (tm := tm) (g := sm 3) (n := n) (p := a.2.1) (L := 80) rfl hl rfl s3 q0 q4 (k := 1) (by decide) (by decide) hb (by decide) (by decide) hF) (by omega)
  · exact out_stop (cp_no (sr := CSr sr c) (sc := CSc sc c.1 c.2.1) (st := st) (sh := CSh sh w c) (g := sm 3) (n := n) (p := a.2.1) (L := 80) s1 s2 hn q0 q4 ht hL (Or.inr (Or.inr (by show c.2.2.1 ((80 : Int32) - 65).toNatClampNeg = 0; rw [hi, hu]; exact if_neg hb)))) (rp_no (sm := RS sm a) (tm := tm) (g := sm 3) (n := n) (p := a.2.1) (L := 80) rfl hl rfl s3 q0 q4 (Or.inr (by rw [show J_X12_once 80 = 1 from by decide]; exact hb)) (fun e => absurd e (by decide)) (fun e => absurd e (by decide)) (fun e => absurd e (by decide)) (fun e => absurd e (by decide))) q0
theorem st_83 {sr sc st sh sm : Nat → Nat → Int32} {tm : Nat → Nat → Int64} {n w : Int32} {c : SC} {a : SR} (hn : st 0 1 = n) (hl : sm 0 3 = n) (ht : TX (st 1) (sm 3) n) (hn4 : n.toInt ≤ 64) (hw : 0 ≤ w.toInt ∧ w.toInt ≤ 5) (S : SIM n w c a) (hr : ¬ n ≤ a.2.1) (hL : chA (sm 3) n a.2.1 = 83) : OUTS n w a.2.1 (CP sr sc st sh w c) (RP sm tm a) := by
  obtain ⟨s1, s2, s3, s4, s5, s6, s7⟩ := S
  have hmW := mW_t hw
  have b0 : a.2.1.toInt = c.1.toInt := by rw [s1]
  have q0 : 0 ≤ a.2.1.toInt := by omega
  have q4 : a.2.1.toInt ≤ 64 := by omega
  have b1 := pl1 (p := a.2.1) q0 (by omega)
  have b2 := pl1 (p := a.2.1 + 1) (by omega) (by omega)
  have b3 := pl1 (p := a.2.1 + 1 + 1) (by omega) (by omega)
  have b4 := pl1 (p := a.2.1 + 1 + 1 + 1) (by omega) (by omega)
  have hR : RP sm tm a = J_X12_readPart (RS sm a) tm 83 := by
    unfold RP; rw [show sm 3 a.2.1.toNatClampNeg = 83 from (if_neg hr).symm.trans hL]
  have hC : CP sr sc st sh w c = J_X5_readPart (CSr sr c) (CSc sc c.1 c.2.1) st (CSh sh w c) := rfl
  rw [hR, hC]
  have hu : c.2.2.1 18 = o1 a.2.2.2.1 2 := s6.1 (18, 2) (by decide)
  have hi : (((83 : Int32) - 65).toNatClampNeg) = 18 := by decide
  by_cases hb : ((a.2.2.2.1 >>> ((2 : Int32) &&& 31)) &&& 1) = 0
  · have hU : ¬ (CSr sr c) 1 ((83 : Int32) - 65).toNatClampNeg = 0 := by
      show ¬ c.2.2.1 ((83 : Int32) - 65).toNatClampNeg = 0
      rw [hi, hu]; unfold o1; rw [if_pos hb]; decide
    have hFF : J_X5_firstFigures 83 = 1023 := by decide
    by_cases hF : FOK (sm 3) n (a.2.1 + 1) 1023
    · have e1 := cpA_ok (sr := CSr sr c) (sc := CSc sc c.1 c.2.1) (st := st) (sh := CSh sh w c) (g := sm 3) (n := n) (p := a.2.1) (L := 83) s1 s2 hn q0 q4 ht hL (by decide) (by decide) hU (by decide) (by decide) (by rw [hFF]; exact hF)
      have e2 := rpO1_ok (sm := RS sm a) (tm := tm) (g := sm 3) (n := n) (p := a.2.1) (L := 83) rfl hl rfl s3 q0 q4 (k := 2) (by decide) (by decide) hb (by decide) (by decide) hF
      have f1 := fok_lt hF
      rw [e1, e2, show (((2 : Int32) + 1).toNatClampNeg) = 3 from by decide, hi]
      exact Or.inr ⟨⟨rfl, rfl, rfl, by show 0 ≤ (a.2.1 + 1 + 1).toInt; omega, by show (a.2.1 + 1 + 1).toInt ≤ n.toInt; omega, uok_once (r := (18, 2)) s6 (by decide) hb, vok_3 s7⟩, by show a.2.1.toInt < (a.2.1 + 1 + 1).toInt; omega⟩
    · exact out_stop (cpA_no (sr := CSr sr c) (sc := CSc sc c.1 c.2.1) (st := st) (sh := CSh sh w c) (g := sm 3) (n := n) (p := a.2.1) (L := 83) s1 s2 hn q0 q4 ht hL (by decide) (by decide) hU (by decide) (by rw [hFF]; exact hF)) (rpO1_no (sm := RS sm a) (tm := tm) (g := sm 3) (n := n) (p := a.2.1) (L := 83) rfl hl rfl s3 q0 q4 (k := 2) (by decide) (by decide) hb (by decide) (by decide) hF) (by omega)
  · exact out_stop (cp_no (sr := CSr sr c) (sc := CSc sc c.1 c.2.1) (st := st) (sh := CSh sh w c) (g := sm 3) (n := n) (p := a.2.1) (L := 83) s1 s2 hn q0 q4 ht hL (Or.inr (Or.inr (by show c.2.2.1 ((83 : Int32) - 65).toNatClampNeg = 0; rw [hi, hu]; exact if_neg hb)))) (rp_no (sm := RS sm a) (tm := tm) (g := sm 3) (n := n) (p := a.2.1) (L := 83) rfl hl rfl s3 q0 q4 (Or.inr (by rw [show J_X12_once 83 = 2 from by decide]; exact hb)) (fun e => absurd e (by decide)) (fun e => absurd e (by decide)) (fun e => absurd e (by decide)) (fun e => absurd e (by decide))) q0
theorem st_71 {sr sc st sh sm : Nat → Nat → Int32} {tm : Nat → Nat → Int64} {n w : Int32} {c : SC} {a : SR} (hn : st 0 1 = n) (hl : sm 0 3 = n) (ht : TX (st 1) (sm 3) n) (hn4 : n.toInt ≤ 64) (hw : 0 ≤ w.toInt ∧ w.toInt ≤ 5) (S : SIM n w c a) (hr : ¬ n ≤ a.2.1) (hL : chA (sm 3) n a.2.1 = 71) : OUTS n w a.2.1 (CP sr sc st sh w c) (RP sm tm a) := by
  obtain ⟨s1, s2, s3, s4, s5, s6, s7⟩ := S
  have hmW := mW_t hw
  have b0 : a.2.1.toInt = c.1.toInt := by rw [s1]
  have q0 : 0 ≤ a.2.1.toInt := by omega
  have q4 : a.2.1.toInt ≤ 64 := by omega
  have b1 := pl1 (p := a.2.1) q0 (by omega)
  have b2 := pl1 (p := a.2.1 + 1) (by omega) (by omega)
  have b3 := pl1 (p := a.2.1 + 1 + 1) (by omega) (by omega)
  have b4 := pl1 (p := a.2.1 + 1 + 1 + 1) (by omega) (by omega)
  have hR : RP sm tm a = J_X12_readPart (RS sm a) tm 71 := by
    unfold RP; rw [show sm 3 a.2.1.toNatClampNeg = 71 from (if_neg hr).symm.trans hL]
  have hC : CP sr sc st sh w c = J_X5_readPart (CSr sr c) (CSc sc c.1 c.2.1) st (CSh sh w c) := rfl
  rw [hR, hC]
  have hu : c.2.2.1 6 = o1 a.2.2.2.1 3 := s6.1 (6, 3) (by decide)
  have hi : (((71 : Int32) - 65).toNatClampNeg) = 6 := by decide
  by_cases hb : ((a.2.2.2.1 >>> ((3 : Int32) &&& 31)) &&& 1) = 0
  · have hU : ¬ (CSr sr c) 1 ((71 : Int32) - 65).toNatClampNeg = 0 := by
      show ¬ c.2.2.1 ((71 : Int32) - 65).toNatClampNeg = 0
      rw [hi, hu]; unfold o1; rw [if_pos hb]; decide
    have hFF : J_X5_firstFigures 71 = 1023 := by decide
    by_cases hF : FOK (sm 3) n (a.2.1 + 1) 1023
    · have e1 := cpA_ok (sr := CSr sr c) (sc := CSc sc c.1 c.2.1) (st := st) (sh := CSh sh w c) (g := sm 3) (n := n) (p := a.2.1) (L := 71) s1 s2 hn q0 q4 ht hL (by decide) (by decide) hU (by decide) (by decide) (by rw [hFF]; exact hF)
      have e2 := rpO1_ok (sm := RS sm a) (tm := tm) (g := sm 3) (n := n) (p := a.2.1) (L := 71) rfl hl rfl s3 q0 q4 (k := 3) (by decide) (by decide) hb (by decide) (by decide) hF
      have f1 := fok_lt hF
      rw [e1, e2, show (((3 : Int32) + 1).toNatClampNeg) = 4 from by decide, hi]
      exact Or.inr ⟨⟨rfl, rfl, rfl, by show 0 ≤ (a.2.1 + 1 + 1).toInt; omega, by show (a.2.1 + 1 + 1).toInt ≤ n.toInt; omega, uok_once (r := (6, 3)) s6 (by decide) hb, vok_4 s7⟩, by show a.2.1.toInt < (a.2.1 + 1 + 1).toInt; omega⟩
    · exact out_stop (cpA_no (sr := CSr sr c) (sc := CSc sc c.1 c.2.1) (st := st) (sh := CSh sh w c) (g := sm 3) (n := n) (p := a.2.1) (L := 71) s1 s2 hn q0 q4 ht hL (by decide) (by decide) hU (by decide) (by rw [hFF]; exact hF)) (rpO1_no (sm := RS sm a) (tm := tm) (g := sm 3) (n := n) (p := a.2.1) (L := 71) rfl hl rfl s3 q0 q4 (k := 3) (by decide) (by decide) hb (by decide) (by decide) hF) (by omega)
  · exact out_stop (cp_no (sr := CSr sr c) (sc := CSc sc c.1 c.2.1) (st := st) (sh := CSh sh w c) (g := sm 3) (n := n) (p := a.2.1) (L := 71) s1 s2 hn q0 q4 ht hL (Or.inr (Or.inr (by show c.2.2.1 ((71 : Int32) - 65).toNatClampNeg = 0; rw [hi, hu]; exact if_neg hb)))) (rp_no (sm := RS sm a) (tm := tm) (g := sm 3) (n := n) (p := a.2.1) (L := 71) rfl hl rfl s3 q0 q4 (Or.inr (by rw [show J_X12_once 71 = 3 from by decide]; exact hb)) (fun e => absurd e (by decide)) (fun e => absurd e (by decide)) (fun e => absurd e (by decide)) (fun e => absurd e (by decide))) q0
theorem st_84 {sr sc st sh sm : Nat → Nat → Int32} {tm : Nat → Nat → Int64} {n w : Int32} {c : SC} {a : SR} (hn : st 0 1 = n) (hl : sm 0 3 = n) (ht : TX (st 1) (sm 3) n) (hn4 : n.toInt ≤ 64) (hw : 0 ≤ w.toInt ∧ w.toInt ≤ 5) (S : SIM n w c a) (hr : ¬ n ≤ a.2.1) (hL : chA (sm 3) n a.2.1 = 84) : OUTS n w a.2.1 (CP sr sc st sh w c) (RP sm tm a) := by
  obtain ⟨s1, s2, s3, s4, s5, s6, s7⟩ := S
  have hmW := mW_t hw
  have b0 : a.2.1.toInt = c.1.toInt := by rw [s1]
  have q0 : 0 ≤ a.2.1.toInt := by omega
  have q4 : a.2.1.toInt ≤ 64 := by omega
  have b1 := pl1 (p := a.2.1) q0 (by omega)
  have b2 := pl1 (p := a.2.1 + 1) (by omega) (by omega)
  have b3 := pl1 (p := a.2.1 + 1 + 1) (by omega) (by omega)
  have b4 := pl1 (p := a.2.1 + 1 + 1 + 1) (by omega) (by omega)
  have hR : RP sm tm a = J_X12_readPart (RS sm a) tm 84 := by
    unfold RP; rw [show sm 3 a.2.1.toNatClampNeg = 84 from (if_neg hr).symm.trans hL]
  have hC : CP sr sc st sh w c = J_X5_readPart (CSr sr c) (CSc sc c.1 c.2.1) st (CSh sh w c) := rfl
  rw [hR, hC]
  have hu : c.2.2.1 19 = o1 a.2.2.2.1 4 := s6.1 (19, 4) (by decide)
  have hi : (((84 : Int32) - 65).toNatClampNeg) = 19 := by decide
  by_cases hb : ((a.2.2.2.1 >>> ((4 : Int32) &&& 31)) &&& 1) = 0
  · have hU : ¬ (CSr sr c) 1 ((84 : Int32) - 65).toNatClampNeg = 0 := by
      show ¬ c.2.2.1 ((84 : Int32) - 65).toNatClampNeg = 0
      rw [hi, hu]; unfold o1; rw [if_pos hb]; decide
    have hFF : J_X5_firstFigures 84 = 1023 := by decide
    by_cases hF : FOK (sm 3) n (a.2.1 + 1) 1023
    · have e1 := cpA_ok (sr := CSr sr c) (sc := CSc sc c.1 c.2.1) (st := st) (sh := CSh sh w c) (g := sm 3) (n := n) (p := a.2.1) (L := 84) s1 s2 hn q0 q4 ht hL (by decide) (by decide) hU (by decide) (by decide) (by rw [hFF]; exact hF)
      have e2 := rpO1_ok (sm := RS sm a) (tm := tm) (g := sm 3) (n := n) (p := a.2.1) (L := 84) rfl hl rfl s3 q0 q4 (k := 4) (by decide) (by decide) hb (by decide) (by decide) hF
      have f1 := fok_lt hF
      rw [e1, e2, show (((4 : Int32) + 1).toNatClampNeg) = 5 from by decide, hi]
      exact Or.inr ⟨⟨rfl, rfl, rfl, by show 0 ≤ (a.2.1 + 1 + 1).toInt; omega, by show (a.2.1 + 1 + 1).toInt ≤ n.toInt; omega, uok_once (r := (19, 4)) s6 (by decide) hb, vok_5 s7⟩, by show a.2.1.toInt < (a.2.1 + 1 + 1).toInt; omega⟩
    · exact out_stop (cpA_no (sr := CSr sr c) (sc := CSc sc c.1 c.2.1) (st := st) (sh := CSh sh w c) (g := sm 3) (n := n) (p := a.2.1) (L := 84) s1 s2 hn q0 q4 ht hL (by decide) (by decide) hU (by decide) (by rw [hFF]; exact hF)) (rpO1_no (sm := RS sm a) (tm := tm) (g := sm 3) (n := n) (p := a.2.1) (L := 84) rfl hl rfl s3 q0 q4 (k := 4) (by decide) (by decide) hb (by decide) (by decide) hF) (by omega)
  · exact out_stop (cp_no (sr := CSr sr c) (sc := CSc sc c.1 c.2.1) (st := st) (sh := CSh sh w c) (g := sm 3) (n := n) (p := a.2.1) (L := 84) s1 s2 hn q0 q4 ht hL (Or.inr (Or.inr (by show c.2.2.1 ((84 : Int32) - 65).toNatClampNeg = 0; rw [hi, hu]; exact if_neg hb)))) (rp_no (sm := RS sm a) (tm := tm) (g := sm 3) (n := n) (p := a.2.1) (L := 84) rfl hl rfl s3 q0 q4 (Or.inr (by rw [show J_X12_once 84 = 4 from by decide]; exact hb)) (fun e => absurd e (by decide)) (fun e => absurd e (by decide)) (fun e => absurd e (by decide)) (fun e => absurd e (by decide))) q0
theorem st_65 {sr sc st sh sm : Nat → Nat → Int32} {tm : Nat → Nat → Int64} {n w : Int32} {c : SC} {a : SR} (hn : st 0 1 = n) (hl : sm 0 3 = n) (ht : TX (st 1) (sm 3) n) (hn4 : n.toInt ≤ 64) (hw : 0 ≤ w.toInt ∧ w.toInt ≤ 5) (S : SIM n w c a) (hr : ¬ n ≤ a.2.1) (hL : chA (sm 3) n a.2.1 = 65) : OUTS n w a.2.1 (CP sr sc st sh w c) (RP sm tm a) := by
  obtain ⟨s1, s2, s3, s4, s5, s6, s7⟩ := S
  have hmW := mW_t hw
  have b0 : a.2.1.toInt = c.1.toInt := by rw [s1]
  have q0 : 0 ≤ a.2.1.toInt := by omega
  have q4 : a.2.1.toInt ≤ 64 := by omega
  have b1 := pl1 (p := a.2.1) q0 (by omega)
  have b2 := pl1 (p := a.2.1 + 1) (by omega) (by omega)
  have b3 := pl1 (p := a.2.1 + 1 + 1) (by omega) (by omega)
  have b4 := pl1 (p := a.2.1 + 1 + 1 + 1) (by omega) (by omega)
  have hR : RP sm tm a = J_X12_readPart (RS sm a) tm 65 := by
    unfold RP; rw [show sm 3 a.2.1.toNatClampNeg = 65 from (if_neg hr).symm.trans hL]
  have hC : CP sr sc st sh w c = J_X5_readPart (CSr sr c) (CSc sc c.1 c.2.1) st (CSh sh w c) := rfl
  rw [hR, hC]
  have hu : c.2.2.1 0 = o1 a.2.2.2.1 5 := s6.1 (0, 5) (by decide)
  have hi : (((65 : Int32) - 65).toNatClampNeg) = 0 := by decide
  by_cases hb : ((a.2.2.2.1 >>> ((5 : Int32) &&& 31)) &&& 1) = 0
  · have hU : ¬ (CSr sr c) 1 ((65 : Int32) - 65).toNatClampNeg = 0 := by
      show ¬ c.2.2.1 ((65 : Int32) - 65).toNatClampNeg = 0
      rw [hi, hu]; unfold o1; rw [if_pos hb]; decide
    have hFF : J_X5_firstFigures 65 = 1023 := by decide
    by_cases hF : FOK (sm 3) n (a.2.1 + 1) 1023
    · have e1 := cpA_ok (sr := CSr sr c) (sc := CSc sc c.1 c.2.1) (st := st) (sh := CSh sh w c) (g := sm 3) (n := n) (p := a.2.1) (L := 65) s1 s2 hn q0 q4 ht hL (by decide) (by decide) hU (by decide) (by decide) (by rw [hFF]; exact hF)
      have e2 := rpO1_ok (sm := RS sm a) (tm := tm) (g := sm 3) (n := n) (p := a.2.1) (L := 65) rfl hl rfl s3 q0 q4 (k := 5) (by decide) (by decide) hb (by decide) (by decide) hF
      have f1 := fok_lt hF
      rw [e1, e2, show (((5 : Int32) + 1).toNatClampNeg) = 6 from by decide, hi]
      exact Or.inr ⟨⟨rfl, rfl, rfl, by show 0 ≤ (a.2.1 + 1 + 1).toInt; omega, by show (a.2.1 + 1 + 1).toInt ≤ n.toInt; omega, uok_once (r := (0, 5)) s6 (by decide) hb, vok_6 s7⟩, by show a.2.1.toInt < (a.2.1 + 1 + 1).toInt; omega⟩
    · exact out_stop (cpA_no (sr := CSr sr c) (sc := CSc sc c.1 c.2.1) (st := st) (sh := CSh sh w c) (g := sm 3) (n := n) (p := a.2.1) (L := 65) s1 s2 hn q0 q4 ht hL (by decide) (by decide) hU (by decide) (by rw [hFF]; exact hF)) (rpO1_no (sm := RS sm a) (tm := tm) (g := sm 3) (n := n) (p := a.2.1) (L := 65) rfl hl rfl s3 q0 q4 (k := 5) (by decide) (by decide) hb (by decide) (by decide) hF) (by omega)
  · exact out_stop (cp_no (sr := CSr sr c) (sc := CSc sc c.1 c.2.1) (st := st) (sh := CSh sh w c) (g := sm 3) (n := n) (p := a.2.1) (L := 65) s1 s2 hn q0 q4 ht hL (Or.inr (Or.inr (by show c.2.2.1 ((65 : Int32) - 65).toNatClampNeg = 0; rw [hi, hu]; exact if_neg hb)))) (rp_no (sm := RS sm a) (tm := tm) (g := sm 3) (n := n) (p := a.2.1) (L := 65) rfl hl rfl s3 q0 q4 (Or.inr (by rw [show J_X12_once 65 = 5 from by decide]; exact hb)) (fun e => absurd e (by decide)) (fun e => absurd e (by decide)) (fun e => absurd e (by decide)) (fun e => absurd e (by decide))) q0
theorem st_66 {sr sc st sh sm : Nat → Nat → Int32} {tm : Nat → Nat → Int64} {n w : Int32} {c : SC} {a : SR} (hn : st 0 1 = n) (hl : sm 0 3 = n) (ht : TX (st 1) (sm 3) n) (hn4 : n.toInt ≤ 64) (hw : 0 ≤ w.toInt ∧ w.toInt ≤ 5) (S : SIM n w c a) (hr : ¬ n ≤ a.2.1) (hL : chA (sm 3) n a.2.1 = 66) : OUTS n w a.2.1 (CP sr sc st sh w c) (RP sm tm a) := by
  obtain ⟨s1, s2, s3, s4, s5, s6, s7⟩ := S
  have hmW := mW_t hw
  have b0 : a.2.1.toInt = c.1.toInt := by rw [s1]
  have q0 : 0 ≤ a.2.1.toInt := by omega
  have q4 : a.2.1.toInt ≤ 64 := by omega
  have b1 := pl1 (p := a.2.1) q0 (by omega)
  have b2 := pl1 (p := a.2.1 + 1) (by omega) (by omega)
  have b3 := pl1 (p := a.2.1 + 1 + 1) (by omega) (by omega)
  have b4 := pl1 (p := a.2.1 + 1 + 1 + 1) (by omega) (by omega)
  have hR : RP sm tm a = J_X12_readPart (RS sm a) tm 66 := by
    unfold RP; rw [show sm 3 a.2.1.toNatClampNeg = 66 from (if_neg hr).symm.trans hL]
  have hC : CP sr sc st sh w c = J_X5_readPart (CSr sr c) (CSc sc c.1 c.2.1) st (CSh sh w c) := rfl
  rw [hR, hC]
  have hu : c.2.2.1 1 = o1 a.2.2.2.1 6 := s6.1 (1, 6) (by decide)
  have hi : (((66 : Int32) - 65).toNatClampNeg) = 1 := by decide
  by_cases hb : ((a.2.2.2.1 >>> ((6 : Int32) &&& 31)) &&& 1) = 0
  · have hU : ¬ (CSr sr c) 1 ((66 : Int32) - 65).toNatClampNeg = 0 := by
      show ¬ c.2.2.1 ((66 : Int32) - 65).toNatClampNeg = 0
      rw [hi, hu]; unfold o1; rw [if_pos hb]; decide
    have hFF : J_X5_firstFigures 66 = 1023 := by decide
    have hSF : J_X5_secondFigures 66 = 63 := by decide
    by_cases hF : FOK (sm 3) n (a.2.1 + 1) 1023
    · by_cases hF2 : FOK (sm 3) n (a.2.1 + 1 + 1) 63
      · have e1 := cpB_ok (sr := CSr sr c) (sc := CSc sc c.1 c.2.1) (st := st) (sh := CSh sh w c) (g := sm 3) (n := n) (p := a.2.1) (L := 66) s1 s2 hn q0 q4 ht hL (by decide) (by decide) hU (by decide) (by decide) (by rw [hFF]; exact hF) (by rw [hSF]; exact hF2)
        have e2 := rpB_ok (sm := RS sm a) (tm := tm) (g := sm 3) (n := n) (p := a.2.1) (L := 66) rfl hl rfl s3 q0 q4 (k := 6) (by decide) (by decide) hb rfl hF hF2
        have f1 := fok_lt hF2
        rw [e1, e2, show (((6 : Int32) + 1).toNatClampNeg) = 7 from by decide, show ((8 : Int32).toNatClampNeg) = 8 from by decide, hi]
        exact Or.inr ⟨⟨rfl, rfl, rfl, by show 0 ≤ (a.2.1 + 1 + 1 + 1).toInt; omega, by show (a.2.1 + 1 + 1 + 1).toInt ≤ n.toInt; omega, uok_once (r := (1, 6)) s6 (by decide) hb, vok_7 s7⟩, by show a.2.1.toInt < (a.2.1 + 1 + 1 + 1).toInt; omega⟩
      · exact out_stop (cpB_no (sr := CSr sr c) (sc := CSc sc c.1 c.2.1) (st := st) (sh := CSh sh w c) (g := sm 3) (n := n) (p := a.2.1) (L := 66) s1 s2 hn q0 q4 ht hL (by decide) (by decide) hU (by decide) (by decide) (by rw [hFF]; exact hF) (by rw [hSF]; exact hF2)) (rpB_no2 (sm := RS sm a) (tm := tm) (g := sm 3) (n := n) (p := a.2.1) (L := 66) rfl hl rfl s3 q0 q4 (k := 6) (by decide) (by decide) hb rfl hF hF2) (by omega)
    · exact out_stop (cpA_no (sr := CSr sr c) (sc := CSc sc c.1 c.2.1) (st := st) (sh := CSh sh w c) (g := sm 3) (n := n) (p := a.2.1) (L := 66) s1 s2 hn q0 q4 ht hL (by decide) (by decide) hU (by decide) (by rw [hFF]; exact hF)) (rpB_no1 (sm := RS sm a) (tm := tm) (g := sm 3) (n := n) (p := a.2.1) (L := 66) rfl hl rfl s3 q0 q4 (k := 6) (by decide) (by decide) hb rfl hF) (by omega)
  · exact out_stop (cp_no (sr := CSr sr c) (sc := CSc sc c.1 c.2.1) (st := st) (sh := CSh sh w c) (g := sm 3) (n := n) (p := a.2.1) (L := 66) s1 s2 hn q0 q4 ht hL (Or.inr (Or.inr (by show c.2.2.1 ((66 : Int32) - 65).toNatClampNeg = 0; rw [hi, hu]; exact if_neg hb)))) (rp_no (sm := RS sm a) (tm := tm) (g := sm 3) (n := n) (p := a.2.1) (L := 66) rfl hl rfl s3 q0 q4 (Or.inr (by rw [show J_X12_once 66 = 6 from by decide]; exact hb)) (fun e => absurd e (by decide)) (fun e => absurd e (by decide)) (fun e => absurd e (by decide)) (fun e => absurd e (by decide))) q0
theorem st_87 {sr sc st sh sm : Nat → Nat → Int32} {tm : Nat → Nat → Int64} {n w : Int32} {c : SC} {a : SR} (hn : st 0 1 = n) (hl : sm 0 3 = n) (ht : TX (st 1) (sm 3) n) (hn4 : n.toInt ≤ 64) (hw : 0 ≤ w.toInt ∧ w.toInt ≤ 5) (S : SIM n w c a) (hr : ¬ n ≤ a.2.1) (hL : chA (sm 3) n a.2.1 = 87) : OUTS n w a.2.1 (CP sr sc st sh w c) (RP sm tm a) := by
  obtain ⟨s1, s2, s3, s4, s5, s6, s7⟩ := S
  have hmW := mW_t hw
  have b0 : a.2.1.toInt = c.1.toInt := by rw [s1]
  have q0 : 0 ≤ a.2.1.toInt := by omega
  have q4 : a.2.1.toInt ≤ 64 := by omega
  have b1 := pl1 (p := a.2.1) q0 (by omega)
  have b2 := pl1 (p := a.2.1 + 1) (by omega) (by omega)
  have b3 := pl1 (p := a.2.1 + 1 + 1) (by omega) (by omega)
  have b4 := pl1 (p := a.2.1 + 1 + 1 + 1) (by omega) (by omega)
  have hR : RP sm tm a = J_X12_readPart (RS sm a) tm 87 := by
    unfold RP; rw [show sm 3 a.2.1.toNatClampNeg = 87 from (if_neg hr).symm.trans hL]
  have hC : CP sr sc st sh w c = J_X5_readPart (CSr sr c) (CSc sc c.1 c.2.1) st (CSh sh w c) := rfl
  rw [hR, hC]
  have hu := s6.2.2.1.1
  have hi : (((87 : Int32) - 65).toNatClampNeg) = 22 := by decide
  have hz := bz hmW s6.2.2.1.2
  have hw0 : (RS sm a) 1 (0 : Int32).toNatClampNeg = w := s7.1
  have hFF : J_X5_firstFigures 87 = 1023 := by decide
  have hMM : (((1 : Int32) <<< ((RS sm a) 1 (0 : Int32).toNatClampNeg &&& 31)) - 1) = mW w := by rw [hw0]; rfl
  by_cases q : a.2.2.2.2.1 = (mW w)
  · exact out_stop (cp_no (sr := CSr sr c) (sc := CSc sc c.1 c.2.1) (st := st) (sh := CSh sh w c) (g := sm 3) (n := n) (p := a.2.1) (L := 87) s1 s2 hn q0 q4 ht hL (Or.inr (Or.inr (by show c.2.2.1 ((87 : Int32) - 65).toNatClampNeg = 0; rw [hi, hu]; exact hz.mpr q)))) (rp_no (sm := RS sm a) (tm := tm) (g := sm 3) (n := n) (p := a.2.1) (L := 87) rfl hl rfl s3 q0 q4 (Or.inl (by decide)) (fun _ => (by show a.2.2.2.2.1 = (((1 : Int32) <<< ((RS sm a) 1 (0 : Int32).toNatClampNeg &&& 31)) - 1); rw [hMM]; exact q)) (fun e => absurd e (by decide)) (fun e => absurd e (by decide)) (fun e => absurd e (by decide))) q0
  · have hU : ¬ (CSr sr c) 1 ((87 : Int32) - 65).toNatClampNeg = 0 := by
      show ¬ c.2.2.1 ((87 : Int32) - 65).toNatClampNeg = 0
      rw [hi, hu]; exact fun z => q (hz.mp z)
    by_cases hF : FOK (sm 3) n (a.2.1 + 1) (mW w &&& (a.2.2.2.2.1 ^^^ (-1)))
    · have hv := fok_v hF
      have hbt := bt hmW s6.2.2.1.2 hv hF.2.2
      have hv4 : (chA (sm 3) n (a.2.1 + 1) - 48).toInt ≤ 4 := hbt.1
      by_cases hF1 : FOK (sm 3) n (a.2.1 + 1 + 1) 1023
      · by_cases hF2 : FOK (sm 3) n (a.2.1 + 1 + 1 + 1) 1023
        · have e1 := cpD_ok (sr := CSr sr c) (sc := CSc sc c.1 c.2.1) (st := st) (sh := CSh sh w c) (g := sm 3) (n := n) (p := a.2.1) (L := 87) s1 s2 hn q0 q4 ht hL (by decide) (by decide) hU (by decide) (by decide) (by show FOK (sm 3) n (a.2.1 + 1) (c.2.2.1 ((87 : Int32) - 65).toNatClampNeg); rw [hi, hu]; exact hF) (by rw [hFF]; exact hF1) (by rw [show J_X5_secondFigures 87 = 1023 from by decide]; exact hF2)
          have e2 := rpW_ok (sm := RS sm a) (tm := tm) (g := sm 3) (n := n) (p := a.2.1) (L := 87) rfl hl rfl s3 q0 q4 rfl (by show ¬ a.2.2.2.2.1 = (((1 : Int32) <<< ((RS sm a) 1 (0 : Int32).toNatClampNeg &&& 31)) - 1); rw [hMM]; exact q) (by show FOK (sm 3) n (a.2.1 + 1) ((((1 : Int32) <<< ((RS sm a) 1 (0 : Int32).toNatClampNeg &&& 31)) - 1) &&& (a.2.2.2.2.1 ^^^ (-1))); rw [hMM]; exact hF) hF1 hF2
          have f1 := fok_lt hF2
          rw [e1, e2, hi]
          exact Or.inr ⟨⟨rfl, rfl, rfl, by show 0 ≤ (a.2.1 + 1 + 1 + 1 + 1).toInt; omega, by show (a.2.1 + 1 + 1 + 1 + 1).toInt ≤ n.toInt; omega, uok_W s6 hmW hv (by show ¬ ((c.2.2.1 22 >>> ((chA (sm 3) n (a.2.1 + 1) - 48) &&& 31)) &&& 1) = 0; rw [hu]; exact hF.2.2), vok_W s7 ⟨hv.1, hv4⟩⟩, by show a.2.1.toInt < (a.2.1 + 1 + 1 + 1 + 1).toInt; omega⟩
        · exact out_stop (cpD_no2 (sr := CSr sr c) (sc := CSc sc c.1 c.2.1) (st := st) (sh := CSh sh w c) (g := sm 3) (n := n) (p := a.2.1) (L := 87) s1 s2 hn q0 q4 ht hL (by decide) (by decide) hU (by decide) (by decide) (by show FOK (sm 3) n (a.2.1 + 1) (c.2.2.1 ((87 : Int32) - 65).toNatClampNeg); rw [hi, hu]; exact hF) (by rw [hFF]; exact hF1) (by rw [show J_X5_secondFigures 87 = 1023 from by decide]; exact hF2)) (rpW_no2 (sm := RS sm a) (tm := tm) (g := sm 3) (n := n) (p := a.2.1) (L := 87) rfl hl rfl s3 q0 q4 rfl (by show ¬ a.2.2.2.2.1 = (((1 : Int32) <<< ((RS sm a) 1 (0 : Int32).toNatClampNeg &&& 31)) - 1); rw [hMM]; exact q) (by show FOK (sm 3) n (a.2.1 + 1) ((((1 : Int32) <<< ((RS sm a) 1 (0 : Int32).toNatClampNeg &&& 31)) - 1) &&& (a.2.2.2.2.1 ^^^ (-1))); rw [hMM]; exact hF) hF1 hF2) (by omega)
      · exact out_stop (cpC_no1 (sr := CSr sr c) (sc := CSc sc c.1 c.2.1) (st := st) (sh := CSh sh w c) (g := sm 3) (n := n) (p := a.2.1) (L := 87) s1 s2 hn q0 q4 ht hL (by decide) (by decide) hU (by decide) (by show FOK (sm 3) n (a.2.1 + 1) (c.2.2.1 ((87 : Int32) - 65).toNatClampNeg); rw [hi, hu]; exact hF) (by rw [hFF]; exact hF1)) (rpW_no1 (sm := RS sm a) (tm := tm) (g := sm 3) (n := n) (p := a.2.1) (L := 87) rfl hl rfl s3 q0 q4 rfl (by show ¬ a.2.2.2.2.1 = (((1 : Int32) <<< ((RS sm a) 1 (0 : Int32).toNatClampNeg &&& 31)) - 1); rw [hMM]; exact q) (by show FOK (sm 3) n (a.2.1 + 1) ((((1 : Int32) <<< ((RS sm a) 1 (0 : Int32).toNatClampNeg &&& 31)) - 1) &&& (a.2.2.2.2.1 ^^^ (-1))); rw [hMM]; exact hF) hF1) (by omega)
    · exact out_stop (cpC_no (sr := CSr sr c) (sc := CSc sc c.1 c.2.1) (st := st) (sh := CSh sh w c) (g := sm 3) (n := n) (p := a.2.1) (L := 87) s1 s2 hn q0 q4 ht hL (by decide) (by decide) hU (by decide) (by show ¬ FOK (sm 3) n (a.2.1 + 1) (c.2.2.1 ((87 : Int32) - 65).toNatClampNeg); rw [hi, hu]; exact hF)) (rpW_no (sm := RS sm a) (tm := tm) (g := sm 3) (n := n) (p := a.2.1) (L := 87) rfl hl rfl s3 q0 q4 rfl (by show ¬ a.2.2.2.2.1 = (((1 : Int32) <<< ((RS sm a) 1 (0 : Int32).toNatClampNeg &&& 31)) - 1); rw [hMM]; exact q) (by show ¬ FOK (sm 3) n (a.2.1 + 1) ((((1 : Int32) <<< ((RS sm a) 1 (0 : Int32).toNatClampNeg &&& 31)) - 1) &&& (a.2.2.2.2.1 ^^^ (-1))); rw [hMM]; exact hF)) (by omega)
theorem st_79 {sr sc st sh sm : Nat → Nat → Int32} {tm : Nat → Nat → Int64} {n w : Int32} {c : SC} {a : SR} (hn : st 0 1 = n) (hl : sm 0 3 = n) (ht : TX (st 1) (sm 3) n) (hn4 : n.toInt ≤ 64) (hw : 0 ≤ w.toInt ∧ w.toInt ≤ 5) (S : SIM n w c a) (hr : ¬ n ≤ a.2.1) (hL : chA (sm 3) n a.2.1 = 79) : OUTS n w a.2.1 (CP sr sc st sh w c) (RP sm tm a) := by
  obtain ⟨s1, s2, s3, s4, s5, s6, s7⟩ := S
  have hmW := mW_t hw
  have b0 : a.2.1.toInt = c.1.toInt := by rw [s1]
  have q0 : 0 ≤ a.2.1.toInt := by omega
  have q4 : a.2.1.toInt ≤ 64 := by omega
  have b1 := pl1 (p := a.2.1) q0 (by omega)
  have b2 := pl1 (p := a.2.1 + 1) (by omega) (by omega)
  have b3 := pl1 (p := a.2.1 + 1 + 1) (by omega) (by omega)
  have b4 := pl1 (p := a.2.1 + 1 + 1 + 1) (by omega) (by omega)
  have hR : RP sm tm a = J_X12_readPart (RS sm a) tm 79 := by
    unfold RP; rw [show sm 3 a.2.1.toNatClampNeg = 79 from (if_neg hr).symm.trans hL]
  have hC : CP sr sc st sh w c = J_X5_readPart (CSr sr c) (CSc sc c.1 c.2.1) st (CSh sh w c) := rfl
  rw [hR, hC]
  have hu := s6.2.2.2.1.1
  have hi : (((79 : Int32) - 65).toNatClampNeg) = 14 := by decide
  have hz := bz hmW s6.2.2.2.1.2
  have hw0 : (RS sm a) 1 (0 : Int32).toNatClampNeg = w := s7.1
  have hFF : J_X5_firstFigures 79 = 31 := by decide
  have hMM : (((1 : Int32) <<< ((RS sm a) 1 (0 : Int32).toNatClampNeg &&& 31)) - 1) = mW w := by rw [hw0]; rfl
  by_cases q : a.2.2.2.2.2.1 = (mW w)
  · exact out_stop (cp_no (sr := CSr sr c) (sc := CSc sc c.1 c.2.1) (st := st) (sh := CSh sh w c) (g := sm 3) (n := n) (p := a.2.1) (L := 79) s1 s2 hn q0 q4 ht hL (Or.inr (Or.inr (by show c.2.2.1 ((79 : Int32) - 65).toNatClampNeg = 0; rw [hi, hu]; exact hz.mpr q)))) (rp_no (sm := RS sm a) (tm := tm) (g := sm 3) (n := n) (p := a.2.1) (L := 79) rfl hl rfl s3 q0 q4 (Or.inl (by decide)) (fun e => absurd e (by decide)) (fun _ => (by show a.2.2.2.2.2.1 = (((1 : Int32) <<< ((RS sm a) 1 (0 : Int32).toNatClampNeg &&& 31)) - 1); rw [hMM]; exact q)) (fun e => absurd e (by decide)) (fun e => absurd e (by decide))) q0
  · have hU : ¬ (CSr sr c) 1 ((79 : Int32) - 65).toNatClampNeg = 0 := by
      show ¬ c.2.2.1 ((79 : Int32) - 65).toNatClampNeg = 0
      rw [hi, hu]; exact fun z => q (hz.mp z)
    by_cases hF : FOK (sm 3) n (a.2.1 + 1) (mW w &&& (a.2.2.2.2.2.1 ^^^ (-1)))
    · have hv := fok_v hF
      have hbt := bt hmW s6.2.2.2.1.2 hv hF.2.2
      have hv4 : (chA (sm 3) n (a.2.1 + 1) - 48).toInt ≤ 4 := hbt.1
      by_cases hF1 : FOK (sm 3) n (a.2.1 + 1 + 1) 31
      · have e1 := cpC_ok (sr := CSr sr c) (sc := CSc sc c.1 c.2.1) (st := st) (sh := CSh sh w c) (g := sm 3) (n := n) (p := a.2.1) (L := 79) s1 s2 hn q0 q4 ht hL (by decide) (by decide) hU (by decide) (by decide) (by show FOK (sm 3) n (a.2.1 + 1) (c.2.2.1 ((79 : Int32) - 65).toNatClampNeg); rw [hi, hu]; exact hF) (by rw [hFF]; exact hF1)
        have e2 := rpO_ok (sm := RS sm a) (tm := tm) (g := sm 3) (n := n) (p := a.2.1) (L := 79) rfl hl rfl s3 q0 q4 rfl (by show ¬ a.2.2.2.2.2.1 = (((1 : Int32) <<< ((RS sm a) 1 (0 : Int32).toNatClampNeg &&& 31)) - 1); rw [hMM]; exact q) (by show FOK (sm 3) n (a.2.1 + 1) ((((1 : Int32) <<< ((RS sm a) 1 (0 : Int32).toNatClampNeg &&& 31)) - 1) &&& (a.2.2.2.2.2.1 ^^^ (-1))); rw [hMM]; exact hF) hF1
        have f1 := fok_lt hF1
        rw [e1, e2, hi]
        exact Or.inr ⟨⟨rfl, rfl, rfl, by show 0 ≤ (a.2.1 + 1 + 1 + 1).toInt; omega, by show (a.2.1 + 1 + 1 + 1).toInt ≤ n.toInt; omega, uok_O s6 hmW hv (by show ¬ ((c.2.2.1 14 >>> ((chA (sm 3) n (a.2.1 + 1) - 48) &&& 31)) &&& 1) = 0; rw [hu]; exact hF.2.2), vok_O s7 ⟨hv.1, hv4⟩⟩, by show a.2.1.toInt < (a.2.1 + 1 + 1 + 1).toInt; omega⟩
      · exact out_stop (cpC_no1 (sr := CSr sr c) (sc := CSc sc c.1 c.2.1) (st := st) (sh := CSh sh w c) (g := sm 3) (n := n) (p := a.2.1) (L := 79) s1 s2 hn q0 q4 ht hL (by decide) (by decide) hU (by decide) (by show FOK (sm 3) n (a.2.1 + 1) (c.2.2.1 ((79 : Int32) - 65).toNatClampNeg); rw [hi, hu]; exact hF) (by rw [hFF]; exact hF1)) (rpO_no1 (sm := RS sm a) (tm := tm) (g := sm 3) (n := n) (p := a.2.1) (L := 79) rfl hl rfl s3 q0 q4 rfl (by show ¬ a.2.2.2.2.2.1 = (((1 : Int32) <<< ((RS sm a) 1 (0 : Int32).toNatClampNeg &&& 31)) - 1); rw [hMM]; exact q) (by show FOK (sm 3) n (a.2.1 + 1) ((((1 : Int32) <<< ((RS sm a) 1 (0 : Int32).toNatClampNeg &&& 31)) - 1) &&& (a.2.2.2.2.2.1 ^^^ (-1))); rw [hMM]; exact hF) hF1) (by omega)
    · exact out_stop (cpC_no (sr := CSr sr c) (sc := CSc sc c.1 c.2.1) (st := st) (sh := CSh sh w c) (g := sm 3) (n := n) (p := a.2.1) (L := 79) s1 s2 hn q0 q4 ht hL (by decide) (by decide) hU (by decide) (by show ¬ FOK (sm 3) n (a.2.1 + 1) (c.2.2.1 ((79 : Int32) - 65).toNatClampNeg); rw [hi, hu]; exact hF)) (rpO_no (sm := RS sm a) (tm := tm) (g := sm 3) (n := n) (p := a.2.1) (L := 79) rfl hl rfl s3 q0 q4 rfl (by show ¬ a.2.2.2.2.2.1 = (((1 : Int32) <<< ((RS sm a) 1 (0 : Int32).toNatClampNeg &&& 31)) - 1); rw [hMM]; exact q) (by show ¬ FOK (sm 3) n (a.2.1 + 1) ((((1 : Int32) <<< ((RS sm a) 1 (0 : Int32).toNatClampNeg &&& 31)) - 1) &&& (a.2.2.2.2.2.1 ^^^ (-1))); rw [hMM]; exact hF)) (by omega)
theorem st_81 {sr sc st sh sm : Nat → Nat → Int32} {tm : Nat → Nat → Int64} {n w : Int32} {c : SC} {a : SR} (hn : st 0 1 = n) (hl : sm 0 3 = n) (ht : TX (st 1) (sm 3) n) (hn4 : n.toInt ≤ 64) (hw : 0 ≤ w.toInt ∧ w.toInt ≤ 5) (S : SIM n w c a) (hr : ¬ n ≤ a.2.1) (hL : chA (sm 3) n a.2.1 = 81) : OUTS n w a.2.1 (CP sr sc st sh w c) (RP sm tm a) := by
  obtain ⟨s1, s2, s3, s4, s5, s6, s7⟩ := S
  have hmW := mW_t hw
  have b0 : a.2.1.toInt = c.1.toInt := by rw [s1]
  have q0 : 0 ≤ a.2.1.toInt := by omega
  have q4 : a.2.1.toInt ≤ 64 := by omega
  have b1 := pl1 (p := a.2.1) q0 (by omega)
  have b2 := pl1 (p := a.2.1 + 1) (by omega) (by omega)
  have b3 := pl1 (p := a.2.1 + 1 + 1) (by omega) (by omega)
  have b4 := pl1 (p := a.2.1 + 1 + 1 + 1) (by omega) (by omega)
  have hR : RP sm tm a = J_X12_readPart (RS sm a) tm 81 := by
    unfold RP; rw [show sm 3 a.2.1.toNatClampNeg = 81 from (if_neg hr).symm.trans hL]
  have hC : CP sr sc st sh w c = J_X5_readPart (CSr sr c) (CSc sc c.1 c.2.1) st (CSh sh w c) := rfl
  rw [hR, hC]
  have hu := s6.2.2.2.2.1.1
  have hi : (((81 : Int32) - 65).toNatClampNeg) = 16 := by decide
  have hz := bz m7 s6.2.2.2.2.1.2
  have hw0 : (RS sm a) 1 (0 : Int32).toNatClampNeg = w := s7.1
  have hFF : J_X5_firstFigures 81 = 63 := by decide
  by_cases q : a.2.2.2.2.2.2.1 = 7
  · exact out_stop (cp_no (sr := CSr sr c) (sc := CSc sc c.1 c.2.1) (st := st) (sh := CSh sh w c) (g := sm 3) (n := n) (p := a.2.1) (L := 81) s1 s2 hn q0 q4 ht hL (Or.inr (Or.inr (by show c.2.2.1 ((81 : Int32) - 65).toNatClampNeg = 0; rw [hi, hu]; exact hz.mpr q)))) (rp_no (sm := RS sm a) (tm := tm) (g := sm 3) (n := n) (p := a.2.1) (L := 81) rfl hl rfl s3 q0 q4 (Or.inl (by decide)) (fun e => absurd e (by decide)) (fun e => absurd e (by decide)) (fun _ => (show a.2.2.2.2.2.2.1 = 7 from q)) (fun e => absurd e (by decide))) q0
  · have hU : ¬ (CSr sr c) 1 ((81 : Int32) - 65).toNatClampNeg = 0 := by
      show ¬ c.2.2.1 ((81 : Int32) - 65).toNatClampNeg = 0
      rw [hi, hu]; exact fun z => q (hz.mp z)
    by_cases hF : FOK (sm 3) n (a.2.1 + 1) (7 &&& (a.2.2.2.2.2.2.1 ^^^ (-1)))
    · have hv := fok_v hF
      have hbt := bt m7 s6.2.2.2.2.1.2 hv hF.2.2
      have hv4 : (chA (sm 3) n (a.2.1 + 1) - 48).toInt ≤ 2 := bit_4 (m := 0) hv hF.2.2
      by_cases hF1 : FOK (sm 3) n (a.2.1 + 1 + 1) 63
      · have e1 := cpC_ok (sr := CSr sr c) (sc := CSc sc c.1 c.2.1) (st := st) (sh := CSh sh w c) (g := sm 3) (n := n) (p := a.2.1) (L := 81) s1 s2 hn q0 q4 ht hL (by decide) (by decide) hU (by decide) (by decide) (by show FOK (sm 3) n (a.2.1 + 1) (c.2.2.1 ((81 : Int32) - 65).toNatClampNeg); rw [hi, hu]; exact hF) (by rw [hFF]; exact hF1)
        have e2 := rpQ_ok (sm := RS sm a) (tm := tm) (g := sm 3) (n := n) (p := a.2.1) (L := 81) rfl hl rfl s3 q0 q4 rfl (show ¬ a.2.2.2.2.2.2.1 = 7 from q) hF hF1
        have f1 := fok_lt hF1
        rw [e1, e2, hi]
        exact Or.inr ⟨⟨rfl, rfl, rfl, by show 0 ≤ (a.2.1 + 1 + 1 + 1).toInt; omega, by show (a.2.1 + 1 + 1 + 1).toInt ≤ n.toInt; omega, uok_Q s6 hv (by show ¬ ((c.2.2.1 16 >>> ((chA (sm 3) n (a.2.1 + 1) - 48) &&& 31)) &&& 1) = 0; rw [hu]; exact hF.2.2), vok_Q s7 ⟨hv.1, hv4⟩⟩, by show a.2.1.toInt < (a.2.1 + 1 + 1 + 1).toInt; omega⟩
      · exact out_stop (cpC_no1 (sr := CSr sr c) (sc := CSc sc c.1 c.2.1) (st := st) (sh := CSh sh w c) (g := sm 3) (n := n) (p := a.2.1) (L := 81) s1 s2 hn q0 q4 ht hL (by decide) (by decide) hU (by decide) (by show FOK (sm 3) n (a.2.1 + 1) (c.2.2.1 ((81 : Int32) - 65).toNatClampNeg); rw [hi, hu]; exact hF) (by rw [hFF]; exact hF1)) (rpQ_no1 (sm := RS sm a) (tm := tm) (g := sm 3) (n := n) (p := a.2.1) (L := 81) rfl hl rfl s3 q0 q4 rfl (show ¬ a.2.2.2.2.2.2.1 = 7 from q) hF hF1) (by omega)
    · exact out_stop (cpC_no (sr := CSr sr c) (sc := CSc sc c.1 c.2.1) (st := st) (sh := CSh sh w c) (g := sm 3) (n := n) (p := a.2.1) (L := 81) s1 s2 hn q0 q4 ht hL (by decide) (by decide) hU (by decide) (by show ¬ FOK (sm 3) n (a.2.1 + 1) (c.2.2.1 ((81 : Int32) - 65).toNatClampNeg); rw [hi, hu]; exact hF)) (rpQ_no (sm := RS sm a) (tm := tm) (g := sm 3) (n := n) (p := a.2.1) (L := 81) rfl hl rfl s3 q0 q4 rfl (show ¬ a.2.2.2.2.2.2.1 = 7 from q) hF) (by omega)
theorem st_68 {sr sc st sh sm : Nat → Nat → Int32} {tm : Nat → Nat → Int64} {n w : Int32} {c : SC} {a : SR} (hn : st 0 1 = n) (hl : sm 0 3 = n) (ht : TX (st 1) (sm 3) n) (hn4 : n.toInt ≤ 64) (hw : 0 ≤ w.toInt ∧ w.toInt ≤ 5) (S : SIM n w c a) (hr : ¬ n ≤ a.2.1) (hL : chA (sm 3) n a.2.1 = 68) : OUTS n w a.2.1 (CP sr sc st sh w c) (RP sm tm a) := by
  obtain ⟨s1, s2, s3, s4, s5, s6, s7⟩ := S
  have hmW := mW_t hw
  have b0 : a.2.1.toInt = c.1.toInt := by rw [s1]
  have q0 : 0 ≤ a.2.1.toInt := by omega
  have q4 : a.2.1.toInt ≤ 64 := by omega
  have b1 := pl1 (p := a.2.1) q0 (by omega)
  have b2 := pl1 (p := a.2.1 + 1) (by omega) (by omega)
  have b3 := pl1 (p := a.2.1 + 1 + 1) (by omega) (by omega)
  have b4 := pl1 (p := a.2.1 + 1 + 1 + 1) (by omega) (by omega)
  have hR : RP sm tm a = J_X12_readPart (RS sm a) tm 68 := by
    unfold RP; rw [show sm 3 a.2.1.toNatClampNeg = 68 from (if_neg hr).symm.trans hL]
  have hC : CP sr sc st sh w c = J_X5_readPart (CSr sr c) (CSc sc c.1 c.2.1) st (CSh sh w c) := rfl
  rw [hR, hC]
  have hu := s6.2.2.2.2.2.1.1
  have hi : (((68 : Int32) - 65).toNatClampNeg) = 3 := by decide
  have hz := bz m7 s6.2.2.2.2.2.1.2
  have hw0 : (RS sm a) 1 (0 : Int32).toNatClampNeg = w := s7.1
  have hFF : J_X5_firstFigures 68 = 1023 := by decide
  by_cases q : a.2.2.2.2.2.2.2 = 7
  · exact out_stop (cp_no (sr := CSr sr c) (sc := CSc sc c.1 c.2.1) (st := st) (sh := CSh sh w c) (g := sm 3) (n := n) (p := a.2.1) (L := 68) s1 s2 hn q0 q4 ht hL (Or.inr (Or.inr (by show c.2.2.1 ((68 : Int32) - 65).toNatClampNeg = 0; rw [hi, hu]; exact hz.mpr q)))) (rp_no (sm := RS sm a) (tm := tm) (g := sm 3) (n := n) (p := a.2.1) (L := 68) rfl hl rfl s3 q0 q4 (Or.inl (by decide)) (fun e => absurd e (by decide)) (fun e => absurd e (by decide)) (fun e => absurd e (by decide)) (fun _ => (show a.2.2.2.2.2.2.2 = 7 from q))) q0
  · have hU : ¬ (CSr sr c) 1 ((68 : Int32) - 65).toNatClampNeg = 0 := by
      show ¬ c.2.2.1 ((68 : Int32) - 65).toNatClampNeg = 0
      rw [hi, hu]; exact fun z => q (hz.mp z)
    by_cases hF : FOK (sm 3) n (a.2.1 + 1) (7 &&& (a.2.2.2.2.2.2.2 ^^^ (-1)))
    · have hv := fok_v hF
      have hbt := bt m7 s6.2.2.2.2.2.1.2 hv hF.2.2
      have hv4 : (chA (sm 3) n (a.2.1 + 1) - 48).toInt ≤ 2 := bit_4 (m := 0) hv hF.2.2
      by_cases hF1 : FOK (sm 3) n (a.2.1 + 1 + 1) 1023
      · have e1 := cpC_ok (sr := CSr sr c) (sc := CSc sc c.1 c.2.1) (st := st) (sh := CSh sh w c) (g := sm 3) (n := n) (p := a.2.1) (L := 68) s1 s2 hn q0 q4 ht hL (by decide) (by decide) hU (by decide) (by decide) (by show FOK (sm 3) n (a.2.1 + 1) (c.2.2.1 ((68 : Int32) - 65).toNatClampNeg); rw [hi, hu]; exact hF) (by rw [hFF]; exact hF1)
        have e2 := rpD_ok (sm := RS sm a) (tm := tm) (g := sm 3) (n := n) (p := a.2.1) (L := 68) rfl hl rfl s3 q0 q4 rfl (show ¬ a.2.2.2.2.2.2.2 = 7 from q) hF hF1
        have f1 := fok_lt hF1
        rw [e1, e2, hi]
        exact Or.inr ⟨⟨rfl, rfl, rfl, by show 0 ≤ (a.2.1 + 1 + 1 + 1).toInt; omega, by show (a.2.1 + 1 + 1 + 1).toInt ≤ n.toInt; omega, uok_D s6 hv (by show ¬ ((c.2.2.1 3 >>> ((chA (sm 3) n (a.2.1 + 1) - 48) &&& 31)) &&& 1) = 0; rw [hu]; exact hF.2.2), vok_D s7 ⟨hv.1, hv4⟩⟩, by show a.2.1.toInt < (a.2.1 + 1 + 1 + 1).toInt; omega⟩
      · exact out_stop (cpC_no1 (sr := CSr sr c) (sc := CSc sc c.1 c.2.1) (st := st) (sh := CSh sh w c) (g := sm 3) (n := n) (p := a.2.1) (L := 68) s1 s2 hn q0 q4 ht hL (by decide) (by decide) hU (by decide) (by show FOK (sm 3) n (a.2.1 + 1) (c.2.2.1 ((68 : Int32) - 65).toNatClampNeg); rw [hi, hu]; exact hF) (by rw [hFF]; exact hF1)) (rpD_no1 (sm := RS sm a) (tm := tm) (g := sm 3) (n := n) (p := a.2.1) (L := 68) rfl hl rfl s3 q0 q4 rfl (show ¬ a.2.2.2.2.2.2.2 = 7 from q) hF hF1) (by omega)
    · exact out_stop (cpC_no (sr := CSr sr c) (sc := CSc sc c.1 c.2.1) (st := st) (sh := CSh sh w c) (g := sm 3) (n := n) (p := a.2.1) (L := 68) s1 s2 hn q0 q4 ht hL (by decide) (by decide) hU (by decide) (by show ¬ FOK (sm 3) n (a.2.1 + 1) (c.2.2.1 ((68 : Int32) - 65).toNatClampNeg); rw [hi, hu]; exact hF)) (rpD_no (sm := RS sm a) (tm := tm) (g := sm 3) (n := n) (p := a.2.1) (L := 68) rfl hl rfl s3 q0 q4 rfl (show ¬ a.2.2.2.2.2.2.2 = 7 from q) hF) (by omega)
theorem once_no {L : Int32} (h : ¬ L = 72 ∧ ¬ L = 80 ∧ ¬ L = 83 ∧ ¬ L = 71 ∧ ¬ L = 84 ∧ ¬ L = 65 ∧ ¬ L = 66) : J_X12_once L = -9 := by
  obtain ⟨h1, h2, h3, h4, h5, h6, h7⟩ := h
  unfold J_X12_once
  rw [if_neg h1, if_neg h2, if_neg h3, if_neg h4, if_neg h5, if_neg h6, if_neg h7]
theorem un_d : ∀ j : Fin 26, (Int32.ofNat (65 + j.val) = 72 ∨ Int32.ofNat (65 + j.val) = 80 ∨ Int32.ofNat (65 + j.val) = 83 ∨ Int32.ofNat (65 + j.val) = 71 ∨ Int32.ofNat (65 + j.val) = 84 ∨ Int32.ofNat (65 + j.val) = 65 ∨ Int32.ofNat (65 + j.val) = 66 ∨ Int32.ofNat (65 + j.val) = 87 ∨ Int32.ofNat (65 + j.val) = 79 ∨ Int32.ofNat (65 + j.val) = 81 ∨ Int32.ofNat (65 + j.val) = 68) ∨ ((Int32.ofNat (65 + j.val) - 65).toNatClampNeg = j.val ∧ j.val ∉ usL) := by decide +kernel
theorem sim_step {sr sc st sh sm : Nat → Nat → Int32} {tm : Nat → Nat → Int64} {n w : Int32} {c : SC} {a : SR} (hn : st 0 1 = n) (hl : sm 0 3 = n) (ht : TX (st 1) (sm 3) n) (hn4 : n.toInt ≤ 64) (hw : 0 ≤ w.toInt ∧ w.toInt ≤ 5) (S : SIM n w c a) (hr : ¬ n ≤ a.2.1) : OUTS n w a.2.1 (CP sr sc st sh w c) (RP sm tm a) := by
  obtain ⟨L, hL⟩ : ∃ L, chA (sm 3) n a.2.1 = L := ⟨_, rfl⟩
  by_cases c72 : L = 72
  · exact st_72 hn hl ht hn4 hw S hr (hL.trans c72)
  by_cases c80 : L = 80
  · exact st_80 hn hl ht hn4 hw S hr (hL.trans c80)
  by_cases c83 : L = 83
  · exact st_83 hn hl ht hn4 hw S hr (hL.trans c83)
  by_cases c71 : L = 71
  · exact st_71 hn hl ht hn4 hw S hr (hL.trans c71)
  by_cases c84 : L = 84
  · exact st_84 hn hl ht hn4 hw S hr (hL.trans c84)
  by_cases c65 : L = 65
  · exact st_65 hn hl ht hn4 hw S hr (hL.trans c65)
  by_cases c66 : L = 66
  · exact st_66 hn hl ht hn4 hw S hr (hL.trans c66)
  by_cases c87 : L = 87
  · exact st_87 hn hl ht hn4 hw S hr (hL.trans c87)
  by_cases c79 : L = 79
  · exact st_79 hn hl ht hn4 hw S hr (hL.trans c79)
  by_cases c81 : L = 81
  · exact st_81 hn hl ht hn4 hw S hr (hL.trans c81)
  by_cases c68 : L = 68
  · exact st_68 hn hl ht hn4 hw S hr (hL.trans c68)
  refine st_none hn hl ht hn4 hw S hr hL ?_ (once_no ⟨c72, c80, c83, c71, c84, c65, c66⟩) c87 c79 c81 c68
  by_cases hA : L < 65
  · exact Or.inl hA
  · by_cases hB : 90 < L
    · exact Or.inr (Or.inl hB)
    · right; right
      have g1 := f_nlt rfl (by decide : (65 : Int32).toInt = 65) hA
      have g2 := f_nlt (by decide : (90 : Int32).toInt = 90) rfl hB
      obtain ⟨k, hk, e⟩ := nat_of (x := L) (N := 90) ⟨by omega, by omega⟩
      have e2 : L.toInt = (k : Int) := by rw [e]; exact ofn_t (by omega)
      have d := un_d ⟨k - 65, by omega⟩
      have e3 : Int32.ofNat (65 + (k - 65)) = L := by rw [show 65 + (k - 65) = k from by omega]; exact e.symm
      simp only [e3] at d
      rcases d with d | d
      · exact absurd d (by simp only [c72, c80, c83, c71, c84, c65, c66, c87, c79, c81, c68, or_self, not_false_eq_true])
      · rw [d.1]; exact S.2.2.2.2.2.1.2.2.2.2.2.2 _ (by omega) d.2
