/-! cells of one world as those of another; fills; what a course and the Sundays hold; facts of acts -/
def lq : List Nat → Nat → Nat
  | [], _ => 0
  | a :: _, 0 => a
  | _ :: l, n + 1 => lq l n
def lI : List Int32 → Nat → Int32
  | [], _ => 0
  | a :: _, 0 => a
  | _ :: l, n + 1 => lI l n
def lJ : List Int64 → Nat → Int64
  | [], _ => 0
  | a :: _, 0 => a
  | _ :: l, n + 1 => lJ l n
def lS : List (Nat → Int32) → Nat → Nat → Int32
  | [], _ => fun _ => 0
  | a :: _, 0 => a
  | _ :: l, n + 1 => lS l n
def lT : List (Nat → Int64) → Nat → Nat → Int64
  | [], _ => fun _ => 0
  | a :: _, 0 => a
  | _ :: l, n + 1 => lT l n
def fillI (n : Nat) (v : Int32) (f : Nat → Int32) : Nat → Int32 := fun j => if j < n then v else f j
def fillJ (n : Nat) (v : Int64) (f : Nat → Int64) : Nat → Int64 := fun j => if j < n then v else f j
theorem fillI_s {n : Nat} {v : Int32} {f g : Nat → Int32} (h : g = fillI n v f) : upd g n v = fillI (n + 1) v f := by
  subst h
  funext j
  by_cases e : j = n
  · subst e; rw [pk_us]; exact (if_pos (Nat.lt_succ_self _)).symm
  · rw [pk_un e]
    by_cases q : j < n
    · exact (if_pos q).trans (if_pos (Nat.lt_succ_of_lt q)).symm
    · exact (if_neg q).trans (if_neg (by omega)).symm
theorem updL_s (f : Nat → Int64) (i : Nat) (x : Int64) : vp_updL f i x i = x := if_pos rfl
theorem updL_n {f : Nat → Int64} {i j : Nat} {x : Int64} (h : ¬ j = i) : vp_updL f i x j = f j := if_neg h
theorem fillJ_s {n : Nat} {v : Int64} {f g : Nat → Int64} (h : g = fillJ n v f) : vp_updL g n v = fillJ (n + 1) v f := by
  subst h
  funext j
  by_cases e : j = n
  · subst e; rw [updL_s]; exact (if_pos (Nat.lt_succ_self _)).symm
  · rw [updL_n e]
    by_cases q : j < n
    · exact (if_pos q).trans (if_pos (Nat.lt_succ_of_lt q)).symm
    · exact (if_neg q).trans (if_neg (by omega)).symm
theorem fillI_0 (v : Int32) (f : Nat → Int32) : f = fillI 0 v f := funext fun j => (if_neg (Nat.not_lt_zero j)).symm
theorem fillJ_0 (v : Int64) (f : Nat → Int64) : f = fillJ 0 v f := funext fun j => (if_neg (Nat.not_lt_zero j)).symm
theorem clampN_of {i : Int32} {n : Nat} (h : i.toInt = (n : Int)) : i.toNatClampNeg = n := by
  show i.toInt.toNat = n
  omega
theorem fillI_st {i : Int32} {n : Nat} {v : Int32} {f g g2 : Nat → Int32} (e : g2 = upd g i.toNatClampNeg v) (hi : i.toInt = (n : Int)) (h : g = fillI n v f) : g2 = fillI (n + 1) v f := by
  rw [e, clampN_of hi]; exact fillI_s h
theorem fillJ_st {i : Int32} {n : Nat} {v : Int64} {f g g2 : Nat → Int64} (e : g2 = vp_updL g i.toNatClampNeg v) (hi : i.toInt = (n : Int)) (h : g = fillJ n v f) : g2 = fillJ (n + 1) v f := by
  rw [e, clampN_of hi]; exact fillJ_s h
theorem fillI_all {n : Nat} {v : Int32} {f g : Nat → Int32} {lo hi : Int} (e : g = fillI n v f) (h : ∀ j, lo ≤ (f j).toInt ∧ (f j).toInt ≤ hi) (hv : lo ≤ v.toInt ∧ v.toInt ≤ hi) : ∀ j, lo ≤ (g j).toInt ∧ (g j).toInt ≤ hi := by
  intro j
  rw [e]
  by_cases q : j < n
  · rw [show fillI n v f j = v from if_pos q]; exact hv
  · rw [show fillI n v f j = f j from if_neg q]; exact h j
theorem cpy_all {f g r : Nat → Int32} {a b n : Nat} {lo hi : Int} (e : r = va_cpy f g a b n) (hf : ∀ j, lo ≤ (f j).toInt ∧ (f j).toInt ≤ hi) (hg : ∀ j, lo ≤ (g j).toInt ∧ (g j).toInt ≤ hi) : ∀ j, lo ≤ (r j).toInt ∧ (r j).toInt ≤ hi := by
  intro j
  rw [e]
  by_cases q : b ≤ j ∧ j < b + n
  · rw [show va_cpy f g a b n j = f (a + (j - b)) from if_pos q]; exact hf _
  · rw [show va_cpy f g a b n j = g j from if_neg q]; exact hg j
/-- how many hands a kind is -/
def totN (j : Nat) : Int := (zALL.getD j 0).toInt / 100 + (zALL.getD j 0).toInt / 10 % 10 + (zALL.getD j 0).toInt % 10
def CUok (f : Nat → Int64) (h : Int) : Prop := ∀ i : Nat, i < 35 → f i = 0 ∨ totN i ≤ h
def SUok (f : Nat → Int32) : Prop := ∀ i j : Nat, i < 35 → j < 15 → f (i * 15 + j) = 0 ∨ totN j ≤ totN i
theorem kall_dec : ∀ n : Fin 401, n.val / 100 + n.val / 10 % 10 + n.val % 10 ≤ 4 → zALL.getD (J_X3_kind (Int32.ofNat n.val)).toNatClampNeg 0 = Int32.ofNat n.val := by decide +kernel
theorem kind_all {r x : Int32} (w : r = J_X3_kind x) (h : 0 ≤ x.toInt ∧ x.toInt ≤ 400 ∧ x.toInt / 100 + x.toInt / 10 % 10 + x.toInt % 10 ≤ 4) : totN r.toNatClampNeg = x.toInt / 100 + x.toInt / 10 % 10 + x.toInt % 10 := by
  obtain ⟨n, hn, rfl⟩ := nI_of2 (x := x) (M := 400) (n := 400) (by decide) (fun q => by have := Int32.lt_iff_toInt_lt.mp q; simp at this; omega) (Int32.le_iff_toInt_le.mpr (by simpa using h.2.1))
  have e : (nI n).toInt = (n : Int) := nI_toInt (by omega)
  rw [e] at h
  have := kall_dec ⟨n, by omega⟩ (by show n / 100 + n / 10 % 10 + n % 10 ≤ 4; omega)
  subst w
  unfold totN
  rw [show zALL.getD (J_X3_kind (nI n)).toNatClampNeg 0 = nI n from this]
theorem CU_fill {f g : Nat → Int64} {h : Int} (e : g = fillJ 35 0 f) : CUok g h := fun i hi => Or.inl (by rw [e]; exact if_pos hi)
theorem SU_fill {f g : Nat → Int32} (e : g = fillI 525 0 f) : SUok g := fun i j hi hj => Or.inl (by rw [e]; exact if_pos (by omega))
theorem CU_st {f g : Nat → Int64} {h : Int} {i : Int32} {v : Int64} (e : g = vp_updL f i.toNatClampNeg v) (hf : CUok f h) (hv : v = 0 ∨ totN i.toNatClampNeg ≤ h) : CUok g h := by
  intro j hj
  rw [e]
  by_cases q : j = i.toNatClampNeg
  · subst q; rw [updL_s]; exact hv
  · rw [updL_n q]; exact hf j hj
theorem CU_get {f : Nat → Int64} {h : Int} {i : Int32} {v : Int64} (e : v = f i.toNatClampNeg) (hf : CUok f h) (hi : 0 ≤ i.toInt ∧ i.toInt < 35) : v = 0 ∨ totN i.toNatClampNeg ≤ h := by
  rw [e]; exact hf _ (by show i.toInt.toNat < 35; omega)
theorem lcnz0 {v : Int32} {x : Int64} (e : v = lg_cmp x 0) (c : ¬ v = 0) : ¬ x = 0 := fun h => c (by rw [e]; exact (lg_cmp_eq x 0).mpr h)
theorem totN_of {i v : Int32} (e : v = zALL.getD i.toNatClampNeg 0) : totN i.toNatClampNeg = v.toInt / 100 + v.toInt / 10 % 10 + v.toInt % 10 := by rw [e]; rfl
theorem SU_st {f g : Nat → Int32} {i k b v : Int32} (e : g = upd f i.toNatClampNeg v) (hf : SUok f) (hi : i.toInt = k.toInt * 15 + b.toInt) (hk : 0 ≤ k.toInt ∧ k.toInt < 35) (hb : 0 ≤ b.toInt ∧ b.toInt < 15) (hv : totN b.toNatClampNeg ≤ totN k.toNatClampNeg) : SUok g := by
  intro a c ha hc
  rw [e]
  by_cases q : a * 15 + c = i.toNatClampNeg
  · rw [q, pk_us]
    right
    have e1 : i.toInt.toNat = a * 15 + c := q.symm
    have e2 : k.toNatClampNeg = a := by show k.toInt.toNat = a; omega
    have e3 : b.toNatClampNeg = c := by show b.toInt.toNat = c; omega
    rw [e2, e3] at hv; exact hv
  · rw [pk_un q]; exact hf a c ha hc
theorem SU_get {f : Nat → Int32} {i k b v : Int32} (e : v = f i.toNatClampNeg) (hf : SUok f) (hi : i.toInt = k.toInt * 15 + b.toInt) (hk : 0 ≤ k.toInt ∧ k.toInt < 35) (hb : 0 ≤ b.toInt ∧ b.toInt < 15) : v = 0 ∨ totN b.toNatClampNeg ≤ totN k.toNatClampNeg := by
  have e1 : i.toNatClampNeg = k.toNatClampNeg * 15 + b.toNatClampNeg := by show i.toInt.toNat = k.toInt.toNat * 15 + b.toInt.toNat; omega
  rw [e, e1]
  exact hf _ _ (by show k.toInt.toNat < 35; omega) (by show b.toInt.toNat < 15; omega)
