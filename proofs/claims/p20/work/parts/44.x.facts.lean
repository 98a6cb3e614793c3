/-! fills, letters, what is told once -/
def J_J7_fill_53178_5 (sa : Nat → Nat → Int32) (p0 : Int32) : Nat → Int32 := fillI 5 p0 (sa 0)
def J_J7_fill_53178_3 (sa : Nat → Nat → Int32) (p0 : Int32) : Nat → Int32 := fillI 3 p0 (sa 0)
def J_J7_fill_53178_525 (sa : Nat → Nat → Int32) (p0 : Int32) : Nat → Int32 := fillI 525 p0 (sa 0)
def J_J7_fill_d0a16_35 (sa : Nat → Nat → Int32) (ta : Nat → Nat → Int64) (p0 : Int64) : Nat → Int64 := fillJ 35 p0 (ta 0)
theorem chr_dec2 : ∀ i : Fin 3, ∀ j : Fin 7, j.val < zLEN.getD i.val 0 → ((((zBYT.getD i.val []).getD j.val 0) &&& 255).toUInt32 % 65536).toInt32 = (zBYT.getD i.val []).getD j.val 0 := by decide +kernel
theorem chr_x {i n : Nat} {x v w r : Int32} (hi : i < 3) (hn : zLEN.getD i 0 = n) (hx : 0 ≤ x.toInt ∧ x.toInt < (n : Int)) (hn7 : n ≤ 7) (e1 : v = (zBYT.getD i []).getD x.toNatClampNeg 0) (e2 : w = v &&& 255) (e3 : r = (w.toUInt32 % 65536).toInt32) : r = (zBYT.getD i []).getD (Int.toNat x.toInt) 0 := by
  have hj : x.toNatClampNeg < n := by show x.toInt.toNat < n; omega
  have := chr_dec2 ⟨i, hi⟩ ⟨x.toNatClampNeg, by omega⟩ (by show x.toNatClampNeg < zLEN.getD i 0; rw [hn]; exact hj)
  rw [e3, e2, e1]
  exact this
def eoF (m : Int32) : List Int32 → (Nat → Int32) → Nat → Int32
  | [], f => f
  | c :: l, f => eoF m l (upd f (c - 65).toNatClampNeg m)
theorem eo_go {m c d : Int32} {l : List Int32} {k k2 : Nat} {f g X : Nat → Int32} (hk : k < l.length) (hk2 : k2 = k + 1) (hc : c = l.getD k 0) (hd : d = c - 65) (e : g = upd f d.toNatClampNeg m) (q : eoF m (l.drop k) f = X) : eoF m (l.drop k2) g = X := by
  subst hk2
  rw [List.drop_eq_getElem_cons hk] at q
  have h1 : l[k] = c := by rw [hc, List.getD_eq_getElem?_getD, List.getElem?_eq_getElem hk]; rfl
  rw [h1] at q
  rw [e, hd]
  exact q
theorem eo_end {m : Int32} {l : List Int32} {k : Nat} {f X : Nat → Int32} (hk : l.length ≤ k) (q : eoF m (l.drop k) f = X) : f = X := by
  rw [List.drop_eq_nil_of_le hk] at q; exact q
def J_X5_expectOnce_S0 (sr sc st : Nat → Nat → Int32) (p0 : Int32) : Nat → Int32 := eoF (J_X2_figures 0 p0) (zBYT.getD 0 []) (sr 1)
def J_X5_expectOnce_S1 (sr sc st : Nat → Nat → Int32) (p0 : Int32) : Nat → Int32 := eoF (J_X2_figures 0 p0) (zBYT.getD 1 []) (sr 1)
def J_X5_expectOnce_S2 (sr sc st : Nat → Nat → Int32) (p0 : Int32) : Nat → Int32 := eoF (J_X2_figures 0 p0) (zBYT.getD 2 []) (sr 1)
