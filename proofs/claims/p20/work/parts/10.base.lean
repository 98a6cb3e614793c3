/-! the statics, the standard contract, calls and their frame, entry and exit -/
def zALL : List Int32 := [0, 1, 2, 3, 4, 10, 11, 12, 13, 20, 21, 22, 30, 31, 40, 100, 101, 102, 103, 110, 111, 112, 120, 121, 130, 200, 201, 202, 210, 211, 220, 300, 301, 310, 400]
def zBEG : List Int32 := [0, 15, 25, 31, 34]
def zWAY : List Int32 := [1, 0, 0, 0, 0, 1, 1, 0, 0, 0, 1, 2, 1, 0, 0, 1, 3, 3, 1, 0, 1, 4, 6, 4, 1]
def zPOW : List Int32 := [1, 0, 0, 0, 0, 1, 1, 1, 1, 1, 1, 2, 4, 8, 16, 1, 3, 9, 27, 81, 1, 4, 16, 64, 256, 1, 5, 25, 125, 625]
def zSCA : List Int64 := [1, 625, 390625, 244140625, 152587890625, 95367431640625]
def zLEN : List Nat := [7, 2, 2]
def zBYT : List (List Int32) := [[72, 80, 83, 71, 84, 65, 66], [87, 79], [81, 68]]
def sT (C n d : String) (ty : FieldType) (t N : Nat) (f : Nat → Value) (A : Nat → Prop) (U : State) (H : Heap) : Prop := va_Z C n d (.ref t) A U H ∧ va_T ty t N f A U H
theorem sT.moved {C n d : String} {ty : FieldType} {t N : Nat} {f : Nat → Value} {A : Nat → Prop} {u U : State} {H : Heap} (hvm : u.vm.Alike U.vm) (h : sT C n d ty t N f A u H) : sT C n d ty t N f A U H := ⟨va_Z.moved hvm h.1, va_T.moved hvm h.2⟩
theorem sT.kept {C n d : String} {ty : FieldType} {t N : Nat} {f : Nat → Value} {A : Nat → Prop} {U : State} {H H1 : Heap} (h : sT C n d ty t N f A U H) (hq : ∀ a : Nat, a < H.size → ¬ A a → H1[a]? = H[a]?) : sT C n d ty t N f A U H1 := ⟨h.1.kept hq, h.2.kept hq⟩
theorem sT.narrow {C n d : String} {ty : FieldType} {t N : Nat} {f : Nat → Value} {A B : Nat → Prop} {U : State} {H : Heap} (h : sT C n d ty t N f A U H) (hAB : ∀ q, B q → A q) : sT C n d ty t N f B U H := ⟨h.1.narrow hAB, h.2.narrow hAB⟩
def St (b : Nat → Nat) (A : Nat → Prop) (U : State) (H : Heap) : Prop :=
  sT "StillInAugust$Hands" "ALL" "[I" .int (b 0) 35 (fun j => .int (zALL.getD j 0)) A U H ∧
  sT "StillInAugust$Hands" "BEGINNINGS" "[I" .int (b 1) 5 (fun j => .int (zBEG.getD j 0)) A U H ∧
  sT "StillInAugust$House" "WAYS" "[I" .int (b 2) 25 (fun j => .int (zWAY.getD j 0)) A U H ∧
  sT "StillInAugust$House" "POWERS" "[I" .int (b 3) 30 (fun j => .int (zPOW.getD j 0)) A U H ∧
  sT "StillInAugust$Plan" "SCALES" "[J" .long (b 4) 6 (fun j => .long (zSCA.getD j 0)) A U H ∧
  va_Z "java/lang/String" "COMPACT_STRINGS" "Z" (.int 1) A U H ∧
  va_Zq "jdk/internal/util/Preconditions" "SIOOBE_FORMATTER" "Ljava/util/function/BiFunction;" A U H ∧
  vk_S 3 zLEN zBYT (fun i => b (10 + i)) (fun i => b (20 + i)) A U H ∧
  vk_R "StillInAugust$HouseReader" 74 "HPSGTAB" (b 10) U ∧ vk_R "StillInAugust$HouseReader" 80 "WO" (b 11) U ∧ vk_R "StillInAugust$HouseReader" 82 "QD" (b 12) U
theorem St.kept {b : Nat → Nat} {A : Nat → Prop} {U : State} {H H1 : Heap} (h : St b A U H) (hq : ∀ a : Nat, a < H.size → ¬ A a → H1[a]? = H[a]?) : St b A U H1 := by
  obtain ⟨h1, h2, h3, h4, h5, h6, h7, h8, h9⟩ := h
  exact ⟨h1.kept hq, h2.kept hq, h3.kept hq, h4.kept hq, h5.kept hq, h6.kept hq, h7.kept hq, h8.kept hq, h9⟩
theorem St.narrow {b : Nat → Nat} {A B : Nat → Prop} {U : State} {H : Heap} (h : St b A U H) (hAB : ∀ q, B q → A q) : St b B U H := by
  obtain ⟨h1, h2, h3, h4, h5, h6, h7, h8, h9⟩ := h
  exact ⟨h1.narrow hAB, h2.narrow hAB, h3.narrow hAB, h4.narrow hAB, h5.narrow hAB, h6.narrow hAB, h7.narrow hAB, h8.narrow hAB, h9⟩
theorem St.warm {b : Nat → Nat} {A : Nat → Prop} {s U : State} {H : Heap} (hW : s.WarmedH U.vm) (h : St b A s H) : St b A U H := by
  obtain ⟨h1, h2, h3, h4, h5, h6, h7, h8, h9, h10, h11⟩ := h
  have v := hW.alike
  exact ⟨h1.moved v, h2.moved v, h3.moved v, h4.moved v, h5.moved v, h6.moved v, h7.moved v, h8.moved v, h9.warm hW, h10.warm hW, h11.warm hW⟩
theorem St.same {b : Nat → Nat} {A : Nat → Prop} {u U : State} {H : Heap} (hv : U.vm = u.vm) (h : St b A u H) : St b A U H := by
  obtain ⟨h1, h2, h3, h4, h5, h6, h7, h8, h9, h10, h11⟩ := h
  have v : u.vm.Alike U.vm := by rw [hv]; exact Vm.Alike.refl u.vm
  exact ⟨h1.moved v, h2.moved v, h3.moved v, h4.moved v, h5.moved v, h6.moved v, h7.moved v, h8.moved v, h9.same hv, h10.same hv, h11.same hv⟩
/-- the array classes: ints, longs, bytes, booleans -/
def ty4 (k : Nat → ClassId) : List (ClassId × FieldType) := [(k 0, .int), (k 1, .long), (k 2, .byte), (k 3, .boolean)]
/-- a contract's start: the arguments, the cells wc, the statics -/
def cPre (D : va_G) (k : Nat → ClassId) (b : Nat → Nat) (wc : va_W) (sz : Nat) (av : List Value) : Array Value → State → Prop :=
  va_Pc av (fun U => U.heap.size = sz ∧ va_P D vwCl wc U.heap ∧ va_K D vwCl (ty4 k) U ∧ va_D (fun _ => True) wc ∧ St b (va_A wc sz) U U.heap)
/-- the cells behind it -/
def cB {S : Type} (D : va_G) (k : Nat → ClassId) (A : Nat → Prop) (w1 : S → va_W) : S → State → Prop := fun u t => va_P D vwCl (w1 u) t.heap ∧ va_K D vwCl (ty4 k) t ∧ va_D A (w1 u)
abbrev MetI {S : Type} (l : Launch) (D : va_G) (k : Nat → ClassId) (b : Nat → Nat) (y : MethodName) (wd : List Cond) (rm : Room) (wc : va_W) (sz : Nat) (av : List Value) (post : Int32 → S → Prop) (w1 : S → va_W) : Prop := Met l y wd rm (cPre D k b wc sz av) (va_Qi post (cB D k (va_A wc sz) w1) (va_A wc sz)) 0 0 (va_A wc sz)
abbrev MetL {S : Type} (l : Launch) (D : va_G) (k : Nat → ClassId) (b : Nat → Nat) (y : MethodName) (wd : List Cond) (rm : Room) (wc : va_W) (sz : Nat) (av : List Value) (post : Int64 → S → Prop) (w1 : S → va_W) : Prop := Met l y wd rm (cPre D k b wc sz av) (va_Ql post (cB D k (va_A wc sz) w1) (va_A wc sz)) 0 0 (va_A wc sz)
abbrev MetV {S : Type} (l : Launch) (D : va_G) (k : Nat → ClassId) (b : Nat → Nat) (y : MethodName) (wd : List Cond) (rm : Room) (wc : va_W) (sz : Nat) (av : List Value) (post : S → Prop) (w1 : S → va_W) : Prop := Met l y wd rm (cPre D k b wc sz av) (va_Qv post (cB D k (va_A wc sz) w1) (va_A wc sz)) 0 0 (va_A wc sz)
/-- what stands through a method's body -/
abbrev Cx (p : Program) (s : State) (m : MethodId) (args : Array Value) (c : Code) (cc : ByteArray) (nL : Nat) (Ts : List Cond) (own : String) (D : va_G) (k : Nat → ClassId) (b : Nat → Nat) (A : Nat → Prop) : Prop :=
  CallFix p m c cc nL s args Ts own ∧ va_K D vwCl (ty4 k) s ∧ (∀ q, s.heap.size ≤ q → A q) ∧ St b A s s.heap
theorem at_sub {ws wc : va_W} {is : List Nat} (h : is.map (fun i => ws[i]?) = wc.map some) : ∀ (j : Nat) (q : Nat × va_E), wc[j]? = some q → ∃ i : Nat, is[j]? = some i ∧ ws[i]? = some q := by
  intro j q hq
  have h1 : (is.map (fun i => ws[i]?))[j]? = some (some q) := by rw [h, List.getElem?_map, hq]; rfl
  rw [List.getElem?_map] at h1
  cases hi : is[j]? with
  | none => rw [hi] at h1; simp at h1
  | some i =>
    rw [hi] at h1
    simp only [Option.map_some, Option.some.injEq] at h1
    exact ⟨i, rfl, h1⟩
theorem g_subP {D : va_G} {cl : List vw_C} {ws wc : va_W} {H : Heap} {is : List Nat} (hP : va_P D cl ws H) (h : is.map (fun i => ws[i]?) = wc.map some) : va_P D cl wc H := fun j q hq => by
  obtain ⟨i, -, h2⟩ := at_sub h j q hq
  exact hP i q h2
/-- cells put at their places -/
def wset : va_W → List Nat → va_W → va_W
  | ws, i :: is, q :: w => wset (ws.set i q) is w
  | ws, _, _ => ws
theorem wset_at : ∀ (is : List Nat) (ws w : va_W), is.length = w.length → ∀ (j : Nat) (q : Nat × va_E), (wset ws is w)[j]? = some q → (∃ i : Nat, is[i]? = some j ∧ w[i]? = some q) ∨ (ws[j]? = some q ∧ j ∉ is) := by
  intro is
  induction is with
  | nil => intro ws w hl j q hq; cases w with
    | nil => exact Or.inr ⟨hq, List.not_mem_nil⟩
    | cons a w => simp at hl
  | cons i is ih => intro ws w hl j q hq; cases w with
    | nil => simp at hl
    | cons a w =>
      rcases ih (ws.set i a) w (by simpa using hl) j q hq with ⟨i2, h1, h2⟩ | ⟨h1, h2⟩
      · exact Or.inl ⟨i2 + 1, by simpa using h1, by simpa using h2⟩
      · by_cases e : i = j
        · subst e
          rw [List.getElem?_set] at h1
          simp only [ite_true] at h1
          split at h1
          · exact Or.inl ⟨0, by simp, by simpa using h1⟩
          · cases h1
        · rw [List.getElem?_set_ne e] at h1
          exact Or.inr ⟨h1, fun hm => by rcases List.mem_cons.mp hm with h | h; exact e h.symm; exact h2 h⟩
theorem g_put {A0 : Nat → Prop} {D : va_G} {cl : List vw_C} {ws wc w1 : va_W} {H H1 : Heap} (hP : va_P D cl ws H) (hD : va_D A0 ws) (isC : List Nat) (hC : isC.map (fun i => ws[i]?) = wc.map some) (hl : isC.length = w1.length)
    (hk : ∀ q : Nat, q < H.size → ¬ va_A wc H.size q → H1[q]? = H[q]?) (hF : ∀ q, va_A wc H.size q → A0 q) (hP1 : va_P D cl w1 H1) (hD1 : va_D (va_A wc H.size) w1) : va_P D cl (wset ws isC w1) H1 ∧ va_D A0 (wset ws isC w1) := by
  have apart : ∀ (j : Nat) (q : Nat × va_E), ws[j]? = some q → j ∉ isC → q.1 < H.size ∧ ¬ va_A wc H.size q.1 := by
    intro j q hq hj
    have hlt := (hP j q hq).lt
    refine ⟨hlt, fun h => ?_⟩
    rcases h with ⟨k2, e, h⟩ | h
    · obtain ⟨i, h3, h4⟩ := at_sub hC k2 (q.1, e) h
      have hij := hD.1 j i q (q.1, e) hq h4 rfl
      subst hij
      exact hj (List.mem_of_getElem? h3)
    · omega
  refine ⟨fun j q hq => ?_, fun i j x y hx hy hxy => ?_, fun j q hq => ?_⟩
  · rcases wset_at isC ws w1 hl j q hq with ⟨i, -, h2⟩ | ⟨h1, h2⟩
    · exact hP1 i q h2
    · obtain ⟨g1, g2⟩ := apart j q h1 h2
      exact (hP j q h1).kept (hk q.1 g1 g2)
  · rcases wset_at isC ws w1 hl i x hx with ⟨i1, a1, a2⟩ | ⟨a1, a2⟩
    · rcases wset_at isC ws w1 hl j y hy with ⟨j1, c1, c2⟩ | ⟨c1, c2⟩
      · have e := hD1.1 i1 j1 x y a2 c2 hxy
        subst e
        rw [a1] at c1
        exact Option.some.inj c1
      · exact absurd (hxy ▸ hD1.2 i1 x a2) (apart j y c1 c2).2
    · rcases wset_at isC ws w1 hl j y hy with ⟨j1, c1, c2⟩ | ⟨c1, c2⟩
      · exact absurd (hxy.symm ▸ hD1.2 j1 y c2) (apart i x a1 a2).2
      · exact hD.1 i j x y a1 c1 hxy
  · rcases wset_at isC ws w1 hl j q hq with ⟨i, -, h2⟩ | ⟨h1, -⟩
    · exact hF q.1 (hD1.2 i q h2)
    · exact hD.2 j q h1
