theorem el_ALL : ∀ j : Fin 35, Cond.eq (.elem (.static "StillInAugust$Hands" "ALL" "[I") (.int (Int32.ofNat j.val))) (.int (zALL.getD j.val 0)) ∈ flatC (Jvm.Cond.and given_1 narrow_1) := fun j => List.mem_of_getElem? (i := 7 + j.val) ((by decide +kernel : ∀ j : Fin 35, (flatC (Jvm.Cond.and given_1 narrow_1))[7 + j.val]? = some (Cond.eq (.elem (.static "StillInAugust$Hands" "ALL" "[I") (.int (Int32.ofNat j.val))) (.int (zALL.getD j.val 0)))) j)
theorem el_BEGINNINGS : ∀ j : Fin 5, Cond.eq (.elem (.static "StillInAugust$Hands" "BEGINNINGS" "[I") (.int (Int32.ofNat j.val))) (.int (zBEG.getD j.val 0)) ∈ flatC (Jvm.Cond.and given_1 narrow_1) := fun j => List.mem_of_getElem? (i := 45 + j.val) ((by decide +kernel : ∀ j : Fin 5, (flatC (Jvm.Cond.and given_1 narrow_1))[45 + j.val]? = some (Cond.eq (.elem (.static "StillInAugust$Hands" "BEGINNINGS" "[I") (.int (Int32.ofNat j.val))) (.int (zBEG.getD j.val 0)))) j)
theorem el_WAYS : ∀ j : Fin 25, Cond.eq (.elem (.static "StillInAugust$House" "WAYS" "[I") (.int (Int32.ofNat j.val))) (.int (zWAY.getD j.val 0)) ∈ flatC (Jvm.Cond.and given_1 narrow_1) := fun j => List.mem_of_getElem? (i := 86 + j.val) ((by decide +kernel : ∀ j : Fin 25, (flatC (Jvm.Cond.and given_1 narrow_1))[86 + j.val]? = some (Cond.eq (.elem (.static "StillInAugust$House" "WAYS" "[I") (.int (Int32.ofNat j.val))) (.int (zWAY.getD j.val 0)))) j)
theorem el_POWERS : ∀ j : Fin 30, Cond.eq (.elem (.static "StillInAugust$House" "POWERS" "[I") (.int (Int32.ofNat j.val))) (.int (zPOW.getD j.val 0)) ∈ flatC (Jvm.Cond.and given_1 narrow_1) := fun j => List.mem_of_getElem? (i := 53 + j.val) ((by decide +kernel : ∀ j : Fin 30, (flatC (Jvm.Cond.and given_1 narrow_1))[53 + j.val]? = some (Cond.eq (.elem (.static "StillInAugust$House" "POWERS" "[I") (.int (Int32.ofNat j.val))) (.int (zPOW.getD j.val 0)))) j)
theorem el_SCALES : ∀ j : Fin 6, Cond.eq (.elem (.static "StillInAugust$Plan" "SCALES" "[J") (.int (Int32.ofNat j.val))) (.long (zSCA.getD j.val 0)) ∈ flatC (Jvm.Cond.and given_1 narrow_1) := fun j => List.mem_of_getElem? (i := 119 + j.val) ((by decide +kernel : ∀ j : Fin 6, (flatC (Jvm.Cond.and given_1 narrow_1))[119 + j.val]? = some (Cond.eq (.elem (.static "StillInAugust$Plan" "SCALES" "[J") (.int (Int32.ofNat j.val))) (.long (zSCA.getD j.val 0)))) j)
def tmS (i : Nat) : Term := .string "StillInAugust$HouseReader" ([74, 80, 82].getD i 0)
theorem el_STR : ∀ i : Fin 3, ∀ j : Fin 7, j.val < zLEN.getD i.val 0 → Cond.eq (.elem (.field (tmS i.val) "java/lang/String" "value" "[B") (.int (Int32.ofNat j.val))) (.int ((zBYT.getD i.val []).getD j.val 0)) ∈ flatC (Jvm.Cond.and given_1 narrow_1) := fun i j h => List.mem_of_getElem? (i := ([129, 140, 147].getD i.val 0) + j.val) ((by decide +kernel : ∀ i : Fin 3, ∀ j : Fin 7, j.val < zLEN.getD i.val 0 → (flatC (Jvm.Cond.and given_1 narrow_1))[([129, 140, 147].getD i.val 0) + j.val]? = some (Cond.eq (.elem (.field (tmS i.val) "java/lang/String" "value" "[B") (.int (Int32.ofNat j.val))) (.int ((zBYT.getD i.val []).getD j.val 0)))) i j h)
theorem ex_STR : ∀ i : Fin 3, Cond.exactly (tmS i.val) "java/lang/String" ∈ flatC (Jvm.Cond.and given_1 narrow_1) := fun i => List.mem_of_getElem? (i := ([125, 136, 143].getD i.val 0)) ((by decide +kernel : ∀ i : Fin 3, (flatC (Jvm.Cond.and given_1 narrow_1))[([125, 136, 143].getD i.val 0)]? = some (Cond.exactly (tmS i.val) "java/lang/String")) i)
theorem co_STR : ∀ i : Fin 3, Cond.eq (.field (tmS i.val) "java/lang/String" "coder" "B") (.int 0) ∈ flatC (Jvm.Cond.and given_1 narrow_1) := fun i => List.mem_of_getElem? (i := ([126, 137, 144].getD i.val 0)) ((by decide +kernel : ∀ i : Fin 3, (flatC (Jvm.Cond.and given_1 narrow_1))[([126, 137, 144].getD i.val 0)]? = some (Cond.eq (.field (tmS i.val) "java/lang/String" "coder" "B") (.int 0))) i)
theorem ar_STR : ∀ i : Fin 3, Cond.arrayOf (.field (tmS i.val) "java/lang/String" "value" "[B") .byte ∈ flatC (Jvm.Cond.and given_1 narrow_1) := fun i => List.mem_of_getElem? (i := ([127, 138, 145].getD i.val 0)) ((by decide +kernel : ∀ i : Fin 3, (flatC (Jvm.Cond.and given_1 narrow_1))[([127, 138, 145].getD i.val 0)]? = some (Cond.arrayOf (.field (tmS i.val) "java/lang/String" "value" "[B") .byte)) i)
theorem le_STR : ∀ i : Fin 3, Cond.eq (.length (.field (tmS i.val) "java/lang/String" "value" "[B")) (.int (Int32.ofNat (zLEN.getD i.val 0))) ∈ flatC (Jvm.Cond.and given_1 narrow_1) := fun i => List.mem_of_getElem? (i := ([128, 139, 146].getD i.val 0)) ((by decide +kernel : ∀ i : Fin 3, (flatC (Jvm.Cond.and given_1 narrow_1))[([128, 139, 146].getD i.val 0)]? = some (Cond.eq (.length (.field (tmS i.val) "java/lang/String" "value" "[B")) (.int (Int32.ofNat (zLEN.getD i.val 0))))) i)
theorem ne_STR : ∀ i j : Fin 3, i ≠ j → Cond.not (Cond.eq (tmS i.val) (tmS j.val)) ∈ flatC (Jvm.Cond.and given_1 narrow_1) ∨ Cond.not (Cond.eq (tmS j.val) (tmS i.val)) ∈ flatC (Jvm.Cond.and given_1 narrow_1) := by decide +kernel
theorem vk_S_congr {N : Nat} {len : List Nat} {byt : List (List Int32)} {adK adV adK' adV' : Nat → Nat} {A : Nat → Prop} {U : State} {H : Heap} (h : vk_S N len byt adK adV A U H) (e1 : ∀ i, i < N → adK' i = adK i) (e2 : ∀ i, i < N → adV' i = adV i) : vk_S N len byt adK' adV' A U H :=
  ⟨fun i hi => by rw [e1 i hi, e2 i hi]; exact h.1 i hi, fun i j hi hj q => h.2 i j hi hj (by rw [← e1 i hi, ← e1 j hj]; exact q)⟩
theorem arr_known {args : Array Value} {s : State} {ty : FieldType} (hp : refKind ty = false) (h : (Cond.arrayClass ty).before args s = true) : ∃ cA : ClassId, ArrOfT s cA ty ∧ va_RA s cA ty := by
  obtain ⟨cA, kA, comp, h1, h2, h3⟩ := Cond.arrayClass_spec h
  refine ⟨cA, fun n z => ⟨fun k h => (by cases h), kA, h2, comp, h3⟩, ?_⟩
  cases ty <;> first | exact h1 | (simp [refKind] at hp)
theorem ao_ALL : Cond.arrayOf (.static "StillInAugust$Hands" "ALL" "[I") .int ∈ flatC (Jvm.Cond.and given_1 narrow_1) := List.mem_of_getElem? (i := 5) (by decide +kernel)
theorem ln_ALL : Cond.eq (.length (.static "StillInAugust$Hands" "ALL" "[I")) (.int (Int32.ofNat 35)) ∈ flatC (Jvm.Cond.and given_1 narrow_1) := List.mem_of_getElem? (i := 6) (by decide +kernel)
theorem tw_0 : Cond.laysStatic "StillInAugust$Hands" "ALL" "[I" ∈ lw_tbl := (List.mem_append_right _ (List.mem_append_right _ (List.mem_append_left _ (List.mem_of_getElem? (l := tables_1_2) (i := 62) rfl))))
theorem tw_1 : Cond.initialized "StillInAugust$Hands" ∈ lw_tbl := (List.mem_append_right _ (List.mem_append_left _ (List.mem_of_getElem? (l := tables_1_1) (i := 12) rfl)))
theorem ao_BEGINNINGS : Cond.arrayOf (.static "StillInAugust$Hands" "BEGINNINGS" "[I") .int ∈ flatC (Jvm.Cond.and given_1 narrow_1) := List.mem_of_getElem? (i := 43) (by decide +kernel)
theorem ln_BEGINNINGS : Cond.eq (.length (.static "StillInAugust$Hands" "BEGINNINGS" "[I")) (.int (Int32.ofNat 5)) ∈ flatC (Jvm.Cond.and given_1 narrow_1) := List.mem_of_getElem? (i := 44) (by decide +kernel)
theorem tw_2 : Cond.laysStatic "StillInAugust$Hands" "BEGINNINGS" "[I" ∈ lw_tbl := (List.mem_append_right _ (List.mem_append_right _ (List.mem_append_left _ (List.mem_of_getElem? (l := tables_1_2) (i := 73) rfl))))
theorem ao_WAYS : Cond.arrayOf (.static "StillInAugust$House" "WAYS" "[I") .int ∈ flatC (Jvm.Cond.and given_1 narrow_1) := List.mem_of_getElem? (i := 84) (by decide +kernel)
theorem ln_WAYS : Cond.eq (.length (.static "StillInAugust$House" "WAYS" "[I")) (.int (Int32.ofNat 25)) ∈ flatC (Jvm.Cond.and given_1 narrow_1) := List.mem_of_getElem? (i := 85) (by decide +kernel)
theorem tw_3 : Cond.laysStatic "StillInAugust$House" "WAYS" "[I" ∈ lw_tbl := (List.mem_append_right _ (List.mem_append_right _ (List.mem_append_left _ (List.mem_of_getElem? (l := tables_1_2) (i := 94) rfl))))
theorem tw_4 : Cond.initialized "StillInAugust$House" ∈ lw_tbl := (List.mem_append_right _ (List.mem_append_left _ (List.mem_of_getElem? (l := tables_1_1) (i := 6) rfl)))
theorem ao_POWERS : Cond.arrayOf (.static "StillInAugust$House" "POWERS" "[I") .int ∈ flatC (Jvm.Cond.and given_1 narrow_1) := List.mem_of_getElem? (i := 51) (by decide +kernel)
theorem ln_POWERS : Cond.eq (.length (.static "StillInAugust$House" "POWERS" "[I")) (.int (Int32.ofNat 30)) ∈ flatC (Jvm.Cond.and given_1 narrow_1) := List.mem_of_getElem? (i := 52) (by decide +kernel)
theorem tw_5 : Cond.laysStatic "StillInAugust$House" "POWERS" "[I" ∈ lw_tbl := (List.mem_append_right _ (List.mem_append_right _ (List.mem_append_left _ (List.mem_of_getElem? (l := tables_1_2) (i := 79) rfl))))
theorem ao_SCALES : Cond.arrayOf (.static "StillInAugust$Plan" "SCALES" "[J") .long ∈ flatC (Jvm.Cond.and given_1 narrow_1) := List.mem_of_getElem? (i := 117) (by decide +kernel)
theorem ln_SCALES : Cond.eq (.length (.static "StillInAugust$Plan" "SCALES" "[J")) (.int (Int32.ofNat 6)) ∈ flatC (Jvm.Cond.and given_1 narrow_1) := List.mem_of_getElem? (i := 118) (by decide +kernel)
theorem tw_6 : Cond.laysStatic "StillInAugust$Plan" "SCALES" "[J" ∈ lw_tbl := (List.mem_append_right _ (List.mem_append_right _ (List.mem_append_right _ (List.mem_append_right _ (List.mem_append_left _ (List.mem_of_getElem? (l := tables_1_4) (i := 137) rfl))))))
theorem tw_7 : Cond.initialized "StillInAugust$Plan" ∈ lw_tbl := (List.mem_append_right _ (List.mem_append_left _ (List.mem_of_getElem? (l := tables_1_1) (i := 9) rfl)))
theorem tw_8 : Cond.laysStatic "java/lang/String" "COMPACT_STRINGS" "Z" ∈ lw_tbl := (List.mem_append_right _ (List.mem_append_right _ (List.mem_append_right _ (List.mem_append_left _ (List.mem_of_getElem? (l := tables_1_3) (i := 10) rfl)))))
theorem tw_9 : Cond.initialized "java/lang/String" ∈ lw_tbl := (List.mem_append_right _ (List.mem_append_left _ (List.mem_of_getElem? (l := tables_1_1) (i := 15) rfl)))
theorem cs_STR : Cond.eq (.static "java/lang/String" "COMPACT_STRINGS" "Z") (.int 1) ∈ flatC (Jvm.Cond.and given_1 narrow_1) := List.mem_of_getElem? (i := 111) (by decide +kernel)
theorem tw_10 : Cond.laysStatic "jdk/internal/util/Preconditions" "SIOOBE_FORMATTER" "Ljava/util/function/BiFunction;" ∈ lw_tbl := (List.mem_append_right _ (List.mem_append_right _ (List.mem_append_right _ (List.mem_append_left _ (List.mem_of_getElem? (l := tables_1_3) (i := 26) rfl)))))
theorem tw_11 : Cond.initialized "jdk/internal/util/Preconditions" ∈ lw_tbl := (List.mem_append_right _ (List.mem_append_left _ (List.mem_of_getElem? (l := tables_1_1) (i := 17) rfl)))
theorem sf_STR : Cond.isRef (.static "jdk/internal/util/Preconditions" "SIOOBE_FORMATTER" "Ljava/util/function/BiFunction;") ∈ flatC (Jvm.Cond.and given_1 narrow_1) := List.mem_of_getElem? (i := 112) (by decide +kernel)
theorem tw_12 : Cond.stringRef "StillInAugust$HouseReader" 74 "HPSGTAB" ∈ lw_tbl := (List.mem_append_right _ (List.mem_append_right _ (List.mem_append_left _ (List.mem_of_getElem? (l := tables_1_2) (i := 236) rfl))))
theorem tw_13 : Cond.stringRef "StillInAugust$HouseReader" 80 "WO" ∈ lw_tbl := (List.mem_append_right _ (List.mem_append_right _ (List.mem_append_right _ (List.mem_append_left _ (List.mem_of_getElem? (l := tables_1_3) (i := 49) rfl)))))
theorem tw_14 : Cond.stringRef "StillInAugust$HouseReader" 82 "QD" ∈ lw_tbl := (List.mem_append_right _ (List.mem_append_right _ (List.mem_append_right _ (List.mem_append_left _ (List.mem_of_getElem? (l := tables_1_3) (i := 50) rfl)))))
theorem tw_15 : Cond.methodLinkNest RX11 9 yX10_init RX11 ∈ lw_tbl := (List.mem_append_right _ (List.mem_append_left _ (List.mem_of_getElem? (l := tables_1_1) (i := 32) rfl)))
theorem tw_16 : Cond.methodLinkNest RX11 51 yX1_init RX11 ∈ lw_tbl := (List.mem_append_right _ (List.mem_append_left _ (List.mem_of_getElem? (l := tables_1_1) (i := 171) rfl)))
theorem tw_17 : Cond.methodLinkNest RX11 58 yX6_init RX11 ∈ lw_tbl := (List.mem_append_right _ (List.mem_append_left _ (List.mem_of_getElem? (l := tables_1_1) (i := 201) rfl)))
theorem tw_18 : Cond.methodLinkNest RX11 68 yX9_init RX11 ∈ lw_tbl := (List.mem_append_right _ (List.mem_append_left _ (List.mem_of_getElem? (l := tables_1_1) (i := 223) rfl)))
theorem tw_19 : Cond.methodLinkNest RX11 85 yX7_init RX11 ∈ lw_tbl := (List.mem_append_right _ (List.mem_append_right _ (List.mem_append_left _ (List.mem_of_getElem? (l := tables_1_2) (i := 16) rfl))))
theorem tw_20 : Cond.methodLinkNest RX7 20 yX9_init RX11 ∈ lw_tbl := (List.mem_append_right _ (List.mem_append_right _ (List.mem_append_left _ (List.mem_of_getElem? (l := tables_1_2) (i := 21) rfl))))
theorem tw_21 : Cond.instantiable RX1 6 ∈ lw_tbl := (List.mem_append_right _ (List.mem_append_left _ (List.mem_of_getElem? (l := tables_1_1) (i := 170) rfl)))
theorem tw_22 : Cond.instantiable RX2 3 ∈ lw_tbl := (List.mem_append_right _ (List.mem_append_left _ (List.mem_of_getElem? (l := tables_1_1) (i := 53) rfl)))
theorem tw_23 : Cond.instantiable RX4 14 ∈ lw_tbl := (List.mem_append_right _ (List.mem_append_left _ (List.mem_of_getElem? (l := tables_1_1) (i := 98) rfl)))
theorem tw_24 : Cond.instantiable RX5 2 ∈ lw_tbl := (List.mem_append_right _ (List.mem_append_left _ (List.mem_of_getElem? (l := tables_1_1) (i := 47) rfl)))
theorem tw_25 : Cond.instantiable RX6 5 ∈ lw_tbl := (List.mem_append_right _ (List.mem_append_left _ (List.mem_of_getElem? (l := tables_1_1) (i := 200) rfl)))
theorem tw_26 : Cond.instantiable RX7 9 ∈ lw_tbl := (List.mem_append_right _ (List.mem_append_right _ (List.mem_append_left _ (List.mem_of_getElem? (l := tables_1_2) (i := 15) rfl))))
theorem tw_27 : Cond.instantiable RX8 4 ∈ lw_tbl := (List.mem_append_right _ (List.mem_append_left _ (List.mem_of_getElem? (l := tables_1_1) (i := 77) rfl)))
theorem tw_28 : Cond.instantiable RX9 6 ∈ lw_tbl := (List.mem_append_right _ (List.mem_append_left _ (List.mem_of_getElem? (l := tables_1_1) (i := 222) rfl)))
theorem tw_29 : Cond.instantiable RX10 2 ∈ lw_tbl := (List.mem_append_right _ (List.mem_append_left _ (List.mem_of_getElem? (l := tables_1_1) (i := 31) rfl)))
theorem tw_30 : Cond.instantiable RX11 17 ∈ lw_tbl := (List.mem_append_right _ (List.mem_append_left _ (List.mem_of_getElem? (l := tables_1_1) (i := 23) rfl)))
theorem tw_31 : Cond.instantiable RX12 33 ∈ lw_tbl := (List.mem_append_right _ (List.mem_append_right _ (List.mem_append_right _ (List.mem_append_right _ (List.mem_append_right _ (List.mem_append_left _ (List.mem_of_getElem? (l := tables_1_5) (i := 53) rfl)))))))
theorem tw_32 : Cond.arrayClass .int ∈ lw_tbl := (List.mem_append_right _ (List.mem_append_left _ (List.mem_of_getElem? (l := tables_1_1) (i := 68) rfl)))
theorem tw_33 : Cond.arrayClass .long ∈ lw_tbl := (List.mem_append_right _ (List.mem_append_left _ (List.mem_of_getElem? (l := tables_1_1) (i := 198) rfl)))
theorem tw_34 : Cond.arrayClass .byte ∈ lw_tbl := (List.mem_append_right _ (List.mem_append_left _ (List.mem_of_getElem? (l := tables_1_1) (i := 45) rfl)))
theorem tw_35 : Cond.arrayClass .boolean ∈ lw_tbl := (List.mem_append_right _ (List.mem_append_right _ (List.mem_append_left _ (List.mem_of_getElem? (l := tables_1_2) (i := 56) rfl))))
def lk : List ClassId → Nat → ClassId
  | [], _ => default
  | a :: _, 0 => a
  | _ :: l, n + 1 => lk l n
set_option maxHeartbeats 4000000 in
set_option maxRecDepth 100000 in
theorem law_begin {s : State} {b : Nat} (hts : ∀ w ∈ lw_tbl, w.before #[Value.ref b] s = true) (hgv : (Jvm.Cond.and given_1 narrow_1).before #[Value.ref b] s = true) : ∃ (D : va_G) (k : Nat → ClassId) (bs : Nat → Nat), va_K D vwCl (ty4 k) s ∧ St bs (fun q : Nat => s.heap.size ≤ q) s s.heap ∧ nsX s := by
  have hs := flat_of_before _ hgv
  have hA : ∀ a : Nat, a < s.heap.size → ¬ (fun q : Nat => s.heap.size ≤ q) a := fun a h => Nat.not_le.mpr h
  obtain ⟨t0, h0, k0⟩ := va_Tof (tm := (.static "StillInAugust$Hands" "ALL" "[I")) (ty := .int) (N := 35) (f := fun j => .int (zALL.getD j 0)) (A := fun q : Nat => s.heap.size ≤ q) (by decide) (hs _ ao_ALL) (va_eqt (hs _ ln_ALL)) (fun j hj => va_eqt (hs _ (el_ALL ⟨j, hj⟩))) hA
  have z0 : sT "StillInAugust$Hands" "ALL" "[I" .int t0 35 (fun j => .int (zALL.getD j 0)) (fun q : Nat => s.heap.size ≤ q) s s.heap := ⟨va_Zof (hts _ tw_0) (hts _ tw_1) h0 hA, k0⟩
  obtain ⟨t1, h1, k1⟩ := va_Tof (tm := (.static "StillInAugust$Hands" "BEGINNINGS" "[I")) (ty := .int) (N := 5) (f := fun j => .int (zBEG.getD j 0)) (A := fun q : Nat => s.heap.size ≤ q) (by decide) (hs _ ao_BEGINNINGS) (va_eqt (hs _ ln_BEGINNINGS)) (fun j hj => va_eqt (hs _ (el_BEGINNINGS ⟨j, hj⟩))) hA
  have z1 : sT "StillInAugust$Hands" "BEGINNINGS" "[I" .int t1 5 (fun j => .int (zBEG.getD j 0)) (fun q : Nat => s.heap.size ≤ q) s s.heap := ⟨va_Zof (hts _ tw_2) (hts _ tw_1) h1 hA, k1⟩
  obtain ⟨t2, h2, k2⟩ := va_Tof (tm := (.static "StillInAugust$House" "WAYS" "[I")) (ty := .int) (N := 25) (f := fun j => .int (zWAY.getD j 0)) (A := fun q : Nat => s.heap.size ≤ q) (by decide) (hs _ ao_WAYS) (va_eqt (hs _ ln_WAYS)) (fun j hj => va_eqt (hs _ (el_WAYS ⟨j, hj⟩))) hA
  have z2 : sT "StillInAugust$House" "WAYS" "[I" .int t2 25 (fun j => .int (zWAY.getD j 0)) (fun q : Nat => s.heap.size ≤ q) s s.heap := ⟨va_Zof (hts _ tw_3) (hts _ tw_4) h2 hA, k2⟩
  obtain ⟨t3, h3, k3⟩ := va_Tof (tm := (.static "StillInAugust$House" "POWERS" "[I")) (ty := .int) (N := 30) (f := fun j => .int (zPOW.getD j 0)) (A := fun q : Nat => s.heap.size ≤ q) (by decide) (hs _ ao_POWERS) (va_eqt (hs _ ln_POWERS)) (fun j hj => va_eqt (hs _ (el_POWERS ⟨j, hj⟩))) hA
  have z3 : sT "StillInAugust$House" "POWERS" "[I" .int t3 30 (fun j => .int (zPOW.getD j 0)) (fun q : Nat => s.heap.size ≤ q) s s.heap := ⟨va_Zof (hts _ tw_5) (hts _ tw_4) h3 hA, k3⟩
  obtain ⟨t4, h4, k4⟩ := va_Tof (tm := (.static "StillInAugust$Plan" "SCALES" "[J")) (ty := .long) (N := 6) (f := fun j => .long (zSCA.getD j 0)) (A := fun q : Nat => s.heap.size ≤ q) (by decide) (hs _ ao_SCALES) (va_eqt (hs _ ln_SCALES)) (fun j hj => va_eqtl (hs _ (el_SCALES ⟨j, hj⟩))) hA
  have z4 : sT "StillInAugust$Plan" "SCALES" "[J" .long t4 6 (fun j => .long (zSCA.getD j 0)) (fun q : Nat => s.heap.size ≤ q) s s.heap := ⟨va_Zof (hts _ tw_6) (hts _ tw_7) h4 hA, k4⟩
  have z5 : va_Z "java/lang/String" "COMPACT_STRINGS" "Z" (.int 1) (fun q : Nat => s.heap.size ≤ q) s s.heap := va_Zof (hts _ tw_8) (hts _ tw_9) (va_eqt (hs _ cs_STR)) hA
  have z6 : va_Zq "jdk/internal/util/Preconditions" "SIOOBE_FORMATTER" "Ljava/util/function/BiFunction;" (fun q : Nat => s.heap.size ≤ q) s s.heap := va_Zqof (hts _ tw_10) (hts _ tw_11) (hs _ sf_STR) hA
  obtain ⟨adK, adV, zk, hk⟩ := vk_Sof (N := 3) (tm := tmS) (len := zLEN) (byt := zBYT) (A := fun q : Nat => s.heap.size ≤ q) (args := #[Value.ref b]) (s := s)
    (fun i hi => by rcases (show i = 0 ∨ i = 1 ∨ i = 2 by omega) with rfl | rfl | rfl <;> decide) (fun i hi => hs _ (ex_STR ⟨i, hi⟩)) (fun i hi => hs _ (co_STR ⟨i, hi⟩)) (fun i hi => hs _ (ar_STR ⟨i, hi⟩)) (fun i hi => hs _ (le_STR ⟨i, hi⟩))
    (fun i hi j hj => hs _ (el_STR ⟨i, hi⟩ ⟨j, by rcases (show i = 0 ∨ i = 1 ∨ i = 2 by omega) with rfl | rfl | rfl; exact hj; exact Nat.lt_of_lt_of_le hj (by decide); exact Nat.lt_of_lt_of_le hj (by decide)⟩ hj))
    (fun i j hi hj hne => (ne_STR ⟨i, hi⟩ ⟨j, hj⟩ (fun q => hne (congrArg Fin.val q))).imp (hs _) (hs _)) hA
  obtain ⟨c0, i0, n0⟩ := u_known (C := RX1) (T := TX1) (N := 6) (n := 6) hts inX1 (hts _ tw_21)
  obtain ⟨c1, i1, n1⟩ := u_known (C := RX2) (T := TX2) (N := 3) (n := 3) hts inX2 (hts _ tw_22)
  obtain ⟨c2, i2, n2⟩ := u_known (C := RX4) (T := TX4) (N := 14) (n := 14) hts inX4 (hts _ tw_23)
  obtain ⟨c3, i3, n3⟩ := u_known (C := RX5) (T := TX5) (N := 2) (n := 2) hts inX5 (hts _ tw_24)
  obtain ⟨c4, i4, n4⟩ := u_known (C := RX6) (T := TX6) (N := 5) (n := 5) hts inX6 (hts _ tw_25)
  obtain ⟨c5, i5, n5⟩ := u_known (C := RX7) (T := TX7) (N := 9) (n := 9) hts inX7 (hts _ tw_26)
  obtain ⟨c6, i6, n6⟩ := u_known (C := RX8) (T := TX8) (N := 4) (n := 4) hts inX8 (hts _ tw_27)
  obtain ⟨c7, i7, n7⟩ := u_known (C := RX9) (T := TX9) (N := 6) (n := 6) hts inX9 (hts _ tw_28)
  obtain ⟨c8, i8, n8⟩ := u_known (C := RX10) (T := TX10) (N := 2) (n := 2) hts inX10 (hts _ tw_29)
  obtain ⟨c9, i9, n9⟩ := u_known (C := RX11) (T := TX11) (N := 17) (n := 17) hts inX11 (hts _ tw_30)
  obtain ⟨c10, i10, n10⟩ := u_known (C := RX12) (T := TX12) (N := 33) (n := 33) hts inX12 (hts _ tw_31)
  obtain ⟨dC, dI, hKc⟩ : ∃ (dC : Nat → ClassId) (dI : Nat → Nat → Nat), ∀ (k : Nat) (q : vw_C), vwCl[k]? = some q → u_Kn s q.1 q.2.1 q.2.2 (dC k) (dI k) := by
    refine ⟨fun k => if k = 0 then c0 else if k = 1 then c1 else if k = 2 then c2 else if k = 3 then c3 else if k = 4 then c4 else if k = 5 then c5 else if k = 6 then c6 else if k = 7 then c7 else if k = 8 then c8 else if k = 9 then c9 else c10, fun k => if k = 0 then i0 else if k = 1 then i1 else if k = 2 then i2 else if k = 3 then i3 else if k = 4 then i4 else if k = 5 then i5 else if k = 6 then i6 else if k = 7 then i7 else if k = 8 then i8 else if k = 9 then i9 else i10, ?_⟩
    intro k q hq
    match k, hq with
    | 0, hq => cases hq; exact n0
    | 1, hq => cases hq; exact n1
    | 2, hq => cases hq; exact n2
    | 3, hq => cases hq; exact n3
    | 4, hq => cases hq; exact n4
    | 5, hq => cases hq; exact n5
    | 6, hq => cases hq; exact n6
    | 7, hq => cases hq; exact n7
    | 8, hq => cases hq; exact n8
    | 9, hq => cases hq; exact n9
    | 10, hq => cases hq; exact n10
    | k + 11, hq => simp [vwCl] at hq
  obtain ⟨e0, a0, r0⟩ := arr_known (ty := .int) rfl (hts _ tw_32)
  obtain ⟨e1, a1, r1⟩ := arr_known (ty := .long) rfl (hts _ tw_33)
  obtain ⟨e2, a2, r2⟩ := arr_known (ty := .byte) rfl (hts _ tw_34)
  obtain ⟨e3, a3, r3⟩ := arr_known (ty := .boolean) rfl (hts _ tw_35)
  have hK : va_K (dC, dI) vwCl (ty4 (lk [e0, e1, e2, e3])) s := by
    refine ⟨hKc, fun k q hq => ?_⟩
    match k, hq with
    | 0, hq => cases hq; exact ⟨a0, r0⟩
    | 1, hq => cases hq; exact ⟨a1, r1⟩
    | 2, hq => cases hq; exact ⟨a2, r2⟩
    | 3, hq => cases hq; exact ⟨a3, r3⟩
    | k + 4, hq => simp [ty4] at hq
  refine ⟨(dC, dI), lk [e0, e1, e2, e3], lq [t0, t1, t2, t3, t4, 0, 0, 0, 0, 0, adK 0, adK 1, adK 2, 0, 0, 0, 0, 0, 0, 0, adV 0, adV 1, adV 2], hK, ⟨z0, z1, z2, z3, z4, z5, z6, vk_S_congr zk (fun i hi => ?_) (fun i hi => ?_), vk_R.of (hts _ tw_12) (hk 0 (by decide)), vk_R.of (hts _ tw_13) (hk 1 (by decide)), vk_R.of (hts _ tw_14) (hk 2 (by decide))⟩, ⟨va_Nw.of rfl (hts _ tw_15), va_Nw.of rfl (hts _ tw_16), va_Nw.of rfl (hts _ tw_17), va_Nw.of rfl (hts _ tw_18), va_Nw.of rfl (hts _ tw_19), va_Nw.of rfl (hts _ tw_20)⟩⟩
  · rcases (show i = 0 ∨ i = 1 ∨ i = 2 by omega) with rfl | rfl | rfl <;> rfl
  · rcases (show i = 0 ∨ i = 1 ∨ i = 2 by omega) with rfl | rfl | rfl <;> rfl
