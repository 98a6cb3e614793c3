/-! THE CLAIM OUT OF ONE WALK OF THE LAW'S BODY. Your part is whole_start (and what it stands on); all else here is the same for every law, but numbers. -/
def R_law : String := "StillInAugustLaw"
def lw_P (b : Addr) (xs : List Int32) (args : Array Value) (s : State) : Prop := args = #[.ref b] ∧ s.IntsAt b xs ∧ xs.length ≤ 384 ∧ (Jvm.Cond.and given_1 narrow_1).before args s = true
def lw_Q (_ : Array Value) (s : State) (o : Outcome) (t : State) : Prop := o = .returned (some (.int 1)) ∧ Framed s o t [] 67 11187
def lw_Z (below : List Frame) (a : Array Value) (s : State) : State → Prop := fun t => ∃ o, t.status = .running ∧ Ended t below o ∧ lw_Q a s o t
/-- the law's own end, with 1 on the stack, nothing written that was there before, its room as the claim has it -/
theorem lw_ret {p : Program} {l : Launch} {e : Env} {s : State} {m : MethodId} {below : List Frame} {meth : Method} {c : Code} {b : Nat} (hx : p.tables.exec = Jvm.exec) (hb : c.code = code) (hr : meth.sig.returnType = ret) (hlocks : meth.locks = false) {pc : Nat} {H : Heap} {ls : Array Slot} (hdg : decode code pc = .ok (.ireturn, 1)) : W p l e room_1 s m #[Value.ref b] below meth c H [] 67 11187 (lw_Z below #[Value.ref b] s) (F0 m pc ls [.int 1]) := by
  intro T hT X
  obtain ⟨fs, hret, hrun, hended, hW, hframe⟩ := X.leave (v := some (.int 1)) (hlocks := hlocks) (fun h => by rw [hr] at h; cases h)
  have hmeth' : T.vm.method? m = some meth := X.method'
  refine ⟨T.setFrames fs, ?_, .returned (some (.int 1)), hrun, hended, rfl, ⟨_, rfl⟩, hW, hframe⟩
  jvm_step X.here [X.here.top, hx, hb, hdg, hmeth', hr, ret, narrow_b1]
  (try refine ⟨rfl, ?_⟩); (try refine ⟨rfl, ?_⟩)
  first | (intro acts; rw [hret _ acts rfl rfl rfl]) | rw [hret _ _ rfl rfl rfl]
  exact Steps.refl _
/-- what holds at the law's entry: the machine, the code, the tables' words (any of lw_tbl by 'hts w (by decide +kernel)'), the script of L ints xs at the cell b, what the Statement gives of the start (any of its parts by flat_of_before) -/
def lw_At (p : Program) (s : State) (m : MethodId) (meth : Method) (c : Code) (b L : Nat) (xs : Nat → Int32) : Prop :=
  p.tables.exec = Jvm.exec ∧ c.code = code ∧ meth.sig.returnType = ret ∧ c.maxLocals = 4 ∧ s.vm.findClass R_law = some m.cls ∧ (∀ w ∈ lw_tbl, w.before #[Value.ref b] s = true) ∧ va_X b L xs s s.heap ∧ b < s.heap.size ∧ meth.locks = false ∧ (Jvm.Cond.and given_1 narrow_1).before #[Value.ref b] s = true
set_option maxHeartbeats 8000000 in
set_option maxRecDepth 100000 in
theorem law_loop {p : Program} {l : Launch} {e : Env} {s : State} {m : MethodId} {below : List Frame} {meth : Method} {c : Code} {A : Nat → Prop} {D : va_G} {k : Nat → ClassId} {b : Nat → Nat} {b0 L : Nat} {xs : Nat → Int32} (cx : Cx p s m #[Value.ref b0] c cL_law 4 wsL_law RL D k b A) (hA2 : ∀ q : Nat, A q → s.heap.size ≤ q) (hX : va_X b0 L xs s s.heap) (hbl : b0 < s.heap.size) (hbA : ¬ A b0) (hL : L ≤ 384) (hr : meth.sig.returnType = ret) (hlocks : meth.locks = false) (Qa : Nat → Nat → Nat) :
    ∀ (n : Nat) (v : Int32) (S : Nat → Nat → Nat → Int32) (T : Nat → Nat → Nat → Int64) (H : Heap) (locs : List Loc) (ls : Array Slot), (L : Int) - v.toInt < (n : Int) → 0 ≤ v.toInt ∧ v.toInt ≤ (L : Int) → INV S → va_P D vwCl (wX k Qa S T) H → va_D A (wX k Qa S T) → va_S A s.heap H locs → lv_has ls 4 [(3, .int v), (2, .ref (Qa 17 0)), (1, .ref (Qa 0 0)), (0, .ref b0)] → W p l e room_1 s m #[Value.ref b0] below meth c H locs 67 11187 (lw_Z below #[Value.ref b0] s) (F0 m 18 ls []) := by
  have hx := cx.1.1
  have hb := cx.1.2.1
  intro n
  induction n with
  | zero => intro v S T H locs ls hm hv hI hP hD hS hl; exact absurd hm (by omega)
  | succ n ih =>
    intro v S T H locs ls hm hv hI hP hD hS hl
    have hLn : (Int32.ofNat L).toInt = (L : Int) := nI_toInt (by omega)
    refine lv_iload_n hx hb dL_law_18 rfl (lv_at hl 0 rfl) ?_
    refine lv_aload_n hx hb dL_law_19 rfl (lv_at hl 3 rfl) ?_
    refine va_slen hx hb hX hbl hbA hS dL_law_20 ?_
    refine lv_bipush (v := 6) hx hb dL_law_21 (by decide) ?_
    refine lv_isub hx hb dL_law_23 (lv_topi (fun z ez => ?_))
    have tz : z.toInt = (L : Int) - 6 := by rw [ez]; exact i_sub hLn (by decide) (by omega) (by omega)
    refine lv_icmp_gt (tgt := 1554) hx hb dL_law_24 (by decide) (fun c1 => ?_) (fun c1 => ?_)
    · refine lv_iconst (v := 1) hx hb dL_law_1554 (by decide) ?_
      exact va_forget (fun q hq => hA2 _ (hS.2.2 q hq)) (lw_ret hx hb hr hlocks dL_law_1555)
    · have f1 : v.toInt ≤ (L : Int) - 6 := f_nlt tz rfl c1
      have hv6 : 0 ≤ v.toInt ∧ v.toInt + 6 ≤ (L : Int) := ⟨hv.1, by omega⟩
      have K : Kont p l e s m below meth c (lw_Z below #[Value.ref b0] s) A D k b0 Qa v := by
        intro S T H locs ls hI hP hD hS hl
        obtain ⟨w, ew⟩ : ∃ z : Int32, z = v + 6 := ⟨_, rfl⟩
        refine lv_iinc (v := w) (lv' := [(3, .int w), (2, .ref (Qa 17 0)), (1, .ref (Qa 0 0)), (0, .ref b0)]) hx hb dL_law_1548 hl (k := 0) rfl (by rw [ew]; rfl) (by decide) rfl (fun ls hl => ?_)
        have tw : w.toInt = v.toInt + 6 := by rw [ew]; exact i_add rfl (by decide) (by omega) (by omega)
        refine lv_goto (tgt := 18) hx hb dL_law_1551 (by decide) ?_
        exact ih w S T _ _ _ (by omega) ⟨by omega, by omega⟩ hI hP hD hS hl
      refine lv_aload_n hx hb dL_law_27 rfl (lv_at hl 3 rfl) ?_
      refine lv_iload_n hx hb dL_law_28 rfl (lv_at hl 0 rfl) ?_
      have hn0 : vp_in v L := f_in (a := v.toInt) rfl (by omega) (by omega)
      refine va_sld hx hb hX hbl hbA hS hn0 dL_law_29 ?_
      refine lv_bipush (v := 63) hx hb dL_law_30 (by decide) ?_
      refine lv_iand hx hb dL_law_32 (lv_topi (fun y ey => ?_))
      by_cases c0_ : y = 0
      · refine lv_tableIn (tgt := 196) (off := 163) hx hb dL_law_33 (by rw [c0_]; decide) (by rw [c0_]; decide) (by rw [c0_]; decide) (by decide) ?_
        exact law_c0 cx hX hbl hbA hL Qa v hv6 K S T _ _ _ hI hP hD hS hl
      by_cases c1_ : y = 1
      · refine lv_tableIn (tgt := 259) (off := 226) hx hb dL_law_33 (by rw [c1_]; decide) (by rw [c1_]; decide) (by rw [c1_]; decide) (by decide) ?_
        exact law_c1 cx hX hbl hbA hL Qa v hv6 K S T _ _ _ hI hP hD hS hl
      by_cases c2_ : y = 2
      · refine lv_tableIn (tgt := 272) (off := 239) hx hb dL_law_33 (by rw [c2_]; decide) (by rw [c2_]; decide) (by rw [c2_]; decide) (by decide) ?_
        exact law_c2 cx hX hbl hbA hL Qa v hv6 K S T _ _ _ hI hP hD hS hl
      by_cases c3_ : y = 3
      · refine lv_tableIn (tgt := 311) (off := 278) hx hb dL_law_33 (by rw [c3_]; decide) (by rw [c3_]; decide) (by rw [c3_]; decide) (by decide) ?_
        exact law_c3 cx hX hbl hbA hL Qa v hv6 K S T _ _ _ hI hP hD hS hl
      by_cases c4_ : y = 4
      · refine lv_tableIn (tgt := 324) (off := 291) hx hb dL_law_33 (by rw [c4_]; decide) (by rw [c4_]; decide) (by rw [c4_]; decide) (by decide) ?_
        exact law_c4 cx hX hbl hbA hL Qa v hv6 K S T _ _ _ hI hP hD hS hl
      by_cases c5_ : y = 5
      · refine lv_tableIn (tgt := 347) (off := 314) hx hb dL_law_33 (by rw [c5_]; decide) (by rw [c5_]; decide) (by rw [c5_]; decide) (by decide) ?_
        exact law_c5 cx hX hbl hbA hL Qa v hv6 K S T _ _ _ hI hP hD hS hl
      by_cases c6_ : y = 6
      · refine lv_tableIn (tgt := 380) (off := 347) hx hb dL_law_33 (by rw [c6_]; decide) (by rw [c6_]; decide) (by rw [c6_]; decide) (by decide) ?_
        exact law_c6 cx hX hbl hbA hL Qa v hv6 K S T _ _ _ hI hP hD hS hl
      by_cases c7_ : y = 7
      · refine lv_tableIn (tgt := 413) (off := 380) hx hb dL_law_33 (by rw [c7_]; decide) (by rw [c7_]; decide) (by rw [c7_]; decide) (by decide) ?_
        exact law_c7 cx hX hbl hbA hL Qa v hv6 K S T _ _ _ hI hP hD hS hl
      by_cases c8_ : y = 8
      · refine lv_tableIn (tgt := 446) (off := 413) hx hb dL_law_33 (by rw [c8_]; decide) (by rw [c8_]; decide) (by rw [c8_]; decide) (by decide) ?_
        exact law_c8 cx hX hbl hbA hL Qa v hv6 K S T _ _ _ hI hP hD hS hl
      by_cases c9_ : y = 9
      · refine lv_tableIn (tgt := 469) (off := 436) hx hb dL_law_33 (by rw [c9_]; decide) (by rw [c9_]; decide) (by rw [c9_]; decide) (by decide) ?_
        exact law_c9 cx hX hbl hbA hL Qa v hv6 K S T _ _ _ hI hP hD hS hl
      by_cases c10_ : y = 10
      · refine lv_tableIn (tgt := 512) (off := 479) hx hb dL_law_33 (by rw [c10_]; decide) (by rw [c10_]; decide) (by rw [c10_]; decide) (by decide) ?_
        exact law_c10 cx hX hbl hbA hL Qa v hv6 K S T _ _ _ hI hP hD hS hl
      by_cases c11_ : y = 11
      · refine lv_tableIn (tgt := 555) (off := 522) hx hb dL_law_33 (by rw [c11_]; decide) (by rw [c11_]; decide) (by rw [c11_]; decide) (by decide) ?_
        exact law_c11 cx hX hbl hbA hL Qa v hv6 K S T _ _ _ hI hP hD hS hl
      by_cases c12_ : y = 12
      · refine lv_tableIn (tgt := 608) (off := 575) hx hb dL_law_33 (by rw [c12_]; decide) (by rw [c12_]; decide) (by rw [c12_]; decide) (by decide) ?_
        exact law_c12 cx hX hbl hbA hL Qa v hv6 K S T _ _ _ hI hP hD hS hl
      by_cases c13_ : y = 13
      · refine lv_tableIn (tgt := 687) (off := 654) hx hb dL_law_33 (by rw [c13_]; decide) (by rw [c13_]; decide) (by rw [c13_]; decide) (by decide) ?_
        exact law_c13 cx hX hbl hbA hL Qa v hv6 K S T _ _ _ hI hP hD hS hl
      by_cases c14_ : y = 14
      · refine lv_tableIn (tgt := 746) (off := 713) hx hb dL_law_33 (by rw [c14_]; decide) (by rw [c14_]; decide) (by rw [c14_]; decide) (by decide) ?_
        exact law_c14 cx hX hbl hbA hL Qa v hv6 K S T _ _ _ hI hP hD hS hl
      by_cases c15_ : y = 15
      · refine lv_tableIn (tgt := 789) (off := 756) hx hb dL_law_33 (by rw [c15_]; decide) (by rw [c15_]; decide) (by rw [c15_]; decide) (by decide) ?_
        exact law_c15 cx hX hbl hbA hL Qa v hv6 K S T _ _ _ hI hP hD hS hl
      by_cases c16_ : y = 16
      · refine lv_tableIn (tgt := 868) (off := 835) hx hb dL_law_33 (by rw [c16_]; decide) (by rw [c16_]; decide) (by rw [c16_]; decide) (by decide) ?_
        exact law_c16 cx hX hbl hbA hL Qa v hv6 K S T _ _ _ hI hP hD hS hl
      by_cases c17_ : y = 17
      · refine lv_tableIn (tgt := 927) (off := 894) hx hb dL_law_33 (by rw [c17_]; decide) (by rw [c17_]; decide) (by rw [c17_]; decide) (by decide) ?_
        exact law_c17 cx hX hbl hbA hL Qa v hv6 K S T _ _ _ hI hP hD hS hl
      by_cases c18_ : y = 18
      · refine lv_tableIn (tgt := 986) (off := 953) hx hb dL_law_33 (by rw [c18_]; decide) (by rw [c18_]; decide) (by rw [c18_]; decide) (by decide) ?_
        exact law_c18 cx hX hbl hbA hL Qa v hv6 K S T _ _ _ hI hP hD hS hl
      by_cases c19_ : y = 19
      · refine lv_tableIn (tgt := 1056) (off := 1023) hx hb dL_law_33 (by rw [c19_]; decide) (by rw [c19_]; decide) (by rw [c19_]; decide) (by decide) ?_
        exact law_c19 cx hX hbl hbA hL Qa v hv6 K S T _ _ _ hI hP hD hS hl
      by_cases c20_ : y = 20
      · refine lv_tableIn (tgt := 1069) (off := 1036) hx hb dL_law_33 (by rw [c20_]; decide) (by rw [c20_]; decide) (by rw [c20_]; decide) (by decide) ?_
        exact law_c20 cx hX hbl hbA hL Qa v hv6 K S T _ _ _ hI hP hD hS hl
      by_cases c21_ : y = 21
      · refine lv_tableIn (tgt := 1138) (off := 1105) hx hb dL_law_33 (by rw [c21_]; decide) (by rw [c21_]; decide) (by rw [c21_]; decide) (by decide) ?_
        exact law_c21 cx hX hbl hbA hL Qa v hv6 K S T _ _ _ hI hP hD hS hl
      by_cases c22_ : y = 22
      · refine lv_tableIn (tgt := 1181) (off := 1148) hx hb dL_law_33 (by rw [c22_]; decide) (by rw [c22_]; decide) (by rw [c22_]; decide) (by decide) ?_
        exact law_c22 cx hX hbl hbA hL Qa v hv6 K S T _ _ _ hI hP hD hS hl
      by_cases c23_ : y = 23
      · refine lv_tableIn (tgt := 1204) (off := 1171) hx hb dL_law_33 (by rw [c23_]; decide) (by rw [c23_]; decide) (by rw [c23_]; decide) (by decide) ?_
        exact law_c23 cx hX hbl hbA hL Qa v hv6 K S T _ _ _ hI hP hD hS hl
      by_cases c24_ : y = 24
      · refine lv_tableIn (tgt := 1237) (off := 1204) hx hb dL_law_33 (by rw [c24_]; decide) (by rw [c24_]; decide) (by rw [c24_]; decide) (by decide) ?_
        exact law_c24 cx hX hbl hbA hL Qa v hv6 K S T _ _ _ hI hP hD hS hl
      by_cases c25_ : y = 25
      · refine lv_tableIn (tgt := 1286) (off := 1253) hx hb dL_law_33 (by rw [c25_]; decide) (by rw [c25_]; decide) (by rw [c25_]; decide) (by decide) ?_
        exact law_c25 cx hX hbl hbA hL Qa v hv6 K S T _ _ _ hI hP hD hS hl
      by_cases c26_ : y = 26
      · refine lv_tableIn (tgt := 1309) (off := 1276) hx hb dL_law_33 (by rw [c26_]; decide) (by rw [c26_]; decide) (by rw [c26_]; decide) (by decide) ?_
        exact law_c26 cx hX hbl hbA hL Qa v hv6 K S T _ _ _ hI hP hD hS hl
      by_cases c27_ : y = 27
      · refine lv_tableIn (tgt := 1332) (off := 1299) hx hb dL_law_33 (by rw [c27_]; decide) (by rw [c27_]; decide) (by rw [c27_]; decide) (by decide) ?_
        exact law_c27 cx hX hbl hbA hL Qa v hv6 K S T _ _ _ hI hP hD hS hl
      by_cases c28_ : y = 28
      · refine lv_tableIn (tgt := 1355) (off := 1322) hx hb dL_law_33 (by rw [c28_]; decide) (by rw [c28_]; decide) (by rw [c28_]; decide) (by decide) ?_
        exact law_c28 cx hX hbl hbA hL Qa v hv6 K S T _ _ _ hI hP hD hS hl
      by_cases c29_ : y = 29
      · refine lv_tableIn (tgt := 1378) (off := 1345) hx hb dL_law_33 (by rw [c29_]; decide) (by rw [c29_]; decide) (by rw [c29_]; decide) (by decide) ?_
        exact law_c29 cx hX hbl hbA hL Qa v hv6 K S T _ _ _ hI hP hD hS hl
      by_cases c30_ : y = 30
      · refine lv_tableIn (tgt := 1401) (off := 1368) hx hb dL_law_33 (by rw [c30_]; decide) (by rw [c30_]; decide) (by rw [c30_]; decide) (by decide) ?_
        exact law_c30 cx hX hbl hbA hL Qa v hv6 K S T _ _ _ hI hP hD hS hl
      by_cases c31_ : y = 31
      · refine lv_tableIn (tgt := 1434) (off := 1401) hx hb dL_law_33 (by rw [c31_]; decide) (by rw [c31_]; decide) (by rw [c31_]; decide) (by decide) ?_
        exact law_c31 cx hX hbl hbA hL Qa v hv6 K S T _ _ _ hI hP hD hS hl
      by_cases c32_ : y = 32
      · refine lv_tableIn (tgt := 1447) (off := 1414) hx hb dL_law_33 (by rw [c32_]; decide) (by rw [c32_]; decide) (by rw [c32_]; decide) (by decide) ?_
        exact law_c32 cx hX hbl hbA hL Qa v hv6 K S T _ _ _ hI hP hD hS hl
      by_cases c33_ : y = 33
      · refine lv_tableIn (tgt := 1460) (off := 1427) hx hb dL_law_33 (by rw [c33_]; decide) (by rw [c33_]; decide) (by rw [c33_]; decide) (by decide) ?_
        exact law_c33 cx hX hbl hbA hL Qa v hv6 K S T _ _ _ hI hP hD hS hl
      by_cases c34_ : y = 34
      · refine lv_tableIn (tgt := 1473) (off := 1440) hx hb dL_law_33 (by rw [c34_]; decide) (by rw [c34_]; decide) (by rw [c34_]; decide) (by decide) ?_
        exact law_c34 cx hX hbl hbA hL Qa v hv6 K S T _ _ _ hI hP hD hS hl
      by_cases c35_ : y = 35
      · refine lv_tableIn (tgt := 1512) (off := 1479) hx hb dL_law_33 (by rw [c35_]; decide) (by rw [c35_]; decide) (by rw [c35_]; decide) (by decide) ?_
        exact law_c35 cx hX hbl hbA hL Qa v hv6 K S T _ _ _ hI hP hD hS hl
      by_cases c36_ : y = 36
      · refine lv_tableIn (tgt := 1525) (off := 1492) hx hb dL_law_33 (by rw [c36_]; decide) (by rw [c36_]; decide) (by rw [c36_]; decide) (by decide) ?_
        exact law_c36 cx hX hbl hbA hL Qa v hv6 K S T _ _ _ hI hP hD hS hl
      have g0_ : ¬ y.toInt = 0 := f_ne rfl (by decide) c0_
      have g1_ : ¬ y.toInt = 1 := f_ne rfl (by decide) c1_
      have g2_ : ¬ y.toInt = 2 := f_ne rfl (by decide) c2_
      have g3_ : ¬ y.toInt = 3 := f_ne rfl (by decide) c3_
      have g4_ : ¬ y.toInt = 4 := f_ne rfl (by decide) c4_
      have g5_ : ¬ y.toInt = 5 := f_ne rfl (by decide) c5_
      have g6_ : ¬ y.toInt = 6 := f_ne rfl (by decide) c6_
      have g7_ : ¬ y.toInt = 7 := f_ne rfl (by decide) c7_
      have g8_ : ¬ y.toInt = 8 := f_ne rfl (by decide) c8_
      have g9_ : ¬ y.toInt = 9 := f_ne rfl (by decide) c9_
      have g10_ : ¬ y.toInt = 10 := f_ne rfl (by decide) c10_
      have g11_ : ¬ y.toInt = 11 := f_ne rfl (by decide) c11_
      have g12_ : ¬ y.toInt = 12 := f_ne rfl (by decide) c12_
      have g13_ : ¬ y.toInt = 13 := f_ne rfl (by decide) c13_
      have g14_ : ¬ y.toInt = 14 := f_ne rfl (by decide) c14_
      have g15_ : ¬ y.toInt = 15 := f_ne rfl (by decide) c15_
      have g16_ : ¬ y.toInt = 16 := f_ne rfl (by decide) c16_
      have g17_ : ¬ y.toInt = 17 := f_ne rfl (by decide) c17_
      have g18_ : ¬ y.toInt = 18 := f_ne rfl (by decide) c18_
      have g19_ : ¬ y.toInt = 19 := f_ne rfl (by decide) c19_
      have g20_ : ¬ y.toInt = 20 := f_ne rfl (by decide) c20_
      have g21_ : ¬ y.toInt = 21 := f_ne rfl (by decide) c21_
      have g22_ : ¬ y.toInt = 22 := f_ne rfl (by decide) c22_
      have g23_ : ¬ y.toInt = 23 := f_ne rfl (by decide) c23_
      have g24_ : ¬ y.toInt = 24 := f_ne rfl (by decide) c24_
      have g25_ : ¬ y.toInt = 25 := f_ne rfl (by decide) c25_
      have g26_ : ¬ y.toInt = 26 := f_ne rfl (by decide) c26_
      have g27_ : ¬ y.toInt = 27 := f_ne rfl (by decide) c27_
      have g28_ : ¬ y.toInt = 28 := f_ne rfl (by decide) c28_
      have g29_ : ¬ y.toInt = 29 := f_ne rfl (by decide) c29_
      have g30_ : ¬ y.toInt = 30 := f_ne rfl (by decide) c30_
      have g31_ : ¬ y.toInt = 31 := f_ne rfl (by decide) c31_
      have g32_ : ¬ y.toInt = 32 := f_ne rfl (by decide) c32_
      have g33_ : ¬ y.toInt = 33 := f_ne rfl (by decide) c33_
      have g34_ : ¬ y.toInt = 34 := f_ne rfl (by decide) c34_
      have g35_ : ¬ y.toInt = 35 := f_ne rfl (by decide) c35_
      have g36_ : ¬ y.toInt = 36 := f_ne rfl (by decide) c36_
      refine lv_tableOut (tgt := 1548) hx hb dL_law_33 (by omega) (by decide) ?_
      exact K S T _ _ _ hI hP hD hS hl
