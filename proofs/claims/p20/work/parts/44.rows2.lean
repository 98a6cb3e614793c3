section STT2
variable {b : Nat → Nat} {A : Nat → Prop} {U : State} {H : Heap}
theorem St.t5 (h : St b A U H) : va_Z "java/lang/String" "COMPACT_STRINGS" "Z" (.int 1) A U H := h.2.2.2.2.2.1
theorem St.t6 (h : St b A U H) : va_Zq "jdk/internal/util/Preconditions" "SIOOBE_FORMATTER" "Ljava/util/function/BiFunction;" A U H := h.2.2.2.2.2.2.1
theorem St.t7 (h : St b A U H) : vk_S 3 zLEN zBYT (fun i => b (10 + i)) (fun i => b (20 + i)) A U H := h.2.2.2.2.2.2.2.1
end STT2
section GROWS4
variable {p : Program} {l : Launch} {e : Env} {R : Room} {s : State} {m : MethodId} {args : Array Value} {below : List Frame} {meth : Method} {c : Code} {H : Heap} {locs : List Loc} {cells slots : Nat} {Q : State → Prop}
variable {cc : ByteArray} {pc nL : Nat} {ls : Array Slot} {rest : List Value} {A : Nat → Prop} {Ts : List Cond} {own : String} {D : va_G} {k : Nat → ClassId} {b : Nat → Nat} {ws wc : va_W} {st0 : List Value}
variable {y : MethodName} {bytes : ByteArray} {maxL n index : Nat} {ret : Option FieldType} {wd wd' : List Cond} {rm : Room} {Qc : Array Value → State → Outcome → State → Prop}
theorem g_vr {post : Unit → Prop} {a : Array Value} (hr : va_Run p l e R s m args below meth c H locs cells slots 0 0 (F0 m pc ls st0) rest (va_Qv post (cB D k (va_A wc H.size) (fun _ => wc)) (va_A wc H.size) a) (va_A wc H.size))
    (hA : ∀ q, s.heap.size ≤ q → A q) (hP : va_P D vwCl ws H) (hD : va_D A ws) (hS : va_S A s.heap H locs) (isC : List Nat) (hC : isC.map (fun i => ws[i]?) = wc.map some) (hl : isC.length = wc.length)
    (kk : ∀ (H1 : Heap) (locs1 : List Loc), post () → va_P D vwCl ws H1 → va_S A s.heap H1 locs1 → W p l e R s m args below meth c H1 locs1 cells slots Q (F0 m (pc + 3) ls rest)) : W p l e R s m args below meth c H locs cells slots Q (F0 m pc ls st0) := by
  refine g_v hr hA hP hD hS isC hC (fun _ => hl) (fun u H1 locs1 hw hP1 _ hS1 => ?_)
  rw [wset_id isC ws wc hC] at hP1
  exact kk H1 locs1 hw hP1 hS1
/-- a call of a string constant's method -/
theorem g_runK (cx : Cx p s m args c cc nL Ts own D k b A) (hP : va_P D vwCl ws H) (hD : va_D A ws) (hS : va_S A s.heap H locs) {i : Nat} (hi : i < 3) (As : List Value)
    (hM : Met l y wd rm (cPre D k b [] H.size (.ref (b (10 + i)) :: As)) Qc 0 0 (va_A [] H.size)) (hG : GoodIn Ts (wsV own index "java/lang/String" y wd)) (hw : wd = Cond.code y bytes maxL ret :: wd') (hrc : rm.cells = 0) (hrs : rm.slots = 0)
    (hd : y.cls = "java/lang/String" ∧ y.cls ≠ "java/lang/invoke/MethodHandle" ∧ y.cls ≠ "java/lang/invoke/VarHandle" ∧ (parseMethodDescriptor y.desc).map (fun d => d.parameters.length) = some n) (hR : rm.frames + 1 ≤ R.frames ∧ 8 + (maxL + 11) + rm.locals ≤ R.locals)
    (hnn : As.length = n) (hl : ls.size = nL) (hst : st0 = As.reverse ++ .ref (b (10 + i)) :: rest) (hW : (rest.map fun v => v.category).sum ≤ 8) (hf : cells ≤ R.cells ∧ slots ≤ R.slots) (hdg : decode cc pc = .ok (.invokevirtual index, 3)) :
    va_Run p l e R s m args below meth c H locs cells slots 0 0 (F0 m pc ls st0) rest (Qc (.ref (b (10 + i)) :: As).toArray) (va_A [] H.size) := by
  have hp := g_preS (wc := []) cx hP hD hS [] rfl rfl (.ref (b (10 + i)) :: As)
  have hv := vk_recv (i := i) cx.2.2.2.t7 hi hS
  exact va_runV (As := As) (rest := rest) cx.1 hM (cwV n cx.1.2.2.2.2 hG hw hrc hrs hd hR) ⟨hp.1, hv, hp.2⟩ rfl hnn hl hst (lv_room hW) hdg hf
/-- a reference that comes back, of a call that only looks -/
def cQ (D : va_G) (k : Nat → ClassId) (wc : va_W) (sz ra : Nat) : Unit → Nat → State → Prop := fun _ x t => x = ra ∧ va_P D vwCl wc t.heap ∧ va_K D vwCl (ty4 k) t ∧ va_D (va_A wc sz) wc
abbrev MetQ (l : Launch) (D : va_G) (k : Nat → ClassId) (b : Nat → Nat) (y : MethodName) (wd : List Cond) (rm : Room) (wc : va_W) (sz : Nat) (av : List Value) (ra : Nat) : Prop := Met l y wd rm (cPre D k b wc sz av) (va_Qr (fun _ => True) (cQ D k wc sz ra) (va_A wc sz)) 0 0 (va_A wc sz)
theorem g_qr {ra : Nat} {a : Array Value} (hr : va_Run p l e R s m args below meth c H locs cells slots 0 0 (F0 m pc ls st0) rest (va_Qr (fun _ => True) (cQ D k wc H.size ra) (va_A wc H.size) a) (va_A wc H.size))
    (hA : ∀ q, s.heap.size ≤ q → A q) (hP : va_P D vwCl ws H) (hD : va_D A ws) (hS : va_S A s.heap H locs) (isC : List Nat) (hC : isC.map (fun i => ws[i]?) = wc.map some) (hl : isC.length = wc.length)
    (kk : ∀ (H1 : Heap) (locs1 : List Loc), True → va_P D vwCl ws H1 → va_S A s.heap H1 locs1 → W p l e R s m args below meth c H1 locs1 cells slots Q (F0 m (pc + 3) ls (.ref ra :: rest))) : W p l e R s m args below meth c H locs cells slots Q (F0 m pc ls st0) := by
  have hF := va_free hD hS hA isC hC
  refine va_callr hr hS (fun q _ h => hF q h) hF (fun u x t H1 locs1 ht hvm hw hB hz1 hk1 hS1 => ?_)
  obtain ⟨rfl, hP1, hK1, hD1⟩ := hB
  rw [ht] at hP1
  obtain ⟨hP', hD'⟩ := g_put hP hD isC hC hl hk1 hF hP1 hD1
  rw [wset_id isC ws wc hC] at hP'
  exact kk H1 locs1 trivial hP' hS1
theorem x_q {ra : Nat} {rt : FieldType} (cx : Cx p s m args c cc nL Ts own D k b (va_A wc s.heap.size)) (hr : meth.sig.returnType = some rt ∧ meth.locks = false) (hrt : (∃ n, rt = .object n) ∨ ∃ t, rt = .array t) (hP : va_P D vwCl wc H) (hD : va_D (va_A wc s.heap.size) wc) (hS : va_S (va_A wc s.heap.size) s.heap H locs) (hdg : decode cc pc = .ok (.areturn, 1)) :
    W p l e R s m args below meth c H locs 0 0 (MQ below (va_Qr (fun _ => True) (cQ D k wc s.heap.size ra) (va_A wc s.heap.size)) args s 0 0 (va_A wc s.heap.size)) (F0 m pc ls [.ref ra]) :=
  have hlocks := hr.2
  W.aret (v := .ref ra) cx.1.1 cx.1.2.1 hr.1 hrt (Or.inr ⟨_, rfl⟩) (fun t ht hW => ⟨⟨(), ra, rfl, trivial, rfl, by rw [ht]; exact hP, va_K.moved hW.alike cx.2.1, hD⟩, hS.F ht⟩) hS.2.2 hdg
end GROWS4
theorem fw_kI_73 : Cond.fieldLink RX11 73 "StillInAugust" "firstKept" "LStillInAugust$Summer;" ∈ wsX11_keptIn := by decide +kernel
theorem fw_kI_76 : Cond.fieldLink RX11 76 "StillInAugust" "secondKept" "LStillInAugust$Summer;" ∈ wsX11_keptIn := by decide +kernel
theorem iw_kI : ∀ w ∈ u_ws RX11 TX11 17, w ∈ wsX11_keptIn := fun _ h => List.mem_cons_of_mem _ (List.mem_append_right _ h)
set_option maxHeartbeats 4000000 in
set_option maxRecDepth 100000 in
theorem c_X11_keptIn_0 (l : Launch) (D : va_G) (k : Nat → ClassId) (b : Nat → Nat) (qx : Nat → Nat) (sx : Nat → Nat → Int32) (sz : Nat) (p0 : Int32) (hs : p0.toInt = 0) : MetQ l D k b yX11_keptIn wsX11_keptIn ({ frames := 0, cells := 0, slots := 0, locals := 0 } : Room) [cell30_ qx sx, cell28_ k qx sx, cell29_ k qx sx] sz [.ref (qx 0), .int p0] (qx 13) := by
  refine g_enter (cc := cX11_keptIn) (maxL := 2) (ret := (some (.object "StillInAugust$Summer"))) (by decide) rfl (Nat.le_of_ble_eq_true rfl) ?_
  intro p e s m below meth c A hsz hAe cx hr hP hD hS ls hl
  subst hsz
  subst hAe
  have hx := cx.1.1
  have hb := cx.1.2.1
  have hl : lv_has ls 2 [(0, .ref (qx 0)), (1, .int p0)] := hl
  refine lv_iload_n hx hb dX11_keptIn_0 rfl (lv_at hl 1 rfl) ?_
  refine lv_if_ne (tgt := 11) hx hb dX11_keptIn_1 (by decide) (fun c1 => ?_) (fun c1 => ?_)
  · exact absurd hs (f_ne rfl (by decide) c1)
  · refine lv_aload_n hx hb dX11_keptIn_4 rfl (lv_at hl 0 rfl) ?_
    refine g_get cx hP iw_kI 0 rfl rfl 11 (by decide) rfl fw_kI_73 rfl dX11_keptIn_5 ?_
    refine lv_goto (tgt := 15) hx hb dX11_keptIn_8 (by decide) ?_
    exact x_q cx hr (Or.inl ⟨_, rfl⟩) hP hD hS dX11_keptIn_15
set_option maxHeartbeats 4000000 in
set_option maxRecDepth 100000 in
theorem c_X11_keptIn_1 (l : Launch) (D : va_G) (k : Nat → ClassId) (b : Nat → Nat) (qx : Nat → Nat) (sx : Nat → Nat → Int32) (sz : Nat) (p0 : Int32) (hs : ¬ p0.toInt = 0) : MetQ l D k b yX11_keptIn wsX11_keptIn ({ frames := 0, cells := 0, slots := 0, locals := 0 } : Room) [cell30_ qx sx, cell28_ k qx sx, cell29_ k qx sx] sz [.ref (qx 0), .int p0] (qx 14) := by
  refine g_enter (cc := cX11_keptIn) (maxL := 2) (ret := (some (.object "StillInAugust$Summer"))) (by decide) rfl (Nat.le_of_ble_eq_true rfl) ?_
  intro p e s m below meth c A hsz hAe cx hr hP hD hS ls hl
  subst hsz
  subst hAe
  have hx := cx.1.1
  have hb := cx.1.2.1
  have hl : lv_has ls 2 [(0, .ref (qx 0)), (1, .int p0)] := hl
  refine lv_iload_n hx hb dX11_keptIn_0 rfl (lv_at hl 1 rfl) ?_
  refine lv_if_ne (tgt := 11) hx hb dX11_keptIn_1 (by decide) (fun c1 => ?_) (fun c1 => ?_)
  · refine lv_aload_n hx hb dX11_keptIn_11 rfl (lv_at hl 0 rfl) ?_
    refine g_get cx hP iw_kI 0 rfl rfl 12 (by decide) rfl fw_kI_76 rfl dX11_keptIn_12 ?_
    exact x_q cx hr (Or.inl ⟨_, rfl⟩) hP hD hS dX11_keptIn_15
  · exact absurd (f_eq rfl (by decide) c1) hs
