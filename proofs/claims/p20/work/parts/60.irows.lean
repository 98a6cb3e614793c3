/-! making objects -/
section GROWI
variable {p : Program} {l : Launch} {e : Env} {R : Room} {s : State} {m : MethodId} {args : Array Value} {below : List Frame} {meth : Method} {c : Code} {H : Heap} {locs : List Loc} {cells slots : Nat} {Q : State → Prop}
variable {cc : ByteArray} {pc nL : Nat} {ls : Array Slot} {rest : List Value} {A : Nat → Prop} {Ts : List Cond} {own : String} {D : va_G} {k : Nat → ClassId} {b : Nat → Nat} {ws wc wr : va_W} {st0 : List Value}
variable {y : MethodName} {bytes : ByteArray} {maxL n index mc ms : Nat} {ret : Option FieldType} {wd wd' : List Cond} {rm : Room} {Qc : Array Value → State → Outcome → State → Prop}
theorem g_nwI (cx : Cx p s m args c cc nL Ts own D k b A) (harr : Cond.arrayClass .int ∈ Ts) (hP : va_P D vwCl ws H) (hD : va_D A ws) (hS : va_S A s.heap H locs) {z : Int32} {N : Nat} (hn : ¬ z < 0) (hN : z.toNatClampNeg = N) (hbytes : N * componentBytes .int ≤ 536870912) (hcells : cells + 1 ≤ R.cells) (hslots : slots + N ≤ R.slots) (hdg : decode cc pc = .ok (.newarray .int, 2))
    (kk : ∀ (q : Nat) (H1 : Heap), va_P D vwCl (ws ++ [(q, .inl (k 0, N, .inl (fun _ => 0)))]) H1 → va_D A (ws ++ [(q, .inl (k 0, N, .inl (fun _ => 0)))]) → va_S A s.heap H1 locs → W p l e R s m args below meth c H1 locs (cells + 1) (slots + N) Q (F0 m (pc + 2) ls (.ref q :: rest))) : W p l e R s m args below meth c H locs cells slots Q (F0 m pc ls (.int z :: rest)) := by
  refine va_newa (atype := .int) (ty := .int) cx.1.1 cx.1.2.1 (cx.1.2.2.2.2 _ harr) rfl cx.2.1 hP hD hS cx.2.2.1 (a0 := (N, .inl (fun _ => 0))) (fun cA => rfl) hn hN hbytes hcells hslots hdg (fun q cA H1 hK1 hP1 hD1 hS1 => ?_)
  have h1 : s.vm.findClass ("[" ++ FieldType.int.toString) = some (k 0) := (cx.2.1.2 0 (k 0, .int) rfl).2
  have h2 : s.vm.findClass ("[" ++ FieldType.int.toString) = some cA := (hK1.2 4 (cA, .int) rfl).2
  obtain rfl : cA = k 0 := Option.some.inj (h2.symm.trans h1)
  exact kk q H1 hP1 hD1 hS1
theorem g_nwJ (cx : Cx p s m args c cc nL Ts own D k b A) (harr : Cond.arrayClass .long ∈ Ts) (hP : va_P D vwCl ws H) (hD : va_D A ws) (hS : va_S A s.heap H locs) {z : Int32} {N : Nat} (hn : ¬ z < 0) (hN : z.toNatClampNeg = N) (hbytes : N * componentBytes .long ≤ 536870912) (hcells : cells + 1 ≤ R.cells) (hslots : slots + N ≤ R.slots) (hdg : decode cc pc = .ok (.newarray .long, 2))
    (kk : ∀ (q : Nat) (H1 : Heap), va_P D vwCl (ws ++ [(q, .inl (k 1, N, .inr (.inl (fun _ => 0))))]) H1 → va_D A (ws ++ [(q, .inl (k 1, N, .inr (.inl (fun _ => 0))))]) → va_S A s.heap H1 locs → W p l e R s m args below meth c H1 locs (cells + 1) (slots + N) Q (F0 m (pc + 2) ls (.ref q :: rest))) : W p l e R s m args below meth c H locs cells slots Q (F0 m pc ls (.int z :: rest)) := by
  refine va_newa (atype := .long) (ty := .long) cx.1.1 cx.1.2.1 (cx.1.2.2.2.2 _ harr) rfl cx.2.1 hP hD hS cx.2.2.1 (a0 := (N, .inr (.inl (fun _ => 0)))) (fun cA => rfl) hn hN hbytes hcells hslots hdg (fun q cA H1 hK1 hP1 hD1 hS1 => ?_)
  have h1 : s.vm.findClass ("[" ++ FieldType.long.toString) = some (k 1) := (cx.2.1.2 1 (k 1, .long) rfl).2
  have h2 : s.vm.findClass ("[" ++ FieldType.long.toString) = some cA := (hK1.2 4 (cA, .long) rfl).2
  obtain rfl : cA = k 1 := Option.some.inj (h2.symm.trans h1)
  exact kk q H1 hP1 hD1 hS1
theorem g_nwB (cx : Cx p s m args c cc nL Ts own D k b A) (harr : Cond.arrayClass .byte ∈ Ts) (hP : va_P D vwCl ws H) (hD : va_D A ws) (hS : va_S A s.heap H locs) {z : Int32} {N : Nat} (hn : ¬ z < 0) (hN : z.toNatClampNeg = N) (hbytes : N * componentBytes .byte ≤ 536870912) (hcells : cells + 1 ≤ R.cells) (hslots : slots + N ≤ R.slots) (hdg : decode cc pc = .ok (.newarray .byte, 2))
    (kk : ∀ (q : Nat) (H1 : Heap), va_P D vwCl (ws ++ [(q, .inl (k 2, N, .inl (fun _ => 0)))]) H1 → va_D A (ws ++ [(q, .inl (k 2, N, .inl (fun _ => 0)))]) → va_S A s.heap H1 locs → W p l e R s m args below meth c H1 locs (cells + 1) (slots + N) Q (F0 m (pc + 2) ls (.ref q :: rest))) : W p l e R s m args below meth c H locs cells slots Q (F0 m pc ls (.int z :: rest)) := by
  refine va_newa (atype := .byte) (ty := .byte) cx.1.1 cx.1.2.1 (cx.1.2.2.2.2 _ harr) rfl cx.2.1 hP hD hS cx.2.2.1 (a0 := (N, .inl (fun _ => 0))) (fun cA => rfl) hn hN hbytes hcells hslots hdg (fun q cA H1 hK1 hP1 hD1 hS1 => ?_)
  have h1 : s.vm.findClass ("[" ++ FieldType.byte.toString) = some (k 2) := (cx.2.1.2 2 (k 2, .byte) rfl).2
  have h2 : s.vm.findClass ("[" ++ FieldType.byte.toString) = some cA := (hK1.2 4 (cA, .byte) rfl).2
  obtain rfl : cA = k 2 := Option.some.inj (h2.symm.trans h1)
  exact kk q H1 hP1 hD1 hS1
theorem g_nwZ (cx : Cx p s m args c cc nL Ts own D k b A) (harr : Cond.arrayClass .boolean ∈ Ts) (hP : va_P D vwCl ws H) (hD : va_D A ws) (hS : va_S A s.heap H locs) {z : Int32} {N : Nat} (hn : ¬ z < 0) (hN : z.toNatClampNeg = N) (hbytes : N * componentBytes .boolean ≤ 536870912) (hcells : cells + 1 ≤ R.cells) (hslots : slots + N ≤ R.slots) (hdg : decode cc pc = .ok (.newarray .boolean, 2))
    (kk : ∀ (q : Nat) (H1 : Heap), va_P D vwCl (ws ++ [(q, .inl (k 3, N, .inl (fun _ => 0)))]) H1 → va_D A (ws ++ [(q, .inl (k 3, N, .inl (fun _ => 0)))]) → va_S A s.heap H1 locs → W p l e R s m args below meth c H1 locs (cells + 1) (slots + N) Q (F0 m (pc + 2) ls (.ref q :: rest))) : W p l e R s m args below meth c H locs cells slots Q (F0 m pc ls (.int z :: rest)) := by
  refine va_newa (atype := .boolean) (ty := .boolean) cx.1.1 cx.1.2.1 (cx.1.2.2.2.2 _ harr) rfl cx.2.1 hP hD hS cx.2.2.1 (a0 := (N, .inl (fun _ => 0))) (fun cA => rfl) hn hN hbytes hcells hslots hdg (fun q cA H1 hK1 hP1 hD1 hS1 => ?_)
  have h1 : s.vm.findClass ("[" ++ FieldType.boolean.toString) = some (k 3) := (cx.2.1.2 3 (k 3, .boolean) rfl).2
  have h2 : s.vm.findClass ("[" ++ FieldType.boolean.toString) = some cA := (hK1.2 4 (cA, .boolean) rfl).2
  obtain rfl : cA = k 3 := Option.some.inj (h2.symm.trans h1)
  exact kk q H1 hP1 hD1 hS1
theorem g_new (cx : Cx p s m args c cc nL Ts own D k b A) {C : String} {T : u_T} {N ci : Nat} (hin : ∀ w ∈ u_ws C T N, w ∈ Ts) (ty : Nat → FieldType) (hty : ∀ k, k < N → parseFieldDescriptor (T k).2.2.1 = some (ty k)) (hcl : Cond.classLink own index C ∈ Ts) (hinst : Cond.instantiable C N ∈ Ts) (hini : Cond.initialized C ∈ Ts)
    (hP : va_P D vwCl ws H) (hD : va_D A ws) (hS : va_S A s.heap H locs) (hc : vwCl[ci]? = some (C, T, N)) {fs : List Value} (hfs : ∀ j, j < N → defaultValue (ty j) = vp_V fs j) (hcells : cells + 1 ≤ R.cells) (hslots : slots + N ≤ R.slots) (hdg : decode cc pc = .ok (.new index, 3))
    (kk : ∀ (q : Nat) (H1 : Heap), va_P D vwCl (ws ++ [(q, .inr (ci, fs))]) H1 → va_D A (ws ++ [(q, .inr (ci, fs))]) → va_S A s.heap H1 locs →
      W p l e R s m args below meth c H1 locs (cells + 1) (slots + N) Q (F0 m (pc + 3) ls (.ref q :: rest))) : W p l e R s m args below meth c H locs cells slots Q (F0 m pc ls rest) :=
  va_new cx.1.1 cx.1.2.1 cx.1.2.2.2.2 hin ty hty cx.1.2.2.2.1 (cx.1.2.2.2.2 _ hcl) (cx.1.2.2.2.2 _ hinst) (cx.1.2.2.2.2 _ hini) cx.2.1 hP hD hS cx.2.2.1 hc hfs hcells hslots hdg kk
theorem g_ptF (cx : Cx p s m args c cc nL Ts own D k b A) (hnm0 : meth.name = "<init>") (hP : va_P D vwCl ws H) (hD : va_D A ws) (hS : va_S A s.heap H locs) {a ci N : Nat} {C : String} {T : u_T} (hin : ∀ w ∈ u_ws C T N, w ∈ Ts) (ty0 : Nat → FieldType) (hty : ∀ k, k < N → parseFieldDescriptor (T k).2.2.1 = some (ty0 k)) (hnm : ∀ a, a < N → ∀ b, b < N → a ≠ b → (T a).2.1 ≠ (T b).2.1)
    (q0 : Nat) {fs : List Value} (he : ws[q0]? = some (a, .inr (ci, fs))) (hc : vwCl[ci]? = some (C, T, N)) (j : Nat) (hj : j < N) {o fn fd : String} (hT : T j = (o, fn, fd, true)) (ho : o = own) (hfl : Cond.fieldLink own index o fn fd ∈ Ts) {v : Value} {ty : FieldType} (ht : ty0 j = ty) (hn : narrow ty v = v) (hfit : fits ty v = true) (hll : j < fs.length) (hdg : decode cc pc = .ok (.putfield index, 3))
    (kk : ∀ (H1 : Heap) (locs1 : List Loc), va_P D vwCl (ws.set q0 (a, .inr (ci, fs.set j v))) H1 → va_D A (ws.set q0 (a, .inr (ci, fs.set j v))) → va_S A s.heap H1 locs1 → W p l e R s m args below meth c H1 locs1 cells slots Q (F0 m (pc + 3) ls rest)) : W p l e R s m args below meth c H locs cells slots Q (F0 m pc ls (v :: .ref a :: rest)) :=
  va_putF (ref := o) cx.1.1 cx.1.2.1 cx.1.2.2.2.2 hin ty0 hty hnm cx.1.2.2.2.1 cx.2.1 hP hD hS q0 he hc j hj (by rw [hT]; exact cx.1.2.2.2.2 _ hfl) (by rw [hT]; exact fun _ h => h) (by rw [hT]) hnm0 (by rw [hT]; exact ho) (ht ▸ hty j hj) hn hfit hll hdg kk
theorem g_oi (cx : Cx p s m args c cc nL Ts own D k b A) (hl : ls.size = nL) (h1 : Cond.methodLink own index objectInit ∈ Ts) (h2 : Cond.instanceMethod objectInit ∈ Ts) (h3 : Cond.code objectInit ⟨#[0xb1]⟩ 1 none ∈ Ts) {a : Nat} (hdg : decode cc pc = .ok (.invokespecial index, 3)) (hfr : 1 ≤ R.frames) (hlo : (rest.map fun v => v.category).sum + 12 ≤ R.locals)
    (kk : W p l e R s m args below meth c H locs cells slots Q (F0 m (pc + 3) ls rest)) : W p l e R s m args below meth c H locs cells slots Q (F0 m pc ls (.ref a :: rest)) := by
  refine W.objInit cx.1.1 cx.1.2.1 cx.1.2.2.2.1 (cx.1.2.2.2.2 _ h1) (cx.1.2.2.2.2 _ h2) (cx.1.2.2.2.2 _ h3) (g := F0 m pc ls (.ref a :: rest)) rfl (by show ls.size = c.maxLocals; rw [hl]; exact cx.1.2.2.1.symm) rfl hdg hfr (by show 2 * 0 + _ + 12 ≤ _; omega) ?_
  exact W.eq (g2 := F0 m (pc + 3) ls rest) rfl kk
/-- a constructor is called -/
theorem g_runI (cx : Cx p s m args c cc nL Ts own D k b A) (hP : va_P D vwCl ws H) (hD : va_D A ws) (hS : va_S A s.heap H locs) (isC : List Nat) (hC : isC.map (fun i => ws[i]?) = wc.map some) (hn : va_nd isC = true) {a : Nat} (As : List Value)
    (hM : Met l y wd rm (cPre D k b wc H.size (.ref a :: As)) Qc mc ms (va_A wc H.size)) (hG : GoodIn Ts wd) (hw : wd = Cond.code y bytes maxL none :: wd') (hrc : rm.cells = mc) (hrs : rm.slots = ms) (hini : Cond.initialized y.cls ∈ Ts) (hlk : Cond.methodLink own index y ∈ Ts) (hin : Cond.instanceMethod y ∈ Ts) (hy1 : y.name = "<init>")
    (hd : y.cls ≠ "java/lang/invoke/MethodHandle" ∧ y.cls ≠ "java/lang/invoke/VarHandle" ∧ (parseMethodDescriptor y.desc).map (fun d => d.parameters.length) = some n) (hR : rm.frames + 1 ≤ R.frames ∧ 8 + (maxL + 11) + rm.locals ≤ R.locals)
    (hnn : As.length = n) (hl : ls.size = nL) (hst : st0 = As.reverse ++ .ref a :: rest) (hW : (rest.map fun v => v.category).sum ≤ 8) (hf : cells + mc ≤ R.cells ∧ slots + ms ≤ R.slots) (hdg : decode cc pc = .ok (.invokespecial index, 3)) :
    va_Run p l e R s m args below meth c H locs cells slots mc ms (F0 m pc ls st0) rest (Qc (.ref a :: As).toArray) (va_A wc H.size) :=
  va_runI (As := As) (rest := rest) cx.1 hM (cwI n cx.1.2.2.2.2 hG hw hrc hrs (cx.1.2.2.2.2 _ hini) (cx.1.2.2.2.2 _ hlk) (cx.1.2.2.2.2 _ hin) hy1 hd hR) (g_preS cx hP hD hS isC hC hn (.ref a :: As)) rfl hnn hl hst (lv_room hW) hdg hf
theorem g_runIN (cx : Cx p s m args c cc nL Ts own D k b A) (hP : va_P D vwCl ws H) (hD : va_D A ws) (hS : va_S A s.heap H locs) (isC : List Nat) (hC : isC.map (fun i => ws[i]?) = wc.map some) (hn : va_nd isC = true) {a : Nat} (As : List Value)
    (hM : Met l y wd rm (cPre D k b wc H.size (.ref a :: As)) Qc mc ms (va_A wc H.size)) (hG : GoodIn Ts wd) (hw : wd = Cond.code y bytes maxL none :: wd') (hrc : rm.cells = mc) (hrs : rm.slots = ms) (hini : Cond.initialized y.cls ∈ Ts) {host : String} (hlk : va_Nw (.methodLinkNest own index y host) s) (hin : Cond.instanceMethod y ∈ Ts) (hy1 : y.name = "<init>")
    (hd : y.cls ≠ "java/lang/invoke/MethodHandle" ∧ y.cls ≠ "java/lang/invoke/VarHandle" ∧ (parseMethodDescriptor y.desc).map (fun d => d.parameters.length) = some n) (hR : rm.frames + 1 ≤ R.frames ∧ 8 + (maxL + 11) + rm.locals ≤ R.locals)
    (hnn : As.length = n) (hl : ls.size = nL) (hst : st0 = As.reverse ++ .ref a :: rest) (hW : (rest.map fun v => v.category).sum ≤ 8) (hf : cells + mc ≤ R.cells ∧ slots + ms ≤ R.slots) (hdg : decode cc pc = .ok (.invokespecial index, 3)) :
    va_Run p l e R s m args below meth c H locs cells slots mc ms (F0 m pc ls st0) rest (Qc (.ref a :: As).toArray) (va_A wc H.size) :=
  va_runIN (As := As) (rest := rest) cx.1 hM ⟨va_cnB n cx.1.2.2.2.2 hG hw hrc hrs hlk (cx.1.2.2.2.2 _ hini) hd hR, hy1, cx.1.2.2.2.2 _ hin⟩ (g_preS cx hP hD hS isC hC hn (.ref a :: As)) rfl hnn hl hst (lv_room hW) hdg hf
/-- the links to private constructors of nest mates -/
def nsX (U : State) : Prop := va_Nw (.methodLinkNest RX11 9 yX10_init RX11) U ∧ va_Nw (.methodLinkNest RX11 51 yX1_init RX11) U ∧ va_Nw (.methodLinkNest RX11 58 yX6_init RX11) U ∧ va_Nw (.methodLinkNest RX11 68 yX9_init RX11) U ∧ va_Nw (.methodLinkNest RX11 85 yX7_init RX11) U ∧ va_Nw (.methodLinkNest RX7 20 yX9_init RX11) U
theorem nsX.same {u U : State} (h : U.vm = u.vm) (q : nsX u) : nsX U := ⟨va_Nw.same rfl h.symm q.1, va_Nw.same rfl h.symm q.2.1, va_Nw.same rfl h.symm q.2.2.1, va_Nw.same rfl h.symm q.2.2.2.1, va_Nw.same rfl h.symm q.2.2.2.2.1, va_Nw.same rfl h.symm q.2.2.2.2.2⟩
theorem nsX.warm {s U : State} (hW : s.WarmedH U.vm) (q : nsX s) : nsX U := ⟨va_Nw.warmM hW q.1, va_Nw.warmM hW q.2.1, va_Nw.warmM hW q.2.2.1, va_Nw.warmM hW q.2.2.2.1, va_Nw.warmM hW q.2.2.2.2.1, va_Nw.warmM hW q.2.2.2.2.2⟩
def cPreN (D : va_G) (k : Nat → ClassId) (b : Nat → Nat) (wc : va_W) (sz : Nat) (av : List Value) : Array Value → State → Prop :=
  va_Pc av (fun U => nsX U ∧ U.heap.size = sz ∧ va_P D vwCl wc U.heap ∧ va_K D vwCl (ty4 k) U ∧ va_D (fun _ => True) wc ∧ St b (va_A wc sz) U U.heap)
theorem g_preN (cx : Cx p s m args c cc nL Ts own D k b A) (hN : nsX s) (hP : va_P D vwCl ws H) (hD : va_D A ws) (hS : va_S A s.heap H locs) (isC : List Nat) (hC : isC.map (fun i => ws[i]?) = wc.map some) (hn : va_nd isC = true) (av : List Value) : PreS s H (cPreN D k b wc H.size av) av := by
  obtain ⟨-, hK, hA, hSt⟩ := cx
  refine ⟨fun a U g mk q => ?_, fun U hU hW => ?_⟩
  · obtain ⟨q0, qN, q1, qP, qK, qD, qS⟩ := q
    exact ⟨q0, nsX.same (u := U) rfl qN, q1, qP, va_K.moved (u := U) (U := U.calling g mk a) (Vm.Alike.refl U.vm) qK, qD, St.same (u := U) rfl qS⟩
  · have hF := va_free hD hS hA isC hC
    exact ⟨rfl, nsX.warm hW hN, by rw [hU], by rw [hU]; exact g_subP hP hC, va_K.moved hW.alike hK, (hD.sub isC hn hC).weaken (fun _ _ _ _ => trivial), by rw [hU]; exact ((hSt.kept hS.2.1).narrow hF).warm hW⟩
theorem g_runNI (cx : Cx p s m args c cc nL Ts own D k b A) (hN : nsX s) (hP : va_P D vwCl ws H) (hD : va_D A ws) (hS : va_S A s.heap H locs) (isC : List Nat) (hC : isC.map (fun i => ws[i]?) = wc.map some) (hn : va_nd isC = true) {a : Nat} (As : List Value)
    (hM : Met l y wd rm (cPreN D k b wc H.size (.ref a :: As)) Qc mc ms (va_A wc H.size)) (hG : GoodIn Ts wd) (hw : wd = Cond.code y bytes maxL none :: wd') (hrc : rm.cells = mc) (hrs : rm.slots = ms) (hini : Cond.initialized y.cls ∈ Ts) (hlk : Cond.methodLink own index y ∈ Ts) (hin : Cond.instanceMethod y ∈ Ts) (hy1 : y.name = "<init>")
    (hd : y.cls ≠ "java/lang/invoke/MethodHandle" ∧ y.cls ≠ "java/lang/invoke/VarHandle" ∧ (parseMethodDescriptor y.desc).map (fun d => d.parameters.length) = some n) (hR : rm.frames + 1 ≤ R.frames ∧ 8 + (maxL + 11) + rm.locals ≤ R.locals)
    (hnn : As.length = n) (hl : ls.size = nL) (hst : st0 = As.reverse ++ .ref a :: rest) (hW : (rest.map fun v => v.category).sum ≤ 8) (hf : cells + mc ≤ R.cells ∧ slots + ms ≤ R.slots) (hdg : decode cc pc = .ok (.invokespecial index, 3)) :
    va_Run p l e R s m args below meth c H locs cells slots mc ms (F0 m pc ls st0) rest (Qc (.ref a :: As).toArray) (va_A wc H.size) :=
  va_runI (As := As) (rest := rest) cx.1 hM (cwI n cx.1.2.2.2.2 hG hw hrc hrs (cx.1.2.2.2.2 _ hini) (cx.1.2.2.2.2 _ hlk) (cx.1.2.2.2.2 _ hin) hy1 hd hR) (g_preN cx hN hP hD hS isC hC hn (.ref a :: As)) rfl hnn hl hst (lv_room hW) hdg hf
theorem g_runNIN (cx : Cx p s m args c cc nL Ts own D k b A) (hN : nsX s) (hP : va_P D vwCl ws H) (hD : va_D A ws) (hS : va_S A s.heap H locs) (isC : List Nat) (hC : isC.map (fun i => ws[i]?) = wc.map some) (hn : va_nd isC = true) {a : Nat} (As : List Value)
    (hM : Met l y wd rm (cPreN D k b wc H.size (.ref a :: As)) Qc mc ms (va_A wc H.size)) (hG : GoodIn Ts wd) (hw : wd = Cond.code y bytes maxL none :: wd') (hrc : rm.cells = mc) (hrs : rm.slots = ms) (hini : Cond.initialized y.cls ∈ Ts) {host : String} (hlk : va_Nw (.methodLinkNest own index y host) s) (hin : Cond.instanceMethod y ∈ Ts) (hy1 : y.name = "<init>")
    (hd : y.cls ≠ "java/lang/invoke/MethodHandle" ∧ y.cls ≠ "java/lang/invoke/VarHandle" ∧ (parseMethodDescriptor y.desc).map (fun d => d.parameters.length) = some n) (hR : rm.frames + 1 ≤ R.frames ∧ 8 + (maxL + 11) + rm.locals ≤ R.locals)
    (hnn : As.length = n) (hl : ls.size = nL) (hst : st0 = As.reverse ++ .ref a :: rest) (hW : (rest.map fun v => v.category).sum ≤ 8) (hf : cells + mc ≤ R.cells ∧ slots + ms ≤ R.slots) (hdg : decode cc pc = .ok (.invokespecial index, 3)) :
    va_Run p l e R s m args below meth c H locs cells slots mc ms (F0 m pc ls st0) rest (Qc (.ref a :: As).toArray) (va_A wc H.size) :=
  va_runIN (As := As) (rest := rest) cx.1 hM ⟨va_cnB n cx.1.2.2.2.2 hG hw hrc hrs hlk (cx.1.2.2.2.2 _ hini) hd hR, hy1, cx.1.2.2.2.2 _ hin⟩ (g_preN cx hN hP hD hS isC hC hn (.ref a :: As)) rfl hnn hl hst (lv_room hW) hdg hf
theorem g_vI {S : Type} {post : S → Prop} {w1 : S → va_W} {a : Array Value} (hr : va_Run p l e R s m args below meth c H locs cells slots mc ms (F0 m pc ls st0) rest (va_Qv post (cB D k (va_A wc H.size) w1) (va_A wc H.size) a) (va_A wc H.size))
    (hA : ∀ q, s.heap.size ≤ q → A q) (hP : va_P D vwCl ws H) (hD : va_D A ws) (hS : va_S A s.heap H locs) (isC isR : List Nat) (hC : isC.map (fun i => ws[i]?) = wc.map some) (hR : isR.map (fun i => ws[i]?) = wr.map some) (hn : va_nd isR = true) (hdis : ∀ i ∈ isR, i ∉ isC)
    (kk : ∀ (u : S) (H1 : Heap) (locs1 : List Loc), post u → va_P D vwCl (wr ++ w1 u) H1 → va_D A (wr ++ w1 u) → va_S A s.heap H1 locs1 → W p l e R s m args below meth c H1 locs1 (cells + mc) (slots + ms) Q (F0 m (pc + 3) ls rest)) : W p l e R s m args below meth c H locs cells slots Q (F0 m pc ls st0) := by
  have hF := va_free hD hS hA isC hC
  refine va_callv hr hS (fun q _ h => hF q h) hF (fun u t H1 locs1 ht hvm hw hB hz1 hk1 hS1 => ?_)
  obtain ⟨hP1, hK1, hD1⟩ := hB
  rw [ht] at hP1
  obtain ⟨hP', hD'⟩ := va_join hP hD isC isR hC hR hn hdis hk1 hF hP1 hD1
  exact kk u H1 locs1 hw hP' hD' hS1
theorem x_vN {S : Type} {post : S → Prop} {w1 : S → va_W} (cx : Cx p s m args c cc nL Ts own D k b A) (hr : meth.sig.returnType = none ∧ meth.locks = false) (u : S) (hP : va_P D vwCl (w1 u) H) (hD : va_D A (w1 u)) (hS : va_S A s.heap H locs) (hp : post u) (hdg : decode cc pc = .ok (.return_, 1)) :
    W p l e R s m args below meth c H locs mc ms (MQ below (va_Qv post (cB D k A w1) A) args s mc ms A) (F0 m pc ls []) :=
  have hlocks := hr.2
  W.vret cx.1.1 cx.1.2.1 hr.1 (fun t ht hW => ⟨⟨u, rfl, hp, by rw [ht]; exact hP, va_K.moved hW.alike cx.2.1, hD⟩, hS.F ht⟩) hS.2.2 hdg
theorem g_enterN {sz : Nat} {av : List Value} (hy : plainName y.cls = true) (hw : wd = Cond.code y cc maxL ret :: wd') (hlen : (lg_sl av).length ≤ maxL)
    (body : ∀ (p : Program) (e : Env) (s : State) (m : MethodId) (below : List Frame) (meth : Method) (c : Code) (A : Nat → Prop), s.heap.size = sz → va_A wc sz = A → Cx p s m av.toArray c cc maxL wd y.cls D k b A → (meth.sig.returnType = ret ∧ meth.locks = false) → meth.name = y.name → nsX s → va_P D vwCl wc s.heap → va_D A wc → va_S A s.heap s.heap [] → ∀ ls : Array Slot, lv_has ls maxL (lv_args 0 av) →
      W p l e rm s m av.toArray below meth c s.heap [] 0 0 (MQ below Qc av.toArray s mc ms (va_A wc sz)) (F0 m 0 ls [])) : Met l y wd rm (cPreN D k b wc sz av) Qc mc ms (va_A wc sz) := by
  refine Met.ofW (cc := cc) (maxL := maxL) (ret := ret) hy hw ?_
  intro p e s m args below meth c s₁ B hml hv
  obtain ⟨rfl, hN, hsz, hP, hK, hD0, hSt⟩ := hv
  have hts := atoms_spec (ws := wd) B.pre
  have hown : s.vm.findClass y.cls = some m.cls := findClass_of_methodNamed B.named
  have hnm : meth.name = y.name := (name_of_methodNamed B.named B.method).1
  subst hsz
  have hA : ∀ q : Nat, s.heap.size ≤ q → va_A wc s.heap.size q := fun q h => Or.inr h
  have hl := lv_entry av (n := maxL) hlen
  rw [lg_entry_eq]
  exact body p e s m below meth c _ rfl rfl ⟨⟨B.exec, B.bytes, hml, hown, hts⟩, hK, hA, hSt⟩ ⟨B.returns, B.notSynchronized⟩ hnm hN hP (hD0.self (sz := s.heap.size)) va_S.rf _ hl
theorem g_enterI {sz : Nat} {av : List Value} (hy : plainName y.cls = true) (hw : wd = Cond.code y cc maxL ret :: wd') (hlen : (lg_sl av).length ≤ maxL)
    (body : ∀ (p : Program) (e : Env) (s : State) (m : MethodId) (below : List Frame) (meth : Method) (c : Code) (A : Nat → Prop), s.heap.size = sz → va_A wc sz = A → Cx p s m av.toArray c cc maxL wd y.cls D k b A → (meth.sig.returnType = ret ∧ meth.locks = false) → meth.name = y.name → va_P D vwCl wc s.heap → va_D A wc → va_S A s.heap s.heap [] → ∀ ls : Array Slot, lv_has ls maxL (lv_args 0 av) →
      W p l e rm s m av.toArray below meth c s.heap [] 0 0 (MQ below Qc av.toArray s mc ms (va_A wc sz)) (F0 m 0 ls [])) : Met l y wd rm (cPre D k b wc sz av) Qc mc ms (va_A wc sz) := by
  refine Met.ofW (cc := cc) (maxL := maxL) (ret := ret) hy hw ?_
  intro p e s m args below meth c s₁ B hml hv
  obtain ⟨rfl, hsz, hP, hK, hD0, hSt⟩ := hv
  have hts := atoms_spec (ws := wd) B.pre
  have hown : s.vm.findClass y.cls = some m.cls := findClass_of_methodNamed B.named
  have hnm : meth.name = y.name := (name_of_methodNamed B.named B.method).1
  subst hsz
  have hA : ∀ q : Nat, s.heap.size ≤ q → va_A wc s.heap.size q := fun q h => Or.inr h
  have hl := lv_entry av (n := maxL) hlen
  rw [lg_entry_eq]
  exact body p e s m below meth c _ rfl rfl ⟨⟨B.exec, B.bytes, hml, hown, hts⟩, hK, hA, hSt⟩ ⟨B.returns, B.notSynchronized⟩ hnm hP (hD0.self (sz := s.heap.size)) va_S.rf _ hl
end GROWI
abbrev MetN {S : Type} (l : Launch) (D : va_G) (k : Nat → ClassId) (b : Nat → Nat) (y : MethodName) (wd : List Cond) (rm : Room) (wc : va_W) (sz : Nat) (av : List Value) (mc ms : Nat) (post : S → Prop) (w1 : S → va_W) : Prop := Met l y wd rm (cPre D k b wc sz av) (va_Qv post (cB D k (va_A wc sz) w1) (va_A wc sz)) mc ms (va_A wc sz)
abbrev MetNN {S : Type} (l : Launch) (D : va_G) (k : Nat → ClassId) (b : Nat → Nat) (y : MethodName) (wd : List Cond) (rm : Room) (wc : va_W) (sz : Nat) (av : List Value) (mc ms : Nat) (post : S → Prop) (w1 : S → va_W) : Prop := Met l y wd rm (cPreN D k b wc sz av) (va_Qv post (cB D k (va_A wc sz) w1) (va_A wc sz)) mc ms (va_A wc sz)
def lQ : List (Nat → Nat) → Nat → Nat → Nat
  | [], _ => fun _ => 0
  | a :: _, 0 => a
  | _ :: l, n + 1 => lQ l n
def lB : List (Nat → Nat → Int32) → Nat → Nat → Nat → Int32
  | [], _ => fun _ _ => 0
  | a :: _, 0 => a
  | _ :: l, n + 1 => lB l n
def lC : List (Nat → Nat → Int64) → Nat → Nat → Nat → Int64
  | [], _ => fun _ _ => 0
  | a :: _, 0 => a
  | _ :: l, n + 1 => lC l n
theorem zr31 : ∀ j : Nat, 0 ≤ ((fun (_ : Nat) => (0 : Int32)) j).toInt ∧ ((fun (_ : Nat) => (0 : Int32)) j).toInt ≤ 31 := fun _ => ⟨(show 0 ≤ (0 : Int32).toInt from by decide), (show (0 : Int32).toInt ≤ 31 from by decide)⟩
theorem zr4 : ∀ j : Nat, 0 ≤ ((fun (_ : Nat) => (0 : Int32)) j).toInt ∧ ((fun (_ : Nat) => (0 : Int32)) j).toInt ≤ 4 := fun _ => ⟨(show 0 ≤ (0 : Int32).toInt from by decide), (show (0 : Int32).toInt ≤ 4 from by decide)⟩
theorem zr5 : ∀ j : Nat, 0 ≤ ((fun (_ : Nat) => (0 : Int32)) j).toInt ∧ ((fun (_ : Nat) => (0 : Int32)) j).toInt ≤ 5 := fun _ => ⟨(show 0 ≤ (0 : Int32).toInt from by decide), (show (0 : Int32).toInt ≤ 5 from by decide)⟩
theorem zr9999 : ∀ j : Nat, 0 ≤ ((fun (_ : Nat) => (0 : Int32)) j).toInt ∧ ((fun (_ : Nat) => (0 : Int32)) j).toInt ≤ 9999 := fun _ => ⟨(show 0 ≤ (0 : Int32).toInt from by decide), (show (0 : Int32).toInt ≤ 9999 from by decide)⟩
theorem zr444 : ∀ j : Nat, 0 ≤ ((fun (_ : Nat) => (0 : Int32)) j).toInt ∧ ((fun (_ : Nat) => (0 : Int32)) j).toInt ≤ 444 := fun _ => ⟨(show 0 ≤ (0 : Int32).toInt from by decide), (show (0 : Int32).toInt ≤ 444 from by decide)⟩
