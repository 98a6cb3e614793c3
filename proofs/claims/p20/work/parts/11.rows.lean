section GROWS
variable {p : Program} {l : Launch} {e : Env} {R : Room} {s : State} {m : MethodId} {args : Array Value} {below : List Frame} {meth : Method} {c : Code} {H : Heap} {locs : List Loc} {cells slots : Nat} {Q : State → Prop}
variable {cc : ByteArray} {pc nL : Nat} {ls : Array Slot} {rest : List Value} {A : Nat → Prop} {Ts : List Cond} {own : String} {D : va_G} {k : Nat → ClassId} {b : Nat → Nat} {ws wc : va_W}
theorem g_preS (cx : Cx p s m args c cc nL Ts own D k b A) (hP : va_P D vwCl ws H) (hD : va_D A ws) (hS : va_S A s.heap H locs) (isC : List Nat) (hC : isC.map (fun i => ws[i]?) = wc.map some) (hn : va_nd isC = true) (av : List Value) : PreS s H (cPre D k b wc H.size av) av := by
  obtain ⟨-, hK, hA, hSt⟩ := cx
  refine ⟨fun a U g mk q => ?_, fun U hU hW => ?_⟩
  · obtain ⟨q0, q1, qP, qK, qD, qS⟩ := q
    exact ⟨q0, q1, qP, va_K.moved (u := U) (U := U.calling g mk a) (Vm.Alike.refl U.vm) qK, qD, St.same (u := U) rfl qS⟩
  · have hF := va_free hD hS hA isC hC
    exact ⟨rfl, by rw [hU], by rw [hU]; exact g_subP hP hC, va_K.moved hW.alike hK, (hD.sub isC hn hC).weaken (fun _ _ _ _ => trivial), by rw [hU]; exact ((hSt.kept hS.2.1).narrow hF).warm hW⟩
variable {y : MethodName} {bytes : ByteArray} {maxL n index : Nat} {ret : Option FieldType} {wd wd' : List Cond} {rm : Room} {Qc : Array Value → State → Outcome → State → Prop} {st0 : List Value}
/-- a static call -/
theorem g_runS (cx : Cx p s m args c cc nL Ts own D k b A) (hP : va_P D vwCl ws H) (hD : va_D A ws) (hS : va_S A s.heap H locs) (isC : List Nat) (hC : isC.map (fun i => ws[i]?) = wc.map some) (hn : va_nd isC = true) (As : List Value)
    (hM : Met l y wd rm (cPre D k b wc H.size As) Qc 0 0 (va_A wc H.size)) (hG : GoodIn Ts (va_wsS own index y wd)) (hw : wd = Cond.code y bytes maxL ret :: wd') (hrc : rm.cells = 0) (hrs : rm.slots = 0)
    (hd : y.cls ≠ "java/lang/invoke/MethodHandle" ∧ y.cls ≠ "java/lang/invoke/VarHandle" ∧ (parseMethodDescriptor y.desc).map (fun d => d.parameters.length) = some n) (hR : rm.frames + 1 ≤ R.frames ∧ 8 + (maxL + 11) + rm.locals ≤ R.locals)
    (hnn : As.length = n) (hl : ls.size = nL) (hst : st0 = As.reverse ++ rest) (hW : (rest.map fun v => v.category).sum ≤ 8) (hf : cells ≤ R.cells ∧ slots ≤ R.slots) (hdg : decode cc pc = .ok (.invokestatic index, 3)) :
    va_Run p l e R s m args below meth c H locs cells slots 0 0 (F0 m pc ls st0) rest (Qc As.toArray) (va_A wc H.size) :=
  va_runS (As := As) (rest := rest) cx.1 hM (va_cwS n cx.1.2.2.2.2 hG hw hrc hrs hd hR) (g_preS cx hP hD hS isC hC hn As) rfl hnn hl hst (lv_room hW) hdg hf
/-- a call of an object's method -/
theorem g_runV (cx : Cx p s m args c cc nL Ts own D k b A) (hP : va_P D vwCl ws H) (hD : va_D A ws) (hS : va_S A s.heap H locs) (isC : List Nat) (hC : isC.map (fun i => ws[i]?) = wc.map some) (hn : va_nd isC = true) {a : Nat} (As : List Value)
    (hM : Met l y wd rm (cPre D k b wc H.size (.ref a :: As)) Qc 0 0 (va_A wc H.size)) {C : String} (hG : GoodIn Ts (wsV own index C y wd)) (hw : wd = Cond.code y bytes maxL ret :: wd') (hrc : rm.cells = 0) (hrs : rm.slots = 0)
    (hd : y.cls = C ∧ y.cls ≠ "java/lang/invoke/MethodHandle" ∧ y.cls ≠ "java/lang/invoke/VarHandle" ∧ (parseMethodDescriptor y.desc).map (fun d => d.parameters.length) = some n) (hR : rm.frames + 1 ≤ R.frames ∧ 8 + (maxL + 11) + rm.locals ≤ R.locals)
    {ci q0 N : Nat} {T : u_T} {fs : List Value} (hcl : vwCl[ci]? = some (C, T, N)) (hq : wc[q0]? = some (a, .inr (ci, fs)))
    (hnn : As.length = n) (hl : ls.size = nL) (hst : st0 = As.reverse ++ .ref a :: rest) (hW : (rest.map fun v => v.category).sum ≤ 8) (hf : cells ≤ R.cells ∧ slots ≤ R.slots) (hdg : decode cc pc = .ok (.invokevirtual index, 3)) :
    va_Run p l e R s m args below meth c H locs cells slots 0 0 (F0 m pc ls st0) rest (Qc (.ref a :: As).toArray) (va_A wc H.size) := by
  have hp := g_preS cx hP hD hS isC hC hn (.ref a :: As)
  exact va_runV (As := As) (rest := rest) cx.1 hM (cwV n cx.1.2.2.2.2 hG hw hrc hrs hd hR) ⟨hp.1, va_recv cx.2.1 (g_subP hP hC) hcl hq, hp.2⟩ rfl hnn hl hst (lv_room hW) hdg hf
/-- behind a call: an int; the cells that it had are as it left them -/
theorem g_i {S : Type} {post : Int32 → S → Prop} {w1 : S → va_W} {a : Array Value} (hr : va_Run p l e R s m args below meth c H locs cells slots 0 0 (F0 m pc ls st0) rest (va_Qi post (cB D k (va_A wc H.size) w1) (va_A wc H.size) a) (va_A wc H.size))
    (hA : ∀ q, s.heap.size ≤ q → A q) (hP : va_P D vwCl ws H) (hD : va_D A ws) (hS : va_S A s.heap H locs) (isC : List Nat) (hC : isC.map (fun i => ws[i]?) = wc.map some) (hl : ∀ u, isC.length = (w1 u).length)
    (kk : ∀ (r : Int32) (u : S) (H1 : Heap) (locs1 : List Loc), post r u → va_P D vwCl (wset ws isC (w1 u)) H1 → va_D A (wset ws isC (w1 u)) → va_S A s.heap H1 locs1 → W p l e R s m args below meth c H1 locs1 cells slots Q (F0 m (pc + 3) ls (.int r :: rest))) : W p l e R s m args below meth c H locs cells slots Q (F0 m pc ls st0) := by
  have hF := va_free hD hS hA isC hC
  refine va_calli hr hS (fun q _ h => hF q h) hF (fun r u t H1 locs1 ht hvm hw hB hz1 hk1 hS1 => ?_)
  obtain ⟨hP1, hK1, hD1⟩ := hB
  rw [ht] at hP1
  obtain ⟨hP', hD'⟩ := g_put hP hD isC hC (hl u) hk1 hF hP1 hD1
  exact kk r u H1 locs1 hw hP' hD' hS1
theorem g_l {S : Type} {post : Int64 → S → Prop} {w1 : S → va_W} {a : Array Value} (hr : va_Run p l e R s m args below meth c H locs cells slots 0 0 (F0 m pc ls st0) rest (va_Ql post (cB D k (va_A wc H.size) w1) (va_A wc H.size) a) (va_A wc H.size))
    (hA : ∀ q, s.heap.size ≤ q → A q) (hP : va_P D vwCl ws H) (hD : va_D A ws) (hS : va_S A s.heap H locs) (isC : List Nat) (hC : isC.map (fun i => ws[i]?) = wc.map some) (hl : ∀ u, isC.length = (w1 u).length)
    (kk : ∀ (r : Int64) (u : S) (H1 : Heap) (locs1 : List Loc), post r u → va_P D vwCl (wset ws isC (w1 u)) H1 → va_D A (wset ws isC (w1 u)) → va_S A s.heap H1 locs1 → W p l e R s m args below meth c H1 locs1 cells slots Q (F0 m (pc + 3) ls (.long r :: rest))) : W p l e R s m args below meth c H locs cells slots Q (F0 m pc ls st0) := by
  have hF := va_free hD hS hA isC hC
  refine va_calll hr hS (fun q _ h => hF q h) hF (fun r u t H1 locs1 ht hvm hw hB hz1 hk1 hS1 => ?_)
  obtain ⟨hP1, hK1, hD1⟩ := hB
  rw [ht] at hP1
  obtain ⟨hP', hD'⟩ := g_put hP hD isC hC (hl u) hk1 hF hP1 hD1
  exact kk r u H1 locs1 hw hP' hD' hS1
theorem g_v {S : Type} {post : S → Prop} {w1 : S → va_W} {a : Array Value} (hr : va_Run p l e R s m args below meth c H locs cells slots 0 0 (F0 m pc ls st0) rest (va_Qv post (cB D k (va_A wc H.size) w1) (va_A wc H.size) a) (va_A wc H.size))
    (hA : ∀ q, s.heap.size ≤ q → A q) (hP : va_P D vwCl ws H) (hD : va_D A ws) (hS : va_S A s.heap H locs) (isC : List Nat) (hC : isC.map (fun i => ws[i]?) = wc.map some) (hl : ∀ u, isC.length = (w1 u).length)
    (kk : ∀ (u : S) (H1 : Heap) (locs1 : List Loc), post u → va_P D vwCl (wset ws isC (w1 u)) H1 → va_D A (wset ws isC (w1 u)) → va_S A s.heap H1 locs1 → W p l e R s m args below meth c H1 locs1 cells slots Q (F0 m (pc + 3) ls rest)) : W p l e R s m args below meth c H locs cells slots Q (F0 m pc ls st0) := by
  have hF := va_free hD hS hA isC hC
  refine va_callv hr hS (fun q _ h => hF q h) hF (fun u t H1 locs1 ht hvm hw hB hz1 hk1 hS1 => ?_)
  obtain ⟨hP1, hK1, hD1⟩ := hB
  rw [ht] at hP1
  obtain ⟨hP', hD'⟩ := g_put hP hD isC hC (hl u) hk1 hF hP1 hD1
  exact kk u H1 locs1 hw hP' hD' hS1
/-- fields and arrays -/
theorem g_get (cx : Cx p s m args c cc nL Ts own D k b A) (hP : va_P D vwCl ws H) {a ci N : Nat} {C : String} {T : u_T} (hin : ∀ w ∈ u_ws C T N, w ∈ Ts) (q0 : Nat) {fs : List Value} (he : ws[q0]? = some (a, .inr (ci, fs))) (hc : vwCl[ci]? = some (C, T, N)) (j : Nat) (hj : j < N) {o fn fd : String} {fb : Bool} (hT : T j = (o, fn, fd, fb)) (hfl : Cond.fieldLink own index o fn fd ∈ Ts) {v : Value} (hv : fs[j]? = some v) (hdg : decode cc pc = .ok (.getfield index, 3))
    (kk : W p l e R s m args below meth c H locs cells slots Q (F0 m (pc + 3) ls (v :: rest))) : W p l e R s m args below meth c H locs cells slots Q (F0 m pc ls (.ref a :: rest)) :=
  va_get (ref := o) cx.1.1 cx.1.2.1 cx.1.2.2.2.2 hin cx.1.2.2.2.1 cx.2.1 hP q0 he hc j hj (by rw [hT]; exact cx.1.2.2.2.2 _ hfl) (by rw [hT]; exact fun _ h => h) hv hdg kk
theorem g_pt (cx : Cx p s m args c cc nL Ts own D k b A) (hP : va_P D vwCl ws H) (hD : va_D A ws) (hS : va_S A s.heap H locs) {a ci N : Nat} {C : String} {T : u_T} (hin : ∀ w ∈ u_ws C T N, w ∈ Ts) (ty0 : Nat → FieldType) (hty : ∀ k, k < N → parseFieldDescriptor (T k).2.2.1 = some (ty0 k)) (hnm : ∀ a, a < N → ∀ b, b < N → a ≠ b → (T a).2.1 ≠ (T b).2.1)
    (q0 : Nat) {fs : List Value} (he : ws[q0]? = some (a, .inr (ci, fs))) (hc : vwCl[ci]? = some (C, T, N)) (j : Nat) (hj : j < N) {o fn fd : String} (hT : T j = (o, fn, fd, false)) (hfl : Cond.fieldLink own index o fn fd ∈ Ts) {v : Value} {ty : FieldType} (ht : ty0 j = ty) (hn : narrow ty v = v) (hfit : fits ty v = true) (hll : j < fs.length) (hdg : decode cc pc = .ok (.putfield index, 3))
    (kk : ∀ (H1 : Heap) (locs1 : List Loc), va_P D vwCl (ws.set q0 (a, .inr (ci, fs.set j v))) H1 → va_D A (ws.set q0 (a, .inr (ci, fs.set j v))) → va_S A s.heap H1 locs1 → W p l e R s m args below meth c H1 locs1 cells slots Q (F0 m (pc + 3) ls rest)) : W p l e R s m args below meth c H locs cells slots Q (F0 m pc ls (v :: .ref a :: rest)) :=
  va_put (ref := o) cx.1.1 cx.1.2.1 cx.1.2.2.2.2 hin ty0 hty hnm cx.1.2.2.2.1 cx.2.1 hP hD hS q0 he hc j hj (by rw [hT]; exact cx.1.2.2.2.2 _ hfl) (by rw [hT]; exact fun _ h => h) (by rw [hT]) (ht ▸ hty j hj) hn hfit hll hdg kk
/-- entry -/
theorem g_enter {sz : Nat} {av : List Value} (hy : plainName y.cls = true) (hw : wd = Cond.code y cc maxL ret :: wd') (hlen : (lg_sl av).length ≤ maxL)
    (body : ∀ (p : Program) (e : Env) (s : State) (m : MethodId) (below : List Frame) (meth : Method) (c : Code) (A : Nat → Prop), s.heap.size = sz → va_A wc sz = A → Cx p s m av.toArray c cc maxL wd y.cls D k b A → (meth.sig.returnType = ret ∧ meth.locks = false) → va_P D vwCl wc s.heap → va_D A wc → va_S A s.heap s.heap [] → ∀ ls : Array Slot, lv_has ls maxL (lv_args 0 av) →
      W p l e rm s m av.toArray below meth c s.heap [] 0 0 (MQ below Qc av.toArray s 0 0 (va_A wc sz)) (F0 m 0 ls [])) : Met l y wd rm (cPre D k b wc sz av) Qc 0 0 (va_A wc sz) := by
  refine Met.ofW (cc := cc) (maxL := maxL) (ret := ret) hy hw ?_
  intro p e s m args below meth c s₁ B hml hv
  obtain ⟨rfl, hsz, hP, hK, hD0, hSt⟩ := hv
  have hts := atoms_spec (ws := wd) B.pre
  have hown : s.vm.findClass y.cls = some m.cls := findClass_of_methodNamed B.named
  subst hsz
  have hA : ∀ q : Nat, s.heap.size ≤ q → va_A wc s.heap.size q := fun q h => Or.inr h
  have hl := lv_entry av (n := maxL) hlen
  rw [lg_entry_eq]
  exact body p e s m below meth c _ rfl rfl ⟨⟨B.exec, B.bytes, hml, hown, hts⟩, hK, hA, hSt⟩ ⟨B.returns, B.notSynchronized⟩ hP (hD0.self (sz := s.heap.size)) va_S.rf _ hl
/-- exits -/
theorem x_i {S : Type} {post : Int32 → S → Prop} {w1 : S → va_W} {r : Int32} (cx : Cx p s m args c cc nL Ts own D k b A) (hr : meth.sig.returnType = some .int ∧ meth.locks = false) (u : S) (hP : va_P D vwCl (w1 u) H) (hD : va_D A (w1 u)) (hS : va_S A s.heap H locs) (hp : post r u) (hdg : decode cc pc = .ok (.ireturn, 1)) :
    W p l e R s m args below meth c H locs 0 0 (MQ below (va_Qi post (cB D k A w1) A) args s 0 0 A) (F0 m pc ls [.int r]) :=
  have hlocks := hr.2
  W.iret (v := r) cx.1.1 cx.1.2.1 hr.1 (fun t ht hW => ⟨⟨r, u, rfl, hp, by rw [ht]; exact hP, va_K.moved hW.alike cx.2.1, hD⟩, hS.F ht⟩) hS.2.2 hdg
theorem x_z {S : Type} {post : Int32 → S → Prop} {w1 : S → va_W} {r : Int32} {ty : FieldType} (cx : Cx p s m args c cc nL Ts own D k b A) (hr : meth.sig.returnType = some ty ∧ meth.locks = false) (hn : narrow ty (.int r) = .int r) (u : S) (hP : va_P D vwCl (w1 u) H) (hD : va_D A (w1 u)) (hS : va_S A s.heap H locs) (hp : post r u) (hdg : decode cc pc = .ok (.ireturn, 1)) :
    W p l e R s m args below meth c H locs 0 0 (MQ below (va_Qi post (cB D k A w1) A) args s 0 0 A) (F0 m pc ls [.int r]) :=
  have hlocks := hr.2
  W.zret (v := r) cx.1.1 cx.1.2.1 hr.1 hn (fun t ht hW => ⟨⟨r, u, rfl, hp, by rw [ht]; exact hP, va_K.moved hW.alike cx.2.1, hD⟩, hS.F ht⟩) hS.2.2 hdg
theorem x_v {S : Type} {post : S → Prop} {w1 : S → va_W} (cx : Cx p s m args c cc nL Ts own D k b A) (hr : meth.sig.returnType = none ∧ meth.locks = false) (u : S) (hP : va_P D vwCl (w1 u) H) (hD : va_D A (w1 u)) (hS : va_S A s.heap H locs) (hp : post u) (hdg : decode cc pc = .ok (.return_, 1)) :
    W p l e R s m args below meth c H locs 0 0 (MQ below (va_Qv post (cB D k A w1) A) args s 0 0 A) (F0 m pc ls []) :=
  have hlocks := hr.2
  W.vret cx.1.1 cx.1.2.1 hr.1 (fun t ht hW => ⟨⟨u, rfl, hp, by rw [ht]; exact hP, va_K.moved hW.alike cx.2.1, hD⟩, hS.F ht⟩) hS.2.2 hdg
theorem x_l {S : Type} {post : Int64 → S → Prop} {w1 : S → va_W} {r : Int64} (cx : Cx p s m args c cc nL Ts own D k b A) (hr : meth.sig.returnType = some .long ∧ meth.locks = false) (u : S) (hP : va_P D vwCl (w1 u) H) (hD : va_D A (w1 u)) (hS : va_S A s.heap H locs) (hp : post r u) (hdg : decode cc pc = .ok (.lreturn, 1)) :
    W p l e R s m args below meth c H locs 0 0 (MQ below (va_Ql post (cB D k A w1) A) args s 0 0 A) (F0 m pc ls [.long r]) :=
  have hlocks := hr.2
  W.lret (v := r) cx.1.1 cx.1.2.1 hr.1 (fun t ht hW => ⟨⟨r, u, rfl, hp, by rw [ht]; exact hP, va_K.moved hW.alike cx.2.1, hD⟩, hS.F ht⟩) hS.2.2 hdg
end GROWS
section GROWS2
variable {p : Program} {l : Launch} {e : Env} {R : Room} {s : State} {m : MethodId} {args : Array Value} {below : List Frame} {meth : Method} {c : Code} {H : Heap} {locs : List Loc} {cells slots : Nat} {Q : State → Prop}
variable {cc : ByteArray} {pc nL : Nat} {ls : Array Slot} {rest : List Value} {A : Nat → Prop} {Ts : List Cond} {own : String} {D : va_G} {k : Nat → ClassId} {b : Nat → Nat} {ws wc : va_W} {st0 : List Value}
theorem wset_id : ∀ (is : List Nat) (ws w : va_W), is.map (fun i => ws[i]?) = w.map some → wset ws is w = ws := by
  intro is
  induction is with
  | nil => intro ws w h; cases w with
    | nil => rfl
    | cons a w => simp at h
  | cons i is ih => intro ws w h; cases w with
    | nil => simp at h
    | cons a w =>
      simp only [List.map_cons, List.cons.injEq] at h
      obtain ⟨h1, h2⟩ := h
      have e : ws.set i a = ws := by
        obtain ⟨hlt, he⟩ := List.getElem?_eq_some_iff.mp h1
        rw [← he]; exact List.set_getElem_self hlt
      show wset (ws.set i a) is w = ws
      rw [e]
      exact ih ws w h2
/-- behind a call that only looks -/
theorem g_ir {post : Int32 → Unit → Prop} {a : Array Value} (hr : va_Run p l e R s m args below meth c H locs cells slots 0 0 (F0 m pc ls st0) rest (va_Qi post (cB D k (va_A wc H.size) (fun _ => wc)) (va_A wc H.size) a) (va_A wc H.size))
    (hA : ∀ q, s.heap.size ≤ q → A q) (hP : va_P D vwCl ws H) (hD : va_D A ws) (hS : va_S A s.heap H locs) (isC : List Nat) (hC : isC.map (fun i => ws[i]?) = wc.map some) (hl : isC.length = wc.length)
    (kk : ∀ (r : Int32) (H1 : Heap) (locs1 : List Loc), post r () → va_P D vwCl ws H1 → va_S A s.heap H1 locs1 → W p l e R s m args below meth c H1 locs1 cells slots Q (F0 m (pc + 3) ls (.int r :: rest))) : W p l e R s m args below meth c H locs cells slots Q (F0 m pc ls st0) := by
  refine g_i hr hA hP hD hS isC hC (fun _ => hl) (fun r u H1 locs1 hw hP1 _ hS1 => ?_)
  rw [wset_id isC ws wc hC] at hP1
  exact kk r H1 locs1 hw hP1 hS1
theorem g_lr {post : Int64 → Unit → Prop} {a : Array Value} (hr : va_Run p l e R s m args below meth c H locs cells slots 0 0 (F0 m pc ls st0) rest (va_Ql post (cB D k (va_A wc H.size) (fun _ => wc)) (va_A wc H.size) a) (va_A wc H.size))
    (hA : ∀ q, s.heap.size ≤ q → A q) (hP : va_P D vwCl ws H) (hD : va_D A ws) (hS : va_S A s.heap H locs) (isC : List Nat) (hC : isC.map (fun i => ws[i]?) = wc.map some) (hl : isC.length = wc.length)
    (kk : ∀ (r : Int64) (H1 : Heap) (locs1 : List Loc), post r () → va_P D vwCl ws H1 → va_S A s.heap H1 locs1 → W p l e R s m args below meth c H1 locs1 cells slots Q (F0 m (pc + 3) ls (.long r :: rest))) : W p l e R s m args below meth c H locs cells slots Q (F0 m pc ls st0) := by
  refine g_l hr hA hP hD hS isC hC (fun _ => hl) (fun r u H1 locs1 hw hP1 _ hS1 => ?_)
  rw [wset_id isC ws wc hC] at hP1
  exact kk r H1 locs1 hw hP1 hS1
end GROWS2
section GROWSF
variable {p : Program} {l : Launch} {e : Env} {R : Room} {s : State} {m : MethodId} {args : Array Value} {below : List Frame} {meth : Method} {c : Code} {H : Heap} {locs : List Loc} {cells slots : Nat} {Q : State → Prop}
variable {cc : ByteArray} {pc nL : Nat} {ls : Array Slot} {rest : List Value} {A : Nat → Prop} {Ts : List Cond} {own : String} {D : va_G} {k : Nat → ClassId} {b : Nat → Nat} {ws : va_W} {st0 : List Value}
variable {y : MethodName} {bytes : ByteArray} {maxL n index : Nat} {ret : Option FieldType} {wd wd' : List Cond} {rm : Room} {Qc : Array Value → State → Outcome → State → Prop}
theorem g_fF (hD : va_D A ws) (hS : va_S A s.heap H locs) (hA : ∀ q, s.heap.size ≤ q → A q) : ∀ q, va_A ws H.size q → A q := by
  intro q h
  rcases h with ⟨j, e, h⟩ | h
  · exact hD.2 j (q, e) h
  · exact hA q (Nat.le_trans hS.1 h)
theorem g_preF (cx : Cx p s m args c cc nL Ts own D k b A) (hP : va_P D vwCl ws H) (hD : va_D A ws) (hS : va_S A s.heap H locs) (av : List Value) : PreS s H (cPre D k b ws H.size av) av := by
  obtain ⟨-, hK, hA, hSt⟩ := cx
  refine ⟨fun a U g mk q => ?_, fun U hU hW => ?_⟩
  · obtain ⟨q0, q1, qP, qK, qD, qS⟩ := q
    exact ⟨q0, q1, qP, va_K.moved (u := U) (U := U.calling g mk a) (Vm.Alike.refl U.vm) qK, qD, St.same (u := U) rfl qS⟩
  · have hF := g_fF hD hS hA
    exact ⟨rfl, by rw [hU], by rw [hU]; exact hP, va_K.moved hW.alike hK, hD.weaken (fun _ _ _ _ => trivial), by rw [hU]; exact ((hSt.kept hS.2.1).narrow hF).warm hW⟩
theorem g_runVF (cx : Cx p s m args c cc nL Ts own D k b A) (hP : va_P D vwCl ws H) (hD : va_D A ws) (hS : va_S A s.heap H locs) {a : Nat} (As : List Value)
    (hM : Met l y wd rm (cPre D k b ws H.size (.ref a :: As)) Qc 0 0 (va_A ws H.size)) {C : String} (hG : GoodIn Ts (wsV own index C y wd)) (hw : wd = Cond.code y bytes maxL ret :: wd') (hrc : rm.cells = 0) (hrs : rm.slots = 0)
    (hd : y.cls = C ∧ y.cls ≠ "java/lang/invoke/MethodHandle" ∧ y.cls ≠ "java/lang/invoke/VarHandle" ∧ (parseMethodDescriptor y.desc).map (fun d => d.parameters.length) = some n) (hR : rm.frames + 1 ≤ R.frames ∧ 8 + (maxL + 11) + rm.locals ≤ R.locals)
    {ci q0 N : Nat} {T : u_T} {fs : List Value} (hcl : vwCl[ci]? = some (C, T, N)) (hq : ws[q0]? = some (a, .inr (ci, fs)))
    (hnn : As.length = n) (hl : ls.size = nL) (hst : st0 = As.reverse ++ .ref a :: rest) (hW : (rest.map fun v => v.category).sum ≤ 8) (hf : cells ≤ R.cells ∧ slots ≤ R.slots) (hdg : decode cc pc = .ok (.invokevirtual index, 3)) :
    va_Run p l e R s m args below meth c H locs cells slots 0 0 (F0 m pc ls st0) rest (Qc (.ref a :: As).toArray) (va_A ws H.size) := by
  have hp := g_preF cx hP hD hS (.ref a :: As)
  exact va_runV (As := As) (rest := rest) cx.1 hM (cwV n cx.1.2.2.2.2 hG hw hrc hrs hd hR) ⟨hp.1, va_recv cx.2.1 hP hcl hq, hp.2⟩ rfl hnn hl hst (lv_room hW) hdg hf
theorem g_iF {S : Type} {post : Int32 → S → Prop} {w1 : S → va_W} {a : Array Value} (hr : va_Run p l e R s m args below meth c H locs cells slots 0 0 (F0 m pc ls st0) rest (va_Qi post (cB D k (va_A ws H.size) w1) (va_A ws H.size) a) (va_A ws H.size))
    (hA : ∀ q, s.heap.size ≤ q → A q) (hD : va_D A ws) (hS : va_S A s.heap H locs)
    (kk : ∀ (r : Int32) (u : S) (H1 : Heap) (locs1 : List Loc), post r u → va_P D vwCl (w1 u) H1 → va_D A (w1 u) → va_S A s.heap H1 locs1 → W p l e R s m args below meth c H1 locs1 cells slots Q (F0 m (pc + 3) ls (.int r :: rest))) : W p l e R s m args below meth c H locs cells slots Q (F0 m pc ls st0) := by
  have hF := g_fF hD hS hA
  refine va_calli hr hS (fun q _ h => hF q h) hF (fun r u t H1 locs1 ht hvm hw hB hz1 hk1 hS1 => ?_)
  obtain ⟨hP1, hK1, hD1⟩ := hB
  rw [ht] at hP1
  exact kk r u H1 locs1 hw hP1 (hD1.weaken (fun _ q _ h => hF q.1 h)) hS1
theorem g_lF {S : Type} {post : Int64 → S → Prop} {w1 : S → va_W} {a : Array Value} (hr : va_Run p l e R s m args below meth c H locs cells slots 0 0 (F0 m pc ls st0) rest (va_Ql post (cB D k (va_A ws H.size) w1) (va_A ws H.size) a) (va_A ws H.size))
    (hA : ∀ q, s.heap.size ≤ q → A q) (hD : va_D A ws) (hS : va_S A s.heap H locs)
    (kk : ∀ (r : Int64) (u : S) (H1 : Heap) (locs1 : List Loc), post r u → va_P D vwCl (w1 u) H1 → va_D A (w1 u) → va_S A s.heap H1 locs1 → W p l e R s m args below meth c H1 locs1 cells slots Q (F0 m (pc + 3) ls (.long r :: rest))) : W p l e R s m args below meth c H locs cells slots Q (F0 m pc ls st0) := by
  have hF := g_fF hD hS hA
  refine va_calll hr hS (fun q _ h => hF q h) hF (fun r u t H1 locs1 ht hvm hw hB hz1 hk1 hS1 => ?_)
  obtain ⟨hP1, hK1, hD1⟩ := hB
  rw [ht] at hP1
  exact kk r u H1 locs1 hw hP1 (hD1.weaken (fun _ q _ h => hF q.1 h)) hS1
theorem g_vF {S : Type} {post : S → Prop} {w1 : S → va_W} {a : Array Value} (hr : va_Run p l e R s m args below meth c H locs cells slots 0 0 (F0 m pc ls st0) rest (va_Qv post (cB D k (va_A ws H.size) w1) (va_A ws H.size) a) (va_A ws H.size))
    (hA : ∀ q, s.heap.size ≤ q → A q) (hD : va_D A ws) (hS : va_S A s.heap H locs)
    (kk : ∀ (u : S) (H1 : Heap) (locs1 : List Loc), post u → va_P D vwCl (w1 u) H1 → va_D A (w1 u) → va_S A s.heap H1 locs1 → W p l e R s m args below meth c H1 locs1 cells slots Q (F0 m (pc + 3) ls rest)) : W p l e R s m args below meth c H locs cells slots Q (F0 m pc ls st0) := by
  have hF := g_fF hD hS hA
  refine va_callv hr hS (fun q _ h => hF q h) hF (fun u t H1 locs1 ht hvm hw hB hz1 hk1 hS1 => ?_)
  obtain ⟨hP1, hK1, hD1⟩ := hB
  rw [ht] at hP1
  exact kk u H1 locs1 hw hP1 (hD1.weaken (fun _ q _ h => hF q.1 h)) hS1
end GROWSF
/-- numbers -/
theorem i_add {x y : Int32} {a b : Int} (hx : x.toInt = a) (hy : y.toInt = b) (h1 : -2147483648 ≤ a + b) (h2 : a + b ≤ 2147483647) : (x + y).toInt = a + b := by
  rw [Int32.toInt_add, hx, hy]; exact Int.bmod_eq_of_le (by omega) (by omega)
theorem i_sub {x y : Int32} {a b : Int} (hx : x.toInt = a) (hy : y.toInt = b) (h1 : -2147483648 ≤ a - b) (h2 : a - b ≤ 2147483647) : (x - y).toInt = a - b := by
  rw [Int32.toInt_sub, hx, hy]; exact Int.bmod_eq_of_le (by omega) (by omega)
theorem i_mul {x y : Int32} {a b : Int} (hx : x.toInt = a) (hy : y.toInt = b) (h1 : -2147483648 ≤ a * b) (h2 : a * b ≤ 2147483647) : (x * y).toInt = a * b := by
  rw [Int32.toInt_mul, hx, hy]; exact Int.bmod_eq_of_le (by omega) (by omega)
theorem i_neg {x : Int32} {a : Int} (hx : x.toInt = a) (h1 : -2147483647 ≤ a) (h2 : a ≤ 2147483647) : (-x).toInt = -a := by
  rw [Int32.toInt_neg, hx]; exact Int.bmod_eq_of_le (by omega) (by omega)
theorem i_div {x y : Int32} {a b : Int} (hx : x.toInt = a) (hy : y.toInt = b) (h1 : 0 ≤ a) (h2 : 0 < b) (h3 : a ≤ 2147483647) : (x / y).toInt = a / b := by
  rw [Int32.toInt_div, hx, hy, Int.tdiv_eq_ediv_of_nonneg h1]
  have h4 : 0 ≤ a / b := Int.ediv_nonneg h1 (by omega)
  have h5 : a / b ≤ a := Int.ediv_le_self b h1
  exact Int.bmod_eq_of_le (by omega) (by omega)
theorem i_rem {x y : Int32} {a b : Int} (hx : x.toInt = a) (hy : y.toInt = b) (h1 : 0 ≤ a) (h2 : 0 < b) (h3 : a ≤ 2147483647) (h4 : b ≤ 2147483647) : (x - x / y * y).toInt = a % b := by
  have hd := i_div hx hy h1 h2 h3
  have h5 : 0 ≤ a / b := Int.ediv_nonneg h1 (by omega)
  have h6 : a / b * b ≤ a := Int.ediv_mul_le a (by omega)
  have h7 : 0 ≤ a / b * b := Int.mul_nonneg h5 (by omega)
  have hm := i_mul hd hy (by omega) (by omega)
  have h8 : 0 ≤ a - a / b * b := by omega
  rw [i_sub hx hm (by omega) (by omega)]
  have := Int.emod_def a b
  rw [this, Int.mul_comm]
theorem f_le {x y : Int32} {a b : Int} (hx : x.toInt = a) (hy : y.toInt = b) (h : x ≤ y) : a ≤ b := by rw [← hx, ← hy]; exact Int32.le_iff_toInt_le.mp h
theorem f_nle {x y : Int32} {a b : Int} (hx : x.toInt = a) (hy : y.toInt = b) (h : ¬ x ≤ y) : b < a := by
  rw [← hx, ← hy]; exact Int.not_le.mp (fun q => h (Int32.le_iff_toInt_le.mpr q))
theorem f_lt {x y : Int32} {a b : Int} (hx : x.toInt = a) (hy : y.toInt = b) (h : x < y) : a < b := by rw [← hx, ← hy]; exact Int32.lt_iff_toInt_lt.mp h
theorem f_nlt {x y : Int32} {a b : Int} (hx : x.toInt = a) (hy : y.toInt = b) (h : ¬ x < y) : b ≤ a := by
  rw [← hx, ← hy]; exact Int.not_lt.mp (fun q => h (Int32.lt_iff_toInt_lt.mpr q))
theorem f_eq {x y : Int32} {a b : Int} (hx : x.toInt = a) (hy : y.toInt = b) (h : x = y) : a = b := by rw [← hx, ← hy, h]
theorem f_ne {x y : Int32} {a b : Int} (hx : x.toInt = a) (hy : y.toInt = b) (h : ¬ x = y) : ¬ a = b := by rw [← hx, ← hy]; exact fun q => h (Int32.toInt_inj.mp q)
theorem f_in {x : Int32} {n : Nat} {a : Int} (hx : x.toInt = a) (h1 : 0 ≤ a) (h2 : a < n) : vp_in x n := vp_in_iff.mpr ⟨by rw [hx]; exact h1, by rw [hx]; exact h2⟩
theorem g_q {p : Program} {l : Launch} {e : Env} {R : Room} {s : State} {m : MethodId} {args : Array Value} {below : List Frame} {meth : Method} {c : Code} {H : Heap} {locs : List Loc} {cells slots : Nat} {Q0 : State → Prop} {g : JFrame} (k : ∀ Q : State → Prop, Q = Q0 → W p l e R s m args below meth c H locs cells slots Q g) : W p l e R s m args below meth c H locs cells slots Q0 g := k _ rfl
theorem nar_z {r : Int32} (h : 0 ≤ r.toInt ∧ r.toInt ≤ 1) : narrow .boolean (.int r) = .int r := by
  have h2 : r = 0 ∨ r = 1 := by
    rcases (show r.toInt = 0 ∨ r.toInt = 1 by omega) with q | q
    · exact Or.inl (Int32.toInt_inj.mp q)
    · exact Or.inr (Int32.toInt_inj.mp q)
  rcases h2 with rfl | rfl <;> rfl
theorem upd_all {f : Nat → Int32} {i : Nat} {x : Int32} {lo hi : Int} (h : ∀ j, lo ≤ (f j).toInt ∧ (f j).toInt ≤ hi) (hx : lo ≤ x.toInt ∧ x.toInt ≤ hi) : ∀ j, lo ≤ (upd f i x j).toInt ∧ (upd f i x j).toInt ≤ hi := by
  intro j
  by_cases e : j = i
  · subst e; rw [pk_us]; exact hx
  · rw [pk_un e]; exact h j
def up2 (f : Nat → Nat → Int32) (i : Nat) (g : Nat → Int32) : Nat → Nat → Int32 := fun j => if j = i then g else f j
def up2L (f : Nat → Nat → Int64) (i : Nat) (g : Nat → Int64) : Nat → Nat → Int64 := fun j => if j = i then g else f j
section STT
variable {b : Nat → Nat} {A : Nat → Prop} {U : State} {H : Heap}
theorem St.t0 (h : St b A U H) : sT "StillInAugust$Hands" "ALL" "[I" .int (b 0) 35 (fun j => .int (zALL.getD j 0)) A U H := h.1
theorem St.t1 (h : St b A U H) : sT "StillInAugust$Hands" "BEGINNINGS" "[I" .int (b 1) 5 (fun j => .int (zBEG.getD j 0)) A U H := h.2.1
theorem St.t2 (h : St b A U H) : sT "StillInAugust$House" "WAYS" "[I" .int (b 2) 25 (fun j => .int (zWAY.getD j 0)) A U H := h.2.2.1
theorem St.t3 (h : St b A U H) : sT "StillInAugust$House" "POWERS" "[I" .int (b 3) 30 (fun j => .int (zPOW.getD j 0)) A U H := h.2.2.2.1
theorem St.t4 (h : St b A U H) : sT "StillInAugust$Plan" "SCALES" "[J" .long (b 4) 6 (fun j => .long (zSCA.getD j 0)) A U H := h.2.2.2.2.1
end STT
theorem getD_b {l : List Int32} {lo hi : Int} (h : ∀ x ∈ l, lo ≤ x.toInt ∧ x.toInt ≤ hi) (h0 : lo ≤ 0 ∧ 0 ≤ hi) : ∀ j, lo ≤ (l.getD j 0).toInt ∧ (l.getD j 0).toInt ≤ hi := by
  intro j
  rw [List.getD_eq_getElem?_getD]
  cases q : l[j]? with
  | none => simpa using h0
  | some x => simpa using h x (List.mem_of_getElem? q)
theorem zALL_b : ∀ j, 0 ≤ (zALL.getD j 0).toInt ∧ (zALL.getD j 0).toInt ≤ 400 := getD_b (by decide) (by decide)
theorem zBEG_b : ∀ j, 0 ≤ (zBEG.getD j 0).toInt ∧ (zBEG.getD j 0).toInt ≤ 34 := getD_b (by decide) (by decide)
theorem zWAY_b : ∀ j, 0 ≤ (zWAY.getD j 0).toInt ∧ (zWAY.getD j 0).toInt ≤ 6 := getD_b (by decide) (by decide)
theorem zPOW_b : ∀ j, 0 ≤ (zPOW.getD j 0).toInt ∧ (zPOW.getD j 0).toInt ≤ 625 := getD_b (by decide) (by decide)
theorem i_max {v x y : Int32} {a b : Int} (hx : x.toInt = a) (hy : y.toInt = b) (h : v = if x < y then y else x) : (v.toInt = a ∧ b ≤ a) ∨ (v.toInt = b ∧ a < b) := by
  subst h
  by_cases q : x < y
  · rw [if_pos q]; exact Or.inr ⟨hy, f_lt hx hy q⟩
  · rw [if_neg q]; exact Or.inl ⟨hx, f_nlt hx hy q⟩
theorem i_min {v x y : Int32} {a b : Int} (hx : x.toInt = a) (hy : y.toInt = b) (h : v = if y < x then y else x) : (v.toInt = b ∧ b < a) ∨ (v.toInt = a ∧ a ≤ b) := by
  subst h
  by_cases q : y < x
  · rw [if_pos q]; exact Or.inl ⟨hy, f_lt hy hx q⟩
  · rw [if_neg q]; exact Or.inr ⟨hx, f_nlt hy hx q⟩
def Imp (a b : Prop) : Prop := a → b
theorem updI {f g : Nat → Int32} {i v : Int32} {a : Int} (hg : g = upd f i.toNatClampNeg v) (hi : i.toInt = a) (h0 : 0 ≤ a) (j : Nat) : (a = (j : Int) ∧ (g j).toInt = v.toInt) ∨ (¬ a = (j : Int) ∧ (g j).toInt = (f j).toInt) := by
  have h1 : ((i.toNatClampNeg : Nat) : Int) = a := by
    show ((i.toInt.toNat : Nat) : Int) = a
    omega
  by_cases e : j = i.toNatClampNeg
  · left; subst e; rw [hg, pk_us]; exact ⟨h1.symm, rfl⟩
  · right; rw [hg, pk_un e]; exact ⟨fun q => e (by omega), rfl⟩
theorem i_rng (x : Int32) : -2147483648 ≤ x.toInt ∧ x.toInt ≤ 2147483647 := ⟨x.le_toInt, Int.le_of_lt_add_one x.toInt_lt⟩
theorem and_l0 {x y : Int32} (h : 0 ≤ x.toInt) : 0 ≤ (x &&& y).toInt ∧ (x &&& y).toInt ≤ x.toInt := by
  have e1 : x.toInt = x.toBitVec.toInt := rfl
  have e2 : (x &&& y).toInt = (x.toBitVec &&& y.toBitVec).toInt := rfl
  rw [e1] at h ⊢
  rw [e2]
  have hx : 2 * x.toBitVec.toNat < 2 ^ 32 := by
    by_cases q : 2 * x.toBitVec.toNat < 2 ^ 32
    · exact q
    · exfalso
      rw [BitVec.toInt_eq_toNat_cond, if_neg q] at h
      have := x.toBitVec.isLt
      omega
  have h3 : (x.toBitVec &&& y.toBitVec).toNat ≤ x.toBitVec.toNat := by rw [BitVec.toNat_and]; exact Nat.and_le_left
  rw [BitVec.toInt_eq_toNat_cond, if_pos (by omega), BitVec.toInt_eq_toNat_cond, if_pos hx]
  omega
theorem and_l {x y : Int32} {a : Int} (hx : x.toInt = a) (h : 0 ≤ a) : 0 ≤ (x &&& y).toInt ∧ (x &&& y).toInt ≤ a := by rw [← hx] at h ⊢; exact and_l0 h
theorem and_r {x y : Int32} {a : Int} (hy : y.toInt = a) (h : 0 ≤ a) : 0 ≤ (x &&& y).toInt ∧ (x &&& y).toInt ≤ a := by
  have e : x &&& y = y &&& x := Int32.and_comm x y
  rw [e]; exact and_l hy h
theorem i_remb {x y : Int32} {b : Int} (hy : y.toInt = b) (h : 1 < b) : -b < (x - x / y * y).toInt ∧ (x - x / y * y).toInt < b := by
  have r := i_rng x
  have hd : (x / y).toInt = x.toInt.tdiv b := by
    rw [Int32.toInt_div, hy]
    have h1 : (x.toInt.tdiv b).natAbs ≤ x.toInt.natAbs := by rw [Int.natAbs_tdiv]; exact Nat.div_le_self _ _
    have h2 : (x.toInt.tdiv b).natAbs * 2 ≤ x.toInt.natAbs := by
      rw [Int.natAbs_tdiv]
      have : 2 ≤ b.natAbs := by omega
      calc x.toInt.natAbs / b.natAbs * 2 ≤ x.toInt.natAbs / b.natAbs * b.natAbs := Nat.mul_le_mul_left _ this
        _ ≤ x.toInt.natAbs := Nat.div_mul_le_self _ _
    exact Int.bmod_eq_of_le (by omega) (by omega)
  have ht := Int.tmod_add_mul_tdiv x.toInt b
  rw [Int.mul_comm] at ht
  have hm : -b < x.toInt.tmod b ∧ x.toInt.tmod b < b := by
    constructor
    · have := Int.lt_tmod_of_pos x.toInt (show 0 < b by omega); omega
    · exact Int.tmod_lt_of_pos x.toInt (by omega)
  have hb2 := i_rng y
  have hmb : -2147483648 ≤ x.toInt.tdiv b * b ∧ x.toInt.tdiv b * b ≤ 2147483647 := by
    have h1 : (x.toInt.tdiv b * b).natAbs ≤ x.toInt.natAbs := by
      rw [Int.natAbs_mul, Int.natAbs_tdiv]; exact Nat.div_mul_le_self _ _
    omega
  have hmul : (x / y * y).toInt = x.toInt.tdiv b * b := i_mul hd hy hmb.1 hmb.2
  have e : x.toInt - x.toInt.tdiv b * b = x.toInt.tmod b := by omega
  rw [i_sub rfl hmul (by rw [e]; omega) (by rw [e]; omega), e]
  exact hm
theorem ldI {f : Nat → Int32} {v i : Int32} {a : Int} (e : v = f i.toNatClampNeg) (hi : i.toInt = a) (h0 : 0 ≤ a) (j : Nat) : ¬ a = (j : Int) ∨ v.toInt = (f j).toInt := by
  by_cases q : a = (j : Int)
  · right
    have h1 : i.toNatClampNeg = j := by
      show i.toInt.toNat = j
      omega
    rw [e, h1]
  · exact Or.inl q
theorem i2l_t {x : Int32} {v : Int64} {a : Int} (hx : x.toInt = a) (h : v = x.toInt64) : v.toInt = a := by rw [h, Int32.toInt_toInt64, hx]
theorem lcz {v : Int32} {x : Int64} (e : v = lg_cmp x 0) (c : v = 0) : x.toInt = 0 := by
  rw [e] at c; rw [(lg_cmp_eq x 0).mp c]; rfl
theorem lcnz {v : Int32} {x : Int64} (e : v = lg_cmp x 0) (c : ¬ v = 0) : ¬ x.toInt = 0 := by
  intro h; apply c; rw [e]; exact (lg_cmp_eq x 0).mpr (Int64.toInt_inj.mp h)
theorem nz64 {x : Int64} (h : ¬ x.toInt = 0) : ¬ x = 0 := fun q => h (by rw [q]; rfl)
theorem odd64 {x y : Int64} (hx : x.toInt % 2 = 1) (hy : y.toInt % 2 = 1) : (x * y).toInt % 2 = 1 := by
  rw [Int64.toInt_mul]
  have h1 : (x.toInt * y.toInt) % 2 = 1 := by rw [Int.mul_emod, hx, hy]; rfl
  have h2 := Int.bmod_emod (x := x.toInt * y.toInt) (m := 2 ^ 64)
  omega
theorem odd32 {x y : Int32} (hx : x.toInt % 2 = 1) (hy : y.toInt % 2 = 1) : (x * y).toInt % 2 = 1 := by
  rw [Int32.toInt_mul]
  have h1 : (x.toInt * y.toInt) % 2 = 1 := by rw [Int.mul_emod, hx, hy]; rfl
  have h2 := Int.bmod_emod (x := x.toInt * y.toInt) (m := 2 ^ 32)
  omega
theorem rem64 {x y z : Int64} (e : z = x - x / y * y) (h : ¬ y.toInt = 0) : z.toInt.natAbs < y.toInt.natAbs := by
  have ht := Int.tmod_add_mul_tdiv x.toInt y.toInt
  rw [Int.mul_comm] at ht
  have hy1 := y.le_toInt
  have hy2 := y.toInt_lt
  have hz1 := z.le_toInt
  have hz2 := z.toInt_lt
  have hlt : (x.toInt.tmod y.toInt).natAbs < y.toInt.natAbs := by
    rw [Int.natAbs_tmod]; exact Nat.mod_lt _ (by omega)
  have ez : z.toInt = (x.toInt - ((x.toInt.tdiv y.toInt).bmod (2 ^ 64) * y.toInt).bmod (2 ^ 64)).bmod (2 ^ 64) := by
    rw [e, Int64.toInt_sub, Int64.toInt_mul, Int64.toInt_div]
  have h1 : (((x.toInt.tdiv y.toInt).bmod (2 ^ 64) * y.toInt).bmod (2 ^ 64)) % (2 ^ 64) = (x.toInt.tdiv y.toInt * y.toInt) % (2 ^ 64) := by
    have a1 := Int.bmod_emod (x := (x.toInt.tdiv y.toInt).bmod (2 ^ 64) * y.toInt) (m := 2 ^ 64)
    have a2 := Int.bmod_emod (x := x.toInt.tdiv y.toInt) (m := 2 ^ 64)
    have a3 : ((x.toInt.tdiv y.toInt).bmod (2 ^ 64) * y.toInt) % (((2 ^ 64 : Nat) : Int)) = (x.toInt.tdiv y.toInt * y.toInt) % (((2 ^ 64 : Nat) : Int)) := by
      rw [Int.mul_emod, a2, ← Int.mul_emod]
    rw [a3] at a1
    exact a1
  have h2 := Int.bmod_emod (x := x.toInt - ((x.toInt.tdiv y.toInt).bmod (2 ^ 64) * y.toInt).bmod (2 ^ 64)) (m := 2 ^ 64)
  rw [← ez] at h2
  generalize ((x.toInt.tdiv y.toInt).bmod (2 ^ 64) * y.toInt).bmod (2 ^ 64) = B at h1 h2
  generalize x.toInt.tdiv y.toInt * y.toInt = P at h1 ht
  generalize x.toInt.tmod y.toInt = t at ht hlt
  have : z.toInt = t := by omega
  rw [this]; exact hlt
theorem nz32 {x : Int32} (h : ¬ x.toInt = 0) : ¬ x = 0 := fun q => h (by rw [q]; rfl)
theorem ne1 {r : Int32} (h : r.toInt = 1) : ¬ r = 0 := fun q => by rw [q] at h; exact absurd h (by decide)
theorem oddm {x y v : Int32} (e : v = x * y) (h : ¬ y.toInt % 2 = 1 ∨ x.toInt % 2 = 1) : ¬ y.toInt % 2 = 1 ∨ v.toInt % 2 = 1 := by
  rcases h with h | h
  · exact Or.inl h
  · by_cases q : y.toInt % 2 = 1
    · right; rw [e]; exact odd32 h q
    · exact Or.inl q
