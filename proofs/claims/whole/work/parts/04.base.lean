/-! wrappers: named numbers, array rows by Nat places, calls over the one list of words -/
/-- the cells of an object of the class: the object, its long[1000], its int[5] -/
abbrev wX (o a b : Nat) (cA iA : ClassId) (cf : Nat → Int64) (uf : Nat → Int32) : va_W := [(o, .inr (0, [.ref a, .ref b])), (a, .inl (cA, 1000, .inr (.inl cf))), (b, .inl (iA, 5, .inl uf))]
/-- the cells of an object of the reference -/
abbrev wM (o a b : Nat) (cA iA : ClassId) (er : Int32) (cf : Nat → Int64) (uf : Nat → Int32) : va_W := [(o, .inr (1, [.int er, .ref a, .ref b])), (a, .inl (cA, 1000, .inr (.inl cf))), (b, .inl (iA, 5, .inl uf))]
abbrev kT (cA iA : ClassId) : List (ClassId × FieldType) := [(cA, .long), (iA, .int)]
theorem uX_in : ∀ w ∈ u_ws R_X T_X 2, w ∈ gW := by
  intro w h
  have e : u_ws R_X T_X 2 = [Cond.laysFinal "ParityDisks" "ParityDisks" "cells" "[J", Cond.laysFinal "ParityDisks" "ParityDisks" "usedUpTo" "[I"] := by decide +kernel
  rw [e] at h
  rcases List.mem_cons.mp h with h | h
  · rw [h]; exact w_20
  · rw [List.mem_singleton.mp h]; exact w_22
theorem uM_in : ∀ w ∈ u_ws R_M T_M 3, w ∈ gW := by
  intro w h
  have e : u_ws R_M T_M 3 = [Cond.lays "ParityDisksModel" "ParityDisksModel" "err" "I", Cond.laysFinal "ParityDisksModel" "ParityDisksModel" "stands" "[J", Cond.laysFinal "ParityDisksModel" "ParityDisksModel" "up" "[I"] := by decide +kernel
  rw [e] at h
  rcases List.mem_cons.mp h with h | h
  · rw [h]; exact w_273
  · rcases List.mem_cons.mp h with h | h
    · rw [h]; exact w_275
    · rw [List.mem_singleton.mp h]; exact w_277
/-- a contract's start: the arguments, the world, the classes -/
def pW (D : va_G) (ws : va_W) (tys : List (ClassId × FieldType)) (av : List Value) : Array Value → State → Prop := va_Pc av (fun U => va_P D cls_ ws U.heap ∧ va_K D cls_ tys U)
theorem pW_blind {D : va_G} {ws : va_W} {tys : List (ClassId × FieldType)} {av : List Value} : FrameBlind (pW D ws tys av) := fun a U g mk q => ⟨q.1, q.2.1, va_K.moved (u := U) (U := U.calling g mk a) (Vm.Alike.refl U.vm) q.2.2⟩
/-- .. of a writer: and its cells are apart -/
def pWs (D : va_G) (ws : va_W) (tys : List (ClassId × FieldType)) (sz : Nat) (av : List Value) : Array Value → State → Prop := va_Pc av (fun U => U.heap.size = sz ∧ va_P D cls_ ws U.heap ∧ va_K D cls_ tys U ∧ va_D (fun _ => True) ws)
theorem pWs_blind {D : va_G} {ws : va_W} {tys : List (ClassId × FieldType)} {sz : Nat} {av : List Value} : FrameBlind (pWs D ws tys sz av) := fun a U g mk q => ⟨q.1, q.2.1, q.2.2.1, va_K.moved (u := U) (U := U.calling g mk a) (Vm.Alike.refl U.vm) q.2.2.2.1, q.2.2.2.2⟩
/-- a static one that looks at nothing -/
def pN (av : List Value) : Array Value → State → Prop := va_Pc av (fun _ => True)
theorem pN_blind {av : List Value} : FrameBlind (pN av) := fun _ _ _ _ q => q
abbrev QI (r0 : Int32) (D : va_G) (ws' : va_W) (A : Nat → Prop) := va_Qi (fun (r : Int32) (_ : Unit) => r = r0) (fun _ t => va_P D cls_ ws' t.heap) A
abbrev QL (r0 : Int64) (D : va_G) (ws' : va_W) (A : Nat → Prop) := va_Ql (fun (r : Int64) (_ : Unit) => r = r0) (fun _ t => va_P D cls_ ws' t.heap) A
abbrev QV (D : va_G) (ws' : va_W) (A : Nat → Prop) := va_Qv (fun (_ : Unit) => True) (fun _ t => va_P D cls_ ws' t.heap) A
theorem adr_of {ws ws' : va_W} (h : ws'.map Prod.fst = ws.map Prod.fst) {k : Nat} {q : Nat × va_E} (hk : ws'[k]? = some q) : ∃ q0, ws[k]? = some q0 ∧ q0.1 = q.1 := by
  have h1 : (ws'.map Prod.fst)[k]? = some q.1 := by rw [List.getElem?_map, hk]; rfl
  rw [h, List.getElem?_map] at h1
  cases hw : ws[k]? with
  | none => rw [hw] at h1; cases h1
  | some q0 => rw [hw] at h1; exact ⟨q0, rfl, Option.some.inj h1⟩
theorem vD_adr {ws ws' : va_W} {A : Nat → Prop} (h : ws'.map Prod.fst = ws.map Prod.fst) (hD : va_D A ws) : va_D A ws' := by
  refine ⟨fun i j x y hi hj hxy => ?_, fun k q hk => ?_⟩
  · obtain ⟨x0, h1, h2⟩ := adr_of h hi
    obtain ⟨y0, h3, h4⟩ := adr_of h hj
    exact hD.1 i j x0 y0 h1 h3 (h2.trans (hxy.trans h4.symm))
  · obtain ⟨q0, h1, h2⟩ := adr_of h hk
    rw [← h2]; exact hD.2 k q0 h1
theorem vA_free {ws : va_W} {A : Nat → Prop} {H0 H : Heap} {locs : List Loc} (hD : va_D A ws) (hS : va_S A H0 H locs) (hA : ∀ q, H0.size ≤ q → A q) : ∀ q, va_A ws H.size q → A q := fun q h => h.elim (fun ⟨k, e, hk⟩ => hD.2 k (q, e) hk) (fun h => hA q (Nat.le_trans hS.1 h))
theorem incI (n : Nat) : nI n + Int32.ofInt 1 = nI (n + 1) := by
  have e : Int32.ofInt 1 = 1 := by decide
  rw [e]; exact nI_1 n
section
variable {p : Program} {l : Launch} {e : Env} {R : Room} {s : State} {m : MethodId} {args : Array Value} {below : List Frame} {meth : Method} {c : Code} {H : Heap} {locs : List Loc} {cells slots : Nat} {Q : State → Prop} {pc : Nat} {ls : Array Slot} {rest st0 : List Value} {cc : ByteArray} {D : va_G} {ws ws' : va_W} {tys : List (ClassId × FieldType)} {A : Nat → Prop} {H0 : Heap}
theorem tI {x y : Int32} (h : x = y) (k : W p l e R s m args below meth c H locs cells slots Q (F0 m pc ls (.int y :: rest))) : W p l e R s m args below meth c H locs cells slots Q (F0 m pc ls (.int x :: rest)) := by
  subst h; exact k
theorem tL {x y : Int64} (h : x = y) (k : W p l e R s m args below meth c H locs cells slots Q (F0 m pc ls (.long y :: rest))) : W p l e R s m args below meth c H locs cells slots Q (F0 m pc ls (.long x :: rest)) := by
  subst h; exact k
theorem aI (hx : p.tables.exec = Jvm.exec) (hb : c.code = cc) (hK : va_K D cls_ tys s) (hP : va_P D cls_ ws H) (q0 t0 : Nat) {a : Nat} {cA : ClassId} {n i : Nat} {f : Nat → Int32} (ha : ws[q0]? = some (a, .inl (cA, n, .inl f))) (ht : tys[t0]? = some (cA, .int)) (hi : i < n) (hn : n < 2 ^ 31) (hdg : decode cc pc = .ok (.iaload, 1))
    (kk : W p l e R s m args below meth c H locs cells slots Q (F0 m (pc + 1) ls (.int (f i) :: rest))) : W p l e R s m args below meth c H locs cells slots Q (F0 m pc ls (.int (nI i) :: .ref a :: rest)) :=
  va_iald hx hb hK hP q0 t0 ha ht (nI_in hi hn) hdg (by rw [nI_clamp (Nat.lt_trans hi hn)]; exact kk)
theorem aL (hx : p.tables.exec = Jvm.exec) (hb : c.code = cc) (hK : va_K D cls_ tys s) (hP : va_P D cls_ ws H) (q0 t0 : Nat) {a : Nat} {cA : ClassId} {n i : Nat} {f : Nat → Int64} (ha : ws[q0]? = some (a, .inl (cA, n, .inr (.inl f)))) (ht : tys[t0]? = some (cA, .long)) (hi : i < n) (hn : n < 2 ^ 31) (hdg : decode cc pc = .ok (.laload, 1))
    (kk : W p l e R s m args below meth c H locs cells slots Q (F0 m (pc + 1) ls (.long (f i) :: rest))) : W p l e R s m args below meth c H locs cells slots Q (F0 m pc ls (.int (nI i) :: .ref a :: rest)) :=
  va_lald hx hb hK hP q0 t0 ha ht (nI_in hi hn) hdg (by rw [nI_clamp (Nat.lt_trans hi hn)]; exact kk)
theorem sI (hx : p.tables.exec = Jvm.exec) (hb : c.code = cc) (hK : va_K D cls_ tys s) (hP : va_P D cls_ ws H) (hD : va_D A ws) (hS : va_S A H0 H locs) (q0 t0 : Nat) {a : Nat} {cA : ClassId} {n i : Nat} {f : Nat → Int32} (ha : ws[q0]? = some (a, .inl (cA, n, .inl f))) (ht : tys[t0]? = some (cA, .int)) {x : Int32} (hi : i < n) (hn : n < 2 ^ 31) (hdg : decode cc pc = .ok (.iastore, 1))
    (kk : ∀ (H1 : Heap) (locs1 : List Loc), va_P D cls_ (ws.set q0 (a, .inl (cA, n, .inl (upd f i x)))) H1 → va_D A (ws.set q0 (a, .inl (cA, n, .inl (upd f i x)))) → va_S A H0 H1 locs1 → W p l e R s m args below meth c H1 locs1 cells slots Q (F0 m (pc + 1) ls rest)) : W p l e R s m args below meth c H locs cells slots Q (F0 m pc ls (.int x :: .int (nI i) :: .ref a :: rest)) :=
  va_iast hx hb hK hP hD hS q0 t0 ha ht (nI_in hi hn) hdg (by rw [nI_clamp (Nat.lt_trans hi hn)]; exact kk)
theorem sL (hx : p.tables.exec = Jvm.exec) (hb : c.code = cc) (hK : va_K D cls_ tys s) (hP : va_P D cls_ ws H) (hD : va_D A ws) (hS : va_S A H0 H locs) (q0 t0 : Nat) {a : Nat} {cA : ClassId} {n i : Nat} {f : Nat → Int64} (ha : ws[q0]? = some (a, .inl (cA, n, .inr (.inl f)))) (ht : tys[t0]? = some (cA, .long)) {x : Int64} (hi : i < n) (hn : n < 2 ^ 31) (hdg : decode cc pc = .ok (.lastore, 1))
    (kk : ∀ (H1 : Heap) (locs1 : List Loc), va_P D cls_ (ws.set q0 (a, .inl (cA, n, .inr (.inl (vp_updL f i x))))) H1 → va_D A (ws.set q0 (a, .inl (cA, n, .inr (.inl (vp_updL f i x))))) → va_S A H0 H1 locs1 → W p l e R s m args below meth c H1 locs1 cells slots Q (F0 m (pc + 1) ls rest)) : W p l e R s m args below meth c H locs cells slots Q (F0 m pc ls (.long x :: .int (nI i) :: .ref a :: rest)) :=
  va_last hx hb hK hP hD hS q0 t0 ha ht (nI_in hi hn) hdg (by rw [nI_clamp (Nat.lt_trans hi hn)]; exact kk)
variable {own C : String} {index maxL n nL : Nat} {y : MethodName} {bytes : ByteArray} {ret : Option FieldType} {rm : Room} {b : Nat} {As : List Value} {w0 : Cond}
abbrev hD_ (y : MethodName) (C : String) (n : Nat) : Prop := y.cls = C ∧ y.cls ≠ "java/lang/invoke/MethodHandle" ∧ y.cls ≠ "java/lang/invoke/VarHandle" ∧ (parseMethodDescriptor y.desc).map (fun d => d.parameters.length) = some n
theorem gV (h1 : Cond.methodLink own index y ∈ gW) (h2 : Cond.instanceMethod y ∈ gW) (h3 : Cond.selects C y y ∈ gW) (h4 : Cond.initialized C ∈ gW) (h5 : Cond.code y bytes maxL ret ∈ gW) : GoodIn (w0 :: gW) (wsV own index C y (Cond.code y bytes maxL ret :: gW)) := by
  unfold wsV
  refine gw_in2 (w2 := w0) (fun w hw => ?_) (gw_in h5)
  simp only [List.mem_cons, List.not_mem_nil, or_false] at hw
  rcases hw with h | h | h | h <;> rw [h] <;> assumption
theorem gS (h1 : Cond.methodLink own index y ∈ gW) (h2 : Cond.static y ∈ gW) (h4 : Cond.initialized own ∈ gW) (h5 : Cond.code y bytes maxL ret ∈ gW) : GoodIn (w0 :: gW) (wsS own index y (Cond.code y bytes maxL ret :: gW)) := by
  unfold wsS
  refine gw_in2 (w2 := w0) (fun w hw => ?_) (gw_in h5)
  simp only [List.mem_cons, List.not_mem_nil, or_false] at hw
  rcases hw with h | h | h <;> rw [h] <;> assumption
/-- a call that looks and changes nothing -/
theorem kV {r : Value} (S : CallFix p m c cc nL s args (w0 :: gW) own) (hM : Met l y (Cond.code y bytes maxL ret :: gW) rm (pW D ws tys (.ref b :: As)) (k2_QcV r) 0 0 (fun _ => False))
    (h1 : Cond.methodLink own index y ∈ gW) (h2 : Cond.instanceMethod y ∈ gW) (h3 : Cond.selects C y y ∈ gW) (h4 : Cond.initialized C ∈ gW) (h5 : Cond.code y bytes maxL ret ∈ gW)
    (hd : hD_ y C n) (hrm : rm.cells = 0 ∧ rm.slots = 0) (hR : rm.frames + 1 ≤ R.frames ∧ 8 + (maxL + 11) + rm.locals ≤ R.locals)
    (hP : va_P D cls_ ws H) (hK : va_K D cls_ tys s) (ci q0 : Nat) {T : u_T} {N : Nat} {fs : List Value} (hc : cls_[ci]? = some (C, T, N)) (he : ws[q0]? = some (b, .inr (ci, fs)))
    (hn : As.length = n) (hsz : ls.size = nL) (hst : st0 = As.reverse ++ .ref b :: rest) (hW : (rest.map fun v => v.category).sum ≤ 8) (hdg : decode cc pc = .ok (.invokevirtual index, 3)) (hcs : cells ≤ R.cells ∧ slots ≤ R.slots)
    (kk : W p l e R s m args below meth c H locs cells slots Q (F0 m (pc + 3) ls (r :: rest))) : W p l e R s m args below meth c H locs cells slots Q (F0 m pc ls st0) :=
  W.callV (g := F0 m pc ls st0) (rest := rest) (W.runV (g := F0 m pc ls st0) (rest := rest) S hM (cwV n S.2.2.2.2 (gV h1 h2 h3 h4 h5) rfl hrm.1 hrm.2 hd hR) ⟨pW_blind, va_recv hK hP hc he, fun U hU hW => ⟨rfl, by rw [hU]; exact hP, va_K.moved hW.alike hK⟩⟩ rfl hn hsz hst (lv_room hW) hdg hcs) kk
theorem kS {r : Value} (S : CallFix p m c cc nL s args (w0 :: gW) own) (hM : Met l y (Cond.code y bytes maxL ret :: gW) rm (pN As) (k2_QcV r) 0 0 (fun _ => False))
    (h1 : Cond.methodLink own index y ∈ gW) (h2 : Cond.static y ∈ gW) (h4 : Cond.initialized own ∈ gW) (h5 : Cond.code y bytes maxL ret ∈ gW)
    (hd : hD_ y own n) (hrm : rm.cells = 0 ∧ rm.slots = 0) (hR : rm.frames + 1 ≤ R.frames ∧ 8 + (maxL + 11) + rm.locals ≤ R.locals)
    (hn : As.length = n) (hsz : ls.size = nL) (hst : st0 = As.reverse ++ rest) (hW : (rest.map fun v => v.category).sum ≤ 8) (hdg : decode cc pc = .ok (.invokestatic index, 3)) (hcs : cells ≤ R.cells ∧ slots ≤ R.slots)
    (kk : W p l e R s m args below meth c H locs cells slots Q (F0 m (pc + 3) ls (r :: rest))) : W p l e R s m args below meth c H locs cells slots Q (F0 m pc ls st0) :=
  W.callV (g := F0 m pc ls st0) (rest := rest) (W.runS (g := F0 m pc ls st0) (rest := rest) S hM (cwS n S.2.2.2.2 (gS h1 h2 h4 h5) rfl hrm.1 hrm.2 hd hR) ⟨pN_blind, fun _ _ _ => ⟨rfl, trivial⟩⟩ rfl hn hsz hst (lv_room hW) hdg hcs) kk
def QN : Array Value → State → Outcome → State → Prop := fun _ st o t => o = .returned none ∧ t.heap = st.heap
theorem callN {g : JFrame} {a : Array Value} (hr : CallRun p l e R s m args below meth c H locs cells slots 0 0 g rest (QN a) (fun _ => False)) (kk : W p l e R s m args below meth c H locs cells slots Q { g with pc := g.pc + 3, stack := rest }) : W p l e R s m args below meth c H locs cells slots Q g := by
  intro T hT X
  obtain ⟨v, st₀, t, T', L, h0, X', hL, e1, ⟨hv, hh⟩, st⟩ := hr T hT X
  cases hv
  obtain ⟨t2, a1, b1⟩ := kk T' (by rw [e1, hh, h0]) (Stand.forget X' (fun q h => (hL q h).elim))
  exact ⟨t2, st t2 a1, b1⟩
theorem kVn (S : CallFix p m c cc nL s args (w0 :: gW) own) (hM : Met l y (Cond.code y bytes maxL ret :: gW) rm (pW D ws tys (.ref b :: As)) QN 0 0 (fun _ => False))
    (h1 : Cond.methodLink own index y ∈ gW) (h2 : Cond.instanceMethod y ∈ gW) (h3 : Cond.selects C y y ∈ gW) (h4 : Cond.initialized C ∈ gW) (h5 : Cond.code y bytes maxL ret ∈ gW)
    (hd : hD_ y C n) (hrm : rm.cells = 0 ∧ rm.slots = 0) (hR : rm.frames + 1 ≤ R.frames ∧ 8 + (maxL + 11) + rm.locals ≤ R.locals)
    (hP : va_P D cls_ ws H) (hK : va_K D cls_ tys s) (ci q0 : Nat) {T : u_T} {N : Nat} {fs : List Value} (hc : cls_[ci]? = some (C, T, N)) (he : ws[q0]? = some (b, .inr (ci, fs)))
    (hn : As.length = n) (hsz : ls.size = nL) (hst : st0 = As.reverse ++ .ref b :: rest) (hW : (rest.map fun v => v.category).sum ≤ 8) (hdg : decode cc pc = .ok (.invokevirtual index, 3)) (hcs : cells ≤ R.cells ∧ slots ≤ R.slots)
    (kk : W p l e R s m args below meth c H locs cells slots Q (F0 m (pc + 3) ls rest)) : W p l e R s m args below meth c H locs cells slots Q (F0 m pc ls st0) :=
  callN (g := F0 m pc ls st0) (rest := rest) (W.runV (g := F0 m pc ls st0) (rest := rest) S hM (cwV n S.2.2.2.2 (gV h1 h2 h3 h4 h5) rfl hrm.1 hrm.2 hd hR) ⟨pW_blind, va_recv hK hP hc he, fun U hU hW => ⟨rfl, by rw [hU]; exact hP, va_K.moved hW.alike hK⟩⟩ rfl hn hsz hst (lv_room hW) hdg hcs) kk
theorem kSn (S : CallFix p m c cc nL s args (w0 :: gW) own) (hM : Met l y (Cond.code y bytes maxL ret :: gW) rm (pN As) QN 0 0 (fun _ => False))
    (h1 : Cond.methodLink own index y ∈ gW) (h2 : Cond.static y ∈ gW) (h4 : Cond.initialized own ∈ gW) (h5 : Cond.code y bytes maxL ret ∈ gW)
    (hd : hD_ y own n) (hrm : rm.cells = 0 ∧ rm.slots = 0) (hR : rm.frames + 1 ≤ R.frames ∧ 8 + (maxL + 11) + rm.locals ≤ R.locals)
    (hn : As.length = n) (hsz : ls.size = nL) (hst : st0 = As.reverse ++ rest) (hW : (rest.map fun v => v.category).sum ≤ 8) (hdg : decode cc pc = .ok (.invokestatic index, 3)) (hcs : cells ≤ R.cells ∧ slots ≤ R.slots)
    (kk : W p l e R s m args below meth c H locs cells slots Q (F0 m (pc + 3) ls rest)) : W p l e R s m args below meth c H locs cells slots Q (F0 m pc ls st0) :=
  callN (g := F0 m pc ls st0) (rest := rest) (W.runS (g := F0 m pc ls st0) (rest := rest) S hM (cwS n S.2.2.2.2 (gS h1 h2 h4 h5) rfl hrm.1 hrm.2 hd hR) ⟨pN_blind, fun _ _ _ => ⟨rfl, trivial⟩⟩ rfl hn hsz hst (lv_room hW) hdg hcs) kk
/-- a call that writes, its world all of the caller's: an int comes back -/
theorem kVi {r0 : Int32} (S : CallFix p m c cc nL s args (w0 :: gW) own) (hM : Met l y (Cond.code y bytes maxL ret :: gW) rm (pWs D ws tys H.size (.ref b :: As)) (QI r0 D ws' (va_A ws H.size)) 0 0 (va_A ws H.size))
    (h1 : Cond.methodLink own index y ∈ gW) (h2 : Cond.instanceMethod y ∈ gW) (h3 : Cond.selects C y y ∈ gW) (h4 : Cond.initialized C ∈ gW) (h5 : Cond.code y bytes maxL ret ∈ gW)
    (hd : hD_ y C n) (hrm : rm.cells = 0 ∧ rm.slots = 0) (hR : rm.frames + 1 ≤ R.frames ∧ 8 + (maxL + 11) + rm.locals ≤ R.locals)
    (hP : va_P D cls_ ws H) (hK : va_K D cls_ tys s) (hDD : va_D A ws) (hS : va_S A H0 H locs) (hA : ∀ q, H0.size ≤ q → A q) (hadr : ws'.map Prod.fst = ws.map Prod.fst) (ci q0 : Nat) {T : u_T} {N : Nat} {fs : List Value} (hc : cls_[ci]? = some (C, T, N)) (he : ws[q0]? = some (b, .inr (ci, fs)))
    (hn : As.length = n) (hsz : ls.size = nL) (hst : st0 = As.reverse ++ .ref b :: rest) (hW : (rest.map fun v => v.category).sum ≤ 8) (hdg : decode cc pc = .ok (.invokevirtual index, 3)) (hcs : cells ≤ R.cells ∧ slots ≤ R.slots)
    (kk : ∀ (H1 : Heap) (locs1 : List Loc), va_P D cls_ ws' H1 → va_D A ws' → va_S A H0 H1 locs1 → W p l e R s m args below meth c H1 locs1 cells slots Q (F0 m (pc + 3) ls (.int r0 :: rest))) : W p l e R s m args below meth c H locs cells slots Q (F0 m pc ls st0) :=
  va_calli (va_runV (g := F0 m pc ls st0) (rest := rest) S hM (cwV n S.2.2.2.2 (gV h1 h2 h3 h4 h5) rfl hrm.1 hrm.2 hd hR) ⟨pWs_blind, va_recv hK hP hc he, fun U hU hW => ⟨rfl, by rw [hU], by rw [hU]; exact hP, va_K.moved hW.alike hK, hDD.weaken (fun _ _ _ _ => trivial)⟩⟩ rfl hn hsz hst (lv_room hW) hdg hcs) hS (fun q _ h => vA_free hDD hS hA q h) (vA_free hDD hS hA)
    (fun r _ t H1 locs1 ht _ hr hB _ _ hS1 => by have hr9 : r = r0 := hr; rw [hr9]; exact kk H1 locs1 (by rw [← ht]; exact hB) (vD_adr hadr hDD) hS1)
/-- .. nothing comes back -/
theorem kVv (S : CallFix p m c cc nL s args (w0 :: gW) own) (hM : Met l y (Cond.code y bytes maxL ret :: gW) rm (pWs D ws tys H.size (.ref b :: As)) (QV D ws' (va_A ws H.size)) 0 0 (va_A ws H.size))
    (h1 : Cond.methodLink own index y ∈ gW) (h2 : Cond.instanceMethod y ∈ gW) (h3 : Cond.selects C y y ∈ gW) (h4 : Cond.initialized C ∈ gW) (h5 : Cond.code y bytes maxL ret ∈ gW)
    (hd : hD_ y C n) (hrm : rm.cells = 0 ∧ rm.slots = 0) (hR : rm.frames + 1 ≤ R.frames ∧ 8 + (maxL + 11) + rm.locals ≤ R.locals)
    (hP : va_P D cls_ ws H) (hK : va_K D cls_ tys s) (hDD : va_D A ws) (hS : va_S A H0 H locs) (hA : ∀ q, H0.size ≤ q → A q) (hadr : ws'.map Prod.fst = ws.map Prod.fst) (ci q0 : Nat) {T : u_T} {N : Nat} {fs : List Value} (hc : cls_[ci]? = some (C, T, N)) (he : ws[q0]? = some (b, .inr (ci, fs)))
    (hn : As.length = n) (hsz : ls.size = nL) (hst : st0 = As.reverse ++ .ref b :: rest) (hW : (rest.map fun v => v.category).sum ≤ 8) (hdg : decode cc pc = .ok (.invokevirtual index, 3)) (hcs : cells ≤ R.cells ∧ slots ≤ R.slots)
    (kk : ∀ (H1 : Heap) (locs1 : List Loc), va_P D cls_ ws' H1 → va_D A ws' → va_S A H0 H1 locs1 → W p l e R s m args below meth c H1 locs1 cells slots Q (F0 m (pc + 3) ls rest)) : W p l e R s m args below meth c H locs cells slots Q (F0 m pc ls st0) :=
  va_callv (va_runV (g := F0 m pc ls st0) (rest := rest) S hM (cwV n S.2.2.2.2 (gV h1 h2 h3 h4 h5) rfl hrm.1 hrm.2 hd hR) ⟨pWs_blind, va_recv hK hP hc he, fun U hU hW => ⟨rfl, by rw [hU], by rw [hU]; exact hP, va_K.moved hW.alike hK, hDD.weaken (fun _ _ _ _ => trivial)⟩⟩ rfl hn hsz hst (lv_room hW) hdg hcs) hS (fun q _ h => vA_free hDD hS hA q h) (vA_free hDD hS hA)
    (fun _ t H1 locs1 ht _ _ hB _ _ hS1 => kk H1 locs1 (by rw [← ht]; exact hB) (vD_adr hadr hDD) hS1)
end
