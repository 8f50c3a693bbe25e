/-! the law's helpers: catching; calls with a part of the world -/
def xL (U : State) : Prop := xF U ∧ va_Nc UOE IAE U ∧ va_Nc ISE IAE U
theorem xL_warm {s U : State} (hW : s.WarmedH U.vm) (hh : U.heap = s.heap) (h : xL s) : xL U := ⟨xF_warm hW hh h.1, va_Nc.moved hW.alike h.2.1, va_Nc.moved hW.alike h.2.2⟩
theorem xL_calling {U : State} {g : JFrame} {mk : MethodId} {a : Array Value} (h : xL U) : xL (U.calling g mk a) := ⟨xF_calling h.1, va_Nc.moved (u := U) (U := U.calling g mk a) (Vm.Alike.refl U.vm) h.2.1, va_Nc.moved (u := U) (U := U.calling g mk a) (Vm.Alike.refl U.vm) h.2.2⟩
def pL (D : va_G) (ws : va_W) (tys : List (ClassId × FieldType)) (sz : Nat) (av : List Value) : Array Value → State → Prop := va_Pc av (fun U => U.heap.size = sz ∧ xL U ∧ va_P D cls_ ws U.heap ∧ va_K D cls_ tys U ∧ va_D (fun _ => True) ws)
theorem pL_blind {D : va_G} {ws : va_W} {tys : List (ClassId × FieldType)} {sz : Nat} {av : List Value} : FrameBlind (pL D ws tys sz av) := fun a U g mk q => ⟨q.1, q.2.1, xL_calling q.2.2.1, q.2.2.2.1, va_K.moved (u := U) (U := U.calling g mk a) (Vm.Alike.refl U.vm) q.2.2.2.2.1, q.2.2.2.2.2⟩
/-- the class's cells and the law's long[1] -/
abbrev wXo (o a b z : Nat) (cA iA oA : ClassId) (cf : Nat → Int64) (uf : Nat → Int32) (ou : Nat → Int64) : va_W := [(o, .inr (0, [.ref a, .ref b])), (a, .inl (cA, 1000, .inr (.inl cf))), (b, .inl (iA, 5, .inl uf)), (z, .inl (oA, 1, .inr (.inl ou)))]
abbrev kTo (cA iA oA : ClassId) : List (ClassId × FieldType) := [(cA, .long), (iA, .int), (oA, .long)]
/-- the row of the table that takes E at pc -/
def Cat (c : Code) (s : State) (args : Array Value) (E : String) (pc hpc : Nat) : Prop := ∃ (pre : List ExceptionTableEntry) (x : ExceptionTableEntry) (suf : List ExceptionTableEntry), c.exceptionTable.toList = pre ++ x :: suf ∧ (∀ z ∈ pre, covers z pc = false ∨ (z.catchType ≠ 0 ∧ ∃ nm : String, (Cond.classLink R_L z.catchType nm).before args s = true ∧ va_Nc E nm s)) ∧ covers x pc = true ∧ x.catchType ≠ 0 ∧ (Cond.classLink R_L x.catchType E).before args s = true ∧ x.handlerPc = hpc
theorem cat1 {c : Code} {s : State} {args : Array Value} {E : String} {pc : Nat} {x : ExceptionTableEntry} {suf : List ExceptionTableEntry} (ht : c.exceptionTable.toList = x :: suf) (hc : covers x pc = true) (h0 : x.catchType ≠ 0) (hl : (Cond.classLink R_L x.catchType E).before args s = true) : Cat c s args E pc x.handlerPc := ⟨[], x, suf, ht, (fun _ h => nomatch h), hc, h0, hl, rfl⟩
theorem cat2 {c : Code} {s : State} {args : Array Value} {E : String} {pc : Nat} {y x : ExceptionTableEntry} {suf : List ExceptionTableEntry} (ht : c.exceptionTable.toList = y :: x :: suf) (hy0 : y.catchType ≠ 0) (hyl : (Cond.classLink R_L y.catchType IAE).before args s = true) (hn : va_Nc E IAE s) (hc : covers x pc = true) (h0 : x.catchType ≠ 0) (hl : (Cond.classLink R_L x.catchType E).before args s = true) : Cat c s args E pc x.handlerPc :=
  ⟨[y], x, suf, ht, fun z hz => Or.inr (by rw [List.mem_singleton.mp hz]; exact ⟨hy0, IAE, hyl, hn⟩), hc, h0, hl, rfl⟩
theorem gSW {own : String} {index maxL : Nat} {y : MethodName} {bytes : ByteArray} {ret : Option FieldType} {hh : List (Nat × Nat × Nat × Nat)} {w0 : Cond} (h1 : Cond.methodLink own index y ∈ gW) (h2 : Cond.static y ∈ gW) (h4 : Cond.initialized y.cls ∈ gW) (h5 : Cond.codeWith y bytes maxL ret hh ∈ gW) : GoodIn (w0 :: gW) (va_wsS own index y (Cond.codeWith y bytes maxL ret hh :: gW)) := by
  unfold va_wsS
  refine gw_in2 (w2 := w0) (fun w hw => ?_) (gw_in h5)
  simp only [List.mem_cons, List.not_mem_nil, or_false] at hw
  rcases hw with h | h | h <;> rw [h] <;> assumption
theorem frj {D : va_G} {A : Nat → Prop} {H0 H H1 : Heap} {locs : List Loc} {ws wc wr wc' : va_W} (hP : va_P D cls_ ws H) (hD : va_D A ws) (hS : va_S A H0 H locs) (hA : ∀ q, H0.size ≤ q → A q) (isC isR : List Nat) (hC : isC.map (fun i => ws[i]?) = wc.map some) (hR : isR.map (fun i => ws[i]?) = wr.map some) (hnC : va_nd isC = true) (hnR : va_nd isR = true) (hdis : ∀ i ∈ isR, i ∉ isC)
    (hk : ∀ q : Nat, q < H.size → ¬ va_A wc H.size q → H1[q]? = H[q]?) (hP1 : va_P D cls_ wc' H1) (hadr : wc'.map Prod.fst = wc.map Prod.fst) : va_P D cls_ (wr ++ wc') H1 ∧ va_D A (wr ++ wc') :=
  va_join hP hD isC isR hC hR hnR hdis hk (va_free hD hS hA isC hC) hP1 (vD_adr hadr (hD.sub isC hnC hC).self)
section
variable {p : Program} {l : Launch} {e : Env} {R : Room} {s : State} {m : MethodId} {args : Array Value} {below : List Frame} {meth : Method} {c : Code} {H : Heap} {locs : List Loc} {cells slots : Nat} {Q : State → Prop} {pc hpc : Nat} {ls : Array Slot} {rest st0 : List Value} {cc : ByteArray} {D : va_G} {ws wc wr wc' : va_W} {tys tc : List (ClassId × FieldType)} {A : Nat → Prop} {H0 : Heap}
variable {own C E : String} {index maxL n nL : Nat} {y : MethodName} {bytes : ByteArray} {ret : Option FieldType} {rm : Room} {b : Nat} {As : List Value} {w0 : Cond}
theorem ctW {E' : String} {ce : Cell} {q9 : Addr} {H1 : Heap} {locs1 : List Loc} (hown : s.vm.findClass R_L = some m.cls) (hE : E ∈ [IAE, UOE, ISE]) (hF : xF s) (hcat : Cat c s args E pc hpc) (hE' : E' = E) (hc : H1[q9]? = some ce) (hv : ce.vm = .none) (hcl : s.vm.findClass E' = some ce.cls) (kk : W p l e R s m args below meth c H1 locs1 (0 + 1) (0 + 6) Q (F0 m hpc ls [.ref q9])) : vx_W p l e R s m args below meth c H1 locs1 (0 + 1) (0 + 6) Q (F0 m pc ls rest) q9 := by
  subst hE'
  obtain ⟨pre, x, suf, h1, h2, h3, h4, h5, rfl⟩ := hcat
  exact vx_catch hown pre x suf h1 h2 h3 h4 h5 (va_Nw.use rfl (hF.1 E' hE _ List.mem_cons_self)) hc hv hcl kk
theorem cthL (S : CallFix p m c cc nL s args (w0 :: gW) R_L) (hM : vx_Met l y (Cond.code y bytes maxL ret :: gW) rm (pTW D ws tys (.ref b :: As)) qNl (XE E) 1 6 (fun _ => False))
    (h1 : Cond.methodLink R_L index y ∈ gW) (h2 : Cond.instanceMethod y ∈ gW) (h3 : Cond.selects C y y ∈ gW) (h4 : Cond.initialized C ∈ gW) (h5 : Cond.code y bytes maxL ret ∈ gW)
    (hd : hD_ y C n) (hrm : rm.cells = 1 ∧ rm.slots = 6) (hR : rm.frames + 1 ≤ R.frames ∧ 8 + (maxL + 11) + rm.locals ≤ R.locals) (hF : xF s)
    (hP : va_P D cls_ ws s.heap) (hK : va_K D cls_ tys s) (ci q0 : Nat) {T : u_T} {N : Nat} {fs : List Value} (hc : cls_[ci]? = some (C, T, N)) (he : ws[q0]? = some (b, .inr (ci, fs)))
    (hn : As.length = n) (hsz : ls.size = nL) (hst : st0 = As.reverse ++ .ref b :: rest) (hW : (rest.map fun v => v.category).sum ≤ 8) (hdg : decode cc pc = .ok (.invokevirtual index, 3)) (hcs : 0 + 1 ≤ R.cells ∧ 0 + 6 ≤ R.slots)
    (hE : E ∈ [IAE, UOE, ISE]) (hcat : Cat c s args E pc hpc)
    (kk : ∀ (H1 : Heap) (locs1 : List Loc) (q9 : Nat), (∀ q : Nat, q < s.heap.size → H1[q]? = s.heap[q]?) → va_S A s.heap H1 locs1 → W p l e R s m args below meth c H1 locs1 (0 + 1) (0 + 6) Q (F0 m hpc ls [.ref q9])) : W p l e R s m args below meth c s.heap [] 0 0 Q (F0 m pc ls st0) :=
  vx_calll (A0 := A) (H0 := s.heap) (vx_runV (g := F0 m pc ls st0) (rest := rest) S hM (cwV n S.2.2.2.2 (gV h1 h2 h3 h4 h5) rfl hrm.1 hrm.2 hd hR) ⟨pTW_blind, va_recv hK hP hc he, fun U hU hW => ⟨rfl, xF_warm hW hU hF, by rw [hU]; exact hP, va_K.moved hW.alike hK⟩⟩ rfl hn hsz hst (lv_room hW) hdg hcs) va_S.rf (fun _ _ h => h.elim) (fun _ h => h.elim) (fun _ _ h => h.elim)
    (fun E' ce q9 u t H1 locs1 ht _ _ hE' hz hk hS hc hv hcl => ctW S.2.2.2.1 hE hF hcat hE' hc hv hcl (kk H1 locs1 q9 (fun q h => hk q h id) hS)) (fun r u t H1 locs1 _ _ hp => hp.elim)
theorem cthI (S : CallFix p m c cc nL s args (w0 :: gW) R_L) (hM : vx_Met l y (Cond.code y bytes maxL ret :: gW) rm (pTW D ws tys (.ref b :: As)) qNi (XE E) 1 6 (fun _ => False))
    (h1 : Cond.methodLink R_L index y ∈ gW) (h2 : Cond.instanceMethod y ∈ gW) (h3 : Cond.selects C y y ∈ gW) (h4 : Cond.initialized C ∈ gW) (h5 : Cond.code y bytes maxL ret ∈ gW)
    (hd : hD_ y C n) (hrm : rm.cells = 1 ∧ rm.slots = 6) (hR : rm.frames + 1 ≤ R.frames ∧ 8 + (maxL + 11) + rm.locals ≤ R.locals) (hF : xF s)
    (hP : va_P D cls_ ws s.heap) (hK : va_K D cls_ tys s) (ci q0 : Nat) {T : u_T} {N : Nat} {fs : List Value} (hc : cls_[ci]? = some (C, T, N)) (he : ws[q0]? = some (b, .inr (ci, fs)))
    (hn : As.length = n) (hsz : ls.size = nL) (hst : st0 = As.reverse ++ .ref b :: rest) (hW : (rest.map fun v => v.category).sum ≤ 8) (hdg : decode cc pc = .ok (.invokevirtual index, 3)) (hcs : 0 + 1 ≤ R.cells ∧ 0 + 6 ≤ R.slots)
    (hE : E ∈ [IAE, UOE, ISE]) (hcat : Cat c s args E pc hpc)
    (kk : ∀ (H1 : Heap) (locs1 : List Loc) (q9 : Nat), (∀ q : Nat, q < s.heap.size → H1[q]? = s.heap[q]?) → va_S A s.heap H1 locs1 → W p l e R s m args below meth c H1 locs1 (0 + 1) (0 + 6) Q (F0 m hpc ls [.ref q9])) : W p l e R s m args below meth c s.heap [] 0 0 Q (F0 m pc ls st0) :=
  vx_calli (A0 := A) (H0 := s.heap) (vx_runV (g := F0 m pc ls st0) (rest := rest) S hM (cwV n S.2.2.2.2 (gV h1 h2 h3 h4 h5) rfl hrm.1 hrm.2 hd hR) ⟨pTW_blind, va_recv hK hP hc he, fun U hU hW => ⟨rfl, xF_warm hW hU hF, by rw [hU]; exact hP, va_K.moved hW.alike hK⟩⟩ rfl hn hsz hst (lv_room hW) hdg hcs) va_S.rf (fun _ _ h => h.elim) (fun _ h => h.elim) (fun _ _ h => h.elim)
    (fun E' ce q9 u t H1 locs1 ht _ _ hE' hz hk hS hc hv hcl => ctW S.2.2.2.1 hE hF hcat hE' hc hv hcl (kk H1 locs1 q9 (fun q h => hk q h id) hS)) (fun r u t H1 locs1 _ _ hp => hp.elim)
theorem cthV (S : CallFix p m c cc nL s args (w0 :: gW) R_L) (hM : vx_Met l y (Cond.code y bytes maxL ret :: gW) rm (pTW D ws tys (.ref b :: As)) qNv (XE E) 1 6 (fun _ => False))
    (h1 : Cond.methodLink R_L index y ∈ gW) (h2 : Cond.instanceMethod y ∈ gW) (h3 : Cond.selects C y y ∈ gW) (h4 : Cond.initialized C ∈ gW) (h5 : Cond.code y bytes maxL ret ∈ gW)
    (hd : hD_ y C n) (hrm : rm.cells = 1 ∧ rm.slots = 6) (hR : rm.frames + 1 ≤ R.frames ∧ 8 + (maxL + 11) + rm.locals ≤ R.locals) (hF : xF s)
    (hP : va_P D cls_ ws s.heap) (hK : va_K D cls_ tys s) (ci q0 : Nat) {T : u_T} {N : Nat} {fs : List Value} (hc : cls_[ci]? = some (C, T, N)) (he : ws[q0]? = some (b, .inr (ci, fs)))
    (hn : As.length = n) (hsz : ls.size = nL) (hst : st0 = As.reverse ++ .ref b :: rest) (hW : (rest.map fun v => v.category).sum ≤ 8) (hdg : decode cc pc = .ok (.invokevirtual index, 3)) (hcs : 0 + 1 ≤ R.cells ∧ 0 + 6 ≤ R.slots)
    (hE : E ∈ [IAE, UOE, ISE]) (hcat : Cat c s args E pc hpc)
    (kk : ∀ (H1 : Heap) (locs1 : List Loc) (q9 : Nat), (∀ q : Nat, q < s.heap.size → H1[q]? = s.heap[q]?) → va_S A s.heap H1 locs1 → W p l e R s m args below meth c H1 locs1 (0 + 1) (0 + 6) Q (F0 m hpc ls [.ref q9])) : W p l e R s m args below meth c s.heap [] 0 0 Q (F0 m pc ls st0) :=
  vx_callv (A0 := A) (H0 := s.heap) (vx_runV (g := F0 m pc ls st0) (rest := rest) S hM (cwV n S.2.2.2.2 (gV h1 h2 h3 h4 h5) rfl hrm.1 hrm.2 hd hR) ⟨pTW_blind, va_recv hK hP hc he, fun U hU hW => ⟨rfl, xF_warm hW hU hF, by rw [hU]; exact hP, va_K.moved hW.alike hK⟩⟩ rfl hn hsz hst (lv_room hW) hdg hcs) va_S.rf (fun _ _ h => h.elim) (fun _ h => h.elim) (fun _ _ h => h.elim)
    (fun E' ce q9 u t H1 locs1 ht _ _ hE' hz hk hS hc hv hcl => ctW S.2.2.2.1 hE hF hcat hE' hc hv hcl (kk H1 locs1 q9 (fun q h => hk q h id) hS)) (fun u t H1 locs1 _ _ hp => hp.elim)
/-- a call that writes, with a part wc of the caller's world; the rest wr stays -/
theorem fVi {r0 : Int32} (S : CallFix p m c cc nL s args (w0 :: gW) own) (hM : Met l y (Cond.code y bytes maxL ret :: gW) rm (pWs D wc tc H.size (.ref b :: As)) (QI r0 D wc' (va_A wc H.size)) 0 0 (va_A wc H.size))
    (h1 : Cond.methodLink own index y ∈ gW) (h2 : Cond.instanceMethod y ∈ gW) (h3 : Cond.selects C y y ∈ gW) (h4 : Cond.initialized C ∈ gW) (h5 : Cond.code y bytes maxL ret ∈ gW)
    (hd : hD_ y C n) (hrm : rm.cells = 0 ∧ rm.slots = 0) (hR : rm.frames + 1 ≤ R.frames ∧ 8 + (maxL + 11) + rm.locals ≤ R.locals)
    (hP : va_P D cls_ ws H) (hK : va_K D cls_ tys s) (hDD : va_D A ws) (hS : va_S A H0 H locs) (hA : ∀ q, H0.size ≤ q → A q) (isC isR tC : List Nat) (hC : isC.map (fun i => ws[i]?) = wc.map some) (hCf : isC.filterMap (fun i => ws[i]?) = wc) (hRr : isR.map (fun i => ws[i]?) = wr.map some) (hnC : va_nd isC = true) (hnR : va_nd isR = true) (hdis : ∀ i ∈ isR, i ∉ isC) (htc : tC.filterMap (fun i => tys[i]?) = tc)
    (hadr : wc'.map Prod.fst = wc.map Prod.fst) (ci q0 : Nat) {T : u_T} {N : Nat} {fs : List Value} (hc : cls_[ci]? = some (C, T, N)) (he : wc[q0]? = some (b, .inr (ci, fs)))
    (hn : As.length = n) (hsz : ls.size = nL) (hst : st0 = As.reverse ++ .ref b :: rest) (hW : (rest.map fun v => v.category).sum ≤ 8) (hdg : decode cc pc = .ok (.invokevirtual index, 3)) (hcs : cells ≤ R.cells ∧ slots ≤ R.slots)
    (kk : ∀ (H1 : Heap) (locs1 : List Loc), va_P D cls_ (wr ++ wc') H1 → va_D A (wr ++ wc') → va_S A H0 H1 locs1 → W p l e R s m args below meth c H1 locs1 cells slots Q (F0 m (pc + 3) ls (.int r0 :: rest))) : W p l e R s m args below meth c H locs cells slots Q (F0 m pc ls st0) :=
  va_calli (va_runV (g := F0 m pc ls st0) (rest := rest) S hM (cwV n S.2.2.2.2 (gV h1 h2 h3 h4 h5) rfl hrm.1 hrm.2 hd hR) ⟨pWs_blind, va_recv (hK.sub tC htc) (hP.sub isC hCf) hc he, fun U hU hW => ⟨rfl, by rw [hU], by rw [hU]; exact hP.sub isC hCf, va_K.moved hW.alike (hK.sub tC htc), (hDD.sub isC hnC hC).weaken (fun _ _ _ _ => trivial)⟩⟩ rfl hn hsz hst (lv_room hW) hdg hcs) hS (fun q _ h => va_free hDD hS hA isC hC q h) (va_free hDD hS hA isC hC)
    (fun r _ t H1 locs1 ht _ hr hB _ hk hS1 => by
      have hr9 : r = r0 := hr
      rw [hr9]
      obtain ⟨g1, g2⟩ := frj hP hDD hS hA isC isR hC hRr hnC hnR hdis hk (by rw [← ht]; exact hB) hadr
      exact kk H1 locs1 g1 g2 hS1)
theorem fVl {r0 : Int64} (S : CallFix p m c cc nL s args (w0 :: gW) own) (hM : Met l y (Cond.code y bytes maxL ret :: gW) rm (pWs D wc tc H.size (.ref b :: As)) (QL r0 D wc' (va_A wc H.size)) 0 0 (va_A wc H.size))
    (h1 : Cond.methodLink own index y ∈ gW) (h2 : Cond.instanceMethod y ∈ gW) (h3 : Cond.selects C y y ∈ gW) (h4 : Cond.initialized C ∈ gW) (h5 : Cond.code y bytes maxL ret ∈ gW)
    (hd : hD_ y C n) (hrm : rm.cells = 0 ∧ rm.slots = 0) (hR : rm.frames + 1 ≤ R.frames ∧ 8 + (maxL + 11) + rm.locals ≤ R.locals)
    (hP : va_P D cls_ ws H) (hK : va_K D cls_ tys s) (hDD : va_D A ws) (hS : va_S A H0 H locs) (hA : ∀ q, H0.size ≤ q → A q) (isC isR tC : List Nat) (hC : isC.map (fun i => ws[i]?) = wc.map some) (hCf : isC.filterMap (fun i => ws[i]?) = wc) (hRr : isR.map (fun i => ws[i]?) = wr.map some) (hnC : va_nd isC = true) (hnR : va_nd isR = true) (hdis : ∀ i ∈ isR, i ∉ isC) (htc : tC.filterMap (fun i => tys[i]?) = tc)
    (hadr : wc'.map Prod.fst = wc.map Prod.fst) (ci q0 : Nat) {T : u_T} {N : Nat} {fs : List Value} (hc : cls_[ci]? = some (C, T, N)) (he : wc[q0]? = some (b, .inr (ci, fs)))
    (hn : As.length = n) (hsz : ls.size = nL) (hst : st0 = As.reverse ++ .ref b :: rest) (hW : (rest.map fun v => v.category).sum ≤ 8) (hdg : decode cc pc = .ok (.invokevirtual index, 3)) (hcs : cells ≤ R.cells ∧ slots ≤ R.slots)
    (kk : ∀ (H1 : Heap) (locs1 : List Loc), va_P D cls_ (wr ++ wc') H1 → va_D A (wr ++ wc') → va_S A H0 H1 locs1 → W p l e R s m args below meth c H1 locs1 cells slots Q (F0 m (pc + 3) ls (.long r0 :: rest))) : W p l e R s m args below meth c H locs cells slots Q (F0 m pc ls st0) :=
  va_calll (va_runV (g := F0 m pc ls st0) (rest := rest) S hM (cwV n S.2.2.2.2 (gV h1 h2 h3 h4 h5) rfl hrm.1 hrm.2 hd hR) ⟨pWs_blind, va_recv (hK.sub tC htc) (hP.sub isC hCf) hc he, fun U hU hW => ⟨rfl, by rw [hU], by rw [hU]; exact hP.sub isC hCf, va_K.moved hW.alike (hK.sub tC htc), (hDD.sub isC hnC hC).weaken (fun _ _ _ _ => trivial)⟩⟩ rfl hn hsz hst (lv_room hW) hdg hcs) hS (fun q _ h => va_free hDD hS hA isC hC q h) (va_free hDD hS hA isC hC)
    (fun r _ t H1 locs1 ht _ hr hB _ hk hS1 => by
      have hr9 : r = r0 := hr
      rw [hr9]
      obtain ⟨g1, g2⟩ := frj hP hDD hS hA isC isR hC hRr hnC hnR hdis hk (by rw [← ht]; exact hB) hadr
      exact kk H1 locs1 g1 g2 hS1)
theorem fVv (S : CallFix p m c cc nL s args (w0 :: gW) own) (hM : Met l y (Cond.code y bytes maxL ret :: gW) rm (pWs D wc tc H.size (.ref b :: As)) (QV D wc' (va_A wc H.size)) 0 0 (va_A wc H.size))
    (h1 : Cond.methodLink own index y ∈ gW) (h2 : Cond.instanceMethod y ∈ gW) (h3 : Cond.selects C y y ∈ gW) (h4 : Cond.initialized C ∈ gW) (h5 : Cond.code y bytes maxL ret ∈ gW)
    (hd : hD_ y C n) (hrm : rm.cells = 0 ∧ rm.slots = 0) (hR : rm.frames + 1 ≤ R.frames ∧ 8 + (maxL + 11) + rm.locals ≤ R.locals)
    (hP : va_P D cls_ ws H) (hK : va_K D cls_ tys s) (hDD : va_D A ws) (hS : va_S A H0 H locs) (hA : ∀ q, H0.size ≤ q → A q) (isC isR tC : List Nat) (hC : isC.map (fun i => ws[i]?) = wc.map some) (hCf : isC.filterMap (fun i => ws[i]?) = wc) (hRr : isR.map (fun i => ws[i]?) = wr.map some) (hnC : va_nd isC = true) (hnR : va_nd isR = true) (hdis : ∀ i ∈ isR, i ∉ isC) (htc : tC.filterMap (fun i => tys[i]?) = tc)
    (hadr : wc'.map Prod.fst = wc.map Prod.fst) (ci q0 : Nat) {T : u_T} {N : Nat} {fs : List Value} (hc : cls_[ci]? = some (C, T, N)) (he : wc[q0]? = some (b, .inr (ci, fs)))
    (hn : As.length = n) (hsz : ls.size = nL) (hst : st0 = As.reverse ++ .ref b :: rest) (hW : (rest.map fun v => v.category).sum ≤ 8) (hdg : decode cc pc = .ok (.invokevirtual index, 3)) (hcs : cells ≤ R.cells ∧ slots ≤ R.slots)
    (kk : ∀ (H1 : Heap) (locs1 : List Loc), va_P D cls_ (wr ++ wc') H1 → va_D A (wr ++ wc') → va_S A H0 H1 locs1 → W p l e R s m args below meth c H1 locs1 cells slots Q (F0 m (pc + 3) ls rest)) : W p l e R s m args below meth c H locs cells slots Q (F0 m pc ls st0) :=
  va_callv (va_runV (g := F0 m pc ls st0) (rest := rest) S hM (cwV n S.2.2.2.2 (gV h1 h2 h3 h4 h5) rfl hrm.1 hrm.2 hd hR) ⟨pWs_blind, va_recv (hK.sub tC htc) (hP.sub isC hCf) hc he, fun U hU hW => ⟨rfl, by rw [hU], by rw [hU]; exact hP.sub isC hCf, va_K.moved hW.alike (hK.sub tC htc), (hDD.sub isC hnC hC).weaken (fun _ _ _ _ => trivial)⟩⟩ rfl hn hsz hst (lv_room hW) hdg hcs) hS (fun q _ h => va_free hDD hS hA isC hC q h) (va_free hDD hS hA isC hC)
    (fun _ t H1 locs1 ht _ _ hB _ hk hS1 => by
      obtain ⟨g1, g2⟩ := frj hP hDD hS hA isC isR hC hRr hnC hnR hdis hk (by rw [← ht]; exact hB) hadr
      exact kk H1 locs1 g1 g2 hS1)
/-- the law calls one of its helpers -/
theorem fSW {r0 : Int32} {hh : List (Nat × Nat × Nat × Nat)} (S : CallFix p m c cc nL s args (w0 :: gW) own) (hM : Met l y (Cond.codeWith y bytes maxL ret hh :: gW) rm (pL D wc tc H.size As) (QI r0 D wc' (va_A wc H.size)) 1 6 (va_A wc H.size))
    (h1 : Cond.methodLink own index y ∈ gW) (h2 : Cond.static y ∈ gW) (h4 : Cond.initialized y.cls ∈ gW) (h5 : Cond.codeWith y bytes maxL ret hh ∈ gW)
    (hd : y.cls ≠ "java/lang/invoke/MethodHandle" ∧ y.cls ≠ "java/lang/invoke/VarHandle" ∧ (parseMethodDescriptor y.desc).map (fun d => d.parameters.length) = some n) (hrm : rm.cells = 1 ∧ rm.slots = 6) (hR : rm.frames + 1 ≤ R.frames ∧ 8 + (maxL + 11) + rm.locals ≤ R.locals) (hx9 : ∀ U : State, U.heap = H → s.WarmedH U.vm → xL U)
    (hP : va_P D cls_ ws H) (hK : va_K D cls_ tys s) (hDD : va_D A ws) (hS : va_S A H0 H locs) (hA : ∀ q, H0.size ≤ q → A q) (isC isR tC : List Nat) (hC : isC.map (fun i => ws[i]?) = wc.map some) (hCf : isC.filterMap (fun i => ws[i]?) = wc) (hRr : isR.map (fun i => ws[i]?) = wr.map some) (hnC : va_nd isC = true) (hnR : va_nd isR = true) (hdis : ∀ i ∈ isR, i ∉ isC) (htc : tC.filterMap (fun i => tys[i]?) = tc)
    (hadr : wc'.map Prod.fst = wc.map Prod.fst)
    (hn : As.length = n) (hsz : ls.size = nL) (hst : st0 = As.reverse ++ rest) (hW : (rest.map fun v => v.category).sum ≤ 8) (hdg : decode cc pc = .ok (.invokestatic index, 3)) (hcs : cells + 1 ≤ R.cells ∧ slots + 6 ≤ R.slots)
    (kk : ∀ (H1 : Heap) (locs1 : List Loc), va_P D cls_ (wr ++ wc') H1 → va_D A (wr ++ wc') → va_S A H0 H1 locs1 → W p l e R s m args below meth c H1 locs1 (cells + 1) (slots + 6) Q (F0 m (pc + 3) ls (.int r0 :: rest))) : W p l e R s m args below meth c H locs cells slots Q (F0 m pc ls st0) :=
  va_calli (vx_runSW (g := F0 m pc ls st0) (rest := rest) S hM (vx_cwSW n S.2.2.2.2 (gSW h1 h2 h4 h5) rfl hrm.1 hrm.2 hd hR) ⟨pL_blind, fun U hU hW => ⟨rfl, by rw [hU], hx9 U hU hW, by rw [hU]; exact hP.sub isC hCf, va_K.moved hW.alike (hK.sub tC htc), (hDD.sub isC hnC hC).weaken (fun _ _ _ _ => trivial)⟩⟩ rfl hn hsz hst (lv_room hW) hdg hcs) hS (fun q _ h => va_free hDD hS hA isC hC q h) (va_free hDD hS hA isC hC)
    (fun r _ t H1 locs1 ht _ hr hB _ hk hS1 => by
      have hr9 : r = r0 := hr
      rw [hr9]
      obtain ⟨g1, g2⟩ := frj hP hDD hS hA isC isR hC hRr hnC hnR hdis hk (by rw [← ht]; exact hB) hadr
      exact kk H1 locs1 g1 g2 hS1)
end
