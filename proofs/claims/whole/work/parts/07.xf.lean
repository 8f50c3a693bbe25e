/-! throws: what they need of the state beside good words; a row for a throw, rows for an exception that passes through a caller -/
abbrev IAE : String := "java/lang/IllegalArgumentException"
abbrev UOE : String := "java/lang/UnsupportedOperationException"
abbrev ISE : String := "java/lang/IllegalStateException"
abbrev upN : List String := ["java/lang/RuntimeException", "java/lang/Exception"]
def strs : List (Nat × String) := [(37, "the place is lost"), (46, "the write is refused"), (63, "the disk did not fail"), (68, "n is below 0"), (71, "the disk is not being rebuilt"), (94, "disk is not 0..4"), (96, "place is not 0..399"), (98, "half is not 0..1"), (100, "block is not 0..99"), (105, "the disk failed")]
def eBad (E : String) : List Cond := [.castable E E, .declares ⟨"java/lang/RuntimeException", "<init>", "(Ljava/lang/String;)V"⟩, .declares ⟨"java/lang/Exception", "<init>", "(Ljava/lang/String;)V"⟩, .declares ⟨"java/lang/Throwable", "<init>", "(Ljava/lang/String;)V"⟩]
theorem eBad_ot (E : String) : ∀ w ∈ eBad E, w.onTables = true := by
  intro w h
  simp only [eBad, List.mem_cons, List.not_mem_nil, or_false] at h
  rcases h with h | h | h | h <;> rw [h] <;> rfl
theorem eBad_warm {E : String} {w : Cond} {s U : State} (h : w ∈ eBad E) (hW : s.WarmedH U.vm) (hz : va_Nw w s) : va_Nw w U := by
  simp only [eBad, List.mem_cons, List.not_mem_nil, or_false] at h
  rcases h with h | h | h | h <;> rw [h] at hz ⊢
  · exact va_Nw.warmC hW hz
  · exact va_Nw.warmD hW hz
  · exact va_Nw.warmD hW hz
  · exact va_Nw.warmD hW hz
def xF (U : State) : Prop := (∀ E ∈ [IAE, UOE, ISE], ∀ w ∈ eBad E, va_Nw w U) ∧ vx_Zq Bundle.tN "UNASSIGNED_STACK" Bundle.steD (fun _ => False) U U.heap ∧ vx_Zq Bundle.tN "SUPPRESSED_SENTINEL" Bundle.listD (fun _ => False) U U.heap ∧ ∀ q ∈ strs, ∃ a, vk_R R_X q.1 q.2 a U
theorem xF_warm {s U : State} (hW : s.WarmedH U.vm) (hh : U.heap = s.heap) (h : xF s) : xF U := by
  obtain ⟨h1, h2, h3, h4⟩ := h
  refine ⟨fun E hE w hw => eBad_warm hw hW (h1 E hE w hw), ?_, ?_, fun q hq => ?_⟩
  · rw [hh]; exact vx_Zq.moved hW.alike h2
  · rw [hh]; exact vx_Zq.moved hW.alike h3
  · obtain ⟨a, ha⟩ := h4 q hq
    exact ⟨a, vk_R.warm hW ha⟩
theorem xF_calling {U : State} {g : JFrame} {mk : MethodId} {a : Array Value} (h : xF U) : xF (U.calling g mk a) := by
  obtain ⟨h1, h2, h3, h4⟩ := h
  refine ⟨fun E hE w hw => va_Nw.same (u := U) (eBad_ot E w hw) rfl (h1 E hE w hw), vx_Zq.moved (u := U) (U := U.calling g mk a) (Vm.Alike.refl U.vm) h2, vx_Zq.moved (u := U) (U := U.calling g mk a) (Vm.Alike.refl U.vm) h3, fun q hq => ?_⟩
  obtain ⟨b, hb⟩ := h4 q hq
  exact ⟨b, vk_R.same (u := U) rfl hb⟩
def pT (av : List Value) : Array Value → State → Prop := va_Pc av xF
theorem pT_blind {av : List Value} : FrameBlind (pT av) := fun _ _ _ _ q => ⟨q.1, xF_calling q.2⟩
def pTW (D : va_G) (ws : va_W) (tys : List (ClassId × FieldType)) (av : List Value) : Array Value → State → Prop := va_Pc av (fun U => xF U ∧ va_P D cls_ ws U.heap ∧ va_K D cls_ tys U)
theorem pTW_blind {D : va_G} {ws : va_W} {tys : List (ClassId × FieldType)} {av : List Value} : FrameBlind (pTW D ws tys av) := fun a U g mk q => ⟨q.1, xF_calling q.2.1, q.2.2.1, va_K.moved (u := U) (U := U.calling g mk a) (Vm.Alike.refl U.vm) q.2.2.2⟩
/-- E was thrown and nothing old has changed -/
abbrev XE (E0 : String) : String → State → State → Prop := vx_X (S := Unit) (fun _ => True) (fun E _ _ => E = E0) (fun _ => False)
abbrev qNv : Array Value → State → Outcome → State → Prop := va_Qv (fun _ : Unit => False) (fun _ _ => True) (fun _ => False)
abbrev qNi : Array Value → State → Outcome → State → Prop := va_Qi (fun (_ : Int32) (_ : Unit) => False) (fun _ _ => True) (fun _ => False)
abbrev qNl : Array Value → State → Outcome → State → Prop := va_Ql (fun (_ : Int64) (_ : Unit) => False) (fun _ _ => True) (fun _ => False)
set_option maxRecDepth 100000 in
theorem atG_U : ∀ w ∈ (vx_atS R_X 39 UOE upN).filter goodWord, w ∈ gW := by decide +kernel
set_option maxRecDepth 100000 in
theorem atG_S : ∀ w ∈ (vx_atS R_X 65 ISE upN).filter goodWord, w ∈ gW := by decide +kernel
set_option maxRecDepth 100000 in
theorem atG_A : ∀ w ∈ (vx_atS R_X 70 IAE upN).filter goodWord, w ∈ gW := by decide +kernel
theorem atB_U : ∀ w ∈ (vx_atS R_X 39 UOE upN).filter (fun w => !goodWord w), w ∈ eBad UOE := by decide +kernel
theorem atB_S : ∀ w ∈ (vx_atS R_X 65 ISE upN).filter (fun w => !goodWord w), w ∈ eBad ISE := by decide +kernel
theorem atB_A : ∀ w ∈ (vx_atS R_X 70 IAE upN).filter (fun w => !goodWord w), w ∈ eBad IAE := by decide +kernel
theorem atO_U : ∀ w ∈ Cond.classLink R_X 35 UOE :: Cond.initialized UOE :: vx_atS R_X 39 UOE upN, vx_ot w = true := by decide +kernel
theorem atO_S : ∀ w ∈ Cond.classLink R_X 61 ISE :: Cond.initialized ISE :: vx_atS R_X 65 ISE upN, vx_ot w = true := by decide +kernel
theorem atO_A : ∀ w ∈ Cond.classLink R_X 66 IAE :: Cond.initialized IAE :: vx_atS R_X 70 IAE upN, vx_ot w = true := by decide +kernel
section
variable {p : Program} {l : Launch} {e : Env} {R : Room} {s : State} {m : MethodId} {args : Array Value} {below : List Frame} {meth : Method} {c : Code} {pc : Nat} {ls : Array Slot} {rest st0 : List Value} {cc : ByteArray} {D : va_G} {ws ws' : va_W} {tys : List (ClassId × FieldType)} {Qc : Array Value → State → Outcome → State → Prop} {free : Addr → Prop}
theorem thr {E tx : String} {ik is ic : Nat} (hx : p.tables.exec = Jvm.exec) (hb : c.code = cc) (hls : l.stackTraces = false) (hF : xF s) (hown : s.vm.findClass R_X = some m.cls) (hg : ∀ w ∈ gW, w.before args s = true) (hE : E ∈ [IAE, UOE, ISE]) (hfit : Bundle.fit E = true)
    (hk : Cond.classLink R_X ik E ∈ gW) (hini : Cond.initialized E ∈ gW) (hG : ∀ w ∈ (vx_atS R_X ic E upN).filter goodWord, w ∈ gW) (hB : ∀ w ∈ (vx_atS R_X ic E upN).filter (fun w => !goodWord w), w ∈ eBad E) (hO : ∀ w ∈ Cond.classLink R_X ik E :: Cond.initialized E :: vx_atS R_X ic E upN, vx_ot w = true)
    (hq : (is, tx) ∈ strs) (hsize : ls.size = c.maxLocals)
    (d0 : decode cc pc = .ok (.new ik, 3)) (d3 : decode cc (pc + 3) = .ok (.dup, 1)) (d4 : decode cc (pc + 4) = .ok (.ldc is, 2)) (d6 : decode cc (pc + 6) = .ok (.invokespecial ic, 3)) (d9 : decode cc (pc + 9) = .ok (.athrow, 1))
    (htab : ∀ x ∈ c.exceptionTable.toList, False) (hR : 5 < R.frames ∧ 82 ≤ R.locals ∧ 1 ≤ R.cells ∧ 6 ≤ R.slots) (hlocks : meth.locks = false) :
    W p l e R s m args below meth c s.heap [] 0 0 (vx_MQ below Qc (XE E) args s 1 6 free) (F0 m pc ls []) := by
  obtain ⟨sa, hsa⟩ := hF.2.2.2 (is, tx) hq
  exact vx_throwS (rest := []) (names := upN) (A := fun _ => False) hx hb hls hown hfit (by decide +kernel) (hg _ hk) (hg _ hini) hsa
    (vx_hat (L := vx_atS R_X ic E upN) (B := eBad E) (fun w hw => hg w (hG w hw)) hB (fun w hw => va_Nw.use (eBad_ot E w hw) (hF.1 E hE w hw))) hO hF.2.1 hF.2.2.1 va_S.rf hsize d0 d3 d4 d6 d9 (fun x h => (htab x h).elim)
    (Nat.lt_of_le_of_lt (by decide) hR.1) (Nat.le_trans (by decide) hR.2.1) hR.2.2.1 hR.2.2.2 hlocks (fun t _ hz hk => ⟨(), trivial, rfl, hz, fun q h _ => hk q h⟩) (fun _ h => nomatch h) (Nat.le_refl _) (Nat.le_refl _)
theorem xOut {E E' : String} {ce : Cell} {q9 : Addr} {H1 : Heap} {locs1 : List Loc} (htab : ∀ x ∈ c.exceptionTable.toList, False) (hlocks : meth.locks = false) (hE : E' = E) (hz : s.heap.size ≤ H1.size) (hk : ∀ q : Nat, q < s.heap.size → ¬ False → H1[q]? = s.heap[q]?) (hS : va_S (fun _ => False) s.heap H1 locs1) (hc : H1[q9]? = some ce) (hv : ce.vm = .none) (hcl : s.vm.findClass E' = some ce.cls) :
    vx_W p l e R s m args below meth c H1 locs1 (0 + 1) (0 + 6) (vx_MQ below Qc (XE E) args s 1 6 free) (F0 m pc ls rest) q9 := by
  subst hE
  exact vx_out (fun x h => (htab x h).elim) hlocks hc hv hcl (fun t' ht' _ => ⟨(), trivial, rfl, by rw [ht']; exact hz, fun q h _ => by rw [ht']; exact hk q h id⟩) (fun z hz => (hS.2.2 z hz).elim) (Nat.le_refl _) (Nat.le_refl _)
variable {own C E : String} {index maxL n nL : Nat} {y : MethodName} {bytes : ByteArray} {ret : Option FieldType} {rm : Room} {b : Nat} {As : List Value} {w0 : Cond}
theorem passS (S : CallFix p m c cc nL s args (w0 :: gW) own) (hM : vx_Met l y (Cond.code y bytes maxL ret :: gW) rm (pT As) qNv (XE E) 1 6 (fun _ => False))
    (h1 : Cond.methodLink own index y ∈ gW) (h2 : Cond.static y ∈ gW) (h4 : Cond.initialized own ∈ gW) (h5 : Cond.code y bytes maxL ret ∈ gW)
    (hd : hD_ y own n) (hrm : rm.cells = 1 ∧ rm.slots = 6) (hR : rm.frames + 1 ≤ R.frames ∧ 8 + (maxL + 11) + rm.locals ≤ R.locals) (hF : xF s)
    (hn : As.length = n) (hsz : ls.size = nL) (hst : st0 = As.reverse ++ rest) (hW : (rest.map fun v => v.category).sum ≤ 8) (hdg : decode cc pc = .ok (.invokestatic index, 3)) (hcs : 0 + 1 ≤ R.cells ∧ 0 + 6 ≤ R.slots)
    (htab : ∀ x ∈ c.exceptionTable.toList, False) (hlocks : meth.locks = false) : W p l e R s m args below meth c s.heap [] 0 0 (vx_MQ below Qc (XE E) args s 1 6 free) (F0 m pc ls st0) :=
  vx_callv (A0 := fun _ => False) (H0 := s.heap) (vx_runS (g := F0 m pc ls st0) (rest := rest) S hM (cwS n S.2.2.2.2 (gS h1 h2 h4 h5) rfl hrm.1 hrm.2 hd hR) ⟨pT_blind, fun U hU hW => ⟨rfl, xF_warm hW hU hF⟩⟩ rfl hn hsz hst (lv_room hW) hdg hcs) va_S.rf (fun _ _ h => h) (fun _ h => h) (fun _ _ h => h)
    (fun E' ce q9 u t H1 locs1 ht _ _ hE hz hk hS hc hv hcl => xOut htab hlocks hE hz hk hS hc hv hcl) (fun u t H1 locs1 _ _ hp => hp.elim)
theorem passV (S : CallFix p m c cc nL s args (w0 :: gW) own) (hM : vx_Met l y (Cond.code y bytes maxL ret :: gW) rm (pTW D ws tys (.ref b :: As)) qNv (XE E) 1 6 (fun _ => False))
    (h1 : Cond.methodLink own index y ∈ gW) (h2 : Cond.instanceMethod y ∈ gW) (h3 : Cond.selects C y y ∈ gW) (h4 : Cond.initialized C ∈ gW) (h5 : Cond.code y bytes maxL ret ∈ gW)
    (hd : hD_ y C n) (hrm : rm.cells = 1 ∧ rm.slots = 6) (hR : rm.frames + 1 ≤ R.frames ∧ 8 + (maxL + 11) + rm.locals ≤ R.locals) (hF : xF s)
    (hP : va_P D cls_ ws s.heap) (hK : va_K D cls_ tys s) (ci q0 : Nat) {T : u_T} {N : Nat} {fs : List Value} (hc : cls_[ci]? = some (C, T, N)) (he : ws[q0]? = some (b, .inr (ci, fs)))
    (hn : As.length = n) (hsz : ls.size = nL) (hst : st0 = As.reverse ++ .ref b :: rest) (hW : (rest.map fun v => v.category).sum ≤ 8) (hdg : decode cc pc = .ok (.invokevirtual index, 3)) (hcs : 0 + 1 ≤ R.cells ∧ 0 + 6 ≤ R.slots)
    (htab : ∀ x ∈ c.exceptionTable.toList, False) (hlocks : meth.locks = false) : W p l e R s m args below meth c s.heap [] 0 0 (vx_MQ below Qc (XE E) args s 1 6 free) (F0 m pc ls st0) :=
  vx_callv (A0 := fun _ => False) (H0 := s.heap) (vx_runV (g := F0 m pc ls st0) (rest := rest) S hM (cwV n S.2.2.2.2 (gV h1 h2 h3 h4 h5) rfl hrm.1 hrm.2 hd hR) ⟨pTW_blind, va_recv hK hP hc he, fun U hU hW => ⟨rfl, xF_warm hW hU hF, by rw [hU]; exact hP, va_K.moved hW.alike hK⟩⟩ rfl hn hsz hst (lv_room hW) hdg hcs) va_S.rf (fun _ _ h => h) (fun _ h => h) (fun _ _ h => h)
    (fun E' ce q9 u t H1 locs1 ht _ _ hE hz hk hS hc hv hcl => xOut htab hlocks hE hz hk hS hc hv hcl) (fun u t H1 locs1 _ _ hp => hp.elim)
end
