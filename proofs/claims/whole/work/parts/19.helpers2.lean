set_option maxHeartbeats 4000000 in
set_option maxRecDepth 100000 in
theorem mL_rebuild_ok (l : Launch) (D : va_G) (o a b : Nat) (cA iA : ClassId) (cf : Nat → Int64) (uf : Nat → Int32) (z : Nat) (oA : ClassId) (ou : Nat → Int64) (sz : Nat) (d n9 f : Nat) (hd : d < 5) (hn : n9 < 2 ^ 31) (hf : f < 100) (hu : uf d = nI f) : Met l yL_rebuild (.codeWith yL_rebuild cL_rebuild 5 (some .int) [(0, 10, 13, 13), (0, 10, 17, 28)] :: gW) ({ frames := 8, cells := 1, slots := 6, locals := 141 }) (pL D (wXo o a b z cA iA oA cf uf ou) (kTo cA iA oA) sz [.ref o, .int (nI d), .int (nI n9), .ref z]) (QI (nI 0) D (wXo o a b z cA iA oA ((rbF uf d (min n9 (100 - f)) cf f).1) (upd uf d (nI (rbF uf d (min n9 (100 - f)) cf f).2)) (vp_updL ou 0 ((nI (rbF uf d (min n9 (100 - f)) cf f).2).toInt64))) (va_A (wXo o a b z cA iA oA cf uf ou) sz)) 1 6 (va_A (wXo o a b z cA iA oA cf uf ou) sz) := by
  refine va_MetW (cc := cL_rebuild) (maxL := 5) (ret := (some .int)) (hh := [(0, 10, 13, 13), (0, 10, 17, 28)]) (by decide) rfl ?_
  intro p e s m args below meth c s₁ B hml hv
  obtain ⟨rfl, hsz, hxL, hP, hK, hD0⟩ := hv
  have hx := B.exec
  have hb := B.bytes
  have hr := B.returns
  have hts := atoms_spec (ws := (.codeWith yL_rebuild cL_rebuild 5 (some .int) [(0, 10, 13, 13), (0, 10, 17, 28)] :: gW)) B.pre
  have hg : ∀ w ∈ gW, w.before ([.ref o, .int (nI d), .int (nI n9), .ref z]).toArray s = true := fun w h => hts w (List.mem_cons_of_mem _ h)
  have hown : s.vm.findClass R_L = some m.cls := findClass_of_methodNamed B.named
  have hlocks := B.notSynchronized
  subst hsz
  have hD := hD0.self (sz := s.heap.size)
  generalize hAe : va_A (wXo o a b z cA iA oA cf uf ou) s.heap.size = A at hD ⊢
  have hA : ∀ q : Nat, s.heap.size ≤ q → A q := fun q h => by rw [← hAe]; exact Or.inr h
  have hS : va_S A s.heap s.heap [] := va_S.rf
  have hP : va_P D cls_ (wXo o a b z cA iA oA cf uf ou) s.heap := hP
  have hl := lv_entry ([.ref o, .int (nI d), .int (nI n9), .ref z]) (n := 5) (Nat.le_of_ble_eq_true rfl)
  rw [lg_entry_eq]
  generalize (lg_sl ([.ref o, .int (nI d), .int (nI n9), .ref z]) ++ List.replicate (5 - (lg_sl ([.ref o, .int (nI d), .int (nI n9), .ref z])).length) Slot.unset).toArray = ls at hl ⊢
  have hl : lv_has ls 5 [(0, .ref o), (1, .int (nI d)), (2, .int (nI n9)), (3, .ref z)] := hl
  refine lv_aload_n hx hb dL_rebuild_0 rfl (lv_at hl 3 rfl) ?_
  refine lv_iconst (v := nI 0) hx hb dL_rebuild_1 (by decide +kernel) ?_
  refine lv_aload_n hx hb dL_rebuild_2 rfl (lv_at hl 0 rfl) ?_
  refine lv_iload_n hx hb dL_rebuild_3 rfl (lv_at hl 1 rfl) ?_
  refine lv_iload_n hx hb dL_rebuild_4 rfl (lv_at hl 2 rfl) ?_
  have hPc := hP.sub (ws' := wX o a b cA iA cf uf) [0, 1, 2] rfl
  have hKc := hK.sub (tys' := kT cA iA) [0, 1] rfl
  refine fVi (n := 2) (As := [.int (nI d), .int (nI n9)]) (rest := [.int (nI 0), .ref z]) ⟨hx, hb, hml, hown, hts⟩ (mX_rebuild_ok l D o a b cA iA cf uf s.heap.size d n9 f hd hn hf hu) w_221 w_222 w_223 w_1 w_224 (by decide +kernel) ⟨rfl, rfl⟩ ⟨(Nat.le_of_ble_eq_true rfl), (Nat.le_of_ble_eq_true rfl)⟩ hP hK hD hS hA [0, 1, 2] [3] [0, 1] rfl rfl (wr := [(z, .inl (oA, 1, .inr (.inl ou)))]) rfl (by decide) (by decide) (by decide) rfl rfl 0 0 rfl rfl rfl hl.1 rfl (Nat.le_of_ble_eq_true rfl) dL_rebuild_5 ⟨Nat.zero_le _, Nat.zero_le _⟩ (fun H locs hP hD hS => ?_)
  have hP : va_P D cls_ (wXo o a b z cA iA oA ((rbF uf d (min n9 (100 - f)) cf f).1) (upd uf d (nI (rbF uf d (min n9 (100 - f)) cf f).2)) ou) H := hP.sub [1, 2, 3, 0] rfl
  have hD : va_D A (wXo o a b z cA iA oA ((rbF uf d (min n9 (100 - f)) cf f).1) (upd uf d (nI (rbF uf d (min n9 (100 - f)) cf f).2)) ou) := hD.sub [1, 2, 3, 0] (by decide) rfl
  refine lv_i2l (v := (nI (rbF uf d (min n9 (100 - f)) cf f).2).toInt64) hx hb dL_rebuild_8 rfl ?_
  refine sL hx hb hK hP hD hS 3 2 rfl rfl (by decide) (by decide) dL_rebuild_9 (fun H locs hP hD hS => ?_)
  have hP : va_P D cls_ (wXo o a b z cA iA oA ((rbF uf d (min n9 (100 - f)) cf f).1) (upd uf d (nI (rbF uf d (min n9 (100 - f)) cf f).2)) (vp_updL ou 0 ((nI (rbF uf d (min n9 (100 - f)) cf f).2).toInt64))) H := hP
  have hD : va_D A (wXo o a b z cA iA oA ((rbF uf d (min n9 (100 - f)) cf f).1) (upd uf d (nI (rbF uf d (min n9 (100 - f)) cf f).2)) (vp_updL ou 0 ((nI (rbF uf d (min n9 (100 - f)) cf f).2).toInt64))) := hD
  refine lv_goto (tgt := 21) hx hb dL_rebuild_10 (by decide) ?_
  refine lv_iconst (v := nI 0) hx hb dL_rebuild_21 (by decide +kernel) ?_
  refine W.widen (k := 1) (n := 6) (by omega) (by omega) ?_
  exact W.iret (v := nI 0) hx hb hr (fun t9 ht9 _ => ⟨⟨_, (), rfl, rfl, by show va_P _ _ _ t9.heap; rw [ht9]; exact hP⟩, hS.F ht9⟩) hS.2.2 dL_rebuild_22
set_option maxHeartbeats 4000000 in
set_option maxRecDepth 100000 in
theorem mL_rebuild_a (l : Launch) (hls : l.stackTraces = false) (D : va_G) (o a b : Nat) (cA iA : ClassId) (cf : Nat → Int64) (uf : Nat → Int32) (z : Nat) (oA : ClassId) (ou : Nat → Int64) (sz : Nat) (x n : Int32) (hbad : (inR x 5 && !decide (n < 0)) = false) : Met l yL_rebuild (.codeWith yL_rebuild cL_rebuild 5 (some .int) [(0, 10, 13, 13), (0, 10, 17, 28)] :: gW) ({ frames := 8, cells := 1, slots := 6, locals := 141 }) (pL D (wXo o a b z cA iA oA cf uf ou) (kTo cA iA oA) sz [.ref o, .int x, .int n, .ref z]) (QI (nI 1) D (wXo o a b z cA iA oA cf uf ou) (va_A (wXo o a b z cA iA oA cf uf ou) sz)) 1 6 (va_A (wXo o a b z cA iA oA cf uf ou) sz) := by
  refine va_MetW (cc := cL_rebuild) (maxL := 5) (ret := (some .int)) (hh := [(0, 10, 13, 13), (0, 10, 17, 28)]) (by decide) rfl ?_
  intro p e s m args below meth c s₁ B hml hv
  obtain ⟨rfl, hsz, hxL, hP, hK, hD0⟩ := hv
  have hx := B.exec
  have hb := B.bytes
  have hr := B.returns
  have hts := atoms_spec (ws := (.codeWith yL_rebuild cL_rebuild 5 (some .int) [(0, 10, 13, 13), (0, 10, 17, 28)] :: gW)) B.pre
  have hg : ∀ w ∈ gW, w.before ([.ref o, .int x, .int n, .ref z]).toArray s = true := fun w h => hts w (List.mem_cons_of_mem _ h)
  have hown : s.vm.findClass R_L = some m.cls := findClass_of_methodNamed B.named
  have hlocks := B.notSynchronized
  subst hsz
  have hD := hD0.self (sz := s.heap.size)
  generalize hAe : va_A (wXo o a b z cA iA oA cf uf ou) s.heap.size = A at hD ⊢
  have hA : ∀ q : Nat, s.heap.size ≤ q → A q := fun q h => by rw [← hAe]; exact Or.inr h
  have hS : va_S A s.heap s.heap [] := va_S.rf
  have hP : va_P D cls_ (wXo o a b z cA iA oA cf uf ou) s.heap := hP
  have htab : c.exceptionTable.toList = [⟨0, 10, 13, 13⟩, ⟨0, 10, 17, 28⟩] := vx_table (x := objectInit) B (hts _ List.mem_cons_self)
  have hl := lv_entry ([.ref o, .int x, .int n, .ref z]) (n := 5) (Nat.le_of_ble_eq_true rfl)
  rw [lg_entry_eq]
  generalize (lg_sl ([.ref o, .int x, .int n, .ref z]) ++ List.replicate (5 - (lg_sl ([.ref o, .int x, .int n, .ref z])).length) Slot.unset).toArray = ls at hl ⊢
  have hl : lv_has ls 5 [(0, .ref o), (1, .int x), (2, .int n), (3, .ref z)] := hl
  refine lv_aload_n hx hb dL_rebuild_0 rfl (lv_at hl 3 rfl) ?_
  refine lv_iconst (v := nI 0) hx hb dL_rebuild_1 (by decide +kernel) ?_
  refine lv_aload_n hx hb dL_rebuild_2 rfl (lv_at hl 0 rfl) ?_
  refine lv_iload_n hx hb dL_rebuild_3 rfl (lv_at hl 1 rfl) ?_
  refine lv_iload_n hx hb dL_rebuild_4 rfl (lv_at hl 2 rfl) ?_
  have hPc := hP.sub (ws' := wX o a b cA iA cf uf) [0, 1, 2] rfl
  have hKc := hK.sub (tys' := kT cA iA) [0, 1] rfl
  refine cthI (A := A) (hpc := 13) (n := 2) (As := [.int x, .int n]) (rest := [.int (nI 0), .ref z]) ⟨hx, hb, hml, hown, hts⟩ (mX_rebuild_a l hls D o a b cA iA cf uf x n hbad) w_221 w_222 w_223 w_1 w_224 (by decide +kernel) ⟨rfl, rfl⟩ ⟨(Nat.le_of_ble_eq_true rfl), (Nat.le_of_ble_eq_true rfl)⟩ hxL.1 hPc hKc 0 0 rfl rfl rfl hl.1 rfl (Nat.le_of_ble_eq_true rfl) dL_rebuild_5 ⟨(Nat.le_of_ble_eq_true rfl), (Nat.le_of_ble_eq_true rfl)⟩ (by decide +kernel) (cat1 htab (by decide) (by decide) (hg _ w_74)) (fun H locs q9 hk9 hS => ?_)
  have hP : va_P D cls_ (wXo o a b z cA iA oA cf uf ou) H := hP.kept (fun k q hq9 => hk9 q.1 (vx_lt hP hq9))
  refine lv_astore hx hb dL_rebuild_13 hl (by decide) rfl (fun ls hl => ?_)
  have hl : lv_has ls 5 [(4, .ref q9), (0, .ref o), (1, .int x), (2, .int n), (3, .ref z)] := hl
  refine lv_iconst (v := nI 1) hx hb dL_rebuild_15 (by decide +kernel) ?_
  refine W.widen (k := 1) (n := 6) (by omega) (by omega) ?_
  exact W.iret (v := nI 1) hx hb hr (fun t9 ht9 _ => ⟨⟨_, (), rfl, rfl, by show va_P _ _ _ t9.heap; rw [ht9]; exact hP⟩, hS.F ht9⟩) hS.2.2 dL_rebuild_16
set_option maxHeartbeats 4000000 in
set_option maxRecDepth 100000 in
theorem mL_rebuild_s (l : Launch) (hls : l.stackTraces = false) (D : va_G) (o a b : Nat) (cA iA : ClassId) (cf : Nat → Int64) (uf : Nat → Int32) (z : Nat) (oA : ClassId) (ou : Nat → Int64) (sz : Nat) (d : Nat) (n : Int32) (hd : d < 5) (hn : 0 ≤ n) (hu : uf d = nI 100 ∨ uf d = -1) : Met l yL_rebuild (.codeWith yL_rebuild cL_rebuild 5 (some .int) [(0, 10, 13, 13), (0, 10, 17, 28)] :: gW) ({ frames := 8, cells := 1, slots := 6, locals := 141 }) (pL D (wXo o a b z cA iA oA cf uf ou) (kTo cA iA oA) sz [.ref o, .int (nI d), .int n, .ref z]) (QI (nI 2) D (wXo o a b z cA iA oA cf uf ou) (va_A (wXo o a b z cA iA oA cf uf ou) sz)) 1 6 (va_A (wXo o a b z cA iA oA cf uf ou) sz) := by
  refine va_MetW (cc := cL_rebuild) (maxL := 5) (ret := (some .int)) (hh := [(0, 10, 13, 13), (0, 10, 17, 28)]) (by decide) rfl ?_
  intro p e s m args below meth c s₁ B hml hv
  obtain ⟨rfl, hsz, hxL, hP, hK, hD0⟩ := hv
  have hx := B.exec
  have hb := B.bytes
  have hr := B.returns
  have hts := atoms_spec (ws := (.codeWith yL_rebuild cL_rebuild 5 (some .int) [(0, 10, 13, 13), (0, 10, 17, 28)] :: gW)) B.pre
  have hg : ∀ w ∈ gW, w.before ([.ref o, .int (nI d), .int n, .ref z]).toArray s = true := fun w h => hts w (List.mem_cons_of_mem _ h)
  have hown : s.vm.findClass R_L = some m.cls := findClass_of_methodNamed B.named
  have hlocks := B.notSynchronized
  subst hsz
  have hD := hD0.self (sz := s.heap.size)
  generalize hAe : va_A (wXo o a b z cA iA oA cf uf ou) s.heap.size = A at hD ⊢
  have hA : ∀ q : Nat, s.heap.size ≤ q → A q := fun q h => by rw [← hAe]; exact Or.inr h
  have hS : va_S A s.heap s.heap [] := va_S.rf
  have hP : va_P D cls_ (wXo o a b z cA iA oA cf uf ou) s.heap := hP
  have htab : c.exceptionTable.toList = [⟨0, 10, 13, 13⟩, ⟨0, 10, 17, 28⟩] := vx_table (x := objectInit) B (hts _ List.mem_cons_self)
  have hl := lv_entry ([.ref o, .int (nI d), .int n, .ref z]) (n := 5) (Nat.le_of_ble_eq_true rfl)
  rw [lg_entry_eq]
  generalize (lg_sl ([.ref o, .int (nI d), .int n, .ref z]) ++ List.replicate (5 - (lg_sl ([.ref o, .int (nI d), .int n, .ref z])).length) Slot.unset).toArray = ls at hl ⊢
  have hl : lv_has ls 5 [(0, .ref o), (1, .int (nI d)), (2, .int n), (3, .ref z)] := hl
  refine lv_aload_n hx hb dL_rebuild_0 rfl (lv_at hl 3 rfl) ?_
  refine lv_iconst (v := nI 0) hx hb dL_rebuild_1 (by decide +kernel) ?_
  refine lv_aload_n hx hb dL_rebuild_2 rfl (lv_at hl 0 rfl) ?_
  refine lv_iload_n hx hb dL_rebuild_3 rfl (lv_at hl 1 rfl) ?_
  refine lv_iload_n hx hb dL_rebuild_4 rfl (lv_at hl 2 rfl) ?_
  have hPc := hP.sub (ws' := wX o a b cA iA cf uf) [0, 1, 2] rfl
  have hKc := hK.sub (tys' := kT cA iA) [0, 1] rfl
  refine cthI (A := A) (hpc := 17) (n := 2) (As := [.int (nI d), .int n]) (rest := [.int (nI 0), .ref z]) ⟨hx, hb, hml, hown, hts⟩ (mX_rebuild_s l hls D o a b cA iA cf uf d n hd hn hu) w_221 w_222 w_223 w_1 w_224 (by decide +kernel) ⟨rfl, rfl⟩ ⟨(Nat.le_of_ble_eq_true rfl), (Nat.le_of_ble_eq_true rfl)⟩ hxL.1 hPc hKc 0 0 rfl rfl rfl hl.1 rfl (Nat.le_of_ble_eq_true rfl) dL_rebuild_5 ⟨(Nat.le_of_ble_eq_true rfl), (Nat.le_of_ble_eq_true rfl)⟩ (by decide +kernel) (cat2 htab (by decide) (hg _ w_74) hxL.2.2 (by decide) (by decide) (hg _ w_197)) (fun H locs q9 hk9 hS => ?_)
  have hP : va_P D cls_ (wXo o a b z cA iA oA cf uf ou) H := hP.kept (fun k q hq9 => hk9 q.1 (vx_lt hP hq9))
  refine lv_astore hx hb dL_rebuild_17 hl (by decide) rfl (fun ls hl => ?_)
  have hl : lv_has ls 5 [(4, .ref q9), (0, .ref o), (1, .int (nI d)), (2, .int n), (3, .ref z)] := hl
  refine lv_iconst (v := nI 2) hx hb dL_rebuild_19 (by decide +kernel) ?_
  refine W.widen (k := 1) (n := 6) (by omega) (by omega) ?_
  exact W.iret (v := nI 2) hx hb hr (fun t9 ht9 _ => ⟨⟨_, (), rfl, rfl, by show va_P _ _ _ t9.heap; rw [ht9]; exact hP⟩, hS.F ht9⟩) hS.2.2 dL_rebuild_20
set_option maxHeartbeats 4000000 in
set_option maxRecDepth 100000 in
theorem mL_flip_ok (l : Launch) (D : va_G) (o a b : Nat) (cA iA : ClassId) (cf : Nat → Int64) (uf : Nat → Int32) (sz : Nat) (d t h : Nat) (hd : d < 5) (ht : t < 100) (hh : h < 2) (v : Int64) (hu : ¬ uf d = -1) : Met l yL_flip (.codeWith yL_flip cL_flip 7 (some .int) [(0, 9, 12, 13), (0, 9, 16, 28)] :: gW) ({ frames := 9, cells := 1, slots := 6, locals := 164 }) (pL D (wX o a b cA iA cf uf) (kT cA iA) sz [.ref o, .int (nI d), .int (nI t), .int (nI h), .long v]) (QI (nI 0) D (wX o a b cA iA (vp_updL cf (ix d t h) (cf (ix d t h) ^^^ v)) uf) (va_A (wX o a b cA iA cf uf) sz)) 1 6 (va_A (wX o a b cA iA cf uf) sz) := by
  refine va_MetW (cc := cL_flip) (maxL := 7) (ret := (some .int)) (hh := [(0, 9, 12, 13), (0, 9, 16, 28)]) (by decide) rfl ?_
  intro p e s m args below meth c s₁ B hml hv
  obtain ⟨rfl, hsz, hxL, hP, hK, hD0⟩ := hv
  have hx := B.exec
  have hb := B.bytes
  have hr := B.returns
  have hts := atoms_spec (ws := (.codeWith yL_flip cL_flip 7 (some .int) [(0, 9, 12, 13), (0, 9, 16, 28)] :: gW)) B.pre
  have hg : ∀ w ∈ gW, w.before ([.ref o, .int (nI d), .int (nI t), .int (nI h), .long v]).toArray s = true := fun w h => hts w (List.mem_cons_of_mem _ h)
  have hown : s.vm.findClass R_L = some m.cls := findClass_of_methodNamed B.named
  have hlocks := B.notSynchronized
  subst hsz
  have hD := hD0.self (sz := s.heap.size)
  generalize hAe : va_A (wX o a b cA iA cf uf) s.heap.size = A at hD ⊢
  have hA : ∀ q : Nat, s.heap.size ≤ q → A q := fun q h => by rw [← hAe]; exact Or.inr h
  have hS : va_S A s.heap s.heap [] := va_S.rf
  have hP : va_P D cls_ (wX o a b cA iA cf uf) s.heap := hP
  have hl := lv_entry ([.ref o, .int (nI d), .int (nI t), .int (nI h), .long v]) (n := 7) (Nat.le_of_ble_eq_true rfl)
  rw [lg_entry_eq]
  generalize (lg_sl ([.ref o, .int (nI d), .int (nI t), .int (nI h), .long v]) ++ List.replicate (7 - (lg_sl ([.ref o, .int (nI d), .int (nI t), .int (nI h), .long v])).length) Slot.unset).toArray = ls at hl ⊢
  have hl : lv_has ls 7 [(0, .ref o), (1, .int (nI d)), (2, .int (nI t)), (3, .int (nI h)), (4, .long v)] := hl
  refine lv_aload_n hx hb dL_flip_0 rfl (lv_at hl 0 rfl) ?_
  refine lv_iload_n hx hb dL_flip_1 rfl (lv_at hl 1 rfl) ?_
  refine lv_iload_n hx hb dL_flip_2 rfl (lv_at hl 2 rfl) ?_
  refine lv_iload_n hx hb dL_flip_3 rfl (lv_at hl 3 rfl) ?_
  refine lv_lload hx hb dL_flip_4 (lv_at hl 4 rfl) ?_
  refine kVv (n := 4) (As := [.int (nI d), .int (nI t), .int (nI h), .long v]) (rest := []) ⟨hx, hb, hml, hown, hts⟩ (mX_flip_ok l D o a b cA iA cf uf s.heap.size d t h hd ht hh v hu) w_237 w_238 w_239 w_1 w_240 (by decide +kernel) ⟨rfl, rfl⟩ ⟨(Nat.le_of_ble_eq_true rfl), (Nat.le_of_ble_eq_true rfl)⟩ hP hK hD hS hA rfl 0 0 rfl rfl rfl hl.1 rfl (Nat.le_of_ble_eq_true rfl) dL_flip_6 ⟨Nat.zero_le _, Nat.zero_le _⟩ (fun H locs hP hD hS => ?_)
  refine lv_goto (tgt := 20) hx hb dL_flip_9 (by decide) ?_
  refine lv_iconst (v := nI 0) hx hb dL_flip_20 (by decide +kernel) ?_
  refine W.widen (k := 1) (n := 6) (by omega) (by omega) ?_
  exact W.iret (v := nI 0) hx hb hr (fun t9 ht9 _ => ⟨⟨_, (), rfl, rfl, by show va_P _ _ _ t9.heap; rw [ht9]; exact hP⟩, hS.F ht9⟩) hS.2.2 dL_flip_21
set_option maxHeartbeats 4000000 in
set_option maxRecDepth 100000 in
theorem mL_flip_a (l : Launch) (hls : l.stackTraces = false) (D : va_G) (o a b : Nat) (cA iA : ClassId) (cf : Nat → Int64) (uf : Nat → Int32) (sz : Nat) (x y z9 : Int32) (v : Int64) (hbad : (inR x 5 && (inR y 100 && inR z9 2)) = false) : Met l yL_flip (.codeWith yL_flip cL_flip 7 (some .int) [(0, 9, 12, 13), (0, 9, 16, 28)] :: gW) ({ frames := 9, cells := 1, slots := 6, locals := 164 }) (pL D (wX o a b cA iA cf uf) (kT cA iA) sz [.ref o, .int x, .int y, .int z9, .long v]) (QI (nI 1) D (wX o a b cA iA cf uf) (va_A (wX o a b cA iA cf uf) sz)) 1 6 (va_A (wX o a b cA iA cf uf) sz) := by
  refine va_MetW (cc := cL_flip) (maxL := 7) (ret := (some .int)) (hh := [(0, 9, 12, 13), (0, 9, 16, 28)]) (by decide) rfl ?_
  intro p e s m args below meth c s₁ B hml hv
  obtain ⟨rfl, hsz, hxL, hP, hK, hD0⟩ := hv
  have hx := B.exec
  have hb := B.bytes
  have hr := B.returns
  have hts := atoms_spec (ws := (.codeWith yL_flip cL_flip 7 (some .int) [(0, 9, 12, 13), (0, 9, 16, 28)] :: gW)) B.pre
  have hg : ∀ w ∈ gW, w.before ([.ref o, .int x, .int y, .int z9, .long v]).toArray s = true := fun w h => hts w (List.mem_cons_of_mem _ h)
  have hown : s.vm.findClass R_L = some m.cls := findClass_of_methodNamed B.named
  have hlocks := B.notSynchronized
  subst hsz
  have hD := hD0.self (sz := s.heap.size)
  generalize hAe : va_A (wX o a b cA iA cf uf) s.heap.size = A at hD ⊢
  have hA : ∀ q : Nat, s.heap.size ≤ q → A q := fun q h => by rw [← hAe]; exact Or.inr h
  have hS : va_S A s.heap s.heap [] := va_S.rf
  have hP : va_P D cls_ (wX o a b cA iA cf uf) s.heap := hP
  have htab : c.exceptionTable.toList = [⟨0, 9, 12, 13⟩, ⟨0, 9, 16, 28⟩] := vx_table (x := objectInit) B (hts _ List.mem_cons_self)
  have hl := lv_entry ([.ref o, .int x, .int y, .int z9, .long v]) (n := 7) (Nat.le_of_ble_eq_true rfl)
  rw [lg_entry_eq]
  generalize (lg_sl ([.ref o, .int x, .int y, .int z9, .long v]) ++ List.replicate (7 - (lg_sl ([.ref o, .int x, .int y, .int z9, .long v])).length) Slot.unset).toArray = ls at hl ⊢
  have hl : lv_has ls 7 [(0, .ref o), (1, .int x), (2, .int y), (3, .int z9), (4, .long v)] := hl
  refine lv_aload_n hx hb dL_flip_0 rfl (lv_at hl 0 rfl) ?_
  refine lv_iload_n hx hb dL_flip_1 rfl (lv_at hl 1 rfl) ?_
  refine lv_iload_n hx hb dL_flip_2 rfl (lv_at hl 2 rfl) ?_
  refine lv_iload_n hx hb dL_flip_3 rfl (lv_at hl 3 rfl) ?_
  refine lv_lload hx hb dL_flip_4 (lv_at hl 4 rfl) ?_
  refine cthV (A := A) (hpc := 12) (n := 4) (As := [.int x, .int y, .int z9, .long v]) (rest := []) ⟨hx, hb, hml, hown, hts⟩ (mX_flip_a l hls D o a b cA iA cf uf x y z9 v hbad) w_237 w_238 w_239 w_1 w_240 (by decide +kernel) ⟨rfl, rfl⟩ ⟨(Nat.le_of_ble_eq_true rfl), (Nat.le_of_ble_eq_true rfl)⟩ hxL.1 hP hK 0 0 rfl rfl rfl hl.1 rfl (Nat.le_of_ble_eq_true rfl) dL_flip_6 ⟨(Nat.le_of_ble_eq_true rfl), (Nat.le_of_ble_eq_true rfl)⟩ (by decide +kernel) (cat1 htab (by decide) (by decide) (hg _ w_74)) (fun H locs q9 hk9 hS => ?_)
  have hP : va_P D cls_ (wX o a b cA iA cf uf) H := hP.kept (fun k q hq9 => hk9 q.1 (vx_lt hP hq9))
  refine lv_astore hx hb dL_flip_12 hl (by decide) rfl (fun ls hl => ?_)
  have hl : lv_has ls 7 [(6, .ref q9), (0, .ref o), (1, .int x), (2, .int y), (3, .int z9), (4, .long v)] := hl
  refine lv_iconst (v := nI 1) hx hb dL_flip_14 (by decide +kernel) ?_
  refine W.widen (k := 1) (n := 6) (by omega) (by omega) ?_
  exact W.iret (v := nI 1) hx hb hr (fun t9 ht9 _ => ⟨⟨_, (), rfl, rfl, by show va_P _ _ _ t9.heap; rw [ht9]; exact hP⟩, hS.F ht9⟩) hS.2.2 dL_flip_15
set_option maxHeartbeats 4000000 in
set_option maxRecDepth 100000 in
theorem mL_flip_s (l : Launch) (hls : l.stackTraces = false) (D : va_G) (o a b : Nat) (cA iA : ClassId) (cf : Nat → Int64) (uf : Nat → Int32) (sz : Nat) (d t h : Nat) (hd : d < 5) (ht : t < 100) (hh : h < 2) (v : Int64) (hu : uf d = -1) : Met l yL_flip (.codeWith yL_flip cL_flip 7 (some .int) [(0, 9, 12, 13), (0, 9, 16, 28)] :: gW) ({ frames := 9, cells := 1, slots := 6, locals := 164 }) (pL D (wX o a b cA iA cf uf) (kT cA iA) sz [.ref o, .int (nI d), .int (nI t), .int (nI h), .long v]) (QI (nI 2) D (wX o a b cA iA cf uf) (va_A (wX o a b cA iA cf uf) sz)) 1 6 (va_A (wX o a b cA iA cf uf) sz) := by
  refine va_MetW (cc := cL_flip) (maxL := 7) (ret := (some .int)) (hh := [(0, 9, 12, 13), (0, 9, 16, 28)]) (by decide) rfl ?_
  intro p e s m args below meth c s₁ B hml hv
  obtain ⟨rfl, hsz, hxL, hP, hK, hD0⟩ := hv
  have hx := B.exec
  have hb := B.bytes
  have hr := B.returns
  have hts := atoms_spec (ws := (.codeWith yL_flip cL_flip 7 (some .int) [(0, 9, 12, 13), (0, 9, 16, 28)] :: gW)) B.pre
  have hg : ∀ w ∈ gW, w.before ([.ref o, .int (nI d), .int (nI t), .int (nI h), .long v]).toArray s = true := fun w h => hts w (List.mem_cons_of_mem _ h)
  have hown : s.vm.findClass R_L = some m.cls := findClass_of_methodNamed B.named
  have hlocks := B.notSynchronized
  subst hsz
  have hD := hD0.self (sz := s.heap.size)
  generalize hAe : va_A (wX o a b cA iA cf uf) s.heap.size = A at hD ⊢
  have hA : ∀ q : Nat, s.heap.size ≤ q → A q := fun q h => by rw [← hAe]; exact Or.inr h
  have hS : va_S A s.heap s.heap [] := va_S.rf
  have hP : va_P D cls_ (wX o a b cA iA cf uf) s.heap := hP
  have htab : c.exceptionTable.toList = [⟨0, 9, 12, 13⟩, ⟨0, 9, 16, 28⟩] := vx_table (x := objectInit) B (hts _ List.mem_cons_self)
  have hl := lv_entry ([.ref o, .int (nI d), .int (nI t), .int (nI h), .long v]) (n := 7) (Nat.le_of_ble_eq_true rfl)
  rw [lg_entry_eq]
  generalize (lg_sl ([.ref o, .int (nI d), .int (nI t), .int (nI h), .long v]) ++ List.replicate (7 - (lg_sl ([.ref o, .int (nI d), .int (nI t), .int (nI h), .long v])).length) Slot.unset).toArray = ls at hl ⊢
  have hl : lv_has ls 7 [(0, .ref o), (1, .int (nI d)), (2, .int (nI t)), (3, .int (nI h)), (4, .long v)] := hl
  refine lv_aload_n hx hb dL_flip_0 rfl (lv_at hl 0 rfl) ?_
  refine lv_iload_n hx hb dL_flip_1 rfl (lv_at hl 1 rfl) ?_
  refine lv_iload_n hx hb dL_flip_2 rfl (lv_at hl 2 rfl) ?_
  refine lv_iload_n hx hb dL_flip_3 rfl (lv_at hl 3 rfl) ?_
  refine lv_lload hx hb dL_flip_4 (lv_at hl 4 rfl) ?_
  refine cthV (A := A) (hpc := 16) (n := 4) (As := [.int (nI d), .int (nI t), .int (nI h), .long v]) (rest := []) ⟨hx, hb, hml, hown, hts⟩ (mX_flip_s l hls D o a b cA iA cf uf d t h hd ht hh v hu) w_237 w_238 w_239 w_1 w_240 (by decide +kernel) ⟨rfl, rfl⟩ ⟨(Nat.le_of_ble_eq_true rfl), (Nat.le_of_ble_eq_true rfl)⟩ hxL.1 hP hK 0 0 rfl rfl rfl hl.1 rfl (Nat.le_of_ble_eq_true rfl) dL_flip_6 ⟨(Nat.le_of_ble_eq_true rfl), (Nat.le_of_ble_eq_true rfl)⟩ (by decide +kernel) (cat2 htab (by decide) (hg _ w_74) hxL.2.2 (by decide) (by decide) (hg _ w_197)) (fun H locs q9 hk9 hS => ?_)
  have hP : va_P D cls_ (wX o a b cA iA cf uf) H := hP.kept (fun k q hq9 => hk9 q.1 (vx_lt hP hq9))
  refine lv_astore hx hb dL_flip_16 hl (by decide) rfl (fun ls hl => ?_)
  have hl : lv_has ls 7 [(6, .ref q9), (0, .ref o), (1, .int (nI d)), (2, .int (nI t)), (3, .int (nI h)), (4, .long v)] := hl
  refine lv_iconst (v := nI 2) hx hb dL_flip_18 (by decide +kernel) ?_
  refine W.widen (k := 1) (n := 6) (by omega) (by omega) ?_
  exact W.iret (v := nI 2) hx hb hr (fun t9 ht9 _ => ⟨⟨_, (), rfl, rfl, by show va_P _ _ _ t9.heap; rw [ht9]; exact hP⟩, hS.F ht9⟩) hS.2.2 dL_flip_19
set_option maxHeartbeats 4000000 in
set_option maxRecDepth 100000 in
theorem mL_block_ok (l : Launch) (D : va_G) (o a b : Nat) (cA iA : ClassId) (cf : Nat → Int64) (uf : Nat → Int32) (z : Nat) (oA : ClassId) (ou : Nat → Int64) (sz : Nat) (d t h : Nat) (hd : d < 5) (ht : t < 100) (hh : h < 2) (hu : ¬ uf d = -1) : Met l yL_block (.codeWith yL_block cL_block 6 (some .int) [(0, 11, 14, 13), (0, 11, 18, 28)] :: gW) ({ frames := 9, cells := 1, slots := 6, locals := 162 }) (pL D (wXo o a b z cA iA oA cf uf ou) (kTo cA iA oA) sz [.ref o, .int (nI d), .int (nI t), .int (nI h), .ref z]) (QI (nI 0) D (wXo o a b z cA iA oA cf uf (vp_updL ou 0 (cf (ix d t h)))) (va_A (wXo o a b z cA iA oA cf uf ou) sz)) 1 6 (va_A (wXo o a b z cA iA oA cf uf ou) sz) := by
  refine va_MetW (cc := cL_block) (maxL := 6) (ret := (some .int)) (hh := [(0, 11, 14, 13), (0, 11, 18, 28)]) (by decide) rfl ?_
  intro p e s m args below meth c s₁ B hml hv
  obtain ⟨rfl, hsz, hxL, hP, hK, hD0⟩ := hv
  have hx := B.exec
  have hb := B.bytes
  have hr := B.returns
  have hts := atoms_spec (ws := (.codeWith yL_block cL_block 6 (some .int) [(0, 11, 14, 13), (0, 11, 18, 28)] :: gW)) B.pre
  have hg : ∀ w ∈ gW, w.before ([.ref o, .int (nI d), .int (nI t), .int (nI h), .ref z]).toArray s = true := fun w h => hts w (List.mem_cons_of_mem _ h)
  have hown : s.vm.findClass R_L = some m.cls := findClass_of_methodNamed B.named
  have hlocks := B.notSynchronized
  subst hsz
  have hD := hD0.self (sz := s.heap.size)
  generalize hAe : va_A (wXo o a b z cA iA oA cf uf ou) s.heap.size = A at hD ⊢
  have hA : ∀ q : Nat, s.heap.size ≤ q → A q := fun q h => by rw [← hAe]; exact Or.inr h
  have hS : va_S A s.heap s.heap [] := va_S.rf
  have hP : va_P D cls_ (wXo o a b z cA iA oA cf uf ou) s.heap := hP
  have hl := lv_entry ([.ref o, .int (nI d), .int (nI t), .int (nI h), .ref z]) (n := 6) (Nat.le_of_ble_eq_true rfl)
  rw [lg_entry_eq]
  generalize (lg_sl ([.ref o, .int (nI d), .int (nI t), .int (nI h), .ref z]) ++ List.replicate (6 - (lg_sl ([.ref o, .int (nI d), .int (nI t), .int (nI h), .ref z])).length) Slot.unset).toArray = ls at hl ⊢
  have hl : lv_has ls 6 [(0, .ref o), (1, .int (nI d)), (2, .int (nI t)), (3, .int (nI h)), (4, .ref z)] := hl
  refine lv_aload hx hb dL_block_0 (lv_at hl 4 rfl) ?_
  refine lv_iconst (v := nI 0) hx hb dL_block_2 (by decide +kernel) ?_
  refine lv_aload_n hx hb dL_block_3 rfl (lv_at hl 0 rfl) ?_
  refine lv_iload_n hx hb dL_block_4 rfl (lv_at hl 1 rfl) ?_
  refine lv_iload_n hx hb dL_block_5 rfl (lv_at hl 2 rfl) ?_
  refine lv_iload_n hx hb dL_block_6 rfl (lv_at hl 3 rfl) ?_
  have hPc := hP.sub (ws' := wX o a b cA iA cf uf) [0, 1, 2] rfl
  have hKc := hK.sub (tys' := kT cA iA) [0, 1] rfl
  refine kV (n := 3) (As := [.int (nI d), .int (nI t), .int (nI h)]) (rest := [.int (nI 0), .ref z]) ⟨hx, hb, hml, hown, hts⟩ (mX_block_ok l D o a b cA iA cf uf d t h hd ht hh hu) w_253 w_254 w_255 w_1 w_256 (by decide +kernel) ⟨rfl, rfl⟩ ⟨(Nat.le_of_ble_eq_true rfl), (Nat.le_of_ble_eq_true rfl)⟩ hPc hKc 0 0 rfl rfl rfl hl.1 rfl (Nat.le_of_ble_eq_true rfl) dL_block_7 ⟨Nat.zero_le _, Nat.zero_le _⟩ ?_
  refine sL hx hb hK hP hD hS 3 2 rfl rfl (by decide) (by decide) dL_block_10 (fun H locs hP hD hS => ?_)
  have hP : va_P D cls_ (wXo o a b z cA iA oA cf uf (vp_updL ou 0 (cf (ix d t h)))) H := hP
  have hD : va_D A (wXo o a b z cA iA oA cf uf (vp_updL ou 0 (cf (ix d t h)))) := hD
  refine lv_goto (tgt := 22) hx hb dL_block_11 (by decide) ?_
  refine lv_iconst (v := nI 0) hx hb dL_block_22 (by decide +kernel) ?_
  refine W.widen (k := 1) (n := 6) (by omega) (by omega) ?_
  exact W.iret (v := nI 0) hx hb hr (fun t9 ht9 _ => ⟨⟨_, (), rfl, rfl, by show va_P _ _ _ t9.heap; rw [ht9]; exact hP⟩, hS.F ht9⟩) hS.2.2 dL_block_23
set_option maxHeartbeats 4000000 in
set_option maxRecDepth 100000 in
theorem mL_block_a (l : Launch) (hls : l.stackTraces = false) (D : va_G) (o a b : Nat) (cA iA : ClassId) (cf : Nat → Int64) (uf : Nat → Int32) (z : Nat) (oA : ClassId) (ou : Nat → Int64) (sz : Nat) (x y z9 : Int32) (hbad : (inR x 5 && (inR y 100 && inR z9 2)) = false) : Met l yL_block (.codeWith yL_block cL_block 6 (some .int) [(0, 11, 14, 13), (0, 11, 18, 28)] :: gW) ({ frames := 9, cells := 1, slots := 6, locals := 162 }) (pL D (wXo o a b z cA iA oA cf uf ou) (kTo cA iA oA) sz [.ref o, .int x, .int y, .int z9, .ref z]) (QI (nI 1) D (wXo o a b z cA iA oA cf uf ou) (va_A (wXo o a b z cA iA oA cf uf ou) sz)) 1 6 (va_A (wXo o a b z cA iA oA cf uf ou) sz) := by
  refine va_MetW (cc := cL_block) (maxL := 6) (ret := (some .int)) (hh := [(0, 11, 14, 13), (0, 11, 18, 28)]) (by decide) rfl ?_
  intro p e s m args below meth c s₁ B hml hv
  obtain ⟨rfl, hsz, hxL, hP, hK, hD0⟩ := hv
  have hx := B.exec
  have hb := B.bytes
  have hr := B.returns
  have hts := atoms_spec (ws := (.codeWith yL_block cL_block 6 (some .int) [(0, 11, 14, 13), (0, 11, 18, 28)] :: gW)) B.pre
  have hg : ∀ w ∈ gW, w.before ([.ref o, .int x, .int y, .int z9, .ref z]).toArray s = true := fun w h => hts w (List.mem_cons_of_mem _ h)
  have hown : s.vm.findClass R_L = some m.cls := findClass_of_methodNamed B.named
  have hlocks := B.notSynchronized
  subst hsz
  have hD := hD0.self (sz := s.heap.size)
  generalize hAe : va_A (wXo o a b z cA iA oA cf uf ou) s.heap.size = A at hD ⊢
  have hA : ∀ q : Nat, s.heap.size ≤ q → A q := fun q h => by rw [← hAe]; exact Or.inr h
  have hS : va_S A s.heap s.heap [] := va_S.rf
  have hP : va_P D cls_ (wXo o a b z cA iA oA cf uf ou) s.heap := hP
  have htab : c.exceptionTable.toList = [⟨0, 11, 14, 13⟩, ⟨0, 11, 18, 28⟩] := vx_table (x := objectInit) B (hts _ List.mem_cons_self)
  have hl := lv_entry ([.ref o, .int x, .int y, .int z9, .ref z]) (n := 6) (Nat.le_of_ble_eq_true rfl)
  rw [lg_entry_eq]
  generalize (lg_sl ([.ref o, .int x, .int y, .int z9, .ref z]) ++ List.replicate (6 - (lg_sl ([.ref o, .int x, .int y, .int z9, .ref z])).length) Slot.unset).toArray = ls at hl ⊢
  have hl : lv_has ls 6 [(0, .ref o), (1, .int x), (2, .int y), (3, .int z9), (4, .ref z)] := hl
  refine lv_aload hx hb dL_block_0 (lv_at hl 4 rfl) ?_
  refine lv_iconst (v := nI 0) hx hb dL_block_2 (by decide +kernel) ?_
  refine lv_aload_n hx hb dL_block_3 rfl (lv_at hl 0 rfl) ?_
  refine lv_iload_n hx hb dL_block_4 rfl (lv_at hl 1 rfl) ?_
  refine lv_iload_n hx hb dL_block_5 rfl (lv_at hl 2 rfl) ?_
  refine lv_iload_n hx hb dL_block_6 rfl (lv_at hl 3 rfl) ?_
  have hPc := hP.sub (ws' := wX o a b cA iA cf uf) [0, 1, 2] rfl
  have hKc := hK.sub (tys' := kT cA iA) [0, 1] rfl
  refine cthL (A := A) (hpc := 14) (n := 3) (As := [.int x, .int y, .int z9]) (rest := [.int (nI 0), .ref z]) ⟨hx, hb, hml, hown, hts⟩ (mX_block_a l hls D o a b cA iA cf uf x y z9 hbad) w_253 w_254 w_255 w_1 w_256 (by decide +kernel) ⟨rfl, rfl⟩ ⟨(Nat.le_of_ble_eq_true rfl), (Nat.le_of_ble_eq_true rfl)⟩ hxL.1 hPc hKc 0 0 rfl rfl rfl hl.1 rfl (Nat.le_of_ble_eq_true rfl) dL_block_7 ⟨(Nat.le_of_ble_eq_true rfl), (Nat.le_of_ble_eq_true rfl)⟩ (by decide +kernel) (cat1 htab (by decide) (by decide) (hg _ w_74)) (fun H locs q9 hk9 hS => ?_)
  have hP : va_P D cls_ (wXo o a b z cA iA oA cf uf ou) H := hP.kept (fun k q hq9 => hk9 q.1 (vx_lt hP hq9))
  refine lv_astore hx hb dL_block_14 hl (by decide) rfl (fun ls hl => ?_)
  have hl : lv_has ls 6 [(5, .ref q9), (0, .ref o), (1, .int x), (2, .int y), (3, .int z9), (4, .ref z)] := hl
  refine lv_iconst (v := nI 1) hx hb dL_block_16 (by decide +kernel) ?_
  refine W.widen (k := 1) (n := 6) (by omega) (by omega) ?_
  exact W.iret (v := nI 1) hx hb hr (fun t9 ht9 _ => ⟨⟨_, (), rfl, rfl, by show va_P _ _ _ t9.heap; rw [ht9]; exact hP⟩, hS.F ht9⟩) hS.2.2 dL_block_17
set_option maxHeartbeats 4000000 in
set_option maxRecDepth 100000 in
theorem mL_block_s (l : Launch) (hls : l.stackTraces = false) (D : va_G) (o a b : Nat) (cA iA : ClassId) (cf : Nat → Int64) (uf : Nat → Int32) (z : Nat) (oA : ClassId) (ou : Nat → Int64) (sz : Nat) (d t h : Nat) (hd : d < 5) (ht : t < 100) (hh : h < 2) (hu : uf d = -1) : Met l yL_block (.codeWith yL_block cL_block 6 (some .int) [(0, 11, 14, 13), (0, 11, 18, 28)] :: gW) ({ frames := 9, cells := 1, slots := 6, locals := 162 }) (pL D (wXo o a b z cA iA oA cf uf ou) (kTo cA iA oA) sz [.ref o, .int (nI d), .int (nI t), .int (nI h), .ref z]) (QI (nI 2) D (wXo o a b z cA iA oA cf uf ou) (va_A (wXo o a b z cA iA oA cf uf ou) sz)) 1 6 (va_A (wXo o a b z cA iA oA cf uf ou) sz) := by
  refine va_MetW (cc := cL_block) (maxL := 6) (ret := (some .int)) (hh := [(0, 11, 14, 13), (0, 11, 18, 28)]) (by decide) rfl ?_
  intro p e s m args below meth c s₁ B hml hv
  obtain ⟨rfl, hsz, hxL, hP, hK, hD0⟩ := hv
  have hx := B.exec
  have hb := B.bytes
  have hr := B.returns
  have hts := atoms_spec (ws := (.codeWith yL_block cL_block 6 (some .int) [(0, 11, 14, 13), (0, 11, 18, 28)] :: gW)) B.pre
  have hg : ∀ w ∈ gW, w.before ([.ref o, .int (nI d), .int (nI t), .int (nI h), .ref z]).toArray s = true := fun w h => hts w (List.mem_cons_of_mem _ h)
  have hown : s.vm.findClass R_L = some m.cls := findClass_of_methodNamed B.named
  have hlocks := B.notSynchronized
  subst hsz
  have hD := hD0.self (sz := s.heap.size)
  generalize hAe : va_A (wXo o a b z cA iA oA cf uf ou) s.heap.size = A at hD ⊢
  have hA : ∀ q : Nat, s.heap.size ≤ q → A q := fun q h => by rw [← hAe]; exact Or.inr h
  have hS : va_S A s.heap s.heap [] := va_S.rf
  have hP : va_P D cls_ (wXo o a b z cA iA oA cf uf ou) s.heap := hP
  have htab : c.exceptionTable.toList = [⟨0, 11, 14, 13⟩, ⟨0, 11, 18, 28⟩] := vx_table (x := objectInit) B (hts _ List.mem_cons_self)
  have hl := lv_entry ([.ref o, .int (nI d), .int (nI t), .int (nI h), .ref z]) (n := 6) (Nat.le_of_ble_eq_true rfl)
  rw [lg_entry_eq]
  generalize (lg_sl ([.ref o, .int (nI d), .int (nI t), .int (nI h), .ref z]) ++ List.replicate (6 - (lg_sl ([.ref o, .int (nI d), .int (nI t), .int (nI h), .ref z])).length) Slot.unset).toArray = ls at hl ⊢
  have hl : lv_has ls 6 [(0, .ref o), (1, .int (nI d)), (2, .int (nI t)), (3, .int (nI h)), (4, .ref z)] := hl
  refine lv_aload hx hb dL_block_0 (lv_at hl 4 rfl) ?_
  refine lv_iconst (v := nI 0) hx hb dL_block_2 (by decide +kernel) ?_
  refine lv_aload_n hx hb dL_block_3 rfl (lv_at hl 0 rfl) ?_
  refine lv_iload_n hx hb dL_block_4 rfl (lv_at hl 1 rfl) ?_
  refine lv_iload_n hx hb dL_block_5 rfl (lv_at hl 2 rfl) ?_
  refine lv_iload_n hx hb dL_block_6 rfl (lv_at hl 3 rfl) ?_
  have hPc := hP.sub (ws' := wX o a b cA iA cf uf) [0, 1, 2] rfl
  have hKc := hK.sub (tys' := kT cA iA) [0, 1] rfl
  refine cthL (A := A) (hpc := 18) (n := 3) (As := [.int (nI d), .int (nI t), .int (nI h)]) (rest := [.int (nI 0), .ref z]) ⟨hx, hb, hml, hown, hts⟩ (mX_block_s l hls D o a b cA iA cf uf d t h hd ht hh hu) w_253 w_254 w_255 w_1 w_256 (by decide +kernel) ⟨rfl, rfl⟩ ⟨(Nat.le_of_ble_eq_true rfl), (Nat.le_of_ble_eq_true rfl)⟩ hxL.1 hPc hKc 0 0 rfl rfl rfl hl.1 rfl (Nat.le_of_ble_eq_true rfl) dL_block_7 ⟨(Nat.le_of_ble_eq_true rfl), (Nat.le_of_ble_eq_true rfl)⟩ (by decide +kernel) (cat2 htab (by decide) (hg _ w_74) hxL.2.2 (by decide) (by decide) (hg _ w_197)) (fun H locs q9 hk9 hS => ?_)
  have hP : va_P D cls_ (wXo o a b z cA iA oA cf uf ou) H := hP.kept (fun k q hq9 => hk9 q.1 (vx_lt hP hq9))
  refine lv_astore hx hb dL_block_18 hl (by decide) rfl (fun ls hl => ?_)
  have hl : lv_has ls 6 [(5, .ref q9), (0, .ref o), (1, .int (nI d)), (2, .int (nI t)), (3, .int (nI h)), (4, .ref z)] := hl
  refine lv_iconst (v := nI 2) hx hb dL_block_20 (by decide +kernel) ?_
  refine W.widen (k := 1) (n := 6) (by omega) (by omega) ?_
  exact W.iret (v := nI 2) hx hb hr (fun t9 ht9 _ => ⟨⟨_, (), rfl, rfl, by show va_P _ _ _ t9.heap; rw [ht9]; exact hP⟩, hS.F ht9⟩) hS.2.2 dL_block_21
set_option maxHeartbeats 4000000 in
set_option maxRecDepth 100000 in
theorem mL_state_ok (l : Launch) (D : va_G) (o a b : Nat) (cA iA : ClassId) (cf : Nat → Int64) (uf : Nat → Int32) (z : Nat) (oA : ClassId) (ou : Nat → Int64) (sz : Nat) (d : Nat) (hd : d < 5) : Met l yL_state (.codeWith yL_state cL_state 4 (some .int) [(0, 9, 12, 13)] :: gW) ({ frames := 8, cells := 1, slots := 6, locals := 138 }) (pL D (wXo o a b z cA iA oA cf uf ou) (kTo cA iA oA) sz [.ref o, .int (nI d), .ref z]) (QI (nI 0) D (wXo o a b z cA iA oA cf uf (vp_updL ou 0 ((sv (uf d)).toInt64))) (va_A (wXo o a b z cA iA oA cf uf ou) sz)) 1 6 (va_A (wXo o a b z cA iA oA cf uf ou) sz) := by
  refine va_MetW (cc := cL_state) (maxL := 4) (ret := (some .int)) (hh := [(0, 9, 12, 13)]) (by decide) rfl ?_
  intro p e s m args below meth c s₁ B hml hv
  obtain ⟨rfl, hsz, hxL, hP, hK, hD0⟩ := hv
  have hx := B.exec
  have hb := B.bytes
  have hr := B.returns
  have hts := atoms_spec (ws := (.codeWith yL_state cL_state 4 (some .int) [(0, 9, 12, 13)] :: gW)) B.pre
  have hg : ∀ w ∈ gW, w.before ([.ref o, .int (nI d), .ref z]).toArray s = true := fun w h => hts w (List.mem_cons_of_mem _ h)
  have hown : s.vm.findClass R_L = some m.cls := findClass_of_methodNamed B.named
  have hlocks := B.notSynchronized
  subst hsz
  have hD := hD0.self (sz := s.heap.size)
  generalize hAe : va_A (wXo o a b z cA iA oA cf uf ou) s.heap.size = A at hD ⊢
  have hA : ∀ q : Nat, s.heap.size ≤ q → A q := fun q h => by rw [← hAe]; exact Or.inr h
  have hS : va_S A s.heap s.heap [] := va_S.rf
  have hP : va_P D cls_ (wXo o a b z cA iA oA cf uf ou) s.heap := hP
  have hl := lv_entry ([.ref o, .int (nI d), .ref z]) (n := 4) (Nat.le_of_ble_eq_true rfl)
  rw [lg_entry_eq]
  generalize (lg_sl ([.ref o, .int (nI d), .ref z]) ++ List.replicate (4 - (lg_sl ([.ref o, .int (nI d), .ref z])).length) Slot.unset).toArray = ls at hl ⊢
  have hl : lv_has ls 4 [(0, .ref o), (1, .int (nI d)), (2, .ref z)] := hl
  refine lv_aload_n hx hb dL_state_0 rfl (lv_at hl 2 rfl) ?_
  refine lv_iconst (v := nI 0) hx hb dL_state_1 (by decide +kernel) ?_
  refine lv_aload_n hx hb dL_state_2 rfl (lv_at hl 0 rfl) ?_
  refine lv_iload_n hx hb dL_state_3 rfl (lv_at hl 1 rfl) ?_
  have hPc := hP.sub (ws' := wX o a b cA iA cf uf) [0, 1, 2] rfl
  have hKc := hK.sub (tys' := kT cA iA) [0, 1] rfl
  refine kV (n := 1) (As := [.int (nI d)]) (rest := [.int (nI 0), .ref z]) ⟨hx, hb, hml, hown, hts⟩ (mX_state_ok l D o a b cA iA cf uf d hd) w_260 w_261 w_262 w_1 w_263 (by decide +kernel) ⟨rfl, rfl⟩ ⟨(Nat.le_of_ble_eq_true rfl), (Nat.le_of_ble_eq_true rfl)⟩ hPc hKc 0 0 rfl rfl rfl hl.1 rfl (Nat.le_of_ble_eq_true rfl) dL_state_4 ⟨Nat.zero_le _, Nat.zero_le _⟩ ?_
  refine lv_i2l (v := (sv (uf d)).toInt64) hx hb dL_state_7 rfl ?_
  refine sL hx hb hK hP hD hS 3 2 rfl rfl (by decide) (by decide) dL_state_8 (fun H locs hP hD hS => ?_)
  have hP : va_P D cls_ (wXo o a b z cA iA oA cf uf (vp_updL ou 0 ((sv (uf d)).toInt64))) H := hP
  have hD : va_D A (wXo o a b z cA iA oA cf uf (vp_updL ou 0 ((sv (uf d)).toInt64))) := hD
  refine lv_goto (tgt := 15) hx hb dL_state_9 (by decide) ?_
  refine lv_iconst (v := nI 0) hx hb dL_state_15 (by decide +kernel) ?_
  refine W.widen (k := 1) (n := 6) (by omega) (by omega) ?_
  exact W.iret (v := nI 0) hx hb hr (fun t9 ht9 _ => ⟨⟨_, (), rfl, rfl, by show va_P _ _ _ t9.heap; rw [ht9]; exact hP⟩, hS.F ht9⟩) hS.2.2 dL_state_16
set_option maxHeartbeats 4000000 in
set_option maxRecDepth 100000 in
theorem mL_state_a (l : Launch) (hls : l.stackTraces = false) (D : va_G) (o a b : Nat) (cA iA : ClassId) (cf : Nat → Int64) (uf : Nat → Int32) (z : Nat) (oA : ClassId) (ou : Nat → Int64) (sz : Nat) (x : Int32) (hbad : inR x 5 = false) : Met l yL_state (.codeWith yL_state cL_state 4 (some .int) [(0, 9, 12, 13)] :: gW) ({ frames := 8, cells := 1, slots := 6, locals := 138 }) (pL D (wXo o a b z cA iA oA cf uf ou) (kTo cA iA oA) sz [.ref o, .int x, .ref z]) (QI (nI 1) D (wXo o a b z cA iA oA cf uf ou) (va_A (wXo o a b z cA iA oA cf uf ou) sz)) 1 6 (va_A (wXo o a b z cA iA oA cf uf ou) sz) := by
  refine va_MetW (cc := cL_state) (maxL := 4) (ret := (some .int)) (hh := [(0, 9, 12, 13)]) (by decide) rfl ?_
  intro p e s m args below meth c s₁ B hml hv
  obtain ⟨rfl, hsz, hxL, hP, hK, hD0⟩ := hv
  have hx := B.exec
  have hb := B.bytes
  have hr := B.returns
  have hts := atoms_spec (ws := (.codeWith yL_state cL_state 4 (some .int) [(0, 9, 12, 13)] :: gW)) B.pre
  have hg : ∀ w ∈ gW, w.before ([.ref o, .int x, .ref z]).toArray s = true := fun w h => hts w (List.mem_cons_of_mem _ h)
  have hown : s.vm.findClass R_L = some m.cls := findClass_of_methodNamed B.named
  have hlocks := B.notSynchronized
  subst hsz
  have hD := hD0.self (sz := s.heap.size)
  generalize hAe : va_A (wXo o a b z cA iA oA cf uf ou) s.heap.size = A at hD ⊢
  have hA : ∀ q : Nat, s.heap.size ≤ q → A q := fun q h => by rw [← hAe]; exact Or.inr h
  have hS : va_S A s.heap s.heap [] := va_S.rf
  have hP : va_P D cls_ (wXo o a b z cA iA oA cf uf ou) s.heap := hP
  have htab : c.exceptionTable.toList = [⟨0, 9, 12, 13⟩] := vx_table (x := objectInit) B (hts _ List.mem_cons_self)
  have hl := lv_entry ([.ref o, .int x, .ref z]) (n := 4) (Nat.le_of_ble_eq_true rfl)
  rw [lg_entry_eq]
  generalize (lg_sl ([.ref o, .int x, .ref z]) ++ List.replicate (4 - (lg_sl ([.ref o, .int x, .ref z])).length) Slot.unset).toArray = ls at hl ⊢
  have hl : lv_has ls 4 [(0, .ref o), (1, .int x), (2, .ref z)] := hl
  refine lv_aload_n hx hb dL_state_0 rfl (lv_at hl 2 rfl) ?_
  refine lv_iconst (v := nI 0) hx hb dL_state_1 (by decide +kernel) ?_
  refine lv_aload_n hx hb dL_state_2 rfl (lv_at hl 0 rfl) ?_
  refine lv_iload_n hx hb dL_state_3 rfl (lv_at hl 1 rfl) ?_
  have hPc := hP.sub (ws' := wX o a b cA iA cf uf) [0, 1, 2] rfl
  have hKc := hK.sub (tys' := kT cA iA) [0, 1] rfl
  refine cthI (A := A) (hpc := 12) (n := 1) (As := [.int x]) (rest := [.int (nI 0), .ref z]) ⟨hx, hb, hml, hown, hts⟩ (mX_state_a l hls D o a b cA iA cf uf x hbad) w_260 w_261 w_262 w_1 w_263 (by decide +kernel) ⟨rfl, rfl⟩ ⟨(Nat.le_of_ble_eq_true rfl), (Nat.le_of_ble_eq_true rfl)⟩ hxL.1 hPc hKc 0 0 rfl rfl rfl hl.1 rfl (Nat.le_of_ble_eq_true rfl) dL_state_4 ⟨(Nat.le_of_ble_eq_true rfl), (Nat.le_of_ble_eq_true rfl)⟩ (by decide +kernel) (cat1 htab (by decide) (by decide) (hg _ w_74)) (fun H locs q9 hk9 hS => ?_)
  have hP : va_P D cls_ (wXo o a b z cA iA oA cf uf ou) H := hP.kept (fun k q hq9 => hk9 q.1 (vx_lt hP hq9))
  refine lv_astore_n hx hb dL_state_12 rfl hl (by decide) rfl (fun ls hl => ?_)
  have hl : lv_has ls 4 [(3, .ref q9), (0, .ref o), (1, .int x), (2, .ref z)] := hl
  refine lv_iconst (v := nI 1) hx hb dL_state_13 (by decide +kernel) ?_
  refine W.widen (k := 1) (n := 6) (by omega) (by omega) ?_
  exact W.iret (v := nI 1) hx hb hr (fun t9 ht9 _ => ⟨⟨_, (), rfl, rfl, by show va_P _ _ _ t9.heap; rw [ht9]; exact hP⟩, hS.F ht9⟩) hS.2.2 dL_state_14
