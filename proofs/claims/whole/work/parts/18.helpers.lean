set_option maxHeartbeats 4000000 in
set_option maxRecDepth 100000 in
theorem mL_read_ok (l : Launch) (D : va_G) (o a b : Nat) (cA iA : ClassId) (cf : Nat → Int64) (uf : Nat → Int32) (z : Nat) (oA : ClassId) (ou : Nat → Int64) (sz : Nat) (q h : Nat) (hq : q < 400) (hh : h < 2) (hil : il uf (dk q) (q / 4) = false) : Met l yL_read (.codeWith yL_read cL_read 5 (some .int) [(0, 9, 12, 13), (0, 9, 16, 15)] :: gW) ({ frames := 8, cells := 1, slots := 6, locals := 140 }) (pL D (wXo o a b z cA iA oA cf uf ou) (kTo cA iA oA) sz [.ref o, .int (nI q), .int (nI h), .ref z]) (QI (nI 0) D (wXo o a b z cA iA oA cf uf (vp_updL ou 0 (wh cf uf (dk q) (q / 4) h))) (va_A (wXo o a b z cA iA oA cf uf ou) sz)) 1 6 (va_A (wXo o a b z cA iA oA cf uf ou) sz) := by
  refine va_MetW (cc := cL_read) (maxL := 5) (ret := (some .int)) (hh := [(0, 9, 12, 13), (0, 9, 16, 15)]) (by decide) rfl ?_
  intro p e s m args below meth c s₁ B hml hv
  obtain ⟨rfl, hsz, hxL, hP, hK, hD0⟩ := hv
  have hx := B.exec
  have hb := B.bytes
  have hr := B.returns
  have hts := atoms_spec (ws := (.codeWith yL_read cL_read 5 (some .int) [(0, 9, 12, 13), (0, 9, 16, 15)] :: gW)) B.pre
  have hg : ∀ w ∈ gW, w.before ([.ref o, .int (nI q), .int (nI h), .ref z]).toArray s = true := fun w h => hts w (List.mem_cons_of_mem _ h)
  have hown : s.vm.findClass R_L = some m.cls := findClass_of_methodNamed B.named
  have hlocks := B.notSynchronized
  subst hsz
  have hD := hD0.self (sz := s.heap.size)
  generalize hAe : va_A (wXo o a b z cA iA oA cf uf ou) s.heap.size = A at hD ⊢
  have hA : ∀ q : Nat, s.heap.size ≤ q → A q := fun q h => by rw [← hAe]; exact Or.inr h
  have hS : va_S A s.heap s.heap [] := va_S.rf
  have hP : va_P D cls_ (wXo o a b z cA iA oA cf uf ou) s.heap := hP
  have hl := lv_entry ([.ref o, .int (nI q), .int (nI h), .ref z]) (n := 5) (Nat.le_of_ble_eq_true rfl)
  rw [lg_entry_eq]
  generalize (lg_sl ([.ref o, .int (nI q), .int (nI h), .ref z]) ++ List.replicate (5 - (lg_sl ([.ref o, .int (nI q), .int (nI h), .ref z])).length) Slot.unset).toArray = ls at hl ⊢
  have hl : lv_has ls 5 [(0, .ref o), (1, .int (nI q)), (2, .int (nI h)), (3, .ref z)] := hl
  refine lv_aload_n hx hb dL_read_0 rfl (lv_at hl 3 rfl) ?_
  refine lv_iconst (v := nI 0) hx hb dL_read_1 (by decide +kernel) ?_
  refine lv_aload_n hx hb dL_read_2 rfl (lv_at hl 0 rfl) ?_
  refine lv_iload_n hx hb dL_read_3 rfl (lv_at hl 1 rfl) ?_
  refine lv_iload_n hx hb dL_read_4 rfl (lv_at hl 2 rfl) ?_
  have hPc := hP.sub (ws' := wX o a b cA iA cf uf) [0, 1, 2] rfl
  have hKc := hK.sub (tys' := kT cA iA) [0, 1] rfl
  refine kV (n := 2) (As := [.int (nI q), .int (nI h)]) (rest := [.int (nI 0), .ref z]) ⟨hx, hb, hml, hown, hts⟩ (mX_read_ok l D o a b cA iA cf uf q h hq hh hil) w_76 w_77 w_78 w_1 w_79 (by decide +kernel) ⟨rfl, rfl⟩ ⟨(Nat.le_of_ble_eq_true rfl), (Nat.le_of_ble_eq_true rfl)⟩ hPc hKc 0 0 rfl rfl rfl hl.1 rfl (Nat.le_of_ble_eq_true rfl) dL_read_5 ⟨Nat.zero_le _, Nat.zero_le _⟩ ?_
  refine sL hx hb hK hP hD hS 3 2 rfl rfl (by decide) (by decide) dL_read_8 (fun H locs hP hD hS => ?_)
  have hP : va_P D cls_ (wXo o a b z cA iA oA cf uf (vp_updL ou 0 (wh cf uf (dk q) (q / 4) h))) H := hP
  have hD : va_D A (wXo o a b z cA iA oA cf uf (vp_updL ou 0 (wh cf uf (dk q) (q / 4) h))) := hD
  refine lv_goto (tgt := 20) hx hb dL_read_9 (by decide) ?_
  refine lv_iconst (v := nI 0) hx hb dL_read_20 (by decide +kernel) ?_
  refine W.widen (k := 1) (n := 6) (by omega) (by omega) ?_
  exact W.iret (v := nI 0) hx hb hr (fun t9 ht9 _ => ⟨⟨_, (), rfl, rfl, by show va_P _ _ _ t9.heap; rw [ht9]; exact hP⟩, hS.F ht9⟩) hS.2.2 dL_read_21
set_option maxHeartbeats 4000000 in
set_option maxRecDepth 100000 in
theorem mL_read_a (l : Launch) (hls : l.stackTraces = false) (D : va_G) (o a b : Nat) (cA iA : ClassId) (cf : Nat → Int64) (uf : Nat → Int32) (z : Nat) (oA : ClassId) (ou : Nat → Int64) (sz : Nat) (x y : Int32) (hbad : (inR x 400 && inR y 2) = false) : Met l yL_read (.codeWith yL_read cL_read 5 (some .int) [(0, 9, 12, 13), (0, 9, 16, 15)] :: gW) ({ frames := 8, cells := 1, slots := 6, locals := 140 }) (pL D (wXo o a b z cA iA oA cf uf ou) (kTo cA iA oA) sz [.ref o, .int x, .int y, .ref z]) (QI (nI 1) D (wXo o a b z cA iA oA cf uf ou) (va_A (wXo o a b z cA iA oA cf uf ou) sz)) 1 6 (va_A (wXo o a b z cA iA oA cf uf ou) sz) := by
  refine va_MetW (cc := cL_read) (maxL := 5) (ret := (some .int)) (hh := [(0, 9, 12, 13), (0, 9, 16, 15)]) (by decide) rfl ?_
  intro p e s m args below meth c s₁ B hml hv
  obtain ⟨rfl, hsz, hxL, hP, hK, hD0⟩ := hv
  have hx := B.exec
  have hb := B.bytes
  have hr := B.returns
  have hts := atoms_spec (ws := (.codeWith yL_read cL_read 5 (some .int) [(0, 9, 12, 13), (0, 9, 16, 15)] :: gW)) B.pre
  have hg : ∀ w ∈ gW, w.before ([.ref o, .int x, .int y, .ref z]).toArray s = true := fun w h => hts w (List.mem_cons_of_mem _ h)
  have hown : s.vm.findClass R_L = some m.cls := findClass_of_methodNamed B.named
  have hlocks := B.notSynchronized
  subst hsz
  have hD := hD0.self (sz := s.heap.size)
  generalize hAe : va_A (wXo o a b z cA iA oA cf uf ou) s.heap.size = A at hD ⊢
  have hA : ∀ q : Nat, s.heap.size ≤ q → A q := fun q h => by rw [← hAe]; exact Or.inr h
  have hS : va_S A s.heap s.heap [] := va_S.rf
  have hP : va_P D cls_ (wXo o a b z cA iA oA cf uf ou) s.heap := hP
  have htab : c.exceptionTable.toList = [⟨0, 9, 12, 13⟩, ⟨0, 9, 16, 15⟩] := vx_table (x := objectInit) B (hts _ List.mem_cons_self)
  have hl := lv_entry ([.ref o, .int x, .int y, .ref z]) (n := 5) (Nat.le_of_ble_eq_true rfl)
  rw [lg_entry_eq]
  generalize (lg_sl ([.ref o, .int x, .int y, .ref z]) ++ List.replicate (5 - (lg_sl ([.ref o, .int x, .int y, .ref z])).length) Slot.unset).toArray = ls at hl ⊢
  have hl : lv_has ls 5 [(0, .ref o), (1, .int x), (2, .int y), (3, .ref z)] := hl
  refine lv_aload_n hx hb dL_read_0 rfl (lv_at hl 3 rfl) ?_
  refine lv_iconst (v := nI 0) hx hb dL_read_1 (by decide +kernel) ?_
  refine lv_aload_n hx hb dL_read_2 rfl (lv_at hl 0 rfl) ?_
  refine lv_iload_n hx hb dL_read_3 rfl (lv_at hl 1 rfl) ?_
  refine lv_iload_n hx hb dL_read_4 rfl (lv_at hl 2 rfl) ?_
  have hPc := hP.sub (ws' := wX o a b cA iA cf uf) [0, 1, 2] rfl
  have hKc := hK.sub (tys' := kT cA iA) [0, 1] rfl
  refine cthL (A := A) (hpc := 12) (n := 2) (As := [.int x, .int y]) (rest := [.int (nI 0), .ref z]) ⟨hx, hb, hml, hown, hts⟩ (mX_read_a l hls D o a b cA iA cf uf x y hbad) w_76 w_77 w_78 w_1 w_79 (by decide +kernel) ⟨rfl, rfl⟩ ⟨(Nat.le_of_ble_eq_true rfl), (Nat.le_of_ble_eq_true rfl)⟩ hxL.1 hPc hKc 0 0 rfl rfl rfl hl.1 rfl (Nat.le_of_ble_eq_true rfl) dL_read_5 ⟨(Nat.le_of_ble_eq_true rfl), (Nat.le_of_ble_eq_true rfl)⟩ (by decide +kernel) (cat1 htab (by decide) (by decide) (hg _ w_74)) (fun H locs q9 hk9 hS => ?_)
  have hP : va_P D cls_ (wXo o a b z cA iA oA cf uf ou) H := hP.kept (fun k q hq9 => hk9 q.1 (vx_lt hP hq9))
  refine lv_astore hx hb dL_read_12 hl (by decide) rfl (fun ls hl => ?_)
  have hl : lv_has ls 5 [(4, .ref q9), (0, .ref o), (1, .int x), (2, .int y), (3, .ref z)] := hl
  refine lv_iconst (v := nI 1) hx hb dL_read_14 (by decide +kernel) ?_
  refine W.widen (k := 1) (n := 6) (by omega) (by omega) ?_
  exact W.iret (v := nI 1) hx hb hr (fun t9 ht9 _ => ⟨⟨_, (), rfl, rfl, by show va_P _ _ _ t9.heap; rw [ht9]; exact hP⟩, hS.F ht9⟩) hS.2.2 dL_read_15
set_option maxHeartbeats 4000000 in
set_option maxRecDepth 100000 in
theorem mL_read_u (l : Launch) (hls : l.stackTraces = false) (D : va_G) (o a b : Nat) (cA iA : ClassId) (cf : Nat → Int64) (uf : Nat → Int32) (z : Nat) (oA : ClassId) (ou : Nat → Int64) (sz : Nat) (q h : Nat) (hq : q < 400) (hh : h < 2) (hil : il uf (dk q) (q / 4) = true) : Met l yL_read (.codeWith yL_read cL_read 5 (some .int) [(0, 9, 12, 13), (0, 9, 16, 15)] :: gW) ({ frames := 8, cells := 1, slots := 6, locals := 140 }) (pL D (wXo o a b z cA iA oA cf uf ou) (kTo cA iA oA) sz [.ref o, .int (nI q), .int (nI h), .ref z]) (QI (nI 2) D (wXo o a b z cA iA oA cf uf ou) (va_A (wXo o a b z cA iA oA cf uf ou) sz)) 1 6 (va_A (wXo o a b z cA iA oA cf uf ou) sz) := by
  refine va_MetW (cc := cL_read) (maxL := 5) (ret := (some .int)) (hh := [(0, 9, 12, 13), (0, 9, 16, 15)]) (by decide) rfl ?_
  intro p e s m args below meth c s₁ B hml hv
  obtain ⟨rfl, hsz, hxL, hP, hK, hD0⟩ := hv
  have hx := B.exec
  have hb := B.bytes
  have hr := B.returns
  have hts := atoms_spec (ws := (.codeWith yL_read cL_read 5 (some .int) [(0, 9, 12, 13), (0, 9, 16, 15)] :: gW)) B.pre
  have hg : ∀ w ∈ gW, w.before ([.ref o, .int (nI q), .int (nI h), .ref z]).toArray s = true := fun w h => hts w (List.mem_cons_of_mem _ h)
  have hown : s.vm.findClass R_L = some m.cls := findClass_of_methodNamed B.named
  have hlocks := B.notSynchronized
  subst hsz
  have hD := hD0.self (sz := s.heap.size)
  generalize hAe : va_A (wXo o a b z cA iA oA cf uf ou) s.heap.size = A at hD ⊢
  have hA : ∀ q : Nat, s.heap.size ≤ q → A q := fun q h => by rw [← hAe]; exact Or.inr h
  have hS : va_S A s.heap s.heap [] := va_S.rf
  have hP : va_P D cls_ (wXo o a b z cA iA oA cf uf ou) s.heap := hP
  have htab : c.exceptionTable.toList = [⟨0, 9, 12, 13⟩, ⟨0, 9, 16, 15⟩] := vx_table (x := objectInit) B (hts _ List.mem_cons_self)
  have hl := lv_entry ([.ref o, .int (nI q), .int (nI h), .ref z]) (n := 5) (Nat.le_of_ble_eq_true rfl)
  rw [lg_entry_eq]
  generalize (lg_sl ([.ref o, .int (nI q), .int (nI h), .ref z]) ++ List.replicate (5 - (lg_sl ([.ref o, .int (nI q), .int (nI h), .ref z])).length) Slot.unset).toArray = ls at hl ⊢
  have hl : lv_has ls 5 [(0, .ref o), (1, .int (nI q)), (2, .int (nI h)), (3, .ref z)] := hl
  refine lv_aload_n hx hb dL_read_0 rfl (lv_at hl 3 rfl) ?_
  refine lv_iconst (v := nI 0) hx hb dL_read_1 (by decide +kernel) ?_
  refine lv_aload_n hx hb dL_read_2 rfl (lv_at hl 0 rfl) ?_
  refine lv_iload_n hx hb dL_read_3 rfl (lv_at hl 1 rfl) ?_
  refine lv_iload_n hx hb dL_read_4 rfl (lv_at hl 2 rfl) ?_
  have hPc := hP.sub (ws' := wX o a b cA iA cf uf) [0, 1, 2] rfl
  have hKc := hK.sub (tys' := kT cA iA) [0, 1] rfl
  refine cthL (A := A) (hpc := 16) (n := 2) (As := [.int (nI q), .int (nI h)]) (rest := [.int (nI 0), .ref z]) ⟨hx, hb, hml, hown, hts⟩ (mX_read_u l hls D o a b cA iA cf uf q h hq hh hil) w_76 w_77 w_78 w_1 w_79 (by decide +kernel) ⟨rfl, rfl⟩ ⟨(Nat.le_of_ble_eq_true rfl), (Nat.le_of_ble_eq_true rfl)⟩ hxL.1 hPc hKc 0 0 rfl rfl rfl hl.1 rfl (Nat.le_of_ble_eq_true rfl) dL_read_5 ⟨(Nat.le_of_ble_eq_true rfl), (Nat.le_of_ble_eq_true rfl)⟩ (by decide +kernel) (cat2 htab (by decide) (hg _ w_74) hxL.2.1 (by decide) (by decide) (hg _ w_75)) (fun H locs q9 hk9 hS => ?_)
  have hP : va_P D cls_ (wXo o a b z cA iA oA cf uf ou) H := hP.kept (fun k q hq9 => hk9 q.1 (vx_lt hP hq9))
  refine lv_astore hx hb dL_read_16 hl (by decide) rfl (fun ls hl => ?_)
  have hl : lv_has ls 5 [(4, .ref q9), (0, .ref o), (1, .int (nI q)), (2, .int (nI h)), (3, .ref z)] := hl
  refine lv_iconst (v := nI 2) hx hb dL_read_18 (by decide +kernel) ?_
  refine W.widen (k := 1) (n := 6) (by omega) (by omega) ?_
  exact W.iret (v := nI 2) hx hb hr (fun t9 ht9 _ => ⟨⟨_, (), rfl, rfl, by show va_P _ _ _ t9.heap; rw [ht9]; exact hP⟩, hS.F ht9⟩) hS.2.2 dL_read_19
set_option maxHeartbeats 4000000 in
set_option maxRecDepth 100000 in
theorem mL_write_ok (l : Launch) (D : va_G) (o a b : Nat) (cA iA : ClassId) (cf : Nat → Int64) (uf : Nat → Int32) (sz : Nat) (q h : Nat) (hq : q < 400) (hh : h < 2) (v : Int64) (hil : il uf (dk q) (q / 4) = false) : Met l yL_write (.codeWith yL_write cL_write 6 (some .int) [(0, 7, 10, 13), (0, 7, 14, 15)] :: gW) ({ frames := 8, cells := 1, slots := 6, locals := 145 }) (pL D (wX o a b cA iA cf uf) (kT cA iA) sz [.ref o, .int (nI q), .int (nI h), .long v]) (QI (nI 0) D (wX o a b cA iA (wN cf uf q h v) uf) (va_A (wX o a b cA iA cf uf) sz)) 1 6 (va_A (wX o a b cA iA cf uf) sz) := by
  refine va_MetW (cc := cL_write) (maxL := 6) (ret := (some .int)) (hh := [(0, 7, 10, 13), (0, 7, 14, 15)]) (by decide) rfl ?_
  intro p e s m args below meth c s₁ B hml hv
  obtain ⟨rfl, hsz, hxL, hP, hK, hD0⟩ := hv
  have hx := B.exec
  have hb := B.bytes
  have hr := B.returns
  have hts := atoms_spec (ws := (.codeWith yL_write cL_write 6 (some .int) [(0, 7, 10, 13), (0, 7, 14, 15)] :: gW)) B.pre
  have hg : ∀ w ∈ gW, w.before ([.ref o, .int (nI q), .int (nI h), .long v]).toArray s = true := fun w h => hts w (List.mem_cons_of_mem _ h)
  have hown : s.vm.findClass R_L = some m.cls := findClass_of_methodNamed B.named
  have hlocks := B.notSynchronized
  subst hsz
  have hD := hD0.self (sz := s.heap.size)
  generalize hAe : va_A (wX o a b cA iA cf uf) s.heap.size = A at hD ⊢
  have hA : ∀ q : Nat, s.heap.size ≤ q → A q := fun q h => by rw [← hAe]; exact Or.inr h
  have hS : va_S A s.heap s.heap [] := va_S.rf
  have hP : va_P D cls_ (wX o a b cA iA cf uf) s.heap := hP
  have hl := lv_entry ([.ref o, .int (nI q), .int (nI h), .long v]) (n := 6) (Nat.le_of_ble_eq_true rfl)
  rw [lg_entry_eq]
  generalize (lg_sl ([.ref o, .int (nI q), .int (nI h), .long v]) ++ List.replicate (6 - (lg_sl ([.ref o, .int (nI q), .int (nI h), .long v])).length) Slot.unset).toArray = ls at hl ⊢
  have hl : lv_has ls 6 [(0, .ref o), (1, .int (nI q)), (2, .int (nI h)), (3, .long v)] := hl
  refine lv_aload_n hx hb dL_write_0 rfl (lv_at hl 0 rfl) ?_
  refine lv_iload_n hx hb dL_write_1 rfl (lv_at hl 1 rfl) ?_
  refine lv_iload_n hx hb dL_write_2 rfl (lv_at hl 2 rfl) ?_
  refine lv_lload_n hx hb dL_write_3 rfl (lv_at hl 3 rfl) ?_
  refine kVv (n := 3) (As := [.int (nI q), .int (nI h), .long v]) (rest := []) ⟨hx, hb, hml, hown, hts⟩ (mX_write_ok l D o a b cA iA cf uf s.heap.size q h hq hh v hil) w_178 w_179 w_180 w_1 w_181 (by decide +kernel) ⟨rfl, rfl⟩ ⟨(Nat.le_of_ble_eq_true rfl), (Nat.le_of_ble_eq_true rfl)⟩ hP hK hD hS hA rfl 0 0 rfl rfl rfl hl.1 rfl (Nat.le_of_ble_eq_true rfl) dL_write_4 ⟨Nat.zero_le _, Nat.zero_le _⟩ (fun H locs hP hD hS => ?_)
  refine lv_goto (tgt := 18) hx hb dL_write_7 (by decide) ?_
  refine lv_iconst (v := nI 0) hx hb dL_write_18 (by decide +kernel) ?_
  refine W.widen (k := 1) (n := 6) (by omega) (by omega) ?_
  exact W.iret (v := nI 0) hx hb hr (fun t9 ht9 _ => ⟨⟨_, (), rfl, rfl, by show va_P _ _ _ t9.heap; rw [ht9]; exact hP⟩, hS.F ht9⟩) hS.2.2 dL_write_19
set_option maxHeartbeats 4000000 in
set_option maxRecDepth 100000 in
theorem mL_write_a (l : Launch) (hls : l.stackTraces = false) (D : va_G) (o a b : Nat) (cA iA : ClassId) (cf : Nat → Int64) (uf : Nat → Int32) (sz : Nat) (x y : Int32) (v : Int64) (hbad : (inR x 400 && inR y 2) = false) : Met l yL_write (.codeWith yL_write cL_write 6 (some .int) [(0, 7, 10, 13), (0, 7, 14, 15)] :: gW) ({ frames := 8, cells := 1, slots := 6, locals := 145 }) (pL D (wX o a b cA iA cf uf) (kT cA iA) sz [.ref o, .int x, .int y, .long v]) (QI (nI 1) D (wX o a b cA iA cf uf) (va_A (wX o a b cA iA cf uf) sz)) 1 6 (va_A (wX o a b cA iA cf uf) sz) := by
  refine va_MetW (cc := cL_write) (maxL := 6) (ret := (some .int)) (hh := [(0, 7, 10, 13), (0, 7, 14, 15)]) (by decide) rfl ?_
  intro p e s m args below meth c s₁ B hml hv
  obtain ⟨rfl, hsz, hxL, hP, hK, hD0⟩ := hv
  have hx := B.exec
  have hb := B.bytes
  have hr := B.returns
  have hts := atoms_spec (ws := (.codeWith yL_write cL_write 6 (some .int) [(0, 7, 10, 13), (0, 7, 14, 15)] :: gW)) B.pre
  have hg : ∀ w ∈ gW, w.before ([.ref o, .int x, .int y, .long v]).toArray s = true := fun w h => hts w (List.mem_cons_of_mem _ h)
  have hown : s.vm.findClass R_L = some m.cls := findClass_of_methodNamed B.named
  have hlocks := B.notSynchronized
  subst hsz
  have hD := hD0.self (sz := s.heap.size)
  generalize hAe : va_A (wX o a b cA iA cf uf) s.heap.size = A at hD ⊢
  have hA : ∀ q : Nat, s.heap.size ≤ q → A q := fun q h => by rw [← hAe]; exact Or.inr h
  have hS : va_S A s.heap s.heap [] := va_S.rf
  have hP : va_P D cls_ (wX o a b cA iA cf uf) s.heap := hP
  have htab : c.exceptionTable.toList = [⟨0, 7, 10, 13⟩, ⟨0, 7, 14, 15⟩] := vx_table (x := objectInit) B (hts _ List.mem_cons_self)
  have hl := lv_entry ([.ref o, .int x, .int y, .long v]) (n := 6) (Nat.le_of_ble_eq_true rfl)
  rw [lg_entry_eq]
  generalize (lg_sl ([.ref o, .int x, .int y, .long v]) ++ List.replicate (6 - (lg_sl ([.ref o, .int x, .int y, .long v])).length) Slot.unset).toArray = ls at hl ⊢
  have hl : lv_has ls 6 [(0, .ref o), (1, .int x), (2, .int y), (3, .long v)] := hl
  refine lv_aload_n hx hb dL_write_0 rfl (lv_at hl 0 rfl) ?_
  refine lv_iload_n hx hb dL_write_1 rfl (lv_at hl 1 rfl) ?_
  refine lv_iload_n hx hb dL_write_2 rfl (lv_at hl 2 rfl) ?_
  refine lv_lload_n hx hb dL_write_3 rfl (lv_at hl 3 rfl) ?_
  refine cthV (A := A) (hpc := 10) (n := 3) (As := [.int x, .int y, .long v]) (rest := []) ⟨hx, hb, hml, hown, hts⟩ (mX_write_a l hls D o a b cA iA cf uf x y v hbad) w_178 w_179 w_180 w_1 w_181 (by decide +kernel) ⟨rfl, rfl⟩ ⟨(Nat.le_of_ble_eq_true rfl), (Nat.le_of_ble_eq_true rfl)⟩ hxL.1 hP hK 0 0 rfl rfl rfl hl.1 rfl (Nat.le_of_ble_eq_true rfl) dL_write_4 ⟨(Nat.le_of_ble_eq_true rfl), (Nat.le_of_ble_eq_true rfl)⟩ (by decide +kernel) (cat1 htab (by decide) (by decide) (hg _ w_74)) (fun H locs q9 hk9 hS => ?_)
  have hP : va_P D cls_ (wX o a b cA iA cf uf) H := hP.kept (fun k q hq9 => hk9 q.1 (vx_lt hP hq9))
  refine lv_astore hx hb dL_write_10 hl (by decide) rfl (fun ls hl => ?_)
  have hl : lv_has ls 6 [(5, .ref q9), (0, .ref o), (1, .int x), (2, .int y), (3, .long v)] := hl
  refine lv_iconst (v := nI 1) hx hb dL_write_12 (by decide +kernel) ?_
  refine W.widen (k := 1) (n := 6) (by omega) (by omega) ?_
  exact W.iret (v := nI 1) hx hb hr (fun t9 ht9 _ => ⟨⟨_, (), rfl, rfl, by show va_P _ _ _ t9.heap; rw [ht9]; exact hP⟩, hS.F ht9⟩) hS.2.2 dL_write_13
set_option maxHeartbeats 4000000 in
set_option maxRecDepth 100000 in
theorem mL_write_u (l : Launch) (hls : l.stackTraces = false) (D : va_G) (o a b : Nat) (cA iA : ClassId) (cf : Nat → Int64) (uf : Nat → Int32) (sz : Nat) (q h : Nat) (hq : q < 400) (hh : h < 2) (v : Int64) (hil : il uf (dk q) (q / 4) = true) : Met l yL_write (.codeWith yL_write cL_write 6 (some .int) [(0, 7, 10, 13), (0, 7, 14, 15)] :: gW) ({ frames := 8, cells := 1, slots := 6, locals := 145 }) (pL D (wX o a b cA iA cf uf) (kT cA iA) sz [.ref o, .int (nI q), .int (nI h), .long v]) (QI (nI 2) D (wX o a b cA iA cf uf) (va_A (wX o a b cA iA cf uf) sz)) 1 6 (va_A (wX o a b cA iA cf uf) sz) := by
  refine va_MetW (cc := cL_write) (maxL := 6) (ret := (some .int)) (hh := [(0, 7, 10, 13), (0, 7, 14, 15)]) (by decide) rfl ?_
  intro p e s m args below meth c s₁ B hml hv
  obtain ⟨rfl, hsz, hxL, hP, hK, hD0⟩ := hv
  have hx := B.exec
  have hb := B.bytes
  have hr := B.returns
  have hts := atoms_spec (ws := (.codeWith yL_write cL_write 6 (some .int) [(0, 7, 10, 13), (0, 7, 14, 15)] :: gW)) B.pre
  have hg : ∀ w ∈ gW, w.before ([.ref o, .int (nI q), .int (nI h), .long v]).toArray s = true := fun w h => hts w (List.mem_cons_of_mem _ h)
  have hown : s.vm.findClass R_L = some m.cls := findClass_of_methodNamed B.named
  have hlocks := B.notSynchronized
  subst hsz
  have hD := hD0.self (sz := s.heap.size)
  generalize hAe : va_A (wX o a b cA iA cf uf) s.heap.size = A at hD ⊢
  have hA : ∀ q : Nat, s.heap.size ≤ q → A q := fun q h => by rw [← hAe]; exact Or.inr h
  have hS : va_S A s.heap s.heap [] := va_S.rf
  have hP : va_P D cls_ (wX o a b cA iA cf uf) s.heap := hP
  have htab : c.exceptionTable.toList = [⟨0, 7, 10, 13⟩, ⟨0, 7, 14, 15⟩] := vx_table (x := objectInit) B (hts _ List.mem_cons_self)
  have hl := lv_entry ([.ref o, .int (nI q), .int (nI h), .long v]) (n := 6) (Nat.le_of_ble_eq_true rfl)
  rw [lg_entry_eq]
  generalize (lg_sl ([.ref o, .int (nI q), .int (nI h), .long v]) ++ List.replicate (6 - (lg_sl ([.ref o, .int (nI q), .int (nI h), .long v])).length) Slot.unset).toArray = ls at hl ⊢
  have hl : lv_has ls 6 [(0, .ref o), (1, .int (nI q)), (2, .int (nI h)), (3, .long v)] := hl
  refine lv_aload_n hx hb dL_write_0 rfl (lv_at hl 0 rfl) ?_
  refine lv_iload_n hx hb dL_write_1 rfl (lv_at hl 1 rfl) ?_
  refine lv_iload_n hx hb dL_write_2 rfl (lv_at hl 2 rfl) ?_
  refine lv_lload_n hx hb dL_write_3 rfl (lv_at hl 3 rfl) ?_
  refine cthV (A := A) (hpc := 14) (n := 3) (As := [.int (nI q), .int (nI h), .long v]) (rest := []) ⟨hx, hb, hml, hown, hts⟩ (mX_write_u l hls D o a b cA iA cf uf q h hq hh v hil) w_178 w_179 w_180 w_1 w_181 (by decide +kernel) ⟨rfl, rfl⟩ ⟨(Nat.le_of_ble_eq_true rfl), (Nat.le_of_ble_eq_true rfl)⟩ hxL.1 hP hK 0 0 rfl rfl rfl hl.1 rfl (Nat.le_of_ble_eq_true rfl) dL_write_4 ⟨(Nat.le_of_ble_eq_true rfl), (Nat.le_of_ble_eq_true rfl)⟩ (by decide +kernel) (cat2 htab (by decide) (hg _ w_74) hxL.2.1 (by decide) (by decide) (hg _ w_75)) (fun H locs q9 hk9 hS => ?_)
  have hP : va_P D cls_ (wX o a b cA iA cf uf) H := hP.kept (fun k q hq9 => hk9 q.1 (vx_lt hP hq9))
  refine lv_astore hx hb dL_write_14 hl (by decide) rfl (fun ls hl => ?_)
  have hl : lv_has ls 6 [(5, .ref q9), (0, .ref o), (1, .int (nI q)), (2, .int (nI h)), (3, .long v)] := hl
  refine lv_iconst (v := nI 2) hx hb dL_write_16 (by decide +kernel) ?_
  refine W.widen (k := 1) (n := 6) (by omega) (by omega) ?_
  exact W.iret (v := nI 2) hx hb hr (fun t9 ht9 _ => ⟨⟨_, (), rfl, rfl, by show va_P _ _ _ t9.heap; rw [ht9]; exact hP⟩, hS.F ht9⟩) hS.2.2 dL_write_17
set_option maxHeartbeats 4000000 in
set_option maxRecDepth 100000 in
theorem mL_fail_ok (l : Launch) (D : va_G) (o a b : Nat) (cA iA : ClassId) (cf : Nat → Int64) (uf : Nat → Int32) (sz : Nat) (d : Nat) (hd : d < 5) : Met l yL_fail (.codeWith yL_fail cL_fail 3 (some .int) [(0, 5, 8, 13)] :: gW) ({ frames := 8, cells := 1, slots := 6, locals := 137 }) (pL D (wX o a b cA iA cf uf) (kT cA iA) sz [.ref o, .int (nI d)]) (QI (nI 0) D (wX o a b cA iA cf (upd uf d (-1))) (va_A (wX o a b cA iA cf uf) sz)) 1 6 (va_A (wX o a b cA iA cf uf) sz) := by
  refine va_MetW (cc := cL_fail) (maxL := 3) (ret := (some .int)) (hh := [(0, 5, 8, 13)]) (by decide) rfl ?_
  intro p e s m args below meth c s₁ B hml hv
  obtain ⟨rfl, hsz, hxL, hP, hK, hD0⟩ := hv
  have hx := B.exec
  have hb := B.bytes
  have hr := B.returns
  have hts := atoms_spec (ws := (.codeWith yL_fail cL_fail 3 (some .int) [(0, 5, 8, 13)] :: gW)) B.pre
  have hg : ∀ w ∈ gW, w.before ([.ref o, .int (nI d)]).toArray s = true := fun w h => hts w (List.mem_cons_of_mem _ h)
  have hown : s.vm.findClass R_L = some m.cls := findClass_of_methodNamed B.named
  have hlocks := B.notSynchronized
  subst hsz
  have hD := hD0.self (sz := s.heap.size)
  generalize hAe : va_A (wX o a b cA iA cf uf) s.heap.size = A at hD ⊢
  have hA : ∀ q : Nat, s.heap.size ≤ q → A q := fun q h => by rw [← hAe]; exact Or.inr h
  have hS : va_S A s.heap s.heap [] := va_S.rf
  have hP : va_P D cls_ (wX o a b cA iA cf uf) s.heap := hP
  have hl := lv_entry ([.ref o, .int (nI d)]) (n := 3) (Nat.le_of_ble_eq_true rfl)
  rw [lg_entry_eq]
  generalize (lg_sl ([.ref o, .int (nI d)]) ++ List.replicate (3 - (lg_sl ([.ref o, .int (nI d)])).length) Slot.unset).toArray = ls at hl ⊢
  have hl : lv_has ls 3 [(0, .ref o), (1, .int (nI d))] := hl
  refine lv_aload_n hx hb dL_fail_0 rfl (lv_at hl 0 rfl) ?_
  refine lv_iload_n hx hb dL_fail_1 rfl (lv_at hl 1 rfl) ?_
  refine kVv (n := 1) (As := [.int (nI d)]) (rest := []) ⟨hx, hb, hml, hown, hts⟩ (mX_fail_ok l D o a b cA iA cf uf s.heap.size d hd) w_186 w_187 w_188 w_1 w_189 (by decide +kernel) ⟨rfl, rfl⟩ ⟨(Nat.le_of_ble_eq_true rfl), (Nat.le_of_ble_eq_true rfl)⟩ hP hK hD hS hA rfl 0 0 rfl rfl rfl hl.1 rfl (Nat.le_of_ble_eq_true rfl) dL_fail_2 ⟨Nat.zero_le _, Nat.zero_le _⟩ (fun H locs hP hD hS => ?_)
  refine lv_goto (tgt := 11) hx hb dL_fail_5 (by decide) ?_
  refine lv_iconst (v := nI 0) hx hb dL_fail_11 (by decide +kernel) ?_
  refine W.widen (k := 1) (n := 6) (by omega) (by omega) ?_
  exact W.iret (v := nI 0) hx hb hr (fun t9 ht9 _ => ⟨⟨_, (), rfl, rfl, by show va_P _ _ _ t9.heap; rw [ht9]; exact hP⟩, hS.F ht9⟩) hS.2.2 dL_fail_12
set_option maxHeartbeats 4000000 in
set_option maxRecDepth 100000 in
theorem mL_fail_a (l : Launch) (hls : l.stackTraces = false) (D : va_G) (o a b : Nat) (cA iA : ClassId) (cf : Nat → Int64) (uf : Nat → Int32) (sz : Nat) (x : Int32) (hbad : inR x 5 = false) : Met l yL_fail (.codeWith yL_fail cL_fail 3 (some .int) [(0, 5, 8, 13)] :: gW) ({ frames := 8, cells := 1, slots := 6, locals := 137 }) (pL D (wX o a b cA iA cf uf) (kT cA iA) sz [.ref o, .int x]) (QI (nI 1) D (wX o a b cA iA cf uf) (va_A (wX o a b cA iA cf uf) sz)) 1 6 (va_A (wX o a b cA iA cf uf) sz) := by
  refine va_MetW (cc := cL_fail) (maxL := 3) (ret := (some .int)) (hh := [(0, 5, 8, 13)]) (by decide) rfl ?_
  intro p e s m args below meth c s₁ B hml hv
  obtain ⟨rfl, hsz, hxL, hP, hK, hD0⟩ := hv
  have hx := B.exec
  have hb := B.bytes
  have hr := B.returns
  have hts := atoms_spec (ws := (.codeWith yL_fail cL_fail 3 (some .int) [(0, 5, 8, 13)] :: gW)) B.pre
  have hg : ∀ w ∈ gW, w.before ([.ref o, .int x]).toArray s = true := fun w h => hts w (List.mem_cons_of_mem _ h)
  have hown : s.vm.findClass R_L = some m.cls := findClass_of_methodNamed B.named
  have hlocks := B.notSynchronized
  subst hsz
  have hD := hD0.self (sz := s.heap.size)
  generalize hAe : va_A (wX o a b cA iA cf uf) s.heap.size = A at hD ⊢
  have hA : ∀ q : Nat, s.heap.size ≤ q → A q := fun q h => by rw [← hAe]; exact Or.inr h
  have hS : va_S A s.heap s.heap [] := va_S.rf
  have hP : va_P D cls_ (wX o a b cA iA cf uf) s.heap := hP
  have htab : c.exceptionTable.toList = [⟨0, 5, 8, 13⟩] := vx_table (x := objectInit) B (hts _ List.mem_cons_self)
  have hl := lv_entry ([.ref o, .int x]) (n := 3) (Nat.le_of_ble_eq_true rfl)
  rw [lg_entry_eq]
  generalize (lg_sl ([.ref o, .int x]) ++ List.replicate (3 - (lg_sl ([.ref o, .int x])).length) Slot.unset).toArray = ls at hl ⊢
  have hl : lv_has ls 3 [(0, .ref o), (1, .int x)] := hl
  refine lv_aload_n hx hb dL_fail_0 rfl (lv_at hl 0 rfl) ?_
  refine lv_iload_n hx hb dL_fail_1 rfl (lv_at hl 1 rfl) ?_
  refine cthV (A := A) (hpc := 8) (n := 1) (As := [.int x]) (rest := []) ⟨hx, hb, hml, hown, hts⟩ (mX_fail_a l hls D o a b cA iA cf uf x hbad) w_186 w_187 w_188 w_1 w_189 (by decide +kernel) ⟨rfl, rfl⟩ ⟨(Nat.le_of_ble_eq_true rfl), (Nat.le_of_ble_eq_true rfl)⟩ hxL.1 hP hK 0 0 rfl rfl rfl hl.1 rfl (Nat.le_of_ble_eq_true rfl) dL_fail_2 ⟨(Nat.le_of_ble_eq_true rfl), (Nat.le_of_ble_eq_true rfl)⟩ (by decide +kernel) (cat1 htab (by decide) (by decide) (hg _ w_74)) (fun H locs q9 hk9 hS => ?_)
  have hP : va_P D cls_ (wX o a b cA iA cf uf) H := hP.kept (fun k q hq9 => hk9 q.1 (vx_lt hP hq9))
  refine lv_astore_n hx hb dL_fail_8 rfl hl (by decide) rfl (fun ls hl => ?_)
  have hl : lv_has ls 3 [(2, .ref q9), (0, .ref o), (1, .int x)] := hl
  refine lv_iconst (v := nI 1) hx hb dL_fail_9 (by decide +kernel) ?_
  refine W.widen (k := 1) (n := 6) (by omega) (by omega) ?_
  exact W.iret (v := nI 1) hx hb hr (fun t9 ht9 _ => ⟨⟨_, (), rfl, rfl, by show va_P _ _ _ t9.heap; rw [ht9]; exact hP⟩, hS.F ht9⟩) hS.2.2 dL_fail_10
set_option maxHeartbeats 4000000 in
set_option maxRecDepth 100000 in
theorem mL_replace_ok (l : Launch) (D : va_G) (o a b : Nat) (cA iA : ClassId) (cf : Nat → Int64) (uf : Nat → Int32) (sz : Nat) (d : Nat) (hd : d < 5) (hu : uf d = -1) : Met l yL_replace (.codeWith yL_replace cL_replace 3 (some .int) [(0, 5, 8, 13), (0, 5, 11, 28)] :: gW) ({ frames := 8, cells := 1, slots := 6, locals := 139 }) (pL D (wX o a b cA iA cf uf) (kT cA iA) sz [.ref o, .int (nI d)]) (QI (nI 0) D (wX o a b cA iA (zr cf d 100) (upd uf d (nI 0))) (va_A (wX o a b cA iA cf uf) sz)) 1 6 (va_A (wX o a b cA iA cf uf) sz) := by
  refine va_MetW (cc := cL_replace) (maxL := 3) (ret := (some .int)) (hh := [(0, 5, 8, 13), (0, 5, 11, 28)]) (by decide) rfl ?_
  intro p e s m args below meth c s₁ B hml hv
  obtain ⟨rfl, hsz, hxL, hP, hK, hD0⟩ := hv
  have hx := B.exec
  have hb := B.bytes
  have hr := B.returns
  have hts := atoms_spec (ws := (.codeWith yL_replace cL_replace 3 (some .int) [(0, 5, 8, 13), (0, 5, 11, 28)] :: gW)) B.pre
  have hg : ∀ w ∈ gW, w.before ([.ref o, .int (nI d)]).toArray s = true := fun w h => hts w (List.mem_cons_of_mem _ h)
  have hown : s.vm.findClass R_L = some m.cls := findClass_of_methodNamed B.named
  have hlocks := B.notSynchronized
  subst hsz
  have hD := hD0.self (sz := s.heap.size)
  generalize hAe : va_A (wX o a b cA iA cf uf) s.heap.size = A at hD ⊢
  have hA : ∀ q : Nat, s.heap.size ≤ q → A q := fun q h => by rw [← hAe]; exact Or.inr h
  have hS : va_S A s.heap s.heap [] := va_S.rf
  have hP : va_P D cls_ (wX o a b cA iA cf uf) s.heap := hP
  have hl := lv_entry ([.ref o, .int (nI d)]) (n := 3) (Nat.le_of_ble_eq_true rfl)
  rw [lg_entry_eq]
  generalize (lg_sl ([.ref o, .int (nI d)]) ++ List.replicate (3 - (lg_sl ([.ref o, .int (nI d)])).length) Slot.unset).toArray = ls at hl ⊢
  have hl : lv_has ls 3 [(0, .ref o), (1, .int (nI d))] := hl
  refine lv_aload_n hx hb dL_replace_0 rfl (lv_at hl 0 rfl) ?_
  refine lv_iload_n hx hb dL_replace_1 rfl (lv_at hl 1 rfl) ?_
  refine kVv (n := 1) (As := [.int (nI d)]) (rest := []) ⟨hx, hb, hml, hown, hts⟩ (mX_replace_ok l D o a b cA iA cf uf s.heap.size d hd hu) w_198 w_199 w_200 w_1 w_201 (by decide +kernel) ⟨rfl, rfl⟩ ⟨(Nat.le_of_ble_eq_true rfl), (Nat.le_of_ble_eq_true rfl)⟩ hP hK hD hS hA rfl 0 0 rfl rfl rfl hl.1 rfl (Nat.le_of_ble_eq_true rfl) dL_replace_2 ⟨Nat.zero_le _, Nat.zero_le _⟩ (fun H locs hP hD hS => ?_)
  refine lv_goto (tgt := 14) hx hb dL_replace_5 (by decide) ?_
  refine lv_iconst (v := nI 0) hx hb dL_replace_14 (by decide +kernel) ?_
  refine W.widen (k := 1) (n := 6) (by omega) (by omega) ?_
  exact W.iret (v := nI 0) hx hb hr (fun t9 ht9 _ => ⟨⟨_, (), rfl, rfl, by show va_P _ _ _ t9.heap; rw [ht9]; exact hP⟩, hS.F ht9⟩) hS.2.2 dL_replace_15
set_option maxHeartbeats 4000000 in
set_option maxRecDepth 100000 in
theorem mL_replace_a (l : Launch) (hls : l.stackTraces = false) (D : va_G) (o a b : Nat) (cA iA : ClassId) (cf : Nat → Int64) (uf : Nat → Int32) (sz : Nat) (x : Int32) (hbad : inR x 5 = false) : Met l yL_replace (.codeWith yL_replace cL_replace 3 (some .int) [(0, 5, 8, 13), (0, 5, 11, 28)] :: gW) ({ frames := 8, cells := 1, slots := 6, locals := 139 }) (pL D (wX o a b cA iA cf uf) (kT cA iA) sz [.ref o, .int x]) (QI (nI 1) D (wX o a b cA iA cf uf) (va_A (wX o a b cA iA cf uf) sz)) 1 6 (va_A (wX o a b cA iA cf uf) sz) := by
  refine va_MetW (cc := cL_replace) (maxL := 3) (ret := (some .int)) (hh := [(0, 5, 8, 13), (0, 5, 11, 28)]) (by decide) rfl ?_
  intro p e s m args below meth c s₁ B hml hv
  obtain ⟨rfl, hsz, hxL, hP, hK, hD0⟩ := hv
  have hx := B.exec
  have hb := B.bytes
  have hr := B.returns
  have hts := atoms_spec (ws := (.codeWith yL_replace cL_replace 3 (some .int) [(0, 5, 8, 13), (0, 5, 11, 28)] :: gW)) B.pre
  have hg : ∀ w ∈ gW, w.before ([.ref o, .int x]).toArray s = true := fun w h => hts w (List.mem_cons_of_mem _ h)
  have hown : s.vm.findClass R_L = some m.cls := findClass_of_methodNamed B.named
  have hlocks := B.notSynchronized
  subst hsz
  have hD := hD0.self (sz := s.heap.size)
  generalize hAe : va_A (wX o a b cA iA cf uf) s.heap.size = A at hD ⊢
  have hA : ∀ q : Nat, s.heap.size ≤ q → A q := fun q h => by rw [← hAe]; exact Or.inr h
  have hS : va_S A s.heap s.heap [] := va_S.rf
  have hP : va_P D cls_ (wX o a b cA iA cf uf) s.heap := hP
  have htab : c.exceptionTable.toList = [⟨0, 5, 8, 13⟩, ⟨0, 5, 11, 28⟩] := vx_table (x := objectInit) B (hts _ List.mem_cons_self)
  have hl := lv_entry ([.ref o, .int x]) (n := 3) (Nat.le_of_ble_eq_true rfl)
  rw [lg_entry_eq]
  generalize (lg_sl ([.ref o, .int x]) ++ List.replicate (3 - (lg_sl ([.ref o, .int x])).length) Slot.unset).toArray = ls at hl ⊢
  have hl : lv_has ls 3 [(0, .ref o), (1, .int x)] := hl
  refine lv_aload_n hx hb dL_replace_0 rfl (lv_at hl 0 rfl) ?_
  refine lv_iload_n hx hb dL_replace_1 rfl (lv_at hl 1 rfl) ?_
  refine cthV (A := A) (hpc := 8) (n := 1) (As := [.int x]) (rest := []) ⟨hx, hb, hml, hown, hts⟩ (mX_replace_a l hls D o a b cA iA cf uf x hbad) w_198 w_199 w_200 w_1 w_201 (by decide +kernel) ⟨rfl, rfl⟩ ⟨(Nat.le_of_ble_eq_true rfl), (Nat.le_of_ble_eq_true rfl)⟩ hxL.1 hP hK 0 0 rfl rfl rfl hl.1 rfl (Nat.le_of_ble_eq_true rfl) dL_replace_2 ⟨(Nat.le_of_ble_eq_true rfl), (Nat.le_of_ble_eq_true rfl)⟩ (by decide +kernel) (cat1 htab (by decide) (by decide) (hg _ w_74)) (fun H locs q9 hk9 hS => ?_)
  have hP : va_P D cls_ (wX o a b cA iA cf uf) H := hP.kept (fun k q hq9 => hk9 q.1 (vx_lt hP hq9))
  refine lv_astore_n hx hb dL_replace_8 rfl hl (by decide) rfl (fun ls hl => ?_)
  have hl : lv_has ls 3 [(2, .ref q9), (0, .ref o), (1, .int x)] := hl
  refine lv_iconst (v := nI 1) hx hb dL_replace_9 (by decide +kernel) ?_
  refine W.widen (k := 1) (n := 6) (by omega) (by omega) ?_
  exact W.iret (v := nI 1) hx hb hr (fun t9 ht9 _ => ⟨⟨_, (), rfl, rfl, by show va_P _ _ _ t9.heap; rw [ht9]; exact hP⟩, hS.F ht9⟩) hS.2.2 dL_replace_10
set_option maxHeartbeats 4000000 in
set_option maxRecDepth 100000 in
theorem mL_replace_s (l : Launch) (hls : l.stackTraces = false) (D : va_G) (o a b : Nat) (cA iA : ClassId) (cf : Nat → Int64) (uf : Nat → Int32) (sz : Nat) (d : Nat) (hd : d < 5) (hu : ¬ uf d = -1) : Met l yL_replace (.codeWith yL_replace cL_replace 3 (some .int) [(0, 5, 8, 13), (0, 5, 11, 28)] :: gW) ({ frames := 8, cells := 1, slots := 6, locals := 139 }) (pL D (wX o a b cA iA cf uf) (kT cA iA) sz [.ref o, .int (nI d)]) (QI (nI 2) D (wX o a b cA iA cf uf) (va_A (wX o a b cA iA cf uf) sz)) 1 6 (va_A (wX o a b cA iA cf uf) sz) := by
  refine va_MetW (cc := cL_replace) (maxL := 3) (ret := (some .int)) (hh := [(0, 5, 8, 13), (0, 5, 11, 28)]) (by decide) rfl ?_
  intro p e s m args below meth c s₁ B hml hv
  obtain ⟨rfl, hsz, hxL, hP, hK, hD0⟩ := hv
  have hx := B.exec
  have hb := B.bytes
  have hr := B.returns
  have hts := atoms_spec (ws := (.codeWith yL_replace cL_replace 3 (some .int) [(0, 5, 8, 13), (0, 5, 11, 28)] :: gW)) B.pre
  have hg : ∀ w ∈ gW, w.before ([.ref o, .int (nI d)]).toArray s = true := fun w h => hts w (List.mem_cons_of_mem _ h)
  have hown : s.vm.findClass R_L = some m.cls := findClass_of_methodNamed B.named
  have hlocks := B.notSynchronized
  subst hsz
  have hD := hD0.self (sz := s.heap.size)
  generalize hAe : va_A (wX o a b cA iA cf uf) s.heap.size = A at hD ⊢
  have hA : ∀ q : Nat, s.heap.size ≤ q → A q := fun q h => by rw [← hAe]; exact Or.inr h
  have hS : va_S A s.heap s.heap [] := va_S.rf
  have hP : va_P D cls_ (wX o a b cA iA cf uf) s.heap := hP
  have htab : c.exceptionTable.toList = [⟨0, 5, 8, 13⟩, ⟨0, 5, 11, 28⟩] := vx_table (x := objectInit) B (hts _ List.mem_cons_self)
  have hl := lv_entry ([.ref o, .int (nI d)]) (n := 3) (Nat.le_of_ble_eq_true rfl)
  rw [lg_entry_eq]
  generalize (lg_sl ([.ref o, .int (nI d)]) ++ List.replicate (3 - (lg_sl ([.ref o, .int (nI d)])).length) Slot.unset).toArray = ls at hl ⊢
  have hl : lv_has ls 3 [(0, .ref o), (1, .int (nI d))] := hl
  refine lv_aload_n hx hb dL_replace_0 rfl (lv_at hl 0 rfl) ?_
  refine lv_iload_n hx hb dL_replace_1 rfl (lv_at hl 1 rfl) ?_
  refine cthV (A := A) (hpc := 11) (n := 1) (As := [.int (nI d)]) (rest := []) ⟨hx, hb, hml, hown, hts⟩ (mX_replace_s l hls D o a b cA iA cf uf d hd hu) w_198 w_199 w_200 w_1 w_201 (by decide +kernel) ⟨rfl, rfl⟩ ⟨(Nat.le_of_ble_eq_true rfl), (Nat.le_of_ble_eq_true rfl)⟩ hxL.1 hP hK 0 0 rfl rfl rfl hl.1 rfl (Nat.le_of_ble_eq_true rfl) dL_replace_2 ⟨(Nat.le_of_ble_eq_true rfl), (Nat.le_of_ble_eq_true rfl)⟩ (by decide +kernel) (cat2 htab (by decide) (hg _ w_74) hxL.2.2 (by decide) (by decide) (hg _ w_197)) (fun H locs q9 hk9 hS => ?_)
  have hP : va_P D cls_ (wX o a b cA iA cf uf) H := hP.kept (fun k q hq9 => hk9 q.1 (vx_lt hP hq9))
  refine lv_astore_n hx hb dL_replace_11 rfl hl (by decide) rfl (fun ls hl => ?_)
  have hl : lv_has ls 3 [(2, .ref q9), (0, .ref o), (1, .int (nI d))] := hl
  refine lv_iconst (v := nI 2) hx hb dL_replace_12 (by decide +kernel) ?_
  refine W.widen (k := 1) (n := 6) (by omega) (by omega) ?_
  exact W.iret (v := nI 2) hx hb hr (fun t9 ht9 _ => ⟨⟨_, (), rfl, rfl, by show va_P _ _ _ t9.heap; rw [ht9]; exact hP⟩, hS.F ht9⟩) hS.2.2 dL_replace_13
