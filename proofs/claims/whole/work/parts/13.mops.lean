set_option maxHeartbeats 4000000 in
set_option maxRecDepth 100000 in
theorem mM_read_a (l : Launch) (D : va_G) (o a b : Nat) (cA iA : ClassId) (er : Int32) (cf : Nat → Int64) (uf : Nat → Int32) (sz : Nat) (x y : Int32) (hbad : (inR x 400 && inR y 2) = false) : Met l yM_read (.code yM_read cM_read 5 (some .long) :: gW) ({ frames := 3, cells := 0, slots := 0, locals := 71 }) (pWs D (wM o a b cA iA er cf uf) (kT cA iA) sz [.ref o, .int x, .int y]) (QL (0) D (wM o a b cA iA (nI 1) cf uf) (va_A (wM o a b cA iA er cf uf) sz)) 0 0 (va_A (wM o a b cA iA er cf uf) sz) := by
  refine Met.ofW (cc := cM_read) (maxL := 5) (ret := (some .long)) (by decide) rfl ?_
  intro p e s m args below meth c s₁ B hml hv
  obtain ⟨rfl, hsz, hP, hK, hD0⟩ := hv
  have hx := B.exec
  have hb := B.bytes
  have hr := B.returns
  have hts := atoms_spec (ws := (.code yM_read cM_read 5 (some .long) :: gW)) B.pre
  have hg : ∀ w ∈ gW, w.before ([.ref o, .int x, .int y]).toArray s = true := fun w h => hts w (List.mem_cons_of_mem _ h)
  have hown : s.vm.findClass R_M = some m.cls := findClass_of_methodNamed B.named
  have hlocks := B.notSynchronized
  subst hsz
  have hD := hD0.self (sz := s.heap.size)
  generalize hAe : va_A (wM o a b cA iA er cf uf) s.heap.size = A at hD ⊢
  have hA : ∀ q : Nat, s.heap.size ≤ q → A q := fun q h => by rw [← hAe]; exact Or.inr h
  have hS : va_S A s.heap s.heap [] := va_S.rf
  have hP : va_P D cls_ (wM o a b cA iA er cf uf) s.heap := hP
  have hl := lv_entry ([.ref o, .int x, .int y]) (n := 5) (Nat.le_of_ble_eq_true rfl)
  rw [lg_entry_eq]
  generalize (lg_sl ([.ref o, .int x, .int y]) ++ List.replicate (5 - (lg_sl ([.ref o, .int x, .int y])).length) Slot.unset).toArray = ls at hl ⊢
  have hl : lv_has ls 5 [(0, .ref o), (1, .int x), (2, .int y)] := hl
  refine lv_aload_n hx hb dM_read_0 rfl (lv_at hl 0 rfl) ?_
  refine lv_aload_n hx hb dM_read_1 rfl (lv_at hl 0 rfl) ?_
  refine lv_iload_n hx hb dM_read_2 rfl (lv_at hl 1 rfl) ?_
  refine lv_iload_n hx hb dM_read_3 rfl (lv_at hl 2 rfl) ?_
  refine kV (n := 2) (As := [.int x, .int y]) (rest := [.ref o]) ⟨hx, hb, hml, hown, hts⟩ (mM_noPlace l D o a b cA iA er cf uf x y) w_288 w_290 v_10 w_2 w_291 (by decide +kernel) ⟨rfl, rfl⟩ ⟨(Nat.le_of_ble_eq_true rfl), (Nat.le_of_ble_eq_true rfl)⟩ hP hK 1 0 rfl rfl rfl hl.1 rfl (Nat.le_of_ble_eq_true rfl) dM_read_4 ⟨Nat.zero_le _, Nat.zero_le _⟩ ?_
  refine tI (b9t (by rw [hbad]; rfl)) ?_
  refine lv_iconst (v := nI 1) hx hb dM_read_7 (by decide +kernel) ?_
  refine kVi (n := 2) (As := [.int (nI 1), .int (nI 1)]) (rest := []) ⟨hx, hb, hml, hown, hts⟩ (mM_fails_t l D o a b cA iA er cf uf s.heap.size 1) w_292 w_294 v_11 w_2 w_295 (by decide +kernel) ⟨rfl, rfl⟩ ⟨(Nat.le_of_ble_eq_true rfl), (Nat.le_of_ble_eq_true rfl)⟩ hP hK hD hS hA rfl 1 0 rfl rfl rfl hl.1 rfl (Nat.le_of_ble_eq_true rfl) dM_read_8 ⟨Nat.zero_le _, Nat.zero_le _⟩ (fun H locs hP hD hS => ?_)
  refine lv_if_eq (tgt := 16) hx hb dM_read_11 (by decide) (fun h11 => absurd h11 (by decide +kernel)) (fun h11 => ?_)
  refine lv_lconst (v := 0) hx hb dM_read_14 (by decide +kernel) ?_
  exact W.lret (v := 0) hx hb hr (fun t9 ht9 _ => ⟨⟨_, (), rfl, by show _ = _; rfl, by show va_P _ _ _ t9.heap; rw [ht9]; exact hP⟩, hS.F ht9⟩) hS.2.2 dM_read_15
set_option maxHeartbeats 4000000 in
set_option maxRecDepth 100000 in
theorem mM_read_u (l : Launch) (D : va_G) (o a b : Nat) (cA iA : ClassId) (er : Int32) (cf : Nat → Int64) (uf : Nat → Int32) (sz : Nat) (q h : Nat) (hq : q < 400) (hh : h < 2) (hil : il uf (dk q) (q / 4) = true) : Met l yM_read (.code yM_read cM_read 5 (some .long) :: gW) ({ frames := 3, cells := 0, slots := 0, locals := 71 }) (pWs D (wM o a b cA iA er cf uf) (kT cA iA) sz [.ref o, .int (nI q), .int (nI h)]) (QL (0) D (wM o a b cA iA (nI 2) cf uf) (va_A (wM o a b cA iA er cf uf) sz)) 0 0 (va_A (wM o a b cA iA er cf uf) sz) := by
  refine Met.ofW (cc := cM_read) (maxL := 5) (ret := (some .long)) (by decide) rfl ?_
  intro p e s m args below meth c s₁ B hml hv
  obtain ⟨rfl, hsz, hP, hK, hD0⟩ := hv
  have hx := B.exec
  have hb := B.bytes
  have hr := B.returns
  have hts := atoms_spec (ws := (.code yM_read cM_read 5 (some .long) :: gW)) B.pre
  have hg : ∀ w ∈ gW, w.before ([.ref o, .int (nI q), .int (nI h)]).toArray s = true := fun w h => hts w (List.mem_cons_of_mem _ h)
  have hown : s.vm.findClass R_M = some m.cls := findClass_of_methodNamed B.named
  have hlocks := B.notSynchronized
  subst hsz
  have hD := hD0.self (sz := s.heap.size)
  generalize hAe : va_A (wM o a b cA iA er cf uf) s.heap.size = A at hD ⊢
  have hA : ∀ q : Nat, s.heap.size ≤ q → A q := fun q h => by rw [← hAe]; exact Or.inr h
  have hS : va_S A s.heap s.heap [] := va_S.rf
  have hP : va_P D cls_ (wM o a b cA iA er cf uf) s.heap := hP
  have hl := lv_entry ([.ref o, .int (nI q), .int (nI h)]) (n := 5) (Nat.le_of_ble_eq_true rfl)
  rw [lg_entry_eq]
  generalize (lg_sl ([.ref o, .int (nI q), .int (nI h)]) ++ List.replicate (5 - (lg_sl ([.ref o, .int (nI q), .int (nI h)])).length) Slot.unset).toArray = ls at hl ⊢
  have hl : lv_has ls 5 [(0, .ref o), (1, .int (nI q)), (2, .int (nI h))] := hl
  refine lv_aload_n hx hb dM_read_0 rfl (lv_at hl 0 rfl) ?_
  refine lv_aload_n hx hb dM_read_1 rfl (lv_at hl 0 rfl) ?_
  refine lv_iload_n hx hb dM_read_2 rfl (lv_at hl 1 rfl) ?_
  refine lv_iload_n hx hb dM_read_3 rfl (lv_at hl 2 rfl) ?_
  refine kV (n := 2) (As := [.int (nI q), .int (nI h)]) (rest := [.ref o]) ⟨hx, hb, hml, hown, hts⟩ (mM_noPlace l D o a b cA iA er cf uf (nI q) (nI h)) w_288 w_290 v_10 w_2 w_291 (by decide +kernel) ⟨rfl, rfl⟩ ⟨(Nat.le_of_ble_eq_true rfl), (Nat.le_of_ble_eq_true rfl)⟩ hP hK 1 0 rfl rfl rfl hl.1 rfl (Nat.le_of_ble_eq_true rfl) dM_read_4 ⟨Nat.zero_le _, Nat.zero_le _⟩ ?_
  refine tI (b9f (by rw [inR_of (by decide) hq, inR_of (by decide) hh]; rfl)) ?_
  refine lv_iconst (v := nI 1) hx hb dM_read_7 (by decide +kernel) ?_
  refine kVi (n := 2) (As := [.int (nI 0), .int (nI 1)]) (rest := []) ⟨hx, hb, hml, hown, hts⟩ (mM_fails_f l D o a b cA iA er cf uf s.heap.size 1) w_292 w_294 v_11 w_2 w_295 (by decide +kernel) ⟨rfl, rfl⟩ ⟨(Nat.le_of_ble_eq_true rfl), (Nat.le_of_ble_eq_true rfl)⟩ hP hK hD hS hA rfl 1 0 rfl rfl rfl hl.1 rfl (Nat.le_of_ble_eq_true rfl) dM_read_8 ⟨Nat.zero_le _, Nat.zero_le _⟩ (fun H locs hP hD hS => ?_)
  refine lv_if_eq (tgt := 16) hx hb dM_read_11 (by decide) (fun h11 => ?_) (fun h11 => absurd (by decide +kernel) h11)
  refine lv_iload_n hx hb dM_read_16 rfl (lv_at hl 1 rfl) ?_
  refine kS (n := 1) (As := [.int (nI q)]) (rest := []) ⟨hx, hb, hml, hown, hts⟩ (mM_disk l q (by omega)) w_296 w_297 w_2 w_298 (by decide +kernel) ⟨rfl, rfl⟩ ⟨(Nat.le_of_ble_eq_true rfl), (Nat.le_of_ble_eq_true rfl)⟩ rfl hl.1 rfl (Nat.le_of_ble_eq_true rfl) dM_read_17 ⟨Nat.zero_le _, Nat.zero_le _⟩ ?_
  refine lv_istore_n hx hb dM_read_20 rfl hl (by decide) rfl (fun ls hl => ?_)
  have hl : lv_has ls 5 [(3, .int (nI (dk q))), (0, .ref o), (1, .int (nI q)), (2, .int (nI h))] := hl
  refine lv_iload_n hx hb dM_read_21 rfl (lv_at hl 2 rfl) ?_
  refine lv_iconst (v := nI 4) hx hb dM_read_22 (by decide +kernel) ?_
  refine lv_idiv hx hb dM_read_23 (by decide +kernel) ?_
  refine tI (pk_div (by omega) (by decide) (by decide)) ?_
  refine lv_istore hx hb dM_read_24 hl (by decide) rfl (fun ls hl => ?_)
  have hl : lv_has ls 5 [(4, .int (nI (q / 4))), (3, .int (nI (dk q))), (0, .ref o), (1, .int (nI q)), (2, .int (nI h))] := hl
  refine lv_aload_n hx hb dM_read_26 rfl (lv_at hl 2 rfl) ?_
  refine lv_aload_n hx hb dM_read_27 rfl (lv_at hl 2 rfl) ?_
  refine lv_iload_n hx hb dM_read_28 rfl (lv_at hl 1 rfl) ?_
  refine lv_iload hx hb dM_read_29 (lv_at hl 0 rfl) ?_
  refine kV (n := 2) (As := [.int (nI (dk q)), .int (nI (q / 4))]) (rest := [.ref o]) ⟨hx, hb, hml, hown, hts⟩ (mM_gone l D o a b cA iA (nI 0) cf uf (dk q) (q / 4) (dk_lt _) (by omega)) w_299 w_301 v_12 w_2 w_302 (by decide +kernel) ⟨rfl, rfl⟩ ⟨(Nat.le_of_ble_eq_true rfl), (Nat.le_of_ble_eq_true rfl)⟩ hP hK 1 0 rfl rfl rfl hl.1 rfl (Nat.le_of_ble_eq_true rfl) dM_read_31 ⟨Nat.zero_le _, Nat.zero_le _⟩ ?_
  refine tI (b9t hil) ?_
  refine lv_iconst (v := nI 2) hx hb dM_read_34 (by decide +kernel) ?_
  refine kVi (n := 2) (As := [.int (nI 1), .int (nI 2)]) (rest := []) ⟨hx, hb, hml, hown, hts⟩ (mM_fails_t l D o a b cA iA (nI 0) cf uf H.size 2) w_292 w_294 v_11 w_2 w_295 (by decide +kernel) ⟨rfl, rfl⟩ ⟨(Nat.le_of_ble_eq_true rfl), (Nat.le_of_ble_eq_true rfl)⟩ hP hK hD hS hA rfl 1 0 rfl rfl rfl hl.1 rfl (Nat.le_of_ble_eq_true rfl) dM_read_35 ⟨Nat.zero_le _, Nat.zero_le _⟩ (fun H locs hP hD hS => ?_)
  refine lv_if_eq (tgt := 45) hx hb dM_read_38 (by decide) (fun h38 => absurd h38 (by decide +kernel)) (fun h38 => ?_)
  refine lv_lconst (v := 0) hx hb dM_read_41 (by decide +kernel) ?_
  refine lv_goto (tgt := 53) hx hb dM_read_42 (by decide) ?_
  exact W.lret (v := 0) hx hb hr (fun t9 ht9 _ => ⟨⟨_, (), rfl, by show _ = _; rfl, by show va_P _ _ _ t9.heap; rw [ht9]; exact hP⟩, hS.F ht9⟩) hS.2.2 dM_read_53
set_option maxHeartbeats 4000000 in
set_option maxRecDepth 100000 in
theorem mM_read_ok (l : Launch) (D : va_G) (o a b : Nat) (cA iA : ClassId) (er : Int32) (cf : Nat → Int64) (uf : Nat → Int32) (sz : Nat) (q h : Nat) (hq : q < 400) (hh : h < 2) (hil : il uf (dk q) (q / 4) = false) : Met l yM_read (.code yM_read cM_read 5 (some .long) :: gW) ({ frames := 3, cells := 0, slots := 0, locals := 71 }) (pWs D (wM o a b cA iA er cf uf) (kT cA iA) sz [.ref o, .int (nI q), .int (nI h)]) (QL (wh cf uf (dk q) (q / 4) h) D (wM o a b cA iA (nI 0) cf uf) (va_A (wM o a b cA iA er cf uf) sz)) 0 0 (va_A (wM o a b cA iA er cf uf) sz) := by
  refine Met.ofW (cc := cM_read) (maxL := 5) (ret := (some .long)) (by decide) rfl ?_
  intro p e s m args below meth c s₁ B hml hv
  obtain ⟨rfl, hsz, hP, hK, hD0⟩ := hv
  have hx := B.exec
  have hb := B.bytes
  have hr := B.returns
  have hts := atoms_spec (ws := (.code yM_read cM_read 5 (some .long) :: gW)) B.pre
  have hg : ∀ w ∈ gW, w.before ([.ref o, .int (nI q), .int (nI h)]).toArray s = true := fun w h => hts w (List.mem_cons_of_mem _ h)
  have hown : s.vm.findClass R_M = some m.cls := findClass_of_methodNamed B.named
  have hlocks := B.notSynchronized
  subst hsz
  have hD := hD0.self (sz := s.heap.size)
  generalize hAe : va_A (wM o a b cA iA er cf uf) s.heap.size = A at hD ⊢
  have hA : ∀ q : Nat, s.heap.size ≤ q → A q := fun q h => by rw [← hAe]; exact Or.inr h
  have hS : va_S A s.heap s.heap [] := va_S.rf
  have hP : va_P D cls_ (wM o a b cA iA er cf uf) s.heap := hP
  have hl := lv_entry ([.ref o, .int (nI q), .int (nI h)]) (n := 5) (Nat.le_of_ble_eq_true rfl)
  rw [lg_entry_eq]
  generalize (lg_sl ([.ref o, .int (nI q), .int (nI h)]) ++ List.replicate (5 - (lg_sl ([.ref o, .int (nI q), .int (nI h)])).length) Slot.unset).toArray = ls at hl ⊢
  have hl : lv_has ls 5 [(0, .ref o), (1, .int (nI q)), (2, .int (nI h))] := hl
  refine lv_aload_n hx hb dM_read_0 rfl (lv_at hl 0 rfl) ?_
  refine lv_aload_n hx hb dM_read_1 rfl (lv_at hl 0 rfl) ?_
  refine lv_iload_n hx hb dM_read_2 rfl (lv_at hl 1 rfl) ?_
  refine lv_iload_n hx hb dM_read_3 rfl (lv_at hl 2 rfl) ?_
  refine kV (n := 2) (As := [.int (nI q), .int (nI h)]) (rest := [.ref o]) ⟨hx, hb, hml, hown, hts⟩ (mM_noPlace l D o a b cA iA er cf uf (nI q) (nI h)) w_288 w_290 v_10 w_2 w_291 (by decide +kernel) ⟨rfl, rfl⟩ ⟨(Nat.le_of_ble_eq_true rfl), (Nat.le_of_ble_eq_true rfl)⟩ hP hK 1 0 rfl rfl rfl hl.1 rfl (Nat.le_of_ble_eq_true rfl) dM_read_4 ⟨Nat.zero_le _, Nat.zero_le _⟩ ?_
  refine tI (b9f (by rw [inR_of (by decide) hq, inR_of (by decide) hh]; rfl)) ?_
  refine lv_iconst (v := nI 1) hx hb dM_read_7 (by decide +kernel) ?_
  refine kVi (n := 2) (As := [.int (nI 0), .int (nI 1)]) (rest := []) ⟨hx, hb, hml, hown, hts⟩ (mM_fails_f l D o a b cA iA er cf uf s.heap.size 1) w_292 w_294 v_11 w_2 w_295 (by decide +kernel) ⟨rfl, rfl⟩ ⟨(Nat.le_of_ble_eq_true rfl), (Nat.le_of_ble_eq_true rfl)⟩ hP hK hD hS hA rfl 1 0 rfl rfl rfl hl.1 rfl (Nat.le_of_ble_eq_true rfl) dM_read_8 ⟨Nat.zero_le _, Nat.zero_le _⟩ (fun H locs hP hD hS => ?_)
  refine lv_if_eq (tgt := 16) hx hb dM_read_11 (by decide) (fun h11 => ?_) (fun h11 => absurd (by decide +kernel) h11)
  refine lv_iload_n hx hb dM_read_16 rfl (lv_at hl 1 rfl) ?_
  refine kS (n := 1) (As := [.int (nI q)]) (rest := []) ⟨hx, hb, hml, hown, hts⟩ (mM_disk l q (by omega)) w_296 w_297 w_2 w_298 (by decide +kernel) ⟨rfl, rfl⟩ ⟨(Nat.le_of_ble_eq_true rfl), (Nat.le_of_ble_eq_true rfl)⟩ rfl hl.1 rfl (Nat.le_of_ble_eq_true rfl) dM_read_17 ⟨Nat.zero_le _, Nat.zero_le _⟩ ?_
  refine lv_istore_n hx hb dM_read_20 rfl hl (by decide) rfl (fun ls hl => ?_)
  have hl : lv_has ls 5 [(3, .int (nI (dk q))), (0, .ref o), (1, .int (nI q)), (2, .int (nI h))] := hl
  refine lv_iload_n hx hb dM_read_21 rfl (lv_at hl 2 rfl) ?_
  refine lv_iconst (v := nI 4) hx hb dM_read_22 (by decide +kernel) ?_
  refine lv_idiv hx hb dM_read_23 (by decide +kernel) ?_
  refine tI (pk_div (by omega) (by decide) (by decide)) ?_
  refine lv_istore hx hb dM_read_24 hl (by decide) rfl (fun ls hl => ?_)
  have hl : lv_has ls 5 [(4, .int (nI (q / 4))), (3, .int (nI (dk q))), (0, .ref o), (1, .int (nI q)), (2, .int (nI h))] := hl
  refine lv_aload_n hx hb dM_read_26 rfl (lv_at hl 2 rfl) ?_
  refine lv_aload_n hx hb dM_read_27 rfl (lv_at hl 2 rfl) ?_
  refine lv_iload_n hx hb dM_read_28 rfl (lv_at hl 1 rfl) ?_
  refine lv_iload hx hb dM_read_29 (lv_at hl 0 rfl) ?_
  refine kV (n := 2) (As := [.int (nI (dk q)), .int (nI (q / 4))]) (rest := [.ref o]) ⟨hx, hb, hml, hown, hts⟩ (mM_gone l D o a b cA iA (nI 0) cf uf (dk q) (q / 4) (dk_lt _) (by omega)) w_299 w_301 v_12 w_2 w_302 (by decide +kernel) ⟨rfl, rfl⟩ ⟨(Nat.le_of_ble_eq_true rfl), (Nat.le_of_ble_eq_true rfl)⟩ hP hK 1 0 rfl rfl rfl hl.1 rfl (Nat.le_of_ble_eq_true rfl) dM_read_31 ⟨Nat.zero_le _, Nat.zero_le _⟩ ?_
  refine tI (b9f hil) ?_
  refine lv_iconst (v := nI 2) hx hb dM_read_34 (by decide +kernel) ?_
  refine kVi (n := 2) (As := [.int (nI 0), .int (nI 2)]) (rest := []) ⟨hx, hb, hml, hown, hts⟩ (mM_fails_f l D o a b cA iA (nI 0) cf uf H.size 2) w_292 w_294 v_11 w_2 w_295 (by decide +kernel) ⟨rfl, rfl⟩ ⟨(Nat.le_of_ble_eq_true rfl), (Nat.le_of_ble_eq_true rfl)⟩ hP hK hD hS hA rfl 1 0 rfl rfl rfl hl.1 rfl (Nat.le_of_ble_eq_true rfl) dM_read_35 ⟨Nat.zero_le _, Nat.zero_le _⟩ (fun H locs hP hD hS => ?_)
  refine lv_if_eq (tgt := 45) hx hb dM_read_38 (by decide) (fun h38 => ?_) (fun h38 => absurd (by decide +kernel) h38)
  refine lv_aload_n hx hb dM_read_45 rfl (lv_at hl 2 rfl) ?_
  refine lv_iload_n hx hb dM_read_46 rfl (lv_at hl 1 rfl) ?_
  refine lv_iload hx hb dM_read_47 (lv_at hl 0 rfl) ?_
  refine lv_iload_n hx hb dM_read_49 rfl (lv_at hl 4 rfl) ?_
  refine kV (n := 3) (As := [.int (nI (dk q)), .int (nI (q / 4)), .int (nI h)]) (rest := []) ⟨hx, hb, hml, hown, hts⟩ (mM_has l D o a b cA iA (nI 0) cf uf (dk q) (q / 4) h (dk_lt _) (by omega) (by omega)) w_307 w_309 v_14 w_2 w_310 (by decide +kernel) ⟨rfl, rfl⟩ ⟨(Nat.le_of_ble_eq_true rfl), (Nat.le_of_ble_eq_true rfl)⟩ hP hK 1 0 rfl rfl rfl hl.1 rfl (Nat.le_of_ble_eq_true rfl) dM_read_50 ⟨Nat.zero_le _, Nat.zero_le _⟩ ?_
  exact W.lret (v := wh cf uf (dk q) (q / 4) h) hx hb hr (fun t9 ht9 _ => ⟨⟨_, (), rfl, by show _ = _; rfl, by show va_P _ _ _ t9.heap; rw [ht9]; exact hP⟩, hS.F ht9⟩) hS.2.2 dM_read_53
set_option maxHeartbeats 4000000 in
set_option maxRecDepth 100000 in
theorem mM_write_a (l : Launch) (D : va_G) (o a b : Nat) (cA iA : ClassId) (er : Int32) (cf : Nat → Int64) (uf : Nat → Int32) (sz : Nat) (x y : Int32) (v : Int64) (hbad : (inR x 400 && inR y 2) = false) : Met l yM_write (.code yM_write cM_write 10 none :: gW) ({ frames := 3, cells := 0, slots := 0, locals := 71 }) (pWs D (wM o a b cA iA er cf uf) (kT cA iA) sz [.ref o, .int x, .int y, .long v]) (QV D (wM o a b cA iA (nI 1) cf uf) (va_A (wM o a b cA iA er cf uf) sz)) 0 0 (va_A (wM o a b cA iA er cf uf) sz) := by
  refine Met.ofW (cc := cM_write) (maxL := 10) (ret := none) (by decide) rfl ?_
  intro p e s m args below meth c s₁ B hml hv
  obtain ⟨rfl, hsz, hP, hK, hD0⟩ := hv
  have hx := B.exec
  have hb := B.bytes
  have hr := B.returns
  have hts := atoms_spec (ws := (.code yM_write cM_write 10 none :: gW)) B.pre
  have hg : ∀ w ∈ gW, w.before ([.ref o, .int x, .int y, .long v]).toArray s = true := fun w h => hts w (List.mem_cons_of_mem _ h)
  have hown : s.vm.findClass R_M = some m.cls := findClass_of_methodNamed B.named
  have hlocks := B.notSynchronized
  subst hsz
  have hD := hD0.self (sz := s.heap.size)
  generalize hAe : va_A (wM o a b cA iA er cf uf) s.heap.size = A at hD ⊢
  have hA : ∀ q : Nat, s.heap.size ≤ q → A q := fun q h => by rw [← hAe]; exact Or.inr h
  have hS : va_S A s.heap s.heap [] := va_S.rf
  have hP : va_P D cls_ (wM o a b cA iA er cf uf) s.heap := hP
  have hl := lv_entry ([.ref o, .int x, .int y, .long v]) (n := 10) (Nat.le_of_ble_eq_true rfl)
  rw [lg_entry_eq]
  generalize (lg_sl ([.ref o, .int x, .int y, .long v]) ++ List.replicate (10 - (lg_sl ([.ref o, .int x, .int y, .long v])).length) Slot.unset).toArray = ls at hl ⊢
  have hl : lv_has ls 10 [(0, .ref o), (1, .int x), (2, .int y), (3, .long v)] := hl
  refine lv_aload_n hx hb dM_write_0 rfl (lv_at hl 0 rfl) ?_
  refine lv_aload_n hx hb dM_write_1 rfl (lv_at hl 0 rfl) ?_
  refine lv_iload_n hx hb dM_write_2 rfl (lv_at hl 1 rfl) ?_
  refine lv_iload_n hx hb dM_write_3 rfl (lv_at hl 2 rfl) ?_
  refine kV (n := 2) (As := [.int x, .int y]) (rest := [.ref o]) ⟨hx, hb, hml, hown, hts⟩ (mM_noPlace l D o a b cA iA er cf uf x y) w_288 w_290 v_10 w_2 w_291 (by decide +kernel) ⟨rfl, rfl⟩ ⟨(Nat.le_of_ble_eq_true rfl), (Nat.le_of_ble_eq_true rfl)⟩ hP hK 1 0 rfl rfl rfl hl.1 rfl (Nat.le_of_ble_eq_true rfl) dM_write_4 ⟨Nat.zero_le _, Nat.zero_le _⟩ ?_
  refine tI (b9t (by rw [hbad]; rfl)) ?_
  refine lv_iconst (v := nI 1) hx hb dM_write_7 (by decide +kernel) ?_
  refine kVi (n := 2) (As := [.int (nI 1), .int (nI 1)]) (rest := []) ⟨hx, hb, hml, hown, hts⟩ (mM_fails_t l D o a b cA iA er cf uf s.heap.size 1) w_292 w_294 v_11 w_2 w_295 (by decide +kernel) ⟨rfl, rfl⟩ ⟨(Nat.le_of_ble_eq_true rfl), (Nat.le_of_ble_eq_true rfl)⟩ hP hK hD hS hA rfl 1 0 rfl rfl rfl hl.1 rfl (Nat.le_of_ble_eq_true rfl) dM_write_8 ⟨Nat.zero_le _, Nat.zero_le _⟩ (fun H locs hP hD hS => ?_)
  refine lv_if_eq (tgt := 15) hx hb dM_write_11 (by decide) (fun h11 => absurd h11 (by decide +kernel)) (fun h11 => ?_)
  exact W.vret hx hb hr (fun t9 ht9 _ => ⟨⟨(), rfl, trivial, by show va_P _ _ _ t9.heap; rw [ht9]; exact hP⟩, hS.F ht9⟩) hS.2.2 dM_write_14
set_option maxHeartbeats 4000000 in
set_option maxRecDepth 100000 in
theorem mM_write_u (l : Launch) (D : va_G) (o a b : Nat) (cA iA : ClassId) (er : Int32) (cf : Nat → Int64) (uf : Nat → Int32) (sz : Nat) (q h : Nat) (hq : q < 400) (hh : h < 2) (v : Int64) (hil : il uf (dk q) (q / 4) = true) : Met l yM_write (.code yM_write cM_write 10 none :: gW) ({ frames := 3, cells := 0, slots := 0, locals := 71 }) (pWs D (wM o a b cA iA er cf uf) (kT cA iA) sz [.ref o, .int (nI q), .int (nI h), .long v]) (QV D (wM o a b cA iA (nI 2) cf uf) (va_A (wM o a b cA iA er cf uf) sz)) 0 0 (va_A (wM o a b cA iA er cf uf) sz) := by
  refine Met.ofW (cc := cM_write) (maxL := 10) (ret := none) (by decide) rfl ?_
  intro p e s m args below meth c s₁ B hml hv
  obtain ⟨rfl, hsz, hP, hK, hD0⟩ := hv
  have hx := B.exec
  have hb := B.bytes
  have hr := B.returns
  have hts := atoms_spec (ws := (.code yM_write cM_write 10 none :: gW)) B.pre
  have hg : ∀ w ∈ gW, w.before ([.ref o, .int (nI q), .int (nI h), .long v]).toArray s = true := fun w h => hts w (List.mem_cons_of_mem _ h)
  have hown : s.vm.findClass R_M = some m.cls := findClass_of_methodNamed B.named
  have hlocks := B.notSynchronized
  subst hsz
  have hD := hD0.self (sz := s.heap.size)
  generalize hAe : va_A (wM o a b cA iA er cf uf) s.heap.size = A at hD ⊢
  have hA : ∀ q : Nat, s.heap.size ≤ q → A q := fun q h => by rw [← hAe]; exact Or.inr h
  have hS : va_S A s.heap s.heap [] := va_S.rf
  have hP : va_P D cls_ (wM o a b cA iA er cf uf) s.heap := hP
  have hl := lv_entry ([.ref o, .int (nI q), .int (nI h), .long v]) (n := 10) (Nat.le_of_ble_eq_true rfl)
  rw [lg_entry_eq]
  generalize (lg_sl ([.ref o, .int (nI q), .int (nI h), .long v]) ++ List.replicate (10 - (lg_sl ([.ref o, .int (nI q), .int (nI h), .long v])).length) Slot.unset).toArray = ls at hl ⊢
  have hl : lv_has ls 10 [(0, .ref o), (1, .int (nI q)), (2, .int (nI h)), (3, .long v)] := hl
  refine lv_aload_n hx hb dM_write_0 rfl (lv_at hl 0 rfl) ?_
  refine lv_aload_n hx hb dM_write_1 rfl (lv_at hl 0 rfl) ?_
  refine lv_iload_n hx hb dM_write_2 rfl (lv_at hl 1 rfl) ?_
  refine lv_iload_n hx hb dM_write_3 rfl (lv_at hl 2 rfl) ?_
  refine kV (n := 2) (As := [.int (nI q), .int (nI h)]) (rest := [.ref o]) ⟨hx, hb, hml, hown, hts⟩ (mM_noPlace l D o a b cA iA er cf uf (nI q) (nI h)) w_288 w_290 v_10 w_2 w_291 (by decide +kernel) ⟨rfl, rfl⟩ ⟨(Nat.le_of_ble_eq_true rfl), (Nat.le_of_ble_eq_true rfl)⟩ hP hK 1 0 rfl rfl rfl hl.1 rfl (Nat.le_of_ble_eq_true rfl) dM_write_4 ⟨Nat.zero_le _, Nat.zero_le _⟩ ?_
  refine tI (b9f (by rw [inR_of (by decide) hq, inR_of (by decide) hh]; rfl)) ?_
  refine lv_iconst (v := nI 1) hx hb dM_write_7 (by decide +kernel) ?_
  refine kVi (n := 2) (As := [.int (nI 0), .int (nI 1)]) (rest := []) ⟨hx, hb, hml, hown, hts⟩ (mM_fails_f l D o a b cA iA er cf uf s.heap.size 1) w_292 w_294 v_11 w_2 w_295 (by decide +kernel) ⟨rfl, rfl⟩ ⟨(Nat.le_of_ble_eq_true rfl), (Nat.le_of_ble_eq_true rfl)⟩ hP hK hD hS hA rfl 1 0 rfl rfl rfl hl.1 rfl (Nat.le_of_ble_eq_true rfl) dM_write_8 ⟨Nat.zero_le _, Nat.zero_le _⟩ (fun H locs hP hD hS => ?_)
  refine lv_if_eq (tgt := 15) hx hb dM_write_11 (by decide) (fun h11 => ?_) (fun h11 => absurd (by decide +kernel) h11)
  refine lv_iload_n hx hb dM_write_15 rfl (lv_at hl 1 rfl) ?_
  refine kS (n := 1) (As := [.int (nI q)]) (rest := []) ⟨hx, hb, hml, hown, hts⟩ (mM_disk l q (by omega)) w_296 w_297 w_2 w_298 (by decide +kernel) ⟨rfl, rfl⟩ ⟨(Nat.le_of_ble_eq_true rfl), (Nat.le_of_ble_eq_true rfl)⟩ rfl hl.1 rfl (Nat.le_of_ble_eq_true rfl) dM_write_16 ⟨Nat.zero_le _, Nat.zero_le _⟩ ?_
  refine lv_istore hx hb dM_write_19 hl (by decide) rfl (fun ls hl => ?_)
  have hl : lv_has ls 10 [(5, .int (nI (dk q))), (0, .ref o), (1, .int (nI q)), (2, .int (nI h)), (3, .long v)] := hl
  refine lv_iload_n hx hb dM_write_21 rfl (lv_at hl 2 rfl) ?_
  refine lv_iconst (v := nI 4) hx hb dM_write_22 (by decide +kernel) ?_
  refine lv_idiv hx hb dM_write_23 (by decide +kernel) ?_
  refine tI (pk_div (by omega) (by decide) (by decide)) ?_
  refine lv_istore hx hb dM_write_24 hl (by decide) rfl (fun ls hl => ?_)
  have hl : lv_has ls 10 [(6, .int (nI (q / 4))), (5, .int (nI (dk q))), (0, .ref o), (1, .int (nI q)), (2, .int (nI h)), (3, .long v)] := hl
  refine lv_iload hx hb dM_write_26 (lv_at hl 0 rfl) ?_
  refine lv_iconst (v := nI 5) hx hb dM_write_28 (by decide +kernel) ?_
  refine lv_irem hx hb dM_write_29 (by decide +kernel) ?_
  refine tI (pk_rem (by omega) (by decide) (by decide)) ?_
  refine lv_istore hx hb dM_write_30 hl (by decide) rfl (fun ls hl => ?_)
  have hl : lv_has ls 10 [(7, .int (nI ((q / 4) % 5))), (6, .int (nI (q / 4))), (5, .int (nI (dk q))), (0, .ref o), (1, .int (nI q)), (2, .int (nI h)), (3, .long v)] := hl
  refine lv_aload_n hx hb dM_write_32 rfl (lv_at hl 3 rfl) ?_
  refine lv_aload_n hx hb dM_write_33 rfl (lv_at hl 3 rfl) ?_
  refine lv_iload hx hb dM_write_34 (lv_at hl 2 rfl) ?_
  refine lv_iload hx hb dM_write_36 (lv_at hl 1 rfl) ?_
  refine kV (n := 2) (As := [.int (nI (dk q)), .int (nI (q / 4))]) (rest := [.ref o]) ⟨hx, hb, hml, hown, hts⟩ (mM_gone l D o a b cA iA (nI 0) cf uf (dk q) (q / 4) (dk_lt _) (by omega)) w_299 w_301 v_12 w_2 w_302 (by decide +kernel) ⟨rfl, rfl⟩ ⟨(Nat.le_of_ble_eq_true rfl), (Nat.le_of_ble_eq_true rfl)⟩ hP hK 1 0 rfl rfl rfl hl.1 rfl (Nat.le_of_ble_eq_true rfl) dM_write_38 ⟨Nat.zero_le _, Nat.zero_le _⟩ ?_
  refine tI (b9t hil) ?_
  refine lv_if_ne (tgt := 66) hx hb dM_write_41 (by decide) (fun h41 => ?_) (fun h41 => absurd h41 (by decide +kernel))
  refine lv_iconst (v := nI 1) hx hb dM_write_66 (by decide +kernel) ?_
  refine lv_goto (tgt := 71) hx hb dM_write_67 (by decide) ?_
  refine lv_iconst (v := nI 2) hx hb dM_write_71 (by decide +kernel) ?_
  refine kVi (n := 2) (As := [.int (nI 1), .int (nI 2)]) (rest := []) ⟨hx, hb, hml, hown, hts⟩ (mM_fails_t l D o a b cA iA (nI 0) cf uf H.size 2) w_292 w_294 v_11 w_2 w_295 (by decide +kernel) ⟨rfl, rfl⟩ ⟨(Nat.le_of_ble_eq_true rfl), (Nat.le_of_ble_eq_true rfl)⟩ hP hK hD hS hA rfl 1 0 rfl rfl rfl hl.1 rfl (Nat.le_of_ble_eq_true rfl) dM_write_72 ⟨Nat.zero_le _, Nat.zero_le _⟩ (fun H locs hP hD hS => ?_)
  refine lv_if_eq (tgt := 79) hx hb dM_write_75 (by decide) (fun h75 => absurd h75 (by decide +kernel)) (fun h75 => ?_)
  exact W.vret hx hb hr (fun t9 ht9 _ => ⟨⟨(), rfl, trivial, by show va_P _ _ _ t9.heap; rw [ht9]; exact hP⟩, hS.F ht9⟩) hS.2.2 dM_write_78
set_option maxHeartbeats 4000000 in
set_option maxRecDepth 100000 in
theorem mM_write_ok (l : Launch) (D : va_G) (o a b : Nat) (cA iA : ClassId) (er : Int32) (cf : Nat → Int64) (uf : Nat → Int32) (sz : Nat) (q h : Nat) (hq : q < 400) (hh : h < 2) (v : Int64) (hil : il uf (dk q) (q / 4) = false) : Met l yM_write (.code yM_write cM_write 10 none :: gW) ({ frames := 3, cells := 0, slots := 0, locals := 71 }) (pWs D (wM o a b cA iA er cf uf) (kT cA iA) sz [.ref o, .int (nI q), .int (nI h), .long v]) (QV D (wM o a b cA iA (nI 0) (wN cf uf q h v) uf) (va_A (wM o a b cA iA er cf uf) sz)) 0 0 (va_A (wM o a b cA iA er cf uf) sz) := by
  refine Met.ofW (cc := cM_write) (maxL := 10) (ret := none) (by decide) rfl ?_
  intro p e s m args below meth c s₁ B hml hv
  obtain ⟨rfl, hsz, hP, hK, hD0⟩ := hv
  have hx := B.exec
  have hb := B.bytes
  have hr := B.returns
  have hts := atoms_spec (ws := (.code yM_write cM_write 10 none :: gW)) B.pre
  have hg : ∀ w ∈ gW, w.before ([.ref o, .int (nI q), .int (nI h), .long v]).toArray s = true := fun w h => hts w (List.mem_cons_of_mem _ h)
  have hown : s.vm.findClass R_M = some m.cls := findClass_of_methodNamed B.named
  have hlocks := B.notSynchronized
  subst hsz
  have hD := hD0.self (sz := s.heap.size)
  generalize hAe : va_A (wM o a b cA iA er cf uf) s.heap.size = A at hD ⊢
  have hA : ∀ q : Nat, s.heap.size ≤ q → A q := fun q h => by rw [← hAe]; exact Or.inr h
  have hS : va_S A s.heap s.heap [] := va_S.rf
  have hP : va_P D cls_ (wM o a b cA iA er cf uf) s.heap := hP
  have hl := lv_entry ([.ref o, .int (nI q), .int (nI h), .long v]) (n := 10) (Nat.le_of_ble_eq_true rfl)
  rw [lg_entry_eq]
  generalize (lg_sl ([.ref o, .int (nI q), .int (nI h), .long v]) ++ List.replicate (10 - (lg_sl ([.ref o, .int (nI q), .int (nI h), .long v])).length) Slot.unset).toArray = ls at hl ⊢
  have hl : lv_has ls 10 [(0, .ref o), (1, .int (nI q)), (2, .int (nI h)), (3, .long v)] := hl
  refine lv_aload_n hx hb dM_write_0 rfl (lv_at hl 0 rfl) ?_
  refine lv_aload_n hx hb dM_write_1 rfl (lv_at hl 0 rfl) ?_
  refine lv_iload_n hx hb dM_write_2 rfl (lv_at hl 1 rfl) ?_
  refine lv_iload_n hx hb dM_write_3 rfl (lv_at hl 2 rfl) ?_
  refine kV (n := 2) (As := [.int (nI q), .int (nI h)]) (rest := [.ref o]) ⟨hx, hb, hml, hown, hts⟩ (mM_noPlace l D o a b cA iA er cf uf (nI q) (nI h)) w_288 w_290 v_10 w_2 w_291 (by decide +kernel) ⟨rfl, rfl⟩ ⟨(Nat.le_of_ble_eq_true rfl), (Nat.le_of_ble_eq_true rfl)⟩ hP hK 1 0 rfl rfl rfl hl.1 rfl (Nat.le_of_ble_eq_true rfl) dM_write_4 ⟨Nat.zero_le _, Nat.zero_le _⟩ ?_
  refine tI (b9f (by rw [inR_of (by decide) hq, inR_of (by decide) hh]; rfl)) ?_
  refine lv_iconst (v := nI 1) hx hb dM_write_7 (by decide +kernel) ?_
  refine kVi (n := 2) (As := [.int (nI 0), .int (nI 1)]) (rest := []) ⟨hx, hb, hml, hown, hts⟩ (mM_fails_f l D o a b cA iA er cf uf s.heap.size 1) w_292 w_294 v_11 w_2 w_295 (by decide +kernel) ⟨rfl, rfl⟩ ⟨(Nat.le_of_ble_eq_true rfl), (Nat.le_of_ble_eq_true rfl)⟩ hP hK hD hS hA rfl 1 0 rfl rfl rfl hl.1 rfl (Nat.le_of_ble_eq_true rfl) dM_write_8 ⟨Nat.zero_le _, Nat.zero_le _⟩ (fun H locs hP hD hS => ?_)
  refine lv_if_eq (tgt := 15) hx hb dM_write_11 (by decide) (fun h11 => ?_) (fun h11 => absurd (by decide +kernel) h11)
  refine lv_iload_n hx hb dM_write_15 rfl (lv_at hl 1 rfl) ?_
  refine kS (n := 1) (As := [.int (nI q)]) (rest := []) ⟨hx, hb, hml, hown, hts⟩ (mM_disk l q (by omega)) w_296 w_297 w_2 w_298 (by decide +kernel) ⟨rfl, rfl⟩ ⟨(Nat.le_of_ble_eq_true rfl), (Nat.le_of_ble_eq_true rfl)⟩ rfl hl.1 rfl (Nat.le_of_ble_eq_true rfl) dM_write_16 ⟨Nat.zero_le _, Nat.zero_le _⟩ ?_
  refine lv_istore hx hb dM_write_19 hl (by decide) rfl (fun ls hl => ?_)
  have hl : lv_has ls 10 [(5, .int (nI (dk q))), (0, .ref o), (1, .int (nI q)), (2, .int (nI h)), (3, .long v)] := hl
  refine lv_iload_n hx hb dM_write_21 rfl (lv_at hl 2 rfl) ?_
  refine lv_iconst (v := nI 4) hx hb dM_write_22 (by decide +kernel) ?_
  refine lv_idiv hx hb dM_write_23 (by decide +kernel) ?_
  refine tI (pk_div (by omega) (by decide) (by decide)) ?_
  refine lv_istore hx hb dM_write_24 hl (by decide) rfl (fun ls hl => ?_)
  have hl : lv_has ls 10 [(6, .int (nI (q / 4))), (5, .int (nI (dk q))), (0, .ref o), (1, .int (nI q)), (2, .int (nI h)), (3, .long v)] := hl
  refine lv_iload hx hb dM_write_26 (lv_at hl 0 rfl) ?_
  refine lv_iconst (v := nI 5) hx hb dM_write_28 (by decide +kernel) ?_
  refine lv_irem hx hb dM_write_29 (by decide +kernel) ?_
  refine tI (pk_rem (by omega) (by decide) (by decide)) ?_
  refine lv_istore hx hb dM_write_30 hl (by decide) rfl (fun ls hl => ?_)
  have hl : lv_has ls 10 [(7, .int (nI ((q / 4) % 5))), (6, .int (nI (q / 4))), (5, .int (nI (dk q))), (0, .ref o), (1, .int (nI q)), (2, .int (nI h)), (3, .long v)] := hl
  refine lv_aload_n hx hb dM_write_32 rfl (lv_at hl 3 rfl) ?_
  refine lv_aload_n hx hb dM_write_33 rfl (lv_at hl 3 rfl) ?_
  refine lv_iload hx hb dM_write_34 (lv_at hl 2 rfl) ?_
  refine lv_iload hx hb dM_write_36 (lv_at hl 1 rfl) ?_
  refine kV (n := 2) (As := [.int (nI (dk q)), .int (nI (q / 4))]) (rest := [.ref o]) ⟨hx, hb, hml, hown, hts⟩ (mM_gone l D o a b cA iA (nI 0) cf uf (dk q) (q / 4) (dk_lt _) (by omega)) w_299 w_301 v_12 w_2 w_302 (by decide +kernel) ⟨rfl, rfl⟩ ⟨(Nat.le_of_ble_eq_true rfl), (Nat.le_of_ble_eq_true rfl)⟩ hP hK 1 0 rfl rfl rfl hl.1 rfl (Nat.le_of_ble_eq_true rfl) dM_write_38 ⟨Nat.zero_le _, Nat.zero_le _⟩ ?_
  refine tI (b9f hil) ?_
  refine lv_if_ne (tgt := 66) hx hb dM_write_41 (by decide) (fun h41 => absurd h41 (by decide +kernel)) (fun h41 => ?_)
  refine lv_aload_n hx hb dM_write_44 rfl (lv_at hl 3 rfl) ?_
  refine lv_iload hx hb dM_write_45 (lv_at hl 2 rfl) ?_
  refine lv_iload hx hb dM_write_47 (lv_at hl 1 rfl) ?_
  refine kV (n := 2) (As := [.int (nI (dk q)), .int (nI (q / 4))]) (rest := [.ref o]) ⟨hx, hb, hml, hown, hts⟩ (mM_usable l D o a b cA iA (nI 0) cf uf (dk q) (q / 4) (dk_lt _) (by omega)) w_303 w_305 v_13 w_2 w_306 (by decide +kernel) ⟨rfl, rfl⟩ ⟨(Nat.le_of_ble_eq_true rfl), (Nat.le_of_ble_eq_true rfl)⟩ hP hK 1 0 rfl rfl rfl hl.1 rfl (Nat.le_of_ble_eq_true rfl) dM_write_49 ⟨Nat.zero_le _, Nat.zero_le _⟩ ?_
  refine lv_if_ne (tgt := 70) hx hb dM_write_52 (by decide) (fun h52 => ?_) (fun h52 => ?_)
  · have e52 := bi_1 h52
    refine lv_iconst (v := nI 0) hx hb dM_write_70 (by decide +kernel) ?_
    refine lv_iconst (v := nI 2) hx hb dM_write_71 (by decide +kernel) ?_
    refine kVi (n := 2) (As := [.int (nI 0), .int (nI 2)]) (rest := []) ⟨hx, hb, hml, hown, hts⟩ (mM_fails_f l D o a b cA iA (nI 0) cf uf H.size 2) w_292 w_294 v_11 w_2 w_295 (by decide +kernel) ⟨rfl, rfl⟩ ⟨(Nat.le_of_ble_eq_true rfl), (Nat.le_of_ble_eq_true rfl)⟩ hP hK hD hS hA rfl 1 0 rfl rfl rfl hl.1 rfl (Nat.le_of_ble_eq_true rfl) dM_write_72 ⟨Nat.zero_le _, Nat.zero_le _⟩ (fun H locs hP hD hS => ?_)
    refine lv_if_eq (tgt := 79) hx hb dM_write_75 (by decide) (fun h75 => ?_) (fun h75 => absurd (by decide +kernel) h75)
    refine lv_aload_n hx hb dM_write_79 rfl (lv_at hl 3 rfl) ?_
    refine lv_iload hx hb dM_write_80 (lv_at hl 2 rfl) ?_
    refine lv_iload hx hb dM_write_82 (lv_at hl 1 rfl) ?_
    refine lv_iload_n hx hb dM_write_84 rfl (lv_at hl 5 rfl) ?_
    refine kV (n := 3) (As := [.int (nI (dk q)), .int (nI (q / 4)), .int (nI h)]) (rest := []) ⟨hx, hb, hml, hown, hts⟩ (mM_has l D o a b cA iA (nI 0) cf uf (dk q) (q / 4) h (dk_lt _) (by omega) (by omega)) w_307 w_309 v_14 w_2 w_310 (by decide +kernel) ⟨rfl, rfl⟩ ⟨(Nat.le_of_ble_eq_true rfl), (Nat.le_of_ble_eq_true rfl)⟩ hP hK 1 0 rfl rfl rfl hl.1 rfl (Nat.le_of_ble_eq_true rfl) dM_write_85 ⟨Nat.zero_le _, Nat.zero_le _⟩ ?_
    refine lv_lstore hx hb dM_write_88 hl (by decide) rfl (fun ls hl => ?_)
    have hl : lv_has ls 10 [(8, .long (wh cf uf (dk q) (q / 4) h)), (7, .int (nI ((q / 4) % 5))), (6, .int (nI (q / 4))), (5, .int (nI (dk q))), (0, .ref o), (1, .int (nI q)), (2, .int (nI h)), (3, .long v)] := hl
    refine lv_aload_n hx hb dM_write_90 rfl (lv_at hl 4 rfl) ?_
    refine lv_iload hx hb dM_write_91 (lv_at hl 1 rfl) ?_
    refine lv_iload hx hb dM_write_93 (lv_at hl 2 rfl) ?_
    refine kV (n := 2) (As := [.int (nI ((q / 4) % 5)), .int (nI (q / 4))]) (rest := []) ⟨hx, hb, hml, hown, hts⟩ (mM_usable l D o a b cA iA (nI 0) cf uf ((q / 4) % 5) (q / 4) (by omega) (by omega)) w_303 w_305 v_13 w_2 w_306 (by decide +kernel) ⟨rfl, rfl⟩ ⟨(Nat.le_of_ble_eq_true rfl), (Nat.le_of_ble_eq_true rfl)⟩ hP hK 1 0 rfl rfl rfl hl.1 rfl (Nat.le_of_ble_eq_true rfl) dM_write_95 ⟨Nat.zero_le _, Nat.zero_le _⟩ ?_
    refine lv_if_eq (tgt := 121) hx hb dM_write_98 (by decide) (fun h98 => ?_) (fun h98 => ?_)
    · have e98 := bi_0 h98
      refine lv_aload_n hx hb dM_write_121 rfl (lv_at hl 4 rfl) ?_
      refine lv_iload hx hb dM_write_122 (lv_at hl 3 rfl) ?_
      refine lv_iload hx hb dM_write_124 (lv_at hl 2 rfl) ?_
      refine kV (n := 2) (As := [.int (nI (dk q)), .int (nI (q / 4))]) (rest := []) ⟨hx, hb, hml, hown, hts⟩ (mM_usable l D o a b cA iA (nI 0) cf uf (dk q) (q / 4) (dk_lt _) (by omega)) w_303 w_305 v_13 w_2 w_306 (by decide +kernel) ⟨rfl, rfl⟩ ⟨(Nat.le_of_ble_eq_true rfl), (Nat.le_of_ble_eq_true rfl)⟩ hP hK 1 0 rfl rfl rfl hl.1 rfl (Nat.le_of_ble_eq_true rfl) dM_write_126 ⟨Nat.zero_le _, Nat.zero_le _⟩ ?_
      refine tI (b9t e52) ?_
      refine lv_if_eq (tgt := 146) hx hb dM_write_129 (by decide) (fun h129 => absurd h129 (by decide +kernel)) (fun h129 => ?_)
      refine lv_aload_n hx hb dM_write_132 rfl (lv_at hl 4 rfl) ?_
      refine va_get (D := D) (ci := 1) (v := .ref a) (C := R_M) (T := T_M) (N := 3) hx hb hg uM_in hown hK hP 0 rfl rfl 1 (by decide) (hg _ w_271) (fun _ h9 => h9) rfl dM_write_133 ?_
      refine lv_iload hx hb dM_write_136 (lv_at hl 3 rfl) ?_
      refine lv_iload hx hb dM_write_138 (lv_at hl 2 rfl) ?_
      refine lv_iload_n hx hb dM_write_140 rfl (lv_at hl 6 rfl) ?_
      refine kS (n := 3) (As := [.int (nI (dk q)), .int (nI (q / 4)), .int (nI h)]) (rest := [.ref a]) ⟨hx, hb, hml, hown, hts⟩ (mM_at l (dk q) (q / 4) h) w_311 w_312 w_2 w_313 (by decide +kernel) ⟨rfl, rfl⟩ ⟨(Nat.le_of_ble_eq_true rfl), (Nat.le_of_ble_eq_true rfl)⟩ rfl hl.1 rfl (Nat.le_of_ble_eq_true rfl) dM_write_141 ⟨Nat.zero_le _, Nat.zero_le _⟩ ?_
      refine lv_lload_n hx hb dM_write_144 rfl (lv_at hl 7 rfl) ?_
      refine sL hx hb hK hP hD hS 1 0 rfl rfl (ix_lt (dk_lt _) (by omega) (by omega)) (by decide) dM_write_145 (fun H locs hP hD hS => ?_)
      have hP : va_P D cls_ (wM o a b cA iA (nI 0) (vp_updL cf (ix (dk q) (q / 4) h) v) uf) H := hP
      have hD : va_D A (wM o a b cA iA (nI 0) (vp_updL cf (ix (dk q) (q / 4) h) v) uf) := hD
      exact W.vret hx hb hr (fun t9 ht9 _ => ⟨⟨(), rfl, trivial, by show va_P _ _ _ t9.heap; rw [ht9]; rw [wN, if_pos e52, wP, if_neg (nt_f e98)]; exact hP⟩, hS.F ht9⟩) hS.2.2 dM_write_146
    · have e98 := bi_1 h98
      refine lv_aload_n hx hb dM_write_101 rfl (lv_at hl 4 rfl) ?_
      refine va_get (D := D) (ci := 1) (v := .ref a) (C := R_M) (T := T_M) (N := 3) hx hb hg uM_in hown hK hP 0 rfl rfl 1 (by decide) (hg _ w_271) (fun _ h9 => h9) rfl dM_write_102 ?_
      refine lv_iload hx hb dM_write_105 (lv_at hl 1 rfl) ?_
      refine lv_iload hx hb dM_write_107 (lv_at hl 2 rfl) ?_
      refine lv_iload_n hx hb dM_write_109 rfl (lv_at hl 6 rfl) ?_
      refine kS (n := 3) (As := [.int (nI ((q / 4) % 5)), .int (nI (q / 4)), .int (nI h)]) (rest := [.ref a]) ⟨hx, hb, hml, hown, hts⟩ (mM_at l ((q / 4) % 5) (q / 4) h) w_311 w_312 w_2 w_313 (by decide +kernel) ⟨rfl, rfl⟩ ⟨(Nat.le_of_ble_eq_true rfl), (Nat.le_of_ble_eq_true rfl)⟩ rfl hl.1 rfl (Nat.le_of_ble_eq_true rfl) dM_write_110 ⟨Nat.zero_le _, Nat.zero_le _⟩ ?_
      refine lv_dup2_11 hx hb dM_write_113 rfl rfl ?_
      refine aL hx hb hK hP 1 0 rfl rfl (ix_lt (by omega) (by omega) (by omega)) (by decide) dM_write_114 ?_
      refine lv_lload hx hb dM_write_115 (lv_at hl 0 rfl) ?_
      refine lv_lload_n hx hb dM_write_117 rfl (lv_at hl 7 rfl) ?_
      refine lv_lxor hx hb dM_write_118 ?_
      refine lv_lxor hx hb dM_write_119 ?_
      refine sL hx hb hK hP hD hS 1 0 rfl rfl (ix_lt (by omega) (by omega) (by omega)) (by decide) dM_write_120 (fun H locs hP hD hS => ?_)
      have hP : va_P D cls_ (wM o a b cA iA (nI 0) (vp_updL cf (ix ((q / 4) % 5) (q / 4) h) ((cf (ix ((q / 4) % 5) (q / 4) h)) ^^^ ((wh cf uf (dk q) (q / 4) h) ^^^ v))) uf) H := hP
      have hD : va_D A (wM o a b cA iA (nI 0) (vp_updL cf (ix ((q / 4) % 5) (q / 4) h) ((cf (ix ((q / 4) % 5) (q / 4) h)) ^^^ ((wh cf uf (dk q) (q / 4) h) ^^^ v))) uf) := hD
      refine lv_aload_n hx hb dM_write_121 rfl (lv_at hl 4 rfl) ?_
      refine lv_iload hx hb dM_write_122 (lv_at hl 3 rfl) ?_
      refine lv_iload hx hb dM_write_124 (lv_at hl 2 rfl) ?_
      refine kV (n := 2) (As := [.int (nI (dk q)), .int (nI (q / 4))]) (rest := []) ⟨hx, hb, hml, hown, hts⟩ (mM_usable l D o a b cA iA (nI 0) (vp_updL cf (ix ((q / 4) % 5) (q / 4) h) ((cf (ix ((q / 4) % 5) (q / 4) h)) ^^^ ((wh cf uf (dk q) (q / 4) h) ^^^ v))) uf (dk q) (q / 4) (dk_lt _) (by omega)) w_303 w_305 v_13 w_2 w_306 (by decide +kernel) ⟨rfl, rfl⟩ ⟨(Nat.le_of_ble_eq_true rfl), (Nat.le_of_ble_eq_true rfl)⟩ hP hK 1 0 rfl rfl rfl hl.1 rfl (Nat.le_of_ble_eq_true rfl) dM_write_126 ⟨Nat.zero_le _, Nat.zero_le _⟩ ?_
      refine tI (b9t e52) ?_
      refine lv_if_eq (tgt := 146) hx hb dM_write_129 (by decide) (fun h129 => absurd h129 (by decide +kernel)) (fun h129 => ?_)
      refine lv_aload_n hx hb dM_write_132 rfl (lv_at hl 4 rfl) ?_
      refine va_get (D := D) (ci := 1) (v := .ref a) (C := R_M) (T := T_M) (N := 3) hx hb hg uM_in hown hK hP 0 rfl rfl 1 (by decide) (hg _ w_271) (fun _ h9 => h9) rfl dM_write_133 ?_
      refine lv_iload hx hb dM_write_136 (lv_at hl 3 rfl) ?_
      refine lv_iload hx hb dM_write_138 (lv_at hl 2 rfl) ?_
      refine lv_iload_n hx hb dM_write_140 rfl (lv_at hl 6 rfl) ?_
      refine kS (n := 3) (As := [.int (nI (dk q)), .int (nI (q / 4)), .int (nI h)]) (rest := [.ref a]) ⟨hx, hb, hml, hown, hts⟩ (mM_at l (dk q) (q / 4) h) w_311 w_312 w_2 w_313 (by decide +kernel) ⟨rfl, rfl⟩ ⟨(Nat.le_of_ble_eq_true rfl), (Nat.le_of_ble_eq_true rfl)⟩ rfl hl.1 rfl (Nat.le_of_ble_eq_true rfl) dM_write_141 ⟨Nat.zero_le _, Nat.zero_le _⟩ ?_
      refine lv_lload_n hx hb dM_write_144 rfl (lv_at hl 7 rfl) ?_
      refine sL hx hb hK hP hD hS 1 0 rfl rfl (ix_lt (dk_lt _) (by omega) (by omega)) (by decide) dM_write_145 (fun H locs hP hD hS => ?_)
      have hP : va_P D cls_ (wM o a b cA iA (nI 0) (vp_updL (vp_updL cf (ix ((q / 4) % 5) (q / 4) h) ((cf (ix ((q / 4) % 5) (q / 4) h)) ^^^ ((wh cf uf (dk q) (q / 4) h) ^^^ v))) (ix (dk q) (q / 4) h) v) uf) H := hP
      have hD : va_D A (wM o a b cA iA (nI 0) (vp_updL (vp_updL cf (ix ((q / 4) % 5) (q / 4) h) ((cf (ix ((q / 4) % 5) (q / 4) h)) ^^^ ((wh cf uf (dk q) (q / 4) h) ^^^ v))) (ix (dk q) (q / 4) h) v) uf) := hD
      exact W.vret hx hb hr (fun t9 ht9 _ => ⟨⟨(), rfl, trivial, by show va_P _ _ _ t9.heap; rw [ht9]; rw [wN, if_pos e52, wP, if_pos e98]; exact hP⟩, hS.F ht9⟩) hS.2.2 dM_write_146
  · have e52 := bi_0 h52
    have e98 := cu_p hil e52
    refine lv_aload_n hx hb dM_write_55 rfl (lv_at hl 3 rfl) ?_
    refine lv_iload hx hb dM_write_56 (lv_at hl 0 rfl) ?_
    refine lv_iload hx hb dM_write_58 (lv_at hl 1 rfl) ?_
    refine kV (n := 2) (As := [.int (nI ((q / 4) % 5)), .int (nI (q / 4))]) (rest := [.ref o]) ⟨hx, hb, hml, hown, hts⟩ (mM_usable l D o a b cA iA (nI 0) cf uf ((q / 4) % 5) (q / 4) (by omega) (by omega)) w_303 w_305 v_13 w_2 w_306 (by decide +kernel) ⟨rfl, rfl⟩ ⟨(Nat.le_of_ble_eq_true rfl), (Nat.le_of_ble_eq_true rfl)⟩ hP hK 1 0 rfl rfl rfl hl.1 rfl (Nat.le_of_ble_eq_true rfl) dM_write_60 ⟨Nat.zero_le _, Nat.zero_le _⟩ ?_
    refine tI (b9t e98) ?_
    refine lv_if_ne (tgt := 70) hx hb dM_write_63 (by decide) (fun h63 => ?_) (fun h63 => absurd h63 (by decide +kernel))
    refine lv_iconst (v := nI 0) hx hb dM_write_70 (by decide +kernel) ?_
    refine lv_iconst (v := nI 2) hx hb dM_write_71 (by decide +kernel) ?_
    refine kVi (n := 2) (As := [.int (nI 0), .int (nI 2)]) (rest := []) ⟨hx, hb, hml, hown, hts⟩ (mM_fails_f l D o a b cA iA (nI 0) cf uf H.size 2) w_292 w_294 v_11 w_2 w_295 (by decide +kernel) ⟨rfl, rfl⟩ ⟨(Nat.le_of_ble_eq_true rfl), (Nat.le_of_ble_eq_true rfl)⟩ hP hK hD hS hA rfl 1 0 rfl rfl rfl hl.1 rfl (Nat.le_of_ble_eq_true rfl) dM_write_72 ⟨Nat.zero_le _, Nat.zero_le _⟩ (fun H locs hP hD hS => ?_)
    refine lv_if_eq (tgt := 79) hx hb dM_write_75 (by decide) (fun h75 => ?_) (fun h75 => absurd (by decide +kernel) h75)
    refine lv_aload_n hx hb dM_write_79 rfl (lv_at hl 3 rfl) ?_
    refine lv_iload hx hb dM_write_80 (lv_at hl 2 rfl) ?_
    refine lv_iload hx hb dM_write_82 (lv_at hl 1 rfl) ?_
    refine lv_iload_n hx hb dM_write_84 rfl (lv_at hl 5 rfl) ?_
    refine kV (n := 3) (As := [.int (nI (dk q)), .int (nI (q / 4)), .int (nI h)]) (rest := []) ⟨hx, hb, hml, hown, hts⟩ (mM_has l D o a b cA iA (nI 0) cf uf (dk q) (q / 4) h (dk_lt _) (by omega) (by omega)) w_307 w_309 v_14 w_2 w_310 (by decide +kernel) ⟨rfl, rfl⟩ ⟨(Nat.le_of_ble_eq_true rfl), (Nat.le_of_ble_eq_true rfl)⟩ hP hK 1 0 rfl rfl rfl hl.1 rfl (Nat.le_of_ble_eq_true rfl) dM_write_85 ⟨Nat.zero_le _, Nat.zero_le _⟩ ?_
    refine lv_lstore hx hb dM_write_88 hl (by decide) rfl (fun ls hl => ?_)
    have hl : lv_has ls 10 [(8, .long (wh cf uf (dk q) (q / 4) h)), (7, .int (nI ((q / 4) % 5))), (6, .int (nI (q / 4))), (5, .int (nI (dk q))), (0, .ref o), (1, .int (nI q)), (2, .int (nI h)), (3, .long v)] := hl
    refine lv_aload_n hx hb dM_write_90 rfl (lv_at hl 4 rfl) ?_
    refine lv_iload hx hb dM_write_91 (lv_at hl 1 rfl) ?_
    refine lv_iload hx hb dM_write_93 (lv_at hl 2 rfl) ?_
    refine kV (n := 2) (As := [.int (nI ((q / 4) % 5)), .int (nI (q / 4))]) (rest := []) ⟨hx, hb, hml, hown, hts⟩ (mM_usable l D o a b cA iA (nI 0) cf uf ((q / 4) % 5) (q / 4) (by omega) (by omega)) w_303 w_305 v_13 w_2 w_306 (by decide +kernel) ⟨rfl, rfl⟩ ⟨(Nat.le_of_ble_eq_true rfl), (Nat.le_of_ble_eq_true rfl)⟩ hP hK 1 0 rfl rfl rfl hl.1 rfl (Nat.le_of_ble_eq_true rfl) dM_write_95 ⟨Nat.zero_le _, Nat.zero_le _⟩ ?_
    refine tI (b9t e98) ?_
    refine lv_if_eq (tgt := 121) hx hb dM_write_98 (by decide) (fun h98 => absurd h98 (by decide +kernel)) (fun h98 => ?_)
    refine lv_aload_n hx hb dM_write_101 rfl (lv_at hl 4 rfl) ?_
    refine va_get (D := D) (ci := 1) (v := .ref a) (C := R_M) (T := T_M) (N := 3) hx hb hg uM_in hown hK hP 0 rfl rfl 1 (by decide) (hg _ w_271) (fun _ h9 => h9) rfl dM_write_102 ?_
    refine lv_iload hx hb dM_write_105 (lv_at hl 1 rfl) ?_
    refine lv_iload hx hb dM_write_107 (lv_at hl 2 rfl) ?_
    refine lv_iload_n hx hb dM_write_109 rfl (lv_at hl 6 rfl) ?_
    refine kS (n := 3) (As := [.int (nI ((q / 4) % 5)), .int (nI (q / 4)), .int (nI h)]) (rest := [.ref a]) ⟨hx, hb, hml, hown, hts⟩ (mM_at l ((q / 4) % 5) (q / 4) h) w_311 w_312 w_2 w_313 (by decide +kernel) ⟨rfl, rfl⟩ ⟨(Nat.le_of_ble_eq_true rfl), (Nat.le_of_ble_eq_true rfl)⟩ rfl hl.1 rfl (Nat.le_of_ble_eq_true rfl) dM_write_110 ⟨Nat.zero_le _, Nat.zero_le _⟩ ?_
    refine lv_dup2_11 hx hb dM_write_113 rfl rfl ?_
    refine aL hx hb hK hP 1 0 rfl rfl (ix_lt (by omega) (by omega) (by omega)) (by decide) dM_write_114 ?_
    refine lv_lload hx hb dM_write_115 (lv_at hl 0 rfl) ?_
    refine lv_lload_n hx hb dM_write_117 rfl (lv_at hl 7 rfl) ?_
    refine lv_lxor hx hb dM_write_118 ?_
    refine lv_lxor hx hb dM_write_119 ?_
    refine sL hx hb hK hP hD hS 1 0 rfl rfl (ix_lt (by omega) (by omega) (by omega)) (by decide) dM_write_120 (fun H locs hP hD hS => ?_)
    have hP : va_P D cls_ (wM o a b cA iA (nI 0) (vp_updL cf (ix ((q / 4) % 5) (q / 4) h) ((cf (ix ((q / 4) % 5) (q / 4) h)) ^^^ ((wh cf uf (dk q) (q / 4) h) ^^^ v))) uf) H := hP
    have hD : va_D A (wM o a b cA iA (nI 0) (vp_updL cf (ix ((q / 4) % 5) (q / 4) h) ((cf (ix ((q / 4) % 5) (q / 4) h)) ^^^ ((wh cf uf (dk q) (q / 4) h) ^^^ v))) uf) := hD
    refine lv_aload_n hx hb dM_write_121 rfl (lv_at hl 4 rfl) ?_
    refine lv_iload hx hb dM_write_122 (lv_at hl 3 rfl) ?_
    refine lv_iload hx hb dM_write_124 (lv_at hl 2 rfl) ?_
    refine kV (n := 2) (As := [.int (nI (dk q)), .int (nI (q / 4))]) (rest := []) ⟨hx, hb, hml, hown, hts⟩ (mM_usable l D o a b cA iA (nI 0) (vp_updL cf (ix ((q / 4) % 5) (q / 4) h) ((cf (ix ((q / 4) % 5) (q / 4) h)) ^^^ ((wh cf uf (dk q) (q / 4) h) ^^^ v))) uf (dk q) (q / 4) (dk_lt _) (by omega)) w_303 w_305 v_13 w_2 w_306 (by decide +kernel) ⟨rfl, rfl⟩ ⟨(Nat.le_of_ble_eq_true rfl), (Nat.le_of_ble_eq_true rfl)⟩ hP hK 1 0 rfl rfl rfl hl.1 rfl (Nat.le_of_ble_eq_true rfl) dM_write_126 ⟨Nat.zero_le _, Nat.zero_le _⟩ ?_
    refine tI (b9f e52) ?_
    refine lv_if_eq (tgt := 146) hx hb dM_write_129 (by decide) (fun h129 => ?_) (fun h129 => absurd (by decide +kernel) h129)
    exact W.vret hx hb hr (fun t9 ht9 _ => ⟨⟨(), rfl, trivial, by show va_P _ _ _ t9.heap; rw [ht9]; rw [wN, if_neg (nt_f e52), wP, if_pos e98]; exact hP⟩, hS.F ht9⟩) hS.2.2 dM_write_146
set_option maxHeartbeats 4000000 in
set_option maxRecDepth 100000 in
theorem mM_fail_a (l : Launch) (D : va_G) (o a b : Nat) (cA iA : ClassId) (er : Int32) (cf : Nat → Int64) (uf : Nat → Int32) (sz : Nat) (x : Int32) (hbad : inR x 5 = false) : Met l yM_fail (.code yM_fail cM_fail 2 none :: gW) ({ frames := 1, cells := 0, slots := 0, locals := 22 }) (pWs D (wM o a b cA iA er cf uf) (kT cA iA) sz [.ref o, .int x]) (QV D (wM o a b cA iA (nI 1) cf uf) (va_A (wM o a b cA iA er cf uf) sz)) 0 0 (va_A (wM o a b cA iA er cf uf) sz) := by
  refine Met.ofW (cc := cM_fail) (maxL := 2) (ret := none) (by decide) rfl ?_
  intro p e s m args below meth c s₁ B hml hv
  obtain ⟨rfl, hsz, hP, hK, hD0⟩ := hv
  have hx := B.exec
  have hb := B.bytes
  have hr := B.returns
  have hts := atoms_spec (ws := (.code yM_fail cM_fail 2 none :: gW)) B.pre
  have hg : ∀ w ∈ gW, w.before ([.ref o, .int x]).toArray s = true := fun w h => hts w (List.mem_cons_of_mem _ h)
  have hown : s.vm.findClass R_M = some m.cls := findClass_of_methodNamed B.named
  have hlocks := B.notSynchronized
  subst hsz
  have hD := hD0.self (sz := s.heap.size)
  generalize hAe : va_A (wM o a b cA iA er cf uf) s.heap.size = A at hD ⊢
  have hA : ∀ q : Nat, s.heap.size ≤ q → A q := fun q h => by rw [← hAe]; exact Or.inr h
  have hS : va_S A s.heap s.heap [] := va_S.rf
  have hP : va_P D cls_ (wM o a b cA iA er cf uf) s.heap := hP
  have hl := lv_entry ([.ref o, .int x]) (n := 2) (Nat.le_of_ble_eq_true rfl)
  rw [lg_entry_eq]
  generalize (lg_sl ([.ref o, .int x]) ++ List.replicate (2 - (lg_sl ([.ref o, .int x])).length) Slot.unset).toArray = ls at hl ⊢
  have hl : lv_has ls 2 [(0, .ref o), (1, .int x)] := hl
  refine lv_aload_n hx hb dM_fail_0 rfl (lv_at hl 0 rfl) ?_
  refine lv_iload_n hx hb dM_fail_1 rfl (lv_at hl 1 rfl) ?_
  refine kS (n := 1) (As := [.int x]) (rest := [.ref o]) ⟨hx, hb, hml, hown, hts⟩ (mM_none l x) w_326 w_327 w_2 w_328 (by decide +kernel) ⟨rfl, rfl⟩ ⟨(Nat.le_of_ble_eq_true rfl), (Nat.le_of_ble_eq_true rfl)⟩ rfl hl.1 rfl (Nat.le_of_ble_eq_true rfl) dM_fail_2 ⟨Nat.zero_le _, Nat.zero_le _⟩ ?_
  refine tI (b9t (by rw [hbad]; rfl)) ?_
  refine lv_iconst (v := nI 1) hx hb dM_fail_5 (by decide +kernel) ?_
  refine kVi (n := 2) (As := [.int (nI 1), .int (nI 1)]) (rest := []) ⟨hx, hb, hml, hown, hts⟩ (mM_fails_t l D o a b cA iA er cf uf s.heap.size 1) w_292 w_294 v_11 w_2 w_295 (by decide +kernel) ⟨rfl, rfl⟩ ⟨(Nat.le_of_ble_eq_true rfl), (Nat.le_of_ble_eq_true rfl)⟩ hP hK hD hS hA rfl 1 0 rfl rfl rfl hl.1 rfl (Nat.le_of_ble_eq_true rfl) dM_fail_6 ⟨Nat.zero_le _, Nat.zero_le _⟩ (fun H locs hP hD hS => ?_)
  refine lv_if_eq (tgt := 13) hx hb dM_fail_9 (by decide) (fun h9 => absurd h9 (by decide +kernel)) (fun h9 => ?_)
  exact W.vret hx hb hr (fun t9 ht9 _ => ⟨⟨(), rfl, trivial, by show va_P _ _ _ t9.heap; rw [ht9]; exact hP⟩, hS.F ht9⟩) hS.2.2 dM_fail_12
set_option maxHeartbeats 4000000 in
set_option maxRecDepth 100000 in
theorem mM_fail_ok (l : Launch) (D : va_G) (o a b : Nat) (cA iA : ClassId) (er : Int32) (cf : Nat → Int64) (uf : Nat → Int32) (sz : Nat) (d : Nat) (hd : d < 5) : Met l yM_fail (.code yM_fail cM_fail 2 none :: gW) ({ frames := 1, cells := 0, slots := 0, locals := 22 }) (pWs D (wM o a b cA iA er cf uf) (kT cA iA) sz [.ref o, .int (nI d)]) (QV D (wM o a b cA iA (nI 0) cf (upd uf d (-1))) (va_A (wM o a b cA iA er cf uf) sz)) 0 0 (va_A (wM o a b cA iA er cf uf) sz) := by
  refine Met.ofW (cc := cM_fail) (maxL := 2) (ret := none) (by decide) rfl ?_
  intro p e s m args below meth c s₁ B hml hv
  obtain ⟨rfl, hsz, hP, hK, hD0⟩ := hv
  have hx := B.exec
  have hb := B.bytes
  have hr := B.returns
  have hts := atoms_spec (ws := (.code yM_fail cM_fail 2 none :: gW)) B.pre
  have hg : ∀ w ∈ gW, w.before ([.ref o, .int (nI d)]).toArray s = true := fun w h => hts w (List.mem_cons_of_mem _ h)
  have hown : s.vm.findClass R_M = some m.cls := findClass_of_methodNamed B.named
  have hlocks := B.notSynchronized
  subst hsz
  have hD := hD0.self (sz := s.heap.size)
  generalize hAe : va_A (wM o a b cA iA er cf uf) s.heap.size = A at hD ⊢
  have hA : ∀ q : Nat, s.heap.size ≤ q → A q := fun q h => by rw [← hAe]; exact Or.inr h
  have hS : va_S A s.heap s.heap [] := va_S.rf
  have hP : va_P D cls_ (wM o a b cA iA er cf uf) s.heap := hP
  have hl := lv_entry ([.ref o, .int (nI d)]) (n := 2) (Nat.le_of_ble_eq_true rfl)
  rw [lg_entry_eq]
  generalize (lg_sl ([.ref o, .int (nI d)]) ++ List.replicate (2 - (lg_sl ([.ref o, .int (nI d)])).length) Slot.unset).toArray = ls at hl ⊢
  have hl : lv_has ls 2 [(0, .ref o), (1, .int (nI d))] := hl
  refine lv_aload_n hx hb dM_fail_0 rfl (lv_at hl 0 rfl) ?_
  refine lv_iload_n hx hb dM_fail_1 rfl (lv_at hl 1 rfl) ?_
  refine kS (n := 1) (As := [.int (nI d)]) (rest := [.ref o]) ⟨hx, hb, hml, hown, hts⟩ (mM_none l (nI d)) w_326 w_327 w_2 w_328 (by decide +kernel) ⟨rfl, rfl⟩ ⟨(Nat.le_of_ble_eq_true rfl), (Nat.le_of_ble_eq_true rfl)⟩ rfl hl.1 rfl (Nat.le_of_ble_eq_true rfl) dM_fail_2 ⟨Nat.zero_le _, Nat.zero_le _⟩ ?_
  refine tI (b9f (by rw [inR_of (by decide) hd]; rfl)) ?_
  refine lv_iconst (v := nI 1) hx hb dM_fail_5 (by decide +kernel) ?_
  refine kVi (n := 2) (As := [.int (nI 0), .int (nI 1)]) (rest := []) ⟨hx, hb, hml, hown, hts⟩ (mM_fails_f l D o a b cA iA er cf uf s.heap.size 1) w_292 w_294 v_11 w_2 w_295 (by decide +kernel) ⟨rfl, rfl⟩ ⟨(Nat.le_of_ble_eq_true rfl), (Nat.le_of_ble_eq_true rfl)⟩ hP hK hD hS hA rfl 1 0 rfl rfl rfl hl.1 rfl (Nat.le_of_ble_eq_true rfl) dM_fail_6 ⟨Nat.zero_le _, Nat.zero_le _⟩ (fun H locs hP hD hS => ?_)
  refine lv_if_eq (tgt := 13) hx hb dM_fail_9 (by decide) (fun h9 => ?_) (fun h9 => absurd (by decide +kernel) h9)
  refine lv_aload_n hx hb dM_fail_13 rfl (lv_at hl 0 rfl) ?_
  refine va_get (D := D) (ci := 1) (v := .ref b) (C := R_M) (T := T_M) (N := 3) hx hb hg uM_in hown hK hP 0 rfl rfl 2 (by decide) (hg _ w_272) (fun _ h9 => h9) rfl dM_fail_14 ?_
  refine lv_iload_n hx hb dM_fail_17 rfl (lv_at hl 1 rfl) ?_
  refine lv_iconst (v := -1) hx hb dM_fail_18 (by decide +kernel) ?_
  refine sI hx hb hK hP hD hS 2 1 rfl rfl (by omega) (by decide) dM_fail_19 (fun H locs hP hD hS => ?_)
  have hP : va_P D cls_ (wM o a b cA iA (nI 0) cf (upd uf d (-1))) H := hP
  have hD : va_D A (wM o a b cA iA (nI 0) cf (upd uf d (-1))) := hD
  exact W.vret hx hb hr (fun t9 ht9 _ => ⟨⟨(), rfl, trivial, by show va_P _ _ _ t9.heap; rw [ht9]; exact hP⟩, hS.F ht9⟩) hS.2.2 dM_fail_20
set_option maxHeartbeats 4000000 in
set_option maxRecDepth 100000 in
theorem mM_state_a (l : Launch) (D : va_G) (o a b : Nat) (cA iA : ClassId) (er : Int32) (cf : Nat → Int64) (uf : Nat → Int32) (sz : Nat) (x : Int32) (hbad : inR x 5 = false) : Met l yM_state (.code yM_state cM_state 2 (some .int) :: gW) ({ frames := 1, cells := 0, slots := 0, locals := 22 }) (pWs D (wM o a b cA iA er cf uf) (kT cA iA) sz [.ref o, .int x]) (QI (nI 0) D (wM o a b cA iA (nI 1) cf uf) (va_A (wM o a b cA iA er cf uf) sz)) 0 0 (va_A (wM o a b cA iA er cf uf) sz) := by
  refine Met.ofW (cc := cM_state) (maxL := 2) (ret := (some .int)) (by decide) rfl ?_
  intro p e s m args below meth c s₁ B hml hv
  obtain ⟨rfl, hsz, hP, hK, hD0⟩ := hv
  have hx := B.exec
  have hb := B.bytes
  have hr := B.returns
  have hts := atoms_spec (ws := (.code yM_state cM_state 2 (some .int) :: gW)) B.pre
  have hg : ∀ w ∈ gW, w.before ([.ref o, .int x]).toArray s = true := fun w h => hts w (List.mem_cons_of_mem _ h)
  have hown : s.vm.findClass R_M = some m.cls := findClass_of_methodNamed B.named
  have hlocks := B.notSynchronized
  subst hsz
  have hD := hD0.self (sz := s.heap.size)
  generalize hAe : va_A (wM o a b cA iA er cf uf) s.heap.size = A at hD ⊢
  have hA : ∀ q : Nat, s.heap.size ≤ q → A q := fun q h => by rw [← hAe]; exact Or.inr h
  have hS : va_S A s.heap s.heap [] := va_S.rf
  have hP : va_P D cls_ (wM o a b cA iA er cf uf) s.heap := hP
  have hl := lv_entry ([.ref o, .int x]) (n := 2) (Nat.le_of_ble_eq_true rfl)
  rw [lg_entry_eq]
  generalize (lg_sl ([.ref o, .int x]) ++ List.replicate (2 - (lg_sl ([.ref o, .int x])).length) Slot.unset).toArray = ls at hl ⊢
  have hl : lv_has ls 2 [(0, .ref o), (1, .int x)] := hl
  refine lv_aload_n hx hb dM_state_0 rfl (lv_at hl 0 rfl) ?_
  refine lv_iload_n hx hb dM_state_1 rfl (lv_at hl 1 rfl) ?_
  refine kS (n := 1) (As := [.int x]) (rest := [.ref o]) ⟨hx, hb, hml, hown, hts⟩ (mM_none l x) w_326 w_327 w_2 w_328 (by decide +kernel) ⟨rfl, rfl⟩ ⟨(Nat.le_of_ble_eq_true rfl), (Nat.le_of_ble_eq_true rfl)⟩ rfl hl.1 rfl (Nat.le_of_ble_eq_true rfl) dM_state_2 ⟨Nat.zero_le _, Nat.zero_le _⟩ ?_
  refine tI (b9t (by rw [hbad]; rfl)) ?_
  refine lv_iconst (v := nI 1) hx hb dM_state_5 (by decide +kernel) ?_
  refine kVi (n := 2) (As := [.int (nI 1), .int (nI 1)]) (rest := []) ⟨hx, hb, hml, hown, hts⟩ (mM_fails_t l D o a b cA iA er cf uf s.heap.size 1) w_292 w_294 v_11 w_2 w_295 (by decide +kernel) ⟨rfl, rfl⟩ ⟨(Nat.le_of_ble_eq_true rfl), (Nat.le_of_ble_eq_true rfl)⟩ hP hK hD hS hA rfl 1 0 rfl rfl rfl hl.1 rfl (Nat.le_of_ble_eq_true rfl) dM_state_6 ⟨Nat.zero_le _, Nat.zero_le _⟩ (fun H locs hP hD hS => ?_)
  refine lv_if_eq (tgt := 14) hx hb dM_state_9 (by decide) (fun h9 => absurd h9 (by decide +kernel)) (fun h9 => ?_)
  refine lv_iconst (v := nI 0) hx hb dM_state_12 (by decide +kernel) ?_
  exact W.iret (v := nI 0) hx hb hr (fun t9 ht9 _ => ⟨⟨_, (), rfl, by show _ = _; rfl, by show va_P _ _ _ t9.heap; rw [ht9]; exact hP⟩, hS.F ht9⟩) hS.2.2 dM_state_13
set_option maxHeartbeats 4000000 in
set_option maxRecDepth 100000 in
theorem mM_state_ok (l : Launch) (D : va_G) (o a b : Nat) (cA iA : ClassId) (er : Int32) (cf : Nat → Int64) (uf : Nat → Int32) (sz : Nat) (d : Nat) (hd : d < 5) (hu : uf d = -1 ∨ 0 ≤ uf d) : Met l yM_state (.code yM_state cM_state 2 (some .int) :: gW) ({ frames := 1, cells := 0, slots := 0, locals := 22 }) (pWs D (wM o a b cA iA er cf uf) (kT cA iA) sz [.ref o, .int (nI d)]) (QI (sv (uf d)) D (wM o a b cA iA (nI 0) cf uf) (va_A (wM o a b cA iA er cf uf) sz)) 0 0 (va_A (wM o a b cA iA er cf uf) sz) := by
  refine Met.ofW (cc := cM_state) (maxL := 2) (ret := (some .int)) (by decide) rfl ?_
  intro p e s m args below meth c s₁ B hml hv
  obtain ⟨rfl, hsz, hP, hK, hD0⟩ := hv
  have hx := B.exec
  have hb := B.bytes
  have hr := B.returns
  have hts := atoms_spec (ws := (.code yM_state cM_state 2 (some .int) :: gW)) B.pre
  have hg : ∀ w ∈ gW, w.before ([.ref o, .int (nI d)]).toArray s = true := fun w h => hts w (List.mem_cons_of_mem _ h)
  have hown : s.vm.findClass R_M = some m.cls := findClass_of_methodNamed B.named
  have hlocks := B.notSynchronized
  subst hsz
  have hD := hD0.self (sz := s.heap.size)
  generalize hAe : va_A (wM o a b cA iA er cf uf) s.heap.size = A at hD ⊢
  have hA : ∀ q : Nat, s.heap.size ≤ q → A q := fun q h => by rw [← hAe]; exact Or.inr h
  have hS : va_S A s.heap s.heap [] := va_S.rf
  have hP : va_P D cls_ (wM o a b cA iA er cf uf) s.heap := hP
  have hl := lv_entry ([.ref o, .int (nI d)]) (n := 2) (Nat.le_of_ble_eq_true rfl)
  rw [lg_entry_eq]
  generalize (lg_sl ([.ref o, .int (nI d)]) ++ List.replicate (2 - (lg_sl ([.ref o, .int (nI d)])).length) Slot.unset).toArray = ls at hl ⊢
  have hl : lv_has ls 2 [(0, .ref o), (1, .int (nI d))] := hl
  refine lv_aload_n hx hb dM_state_0 rfl (lv_at hl 0 rfl) ?_
  refine lv_iload_n hx hb dM_state_1 rfl (lv_at hl 1 rfl) ?_
  refine kS (n := 1) (As := [.int (nI d)]) (rest := [.ref o]) ⟨hx, hb, hml, hown, hts⟩ (mM_none l (nI d)) w_326 w_327 w_2 w_328 (by decide +kernel) ⟨rfl, rfl⟩ ⟨(Nat.le_of_ble_eq_true rfl), (Nat.le_of_ble_eq_true rfl)⟩ rfl hl.1 rfl (Nat.le_of_ble_eq_true rfl) dM_state_2 ⟨Nat.zero_le _, Nat.zero_le _⟩ ?_
  refine tI (b9f (by rw [inR_of (by decide) hd]; rfl)) ?_
  refine lv_iconst (v := nI 1) hx hb dM_state_5 (by decide +kernel) ?_
  refine kVi (n := 2) (As := [.int (nI 0), .int (nI 1)]) (rest := []) ⟨hx, hb, hml, hown, hts⟩ (mM_fails_f l D o a b cA iA er cf uf s.heap.size 1) w_292 w_294 v_11 w_2 w_295 (by decide +kernel) ⟨rfl, rfl⟩ ⟨(Nat.le_of_ble_eq_true rfl), (Nat.le_of_ble_eq_true rfl)⟩ hP hK hD hS hA rfl 1 0 rfl rfl rfl hl.1 rfl (Nat.le_of_ble_eq_true rfl) dM_state_6 ⟨Nat.zero_le _, Nat.zero_le _⟩ (fun H locs hP hD hS => ?_)
  refine lv_if_eq (tgt := 14) hx hb dM_state_9 (by decide) (fun h9 => ?_) (fun h9 => absurd (by decide +kernel) h9)
  refine lv_aload_n hx hb dM_state_14 rfl (lv_at hl 0 rfl) ?_
  refine va_get (D := D) (ci := 1) (v := .ref b) (C := R_M) (T := T_M) (N := 3) hx hb hg uM_in hown hK hP 0 rfl rfl 2 (by decide) (hg _ w_272) (fun _ h9 => h9) rfl dM_state_15 ?_
  refine lv_iload_n hx hb dM_state_18 rfl (lv_at hl 1 rfl) ?_
  refine aI hx hb hK hP 2 1 rfl rfl (by omega) (by decide) dM_state_19 ?_
  refine lv_bipush (v := nI 100) hx hb dM_state_20 (by decide +kernel) ?_
  refine lv_icmp_ne (tgt := 29) hx hb dM_state_22 (by decide) (fun h22 => ?_) (fun h22 => ?_)
  · refine lv_aload_n hx hb dM_state_29 rfl (lv_at hl 0 rfl) ?_
    refine va_get (D := D) (ci := 1) (v := .ref b) (C := R_M) (T := T_M) (N := 3) hx hb hg uM_in hown hK hP 0 rfl rfl 2 (by decide) (hg _ w_272) (fun _ h9 => h9) rfl dM_state_30 ?_
    refine lv_iload_n hx hb dM_state_33 rfl (lv_at hl 1 rfl) ?_
    refine aI hx hb hK hP 2 1 rfl rfl (by omega) (by decide) dM_state_34 ?_
    refine lv_if_ge (tgt := 42) hx hb dM_state_35 (by decide) (fun h35 => ?_) (fun h35 => ?_)
    · refine lv_iconst (v := nI 2) hx hb dM_state_42 (by decide +kernel) ?_
      refine lv_aload_n hx hb dM_state_43 rfl (lv_at hl 0 rfl) ?_
      refine va_get (D := D) (ci := 1) (v := .ref b) (C := R_M) (T := T_M) (N := 3) hx hb hg uM_in hown hK hP 0 rfl rfl 2 (by decide) (hg _ w_272) (fun _ h9 => h9) rfl dM_state_44 ?_
      refine lv_iload_n hx hb dM_state_47 rfl (lv_at hl 1 rfl) ?_
      refine aI hx hb hK hP 2 1 rfl rfl (by omega) (by decide) dM_state_48 ?_
      refine lv_iadd hx hb dM_state_49 ?_
      exact W.iret (v := (nI 2) + (uf d)) hx hb hr (fun t9 ht9 _ => ⟨⟨_, (), rfl, by show _ = _; rw [sv, if_neg h22, if_neg (fun z => absurd h35 (by rw [z]; decide))], by show va_P _ _ _ t9.heap; rw [ht9]; exact hP⟩, hS.F ht9⟩) hS.2.2 dM_state_50
    · refine lv_iconst (v := nI 1) hx hb dM_state_38 (by decide +kernel) ?_
      refine lv_goto (tgt := 50) hx hb dM_state_39 (by decide) ?_
      exact W.iret (v := nI 1) hx hb hr (fun t9 ht9 _ => ⟨⟨_, (), rfl, by show _ = _; rw [sv, if_neg h22, if_pos (hu.resolve_right h35)], by show va_P _ _ _ t9.heap; rw [ht9]; exact hP⟩, hS.F ht9⟩) hS.2.2 dM_state_50
  · refine lv_iconst (v := nI 0) hx hb dM_state_25 (by decide +kernel) ?_
    refine lv_goto (tgt := 50) hx hb dM_state_26 (by decide) ?_
    exact W.iret (v := nI 0) hx hb hr (fun t9 ht9 _ => ⟨⟨_, (), rfl, by show _ = _; rw [sv, if_pos h22], by show va_P _ _ _ t9.heap; rw [ht9]; exact hP⟩, hS.F ht9⟩) hS.2.2 dM_state_50
