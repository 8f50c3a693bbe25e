set_option maxHeartbeats 4000000 in
set_option maxRecDepth 100000 in
theorem mM_flip_a (l : Launch) (D : va_G) (o a b : Nat) (cA iA : ClassId) (er : Int32) (cf : Nat → Int64) (uf : Nat → Int32) (sz : Nat) (x y z : Int32) (v : Int64) (hbad : (inR x 5 && (inR y 100 && inR z 2)) = false) : Met l yM_flip (.code yM_flip cM_flip 6 none :: gW) ({ frames := 2, cells := 0, slots := 0, locals := 43 }) (pWs D (wM o a b cA iA er cf uf) (kT cA iA) sz [.ref o, .int x, .int y, .int z, .long v]) (QV D (wM o a b cA iA (nI 1) cf uf) (va_A (wM o a b cA iA er cf uf) sz)) 0 0 (va_A (wM o a b cA iA er cf uf) sz) := by
  refine Met.ofW (cc := cM_flip) (maxL := 6) (ret := none) (by decide) rfl ?_
  intro p e s m args below meth c s₁ B hml hv
  obtain ⟨rfl, hsz, hP, hK, hD0⟩ := hv
  have hx := B.exec
  have hb := B.bytes
  have hr := B.returns
  have hts := atoms_spec (ws := (.code yM_flip cM_flip 6 none :: gW)) B.pre
  have hg : ∀ w ∈ gW, w.before ([.ref o, .int x, .int y, .int z, .long v]).toArray s = true := fun w h => hts w (List.mem_cons_of_mem _ h)
  have hown : s.vm.findClass R_M = some m.cls := findClass_of_methodNamed B.named
  have hlocks := B.notSynchronized
  subst hsz
  have hD := hD0.self (sz := s.heap.size)
  generalize hAe : va_A (wM o a b cA iA er cf uf) s.heap.size = A at hD ⊢
  have hA : ∀ q : Nat, s.heap.size ≤ q → A q := fun q h => by rw [← hAe]; exact Or.inr h
  have hS : va_S A s.heap s.heap [] := va_S.rf
  have hP : va_P D cls_ (wM o a b cA iA er cf uf) s.heap := hP
  have hl := lv_entry ([.ref o, .int x, .int y, .int z, .long v]) (n := 6) (Nat.le_of_ble_eq_true rfl)
  rw [lg_entry_eq]
  generalize (lg_sl ([.ref o, .int x, .int y, .int z, .long v]) ++ List.replicate (6 - (lg_sl ([.ref o, .int x, .int y, .int z, .long v])).length) Slot.unset).toArray = ls at hl ⊢
  have hl : lv_has ls 6 [(0, .ref o), (1, .int x), (2, .int y), (3, .int z), (4, .long v)] := hl
  refine lv_aload_n hx hb dM_flip_0 rfl (lv_at hl 0 rfl) ?_
  refine lv_aload_n hx hb dM_flip_1 rfl (lv_at hl 0 rfl) ?_
  refine lv_iload_n hx hb dM_flip_2 rfl (lv_at hl 1 rfl) ?_
  refine lv_iload_n hx hb dM_flip_3 rfl (lv_at hl 2 rfl) ?_
  refine lv_iload_n hx hb dM_flip_4 rfl (lv_at hl 3 rfl) ?_
  refine kV (n := 3) (As := [.int x, .int y, .int z]) (rest := [.ref o]) ⟨hx, hb, hml, hown, hts⟩ (mM_noBlock l D o a b cA iA er cf uf x y z) w_341 w_343 v_16 w_2 w_344 (by decide +kernel) ⟨rfl, rfl⟩ ⟨(Nat.le_of_ble_eq_true rfl), (Nat.le_of_ble_eq_true rfl)⟩ hP hK 1 0 rfl rfl rfl hl.1 rfl (Nat.le_of_ble_eq_true rfl) dM_flip_5 ⟨Nat.zero_le _, Nat.zero_le _⟩ ?_
  refine tI (b9t (by rw [hbad]; rfl)) ?_
  refine lv_iconst (v := nI 1) hx hb dM_flip_8 (by decide +kernel) ?_
  refine kVi (n := 2) (As := [.int (nI 1), .int (nI 1)]) (rest := []) ⟨hx, hb, hml, hown, hts⟩ (mM_fails_t l D o a b cA iA er cf uf s.heap.size 1) w_292 w_294 v_11 w_2 w_295 (by decide +kernel) ⟨rfl, rfl⟩ ⟨(Nat.le_of_ble_eq_true rfl), (Nat.le_of_ble_eq_true rfl)⟩ hP hK hD hS hA rfl 1 0 rfl rfl rfl hl.1 rfl (Nat.le_of_ble_eq_true rfl) dM_flip_9 ⟨Nat.zero_le _, Nat.zero_le _⟩ (fun H locs hP hD hS => ?_)
  refine lv_if_eq (tgt := 16) hx hb dM_flip_12 (by decide) (fun h12 => absurd h12 (by decide +kernel)) (fun h12 => ?_)
  exact W.vret hx hb hr (fun t9 ht9 _ => ⟨⟨(), rfl, trivial, by show va_P _ _ _ t9.heap; rw [ht9]; exact hP⟩, hS.F ht9⟩) hS.2.2 dM_flip_15
set_option maxHeartbeats 4000000 in
set_option maxRecDepth 100000 in
theorem mM_flip_s (l : Launch) (D : va_G) (o a b : Nat) (cA iA : ClassId) (er : Int32) (cf : Nat → Int64) (uf : Nat → Int32) (sz : Nat) (d t h : Nat) (hd : d < 5) (ht : t < 100) (hh : h < 2) (v : Int64) (hu : uf d = -1) : Met l yM_flip (.code yM_flip cM_flip 6 none :: gW) ({ frames := 2, cells := 0, slots := 0, locals := 43 }) (pWs D (wM o a b cA iA er cf uf) (kT cA iA) sz [.ref o, .int (nI d), .int (nI t), .int (nI h), .long v]) (QV D (wM o a b cA iA (nI 2) cf uf) (va_A (wM o a b cA iA er cf uf) sz)) 0 0 (va_A (wM o a b cA iA er cf uf) sz) := by
  refine Met.ofW (cc := cM_flip) (maxL := 6) (ret := none) (by decide) rfl ?_
  intro p e s m args below meth c s₁ B hml hv
  obtain ⟨rfl, hsz, hP, hK, hD0⟩ := hv
  have hx := B.exec
  have hb := B.bytes
  have hr := B.returns
  have hts := atoms_spec (ws := (.code yM_flip cM_flip 6 none :: gW)) B.pre
  have hg : ∀ w ∈ gW, w.before ([.ref o, .int (nI d), .int (nI t), .int (nI h), .long v]).toArray s = true := fun w h => hts w (List.mem_cons_of_mem _ h)
  have hown : s.vm.findClass R_M = some m.cls := findClass_of_methodNamed B.named
  have hlocks := B.notSynchronized
  subst hsz
  have hD := hD0.self (sz := s.heap.size)
  generalize hAe : va_A (wM o a b cA iA er cf uf) s.heap.size = A at hD ⊢
  have hA : ∀ q : Nat, s.heap.size ≤ q → A q := fun q h => by rw [← hAe]; exact Or.inr h
  have hS : va_S A s.heap s.heap [] := va_S.rf
  have hP : va_P D cls_ (wM o a b cA iA er cf uf) s.heap := hP
  have hl := lv_entry ([.ref o, .int (nI d), .int (nI t), .int (nI h), .long v]) (n := 6) (Nat.le_of_ble_eq_true rfl)
  rw [lg_entry_eq]
  generalize (lg_sl ([.ref o, .int (nI d), .int (nI t), .int (nI h), .long v]) ++ List.replicate (6 - (lg_sl ([.ref o, .int (nI d), .int (nI t), .int (nI h), .long v])).length) Slot.unset).toArray = ls at hl ⊢
  have hl : lv_has ls 6 [(0, .ref o), (1, .int (nI d)), (2, .int (nI t)), (3, .int (nI h)), (4, .long v)] := hl
  refine lv_aload_n hx hb dM_flip_0 rfl (lv_at hl 0 rfl) ?_
  refine lv_aload_n hx hb dM_flip_1 rfl (lv_at hl 0 rfl) ?_
  refine lv_iload_n hx hb dM_flip_2 rfl (lv_at hl 1 rfl) ?_
  refine lv_iload_n hx hb dM_flip_3 rfl (lv_at hl 2 rfl) ?_
  refine lv_iload_n hx hb dM_flip_4 rfl (lv_at hl 3 rfl) ?_
  refine kV (n := 3) (As := [.int (nI d), .int (nI t), .int (nI h)]) (rest := [.ref o]) ⟨hx, hb, hml, hown, hts⟩ (mM_noBlock l D o a b cA iA er cf uf (nI d) (nI t) (nI h)) w_341 w_343 v_16 w_2 w_344 (by decide +kernel) ⟨rfl, rfl⟩ ⟨(Nat.le_of_ble_eq_true rfl), (Nat.le_of_ble_eq_true rfl)⟩ hP hK 1 0 rfl rfl rfl hl.1 rfl (Nat.le_of_ble_eq_true rfl) dM_flip_5 ⟨Nat.zero_le _, Nat.zero_le _⟩ ?_
  refine tI (b9f (by rw [inR_of (by decide) hd, inR_of (by decide) ht, inR_of (by decide) hh]; rfl)) ?_
  refine lv_iconst (v := nI 1) hx hb dM_flip_8 (by decide +kernel) ?_
  refine kVi (n := 2) (As := [.int (nI 0), .int (nI 1)]) (rest := []) ⟨hx, hb, hml, hown, hts⟩ (mM_fails_f l D o a b cA iA er cf uf s.heap.size 1) w_292 w_294 v_11 w_2 w_295 (by decide +kernel) ⟨rfl, rfl⟩ ⟨(Nat.le_of_ble_eq_true rfl), (Nat.le_of_ble_eq_true rfl)⟩ hP hK hD hS hA rfl 1 0 rfl rfl rfl hl.1 rfl (Nat.le_of_ble_eq_true rfl) dM_flip_9 ⟨Nat.zero_le _, Nat.zero_le _⟩ (fun H locs hP hD hS => ?_)
  refine lv_if_eq (tgt := 16) hx hb dM_flip_12 (by decide) (fun h12 => ?_) (fun h12 => absurd (by decide +kernel) h12)
  refine lv_aload_n hx hb dM_flip_16 rfl (lv_at hl 0 rfl) ?_
  refine lv_aload_n hx hb dM_flip_17 rfl (lv_at hl 0 rfl) ?_
  refine va_get (D := D) (ci := 1) (v := .ref b) (C := R_M) (T := T_M) (N := 3) hx hb hg uM_in hown hK hP 0 rfl rfl 2 (by decide) (hg _ w_272) (fun _ h9 => h9) rfl dM_flip_18 ?_
  refine lv_iload_n hx hb dM_flip_21 rfl (lv_at hl 1 rfl) ?_
  refine aI hx hb hK hP 2 1 rfl rfl (by omega) (by decide) dM_flip_22 ?_
  refine lv_if_ge (tgt := 30) hx hb dM_flip_23 (by decide) (fun h23 => absurd h23 (by rw [hu]; decide)) (fun h23 => ?_)
  refine lv_iconst (v := nI 1) hx hb dM_flip_26 (by decide +kernel) ?_
  refine lv_goto (tgt := 31) hx hb dM_flip_27 (by decide) ?_
  refine lv_iconst (v := nI 2) hx hb dM_flip_31 (by decide +kernel) ?_
  refine kVi (n := 2) (As := [.int (nI 1), .int (nI 2)]) (rest := []) ⟨hx, hb, hml, hown, hts⟩ (mM_fails_t l D o a b cA iA (nI 0) cf uf H.size 2) w_292 w_294 v_11 w_2 w_295 (by decide +kernel) ⟨rfl, rfl⟩ ⟨(Nat.le_of_ble_eq_true rfl), (Nat.le_of_ble_eq_true rfl)⟩ hP hK hD hS hA rfl 1 0 rfl rfl rfl hl.1 rfl (Nat.le_of_ble_eq_true rfl) dM_flip_32 ⟨Nat.zero_le _, Nat.zero_le _⟩ (fun H locs hP hD hS => ?_)
  refine lv_if_eq (tgt := 39) hx hb dM_flip_35 (by decide) (fun h35 => absurd h35 (by decide +kernel)) (fun h35 => ?_)
  exact W.vret hx hb hr (fun t9 ht9 _ => ⟨⟨(), rfl, trivial, by show va_P _ _ _ t9.heap; rw [ht9]; exact hP⟩, hS.F ht9⟩) hS.2.2 dM_flip_38
set_option maxHeartbeats 4000000 in
set_option maxRecDepth 100000 in
theorem mM_flip_ok (l : Launch) (D : va_G) (o a b : Nat) (cA iA : ClassId) (er : Int32) (cf : Nat → Int64) (uf : Nat → Int32) (sz : Nat) (d t h : Nat) (hd : d < 5) (ht : t < 100) (hh : h < 2) (v : Int64) (hu : 0 ≤ uf d) : Met l yM_flip (.code yM_flip cM_flip 6 none :: gW) ({ frames := 2, cells := 0, slots := 0, locals := 43 }) (pWs D (wM o a b cA iA er cf uf) (kT cA iA) sz [.ref o, .int (nI d), .int (nI t), .int (nI h), .long v]) (QV D (wM o a b cA iA (nI 0) (vp_updL cf (ix d t h) (cf (ix d t h) ^^^ v)) uf) (va_A (wM o a b cA iA er cf uf) sz)) 0 0 (va_A (wM o a b cA iA er cf uf) sz) := by
  refine Met.ofW (cc := cM_flip) (maxL := 6) (ret := none) (by decide) rfl ?_
  intro p e s m args below meth c s₁ B hml hv
  obtain ⟨rfl, hsz, hP, hK, hD0⟩ := hv
  have hx := B.exec
  have hb := B.bytes
  have hr := B.returns
  have hts := atoms_spec (ws := (.code yM_flip cM_flip 6 none :: gW)) B.pre
  have hg : ∀ w ∈ gW, w.before ([.ref o, .int (nI d), .int (nI t), .int (nI h), .long v]).toArray s = true := fun w h => hts w (List.mem_cons_of_mem _ h)
  have hown : s.vm.findClass R_M = some m.cls := findClass_of_methodNamed B.named
  have hlocks := B.notSynchronized
  subst hsz
  have hD := hD0.self (sz := s.heap.size)
  generalize hAe : va_A (wM o a b cA iA er cf uf) s.heap.size = A at hD ⊢
  have hA : ∀ q : Nat, s.heap.size ≤ q → A q := fun q h => by rw [← hAe]; exact Or.inr h
  have hS : va_S A s.heap s.heap [] := va_S.rf
  have hP : va_P D cls_ (wM o a b cA iA er cf uf) s.heap := hP
  have hl := lv_entry ([.ref o, .int (nI d), .int (nI t), .int (nI h), .long v]) (n := 6) (Nat.le_of_ble_eq_true rfl)
  rw [lg_entry_eq]
  generalize (lg_sl ([.ref o, .int (nI d), .int (nI t), .int (nI h), .long v]) ++ List.replicate (6 - (lg_sl ([.ref o, .int (nI d), .int (nI t), .int (nI h), .long v])).length) Slot.unset).toArray = ls at hl ⊢
  have hl : lv_has ls 6 [(0, .ref o), (1, .int (nI d)), (2, .int (nI t)), (3, .int (nI h)), (4, .long v)] := hl
  refine lv_aload_n hx hb dM_flip_0 rfl (lv_at hl 0 rfl) ?_
  refine lv_aload_n hx hb dM_flip_1 rfl (lv_at hl 0 rfl) ?_
  refine lv_iload_n hx hb dM_flip_2 rfl (lv_at hl 1 rfl) ?_
  refine lv_iload_n hx hb dM_flip_3 rfl (lv_at hl 2 rfl) ?_
  refine lv_iload_n hx hb dM_flip_4 rfl (lv_at hl 3 rfl) ?_
  refine kV (n := 3) (As := [.int (nI d), .int (nI t), .int (nI h)]) (rest := [.ref o]) ⟨hx, hb, hml, hown, hts⟩ (mM_noBlock l D o a b cA iA er cf uf (nI d) (nI t) (nI h)) w_341 w_343 v_16 w_2 w_344 (by decide +kernel) ⟨rfl, rfl⟩ ⟨(Nat.le_of_ble_eq_true rfl), (Nat.le_of_ble_eq_true rfl)⟩ hP hK 1 0 rfl rfl rfl hl.1 rfl (Nat.le_of_ble_eq_true rfl) dM_flip_5 ⟨Nat.zero_le _, Nat.zero_le _⟩ ?_
  refine tI (b9f (by rw [inR_of (by decide) hd, inR_of (by decide) ht, inR_of (by decide) hh]; rfl)) ?_
  refine lv_iconst (v := nI 1) hx hb dM_flip_8 (by decide +kernel) ?_
  refine kVi (n := 2) (As := [.int (nI 0), .int (nI 1)]) (rest := []) ⟨hx, hb, hml, hown, hts⟩ (mM_fails_f l D o a b cA iA er cf uf s.heap.size 1) w_292 w_294 v_11 w_2 w_295 (by decide +kernel) ⟨rfl, rfl⟩ ⟨(Nat.le_of_ble_eq_true rfl), (Nat.le_of_ble_eq_true rfl)⟩ hP hK hD hS hA rfl 1 0 rfl rfl rfl hl.1 rfl (Nat.le_of_ble_eq_true rfl) dM_flip_9 ⟨Nat.zero_le _, Nat.zero_le _⟩ (fun H locs hP hD hS => ?_)
  refine lv_if_eq (tgt := 16) hx hb dM_flip_12 (by decide) (fun h12 => ?_) (fun h12 => absurd (by decide +kernel) h12)
  refine lv_aload_n hx hb dM_flip_16 rfl (lv_at hl 0 rfl) ?_
  refine lv_aload_n hx hb dM_flip_17 rfl (lv_at hl 0 rfl) ?_
  refine va_get (D := D) (ci := 1) (v := .ref b) (C := R_M) (T := T_M) (N := 3) hx hb hg uM_in hown hK hP 0 rfl rfl 2 (by decide) (hg _ w_272) (fun _ h9 => h9) rfl dM_flip_18 ?_
  refine lv_iload_n hx hb dM_flip_21 rfl (lv_at hl 1 rfl) ?_
  refine aI hx hb hK hP 2 1 rfl rfl (by omega) (by decide) dM_flip_22 ?_
  refine lv_if_ge (tgt := 30) hx hb dM_flip_23 (by decide) (fun h23 => ?_) (fun h23 => absurd hu h23)
  refine lv_iconst (v := nI 0) hx hb dM_flip_30 (by decide +kernel) ?_
  refine lv_iconst (v := nI 2) hx hb dM_flip_31 (by decide +kernel) ?_
  refine kVi (n := 2) (As := [.int (nI 0), .int (nI 2)]) (rest := []) ⟨hx, hb, hml, hown, hts⟩ (mM_fails_f l D o a b cA iA (nI 0) cf uf H.size 2) w_292 w_294 v_11 w_2 w_295 (by decide +kernel) ⟨rfl, rfl⟩ ⟨(Nat.le_of_ble_eq_true rfl), (Nat.le_of_ble_eq_true rfl)⟩ hP hK hD hS hA rfl 1 0 rfl rfl rfl hl.1 rfl (Nat.le_of_ble_eq_true rfl) dM_flip_32 ⟨Nat.zero_le _, Nat.zero_le _⟩ (fun H locs hP hD hS => ?_)
  refine lv_if_eq (tgt := 39) hx hb dM_flip_35 (by decide) (fun h35 => ?_) (fun h35 => absurd (by decide +kernel) h35)
  refine lv_aload_n hx hb dM_flip_39 rfl (lv_at hl 0 rfl) ?_
  refine va_get (D := D) (ci := 1) (v := .ref a) (C := R_M) (T := T_M) (N := 3) hx hb hg uM_in hown hK hP 0 rfl rfl 1 (by decide) (hg _ w_271) (fun _ h9 => h9) rfl dM_flip_40 ?_
  refine lv_iload_n hx hb dM_flip_43 rfl (lv_at hl 1 rfl) ?_
  refine lv_iload_n hx hb dM_flip_44 rfl (lv_at hl 2 rfl) ?_
  refine lv_iload_n hx hb dM_flip_45 rfl (lv_at hl 3 rfl) ?_
  refine kS (n := 3) (As := [.int (nI d), .int (nI t), .int (nI h)]) (rest := [.ref a]) ⟨hx, hb, hml, hown, hts⟩ (mM_at l d t h) w_311 w_312 w_2 w_313 (by decide +kernel) ⟨rfl, rfl⟩ ⟨(Nat.le_of_ble_eq_true rfl), (Nat.le_of_ble_eq_true rfl)⟩ rfl hl.1 rfl (Nat.le_of_ble_eq_true rfl) dM_flip_46 ⟨Nat.zero_le _, Nat.zero_le _⟩ ?_
  refine lv_dup2_11 hx hb dM_flip_49 rfl rfl ?_
  refine aL hx hb hK hP 1 0 rfl rfl (ix_lt (by omega) (by omega) (by omega)) (by decide) dM_flip_50 ?_
  refine lv_lload hx hb dM_flip_51 (lv_at hl 4 rfl) ?_
  refine lv_lxor hx hb dM_flip_53 ?_
  refine sL hx hb hK hP hD hS 1 0 rfl rfl (ix_lt (by omega) (by omega) (by omega)) (by decide) dM_flip_54 (fun H locs hP hD hS => ?_)
  have hP : va_P D cls_ (wM o a b cA iA (nI 0) (vp_updL cf (ix d t h) ((cf (ix d t h)) ^^^ v)) uf) H := hP
  have hD : va_D A (wM o a b cA iA (nI 0) (vp_updL cf (ix d t h) ((cf (ix d t h)) ^^^ v)) uf) := hD
  exact W.vret hx hb hr (fun t9 ht9 _ => ⟨⟨(), rfl, trivial, by show va_P _ _ _ t9.heap; rw [ht9]; exact hP⟩, hS.F ht9⟩) hS.2.2 dM_flip_55
set_option maxHeartbeats 4000000 in
set_option maxRecDepth 100000 in
theorem mM_block_a (l : Launch) (D : va_G) (o a b : Nat) (cA iA : ClassId) (er : Int32) (cf : Nat → Int64) (uf : Nat → Int32) (sz : Nat) (x y z : Int32) (hbad : (inR x 5 && (inR y 100 && inR z 2)) = false) : Met l yM_block (.code yM_block cM_block 4 (some .long) :: gW) ({ frames := 2, cells := 0, slots := 0, locals := 43 }) (pWs D (wM o a b cA iA er cf uf) (kT cA iA) sz [.ref o, .int x, .int y, .int z]) (QL (0) D (wM o a b cA iA (nI 1) cf uf) (va_A (wM o a b cA iA er cf uf) sz)) 0 0 (va_A (wM o a b cA iA er cf uf) sz) := by
  refine Met.ofW (cc := cM_block) (maxL := 4) (ret := (some .long)) (by decide) rfl ?_
  intro p e s m args below meth c s₁ B hml hv
  obtain ⟨rfl, hsz, hP, hK, hD0⟩ := hv
  have hx := B.exec
  have hb := B.bytes
  have hr := B.returns
  have hts := atoms_spec (ws := (.code yM_block cM_block 4 (some .long) :: gW)) B.pre
  have hg : ∀ w ∈ gW, w.before ([.ref o, .int x, .int y, .int z]).toArray s = true := fun w h => hts w (List.mem_cons_of_mem _ h)
  have hown : s.vm.findClass R_M = some m.cls := findClass_of_methodNamed B.named
  have hlocks := B.notSynchronized
  subst hsz
  have hD := hD0.self (sz := s.heap.size)
  generalize hAe : va_A (wM o a b cA iA er cf uf) s.heap.size = A at hD ⊢
  have hA : ∀ q : Nat, s.heap.size ≤ q → A q := fun q h => by rw [← hAe]; exact Or.inr h
  have hS : va_S A s.heap s.heap [] := va_S.rf
  have hP : va_P D cls_ (wM o a b cA iA er cf uf) s.heap := hP
  have hl := lv_entry ([.ref o, .int x, .int y, .int z]) (n := 4) (Nat.le_of_ble_eq_true rfl)
  rw [lg_entry_eq]
  generalize (lg_sl ([.ref o, .int x, .int y, .int z]) ++ List.replicate (4 - (lg_sl ([.ref o, .int x, .int y, .int z])).length) Slot.unset).toArray = ls at hl ⊢
  have hl : lv_has ls 4 [(0, .ref o), (1, .int x), (2, .int y), (3, .int z)] := hl
  refine lv_aload_n hx hb dM_block_0 rfl (lv_at hl 0 rfl) ?_
  refine lv_aload_n hx hb dM_block_1 rfl (lv_at hl 0 rfl) ?_
  refine lv_iload_n hx hb dM_block_2 rfl (lv_at hl 1 rfl) ?_
  refine lv_iload_n hx hb dM_block_3 rfl (lv_at hl 2 rfl) ?_
  refine lv_iload_n hx hb dM_block_4 rfl (lv_at hl 3 rfl) ?_
  refine kV (n := 3) (As := [.int x, .int y, .int z]) (rest := [.ref o]) ⟨hx, hb, hml, hown, hts⟩ (mM_noBlock l D o a b cA iA er cf uf x y z) w_341 w_343 v_16 w_2 w_344 (by decide +kernel) ⟨rfl, rfl⟩ ⟨(Nat.le_of_ble_eq_true rfl), (Nat.le_of_ble_eq_true rfl)⟩ hP hK 1 0 rfl rfl rfl hl.1 rfl (Nat.le_of_ble_eq_true rfl) dM_block_5 ⟨Nat.zero_le _, Nat.zero_le _⟩ ?_
  refine tI (b9t (by rw [hbad]; rfl)) ?_
  refine lv_iconst (v := nI 1) hx hb dM_block_8 (by decide +kernel) ?_
  refine kVi (n := 2) (As := [.int (nI 1), .int (nI 1)]) (rest := []) ⟨hx, hb, hml, hown, hts⟩ (mM_fails_t l D o a b cA iA er cf uf s.heap.size 1) w_292 w_294 v_11 w_2 w_295 (by decide +kernel) ⟨rfl, rfl⟩ ⟨(Nat.le_of_ble_eq_true rfl), (Nat.le_of_ble_eq_true rfl)⟩ hP hK hD hS hA rfl 1 0 rfl rfl rfl hl.1 rfl (Nat.le_of_ble_eq_true rfl) dM_block_9 ⟨Nat.zero_le _, Nat.zero_le _⟩ (fun H locs hP hD hS => ?_)
  refine lv_if_eq (tgt := 17) hx hb dM_block_12 (by decide) (fun h12 => absurd h12 (by decide +kernel)) (fun h12 => ?_)
  refine lv_lconst (v := 0) hx hb dM_block_15 (by decide +kernel) ?_
  exact W.lret (v := 0) hx hb hr (fun t9 ht9 _ => ⟨⟨_, (), rfl, by show _ = _; rfl, by show va_P _ _ _ t9.heap; rw [ht9]; exact hP⟩, hS.F ht9⟩) hS.2.2 dM_block_16
set_option maxHeartbeats 4000000 in
set_option maxRecDepth 100000 in
theorem mM_block_s (l : Launch) (D : va_G) (o a b : Nat) (cA iA : ClassId) (er : Int32) (cf : Nat → Int64) (uf : Nat → Int32) (sz : Nat) (d t h : Nat) (hd : d < 5) (ht : t < 100) (hh : h < 2) (hu : uf d = -1) : Met l yM_block (.code yM_block cM_block 4 (some .long) :: gW) ({ frames := 2, cells := 0, slots := 0, locals := 43 }) (pWs D (wM o a b cA iA er cf uf) (kT cA iA) sz [.ref o, .int (nI d), .int (nI t), .int (nI h)]) (QL (0) D (wM o a b cA iA (nI 2) cf uf) (va_A (wM o a b cA iA er cf uf) sz)) 0 0 (va_A (wM o a b cA iA er cf uf) sz) := by
  refine Met.ofW (cc := cM_block) (maxL := 4) (ret := (some .long)) (by decide) rfl ?_
  intro p e s m args below meth c s₁ B hml hv
  obtain ⟨rfl, hsz, hP, hK, hD0⟩ := hv
  have hx := B.exec
  have hb := B.bytes
  have hr := B.returns
  have hts := atoms_spec (ws := (.code yM_block cM_block 4 (some .long) :: gW)) B.pre
  have hg : ∀ w ∈ gW, w.before ([.ref o, .int (nI d), .int (nI t), .int (nI h)]).toArray s = true := fun w h => hts w (List.mem_cons_of_mem _ h)
  have hown : s.vm.findClass R_M = some m.cls := findClass_of_methodNamed B.named
  have hlocks := B.notSynchronized
  subst hsz
  have hD := hD0.self (sz := s.heap.size)
  generalize hAe : va_A (wM o a b cA iA er cf uf) s.heap.size = A at hD ⊢
  have hA : ∀ q : Nat, s.heap.size ≤ q → A q := fun q h => by rw [← hAe]; exact Or.inr h
  have hS : va_S A s.heap s.heap [] := va_S.rf
  have hP : va_P D cls_ (wM o a b cA iA er cf uf) s.heap := hP
  have hl := lv_entry ([.ref o, .int (nI d), .int (nI t), .int (nI h)]) (n := 4) (Nat.le_of_ble_eq_true rfl)
  rw [lg_entry_eq]
  generalize (lg_sl ([.ref o, .int (nI d), .int (nI t), .int (nI h)]) ++ List.replicate (4 - (lg_sl ([.ref o, .int (nI d), .int (nI t), .int (nI h)])).length) Slot.unset).toArray = ls at hl ⊢
  have hl : lv_has ls 4 [(0, .ref o), (1, .int (nI d)), (2, .int (nI t)), (3, .int (nI h))] := hl
  refine lv_aload_n hx hb dM_block_0 rfl (lv_at hl 0 rfl) ?_
  refine lv_aload_n hx hb dM_block_1 rfl (lv_at hl 0 rfl) ?_
  refine lv_iload_n hx hb dM_block_2 rfl (lv_at hl 1 rfl) ?_
  refine lv_iload_n hx hb dM_block_3 rfl (lv_at hl 2 rfl) ?_
  refine lv_iload_n hx hb dM_block_4 rfl (lv_at hl 3 rfl) ?_
  refine kV (n := 3) (As := [.int (nI d), .int (nI t), .int (nI h)]) (rest := [.ref o]) ⟨hx, hb, hml, hown, hts⟩ (mM_noBlock l D o a b cA iA er cf uf (nI d) (nI t) (nI h)) w_341 w_343 v_16 w_2 w_344 (by decide +kernel) ⟨rfl, rfl⟩ ⟨(Nat.le_of_ble_eq_true rfl), (Nat.le_of_ble_eq_true rfl)⟩ hP hK 1 0 rfl rfl rfl hl.1 rfl (Nat.le_of_ble_eq_true rfl) dM_block_5 ⟨Nat.zero_le _, Nat.zero_le _⟩ ?_
  refine tI (b9f (by rw [inR_of (by decide) hd, inR_of (by decide) ht, inR_of (by decide) hh]; rfl)) ?_
  refine lv_iconst (v := nI 1) hx hb dM_block_8 (by decide +kernel) ?_
  refine kVi (n := 2) (As := [.int (nI 0), .int (nI 1)]) (rest := []) ⟨hx, hb, hml, hown, hts⟩ (mM_fails_f l D o a b cA iA er cf uf s.heap.size 1) w_292 w_294 v_11 w_2 w_295 (by decide +kernel) ⟨rfl, rfl⟩ ⟨(Nat.le_of_ble_eq_true rfl), (Nat.le_of_ble_eq_true rfl)⟩ hP hK hD hS hA rfl 1 0 rfl rfl rfl hl.1 rfl (Nat.le_of_ble_eq_true rfl) dM_block_9 ⟨Nat.zero_le _, Nat.zero_le _⟩ (fun H locs hP hD hS => ?_)
  refine lv_if_eq (tgt := 17) hx hb dM_block_12 (by decide) (fun h12 => ?_) (fun h12 => absurd (by decide +kernel) h12)
  refine lv_aload_n hx hb dM_block_17 rfl (lv_at hl 0 rfl) ?_
  refine lv_aload_n hx hb dM_block_18 rfl (lv_at hl 0 rfl) ?_
  refine va_get (D := D) (ci := 1) (v := .ref b) (C := R_M) (T := T_M) (N := 3) hx hb hg uM_in hown hK hP 0 rfl rfl 2 (by decide) (hg _ w_272) (fun _ h9 => h9) rfl dM_block_19 ?_
  refine lv_iload_n hx hb dM_block_22 rfl (lv_at hl 1 rfl) ?_
  refine aI hx hb hK hP 2 1 rfl rfl (by omega) (by decide) dM_block_23 ?_
  refine lv_if_ge (tgt := 31) hx hb dM_block_24 (by decide) (fun h24 => absurd h24 (by rw [hu]; decide)) (fun h24 => ?_)
  refine lv_iconst (v := nI 1) hx hb dM_block_27 (by decide +kernel) ?_
  refine lv_goto (tgt := 32) hx hb dM_block_28 (by decide) ?_
  refine lv_iconst (v := nI 2) hx hb dM_block_32 (by decide +kernel) ?_
  refine kVi (n := 2) (As := [.int (nI 1), .int (nI 2)]) (rest := []) ⟨hx, hb, hml, hown, hts⟩ (mM_fails_t l D o a b cA iA (nI 0) cf uf H.size 2) w_292 w_294 v_11 w_2 w_295 (by decide +kernel) ⟨rfl, rfl⟩ ⟨(Nat.le_of_ble_eq_true rfl), (Nat.le_of_ble_eq_true rfl)⟩ hP hK hD hS hA rfl 1 0 rfl rfl rfl hl.1 rfl (Nat.le_of_ble_eq_true rfl) dM_block_33 ⟨Nat.zero_le _, Nat.zero_le _⟩ (fun H locs hP hD hS => ?_)
  refine lv_if_eq (tgt := 43) hx hb dM_block_36 (by decide) (fun h36 => absurd h36 (by decide +kernel)) (fun h36 => ?_)
  refine lv_lconst (v := 0) hx hb dM_block_39 (by decide +kernel) ?_
  refine lv_goto (tgt := 54) hx hb dM_block_40 (by decide) ?_
  exact W.lret (v := 0) hx hb hr (fun t9 ht9 _ => ⟨⟨_, (), rfl, by show _ = _; rfl, by show va_P _ _ _ t9.heap; rw [ht9]; exact hP⟩, hS.F ht9⟩) hS.2.2 dM_block_54
set_option maxHeartbeats 4000000 in
set_option maxRecDepth 100000 in
theorem mM_block_ok (l : Launch) (D : va_G) (o a b : Nat) (cA iA : ClassId) (er : Int32) (cf : Nat → Int64) (uf : Nat → Int32) (sz : Nat) (d t h : Nat) (hd : d < 5) (ht : t < 100) (hh : h < 2) (hu : 0 ≤ uf d) : Met l yM_block (.code yM_block cM_block 4 (some .long) :: gW) ({ frames := 2, cells := 0, slots := 0, locals := 43 }) (pWs D (wM o a b cA iA er cf uf) (kT cA iA) sz [.ref o, .int (nI d), .int (nI t), .int (nI h)]) (QL (cf (ix d t h)) D (wM o a b cA iA (nI 0) cf uf) (va_A (wM o a b cA iA er cf uf) sz)) 0 0 (va_A (wM o a b cA iA er cf uf) sz) := by
  refine Met.ofW (cc := cM_block) (maxL := 4) (ret := (some .long)) (by decide) rfl ?_
  intro p e s m args below meth c s₁ B hml hv
  obtain ⟨rfl, hsz, hP, hK, hD0⟩ := hv
  have hx := B.exec
  have hb := B.bytes
  have hr := B.returns
  have hts := atoms_spec (ws := (.code yM_block cM_block 4 (some .long) :: gW)) B.pre
  have hg : ∀ w ∈ gW, w.before ([.ref o, .int (nI d), .int (nI t), .int (nI h)]).toArray s = true := fun w h => hts w (List.mem_cons_of_mem _ h)
  have hown : s.vm.findClass R_M = some m.cls := findClass_of_methodNamed B.named
  have hlocks := B.notSynchronized
  subst hsz
  have hD := hD0.self (sz := s.heap.size)
  generalize hAe : va_A (wM o a b cA iA er cf uf) s.heap.size = A at hD ⊢
  have hA : ∀ q : Nat, s.heap.size ≤ q → A q := fun q h => by rw [← hAe]; exact Or.inr h
  have hS : va_S A s.heap s.heap [] := va_S.rf
  have hP : va_P D cls_ (wM o a b cA iA er cf uf) s.heap := hP
  have hl := lv_entry ([.ref o, .int (nI d), .int (nI t), .int (nI h)]) (n := 4) (Nat.le_of_ble_eq_true rfl)
  rw [lg_entry_eq]
  generalize (lg_sl ([.ref o, .int (nI d), .int (nI t), .int (nI h)]) ++ List.replicate (4 - (lg_sl ([.ref o, .int (nI d), .int (nI t), .int (nI h)])).length) Slot.unset).toArray = ls at hl ⊢
  have hl : lv_has ls 4 [(0, .ref o), (1, .int (nI d)), (2, .int (nI t)), (3, .int (nI h))] := hl
  refine lv_aload_n hx hb dM_block_0 rfl (lv_at hl 0 rfl) ?_
  refine lv_aload_n hx hb dM_block_1 rfl (lv_at hl 0 rfl) ?_
  refine lv_iload_n hx hb dM_block_2 rfl (lv_at hl 1 rfl) ?_
  refine lv_iload_n hx hb dM_block_3 rfl (lv_at hl 2 rfl) ?_
  refine lv_iload_n hx hb dM_block_4 rfl (lv_at hl 3 rfl) ?_
  refine kV (n := 3) (As := [.int (nI d), .int (nI t), .int (nI h)]) (rest := [.ref o]) ⟨hx, hb, hml, hown, hts⟩ (mM_noBlock l D o a b cA iA er cf uf (nI d) (nI t) (nI h)) w_341 w_343 v_16 w_2 w_344 (by decide +kernel) ⟨rfl, rfl⟩ ⟨(Nat.le_of_ble_eq_true rfl), (Nat.le_of_ble_eq_true rfl)⟩ hP hK 1 0 rfl rfl rfl hl.1 rfl (Nat.le_of_ble_eq_true rfl) dM_block_5 ⟨Nat.zero_le _, Nat.zero_le _⟩ ?_
  refine tI (b9f (by rw [inR_of (by decide) hd, inR_of (by decide) ht, inR_of (by decide) hh]; rfl)) ?_
  refine lv_iconst (v := nI 1) hx hb dM_block_8 (by decide +kernel) ?_
  refine kVi (n := 2) (As := [.int (nI 0), .int (nI 1)]) (rest := []) ⟨hx, hb, hml, hown, hts⟩ (mM_fails_f l D o a b cA iA er cf uf s.heap.size 1) w_292 w_294 v_11 w_2 w_295 (by decide +kernel) ⟨rfl, rfl⟩ ⟨(Nat.le_of_ble_eq_true rfl), (Nat.le_of_ble_eq_true rfl)⟩ hP hK hD hS hA rfl 1 0 rfl rfl rfl hl.1 rfl (Nat.le_of_ble_eq_true rfl) dM_block_9 ⟨Nat.zero_le _, Nat.zero_le _⟩ (fun H locs hP hD hS => ?_)
  refine lv_if_eq (tgt := 17) hx hb dM_block_12 (by decide) (fun h12 => ?_) (fun h12 => absurd (by decide +kernel) h12)
  refine lv_aload_n hx hb dM_block_17 rfl (lv_at hl 0 rfl) ?_
  refine lv_aload_n hx hb dM_block_18 rfl (lv_at hl 0 rfl) ?_
  refine va_get (D := D) (ci := 1) (v := .ref b) (C := R_M) (T := T_M) (N := 3) hx hb hg uM_in hown hK hP 0 rfl rfl 2 (by decide) (hg _ w_272) (fun _ h9 => h9) rfl dM_block_19 ?_
  refine lv_iload_n hx hb dM_block_22 rfl (lv_at hl 1 rfl) ?_
  refine aI hx hb hK hP 2 1 rfl rfl (by omega) (by decide) dM_block_23 ?_
  refine lv_if_ge (tgt := 31) hx hb dM_block_24 (by decide) (fun h24 => ?_) (fun h24 => absurd hu h24)
  refine lv_iconst (v := nI 0) hx hb dM_block_31 (by decide +kernel) ?_
  refine lv_iconst (v := nI 2) hx hb dM_block_32 (by decide +kernel) ?_
  refine kVi (n := 2) (As := [.int (nI 0), .int (nI 2)]) (rest := []) ⟨hx, hb, hml, hown, hts⟩ (mM_fails_f l D o a b cA iA (nI 0) cf uf H.size 2) w_292 w_294 v_11 w_2 w_295 (by decide +kernel) ⟨rfl, rfl⟩ ⟨(Nat.le_of_ble_eq_true rfl), (Nat.le_of_ble_eq_true rfl)⟩ hP hK hD hS hA rfl 1 0 rfl rfl rfl hl.1 rfl (Nat.le_of_ble_eq_true rfl) dM_block_33 ⟨Nat.zero_le _, Nat.zero_le _⟩ (fun H locs hP hD hS => ?_)
  refine lv_if_eq (tgt := 43) hx hb dM_block_36 (by decide) (fun h36 => ?_) (fun h36 => absurd (by decide +kernel) h36)
  refine lv_aload_n hx hb dM_block_43 rfl (lv_at hl 0 rfl) ?_
  refine va_get (D := D) (ci := 1) (v := .ref a) (C := R_M) (T := T_M) (N := 3) hx hb hg uM_in hown hK hP 0 rfl rfl 1 (by decide) (hg _ w_271) (fun _ h9 => h9) rfl dM_block_44 ?_
  refine lv_iload_n hx hb dM_block_47 rfl (lv_at hl 1 rfl) ?_
  refine lv_iload_n hx hb dM_block_48 rfl (lv_at hl 2 rfl) ?_
  refine lv_iload_n hx hb dM_block_49 rfl (lv_at hl 3 rfl) ?_
  refine kS (n := 3) (As := [.int (nI d), .int (nI t), .int (nI h)]) (rest := [.ref a]) ⟨hx, hb, hml, hown, hts⟩ (mM_at l d t h) w_311 w_312 w_2 w_313 (by decide +kernel) ⟨rfl, rfl⟩ ⟨(Nat.le_of_ble_eq_true rfl), (Nat.le_of_ble_eq_true rfl)⟩ rfl hl.1 rfl (Nat.le_of_ble_eq_true rfl) dM_block_50 ⟨Nat.zero_le _, Nat.zero_le _⟩ ?_
  refine aL hx hb hK hP 1 0 rfl rfl (ix_lt (by omega) (by omega) (by omega)) (by decide) dM_block_53 ?_
  exact W.lret (v := cf (ix d t h)) hx hb hr (fun t9 ht9 _ => ⟨⟨_, (), rfl, by show _ = _; rfl, by show va_P _ _ _ t9.heap; rw [ht9]; exact hP⟩, hS.F ht9⟩) hS.2.2 dM_block_54
set_option maxHeartbeats 4000000 in
set_option maxRecDepth 100000 in
theorem mM_replace_a (l : Launch) (D : va_G) (o a b : Nat) (cA iA : ClassId) (er : Int32) (cf : Nat → Int64) (uf : Nat → Int32) (sz : Nat) (x : Int32) (hbad : inR x 5 = false) : Met l yM_replace (.code yM_replace cM_replace 3 none :: gW) ({ frames := 1, cells := 0, slots := 0, locals := 22 }) (pWs D (wM o a b cA iA er cf uf) (kT cA iA) sz [.ref o, .int x]) (QV D (wM o a b cA iA (nI 1) cf uf) (va_A (wM o a b cA iA er cf uf) sz)) 0 0 (va_A (wM o a b cA iA er cf uf) sz) := by
  refine Met.ofW (cc := cM_replace) (maxL := 3) (ret := none) (by decide) rfl ?_
  intro p e s m args below meth c s₁ B hml hv
  obtain ⟨rfl, hsz, hP, hK, hD0⟩ := hv
  have hx := B.exec
  have hb := B.bytes
  have hr := B.returns
  have hts := atoms_spec (ws := (.code yM_replace cM_replace 3 none :: gW)) B.pre
  have hg : ∀ w ∈ gW, w.before ([.ref o, .int x]).toArray s = true := fun w h => hts w (List.mem_cons_of_mem _ h)
  have hown : s.vm.findClass R_M = some m.cls := findClass_of_methodNamed B.named
  have hlocks := B.notSynchronized
  subst hsz
  have hD := hD0.self (sz := s.heap.size)
  generalize hAe : va_A (wM o a b cA iA er cf uf) s.heap.size = A at hD ⊢
  have hA : ∀ q : Nat, s.heap.size ≤ q → A q := fun q h => by rw [← hAe]; exact Or.inr h
  have hS : va_S A s.heap s.heap [] := va_S.rf
  have hP : va_P D cls_ (wM o a b cA iA er cf uf) s.heap := hP
  have hl := lv_entry ([.ref o, .int x]) (n := 3) (Nat.le_of_ble_eq_true rfl)
  rw [lg_entry_eq]
  generalize (lg_sl ([.ref o, .int x]) ++ List.replicate (3 - (lg_sl ([.ref o, .int x])).length) Slot.unset).toArray = ls at hl ⊢
  have hl : lv_has ls 3 [(0, .ref o), (1, .int x)] := hl
  refine lv_aload_n hx hb dM_replace_0 rfl (lv_at hl 0 rfl) ?_
  refine lv_iload_n hx hb dM_replace_1 rfl (lv_at hl 1 rfl) ?_
  refine kS (n := 1) (As := [.int x]) (rest := [.ref o]) ⟨hx, hb, hml, hown, hts⟩ (mM_none l x) w_326 w_327 w_2 w_328 (by decide +kernel) ⟨rfl, rfl⟩ ⟨(Nat.le_of_ble_eq_true rfl), (Nat.le_of_ble_eq_true rfl)⟩ rfl hl.1 rfl (Nat.le_of_ble_eq_true rfl) dM_replace_2 ⟨Nat.zero_le _, Nat.zero_le _⟩ ?_
  refine tI (b9t (by rw [hbad]; rfl)) ?_
  refine lv_iconst (v := nI 1) hx hb dM_replace_5 (by decide +kernel) ?_
  refine kVi (n := 2) (As := [.int (nI 1), .int (nI 1)]) (rest := []) ⟨hx, hb, hml, hown, hts⟩ (mM_fails_t l D o a b cA iA er cf uf s.heap.size 1) w_292 w_294 v_11 w_2 w_295 (by decide +kernel) ⟨rfl, rfl⟩ ⟨(Nat.le_of_ble_eq_true rfl), (Nat.le_of_ble_eq_true rfl)⟩ hP hK hD hS hA rfl 1 0 rfl rfl rfl hl.1 rfl (Nat.le_of_ble_eq_true rfl) dM_replace_6 ⟨Nat.zero_le _, Nat.zero_le _⟩ (fun H locs hP hD hS => ?_)
  refine lv_if_eq (tgt := 13) hx hb dM_replace_9 (by decide) (fun h9 => absurd h9 (by decide +kernel)) (fun h9 => ?_)
  exact W.vret hx hb hr (fun t9 ht9 _ => ⟨⟨(), rfl, trivial, by show va_P _ _ _ t9.heap; rw [ht9]; exact hP⟩, hS.F ht9⟩) hS.2.2 dM_replace_12
set_option maxHeartbeats 4000000 in
set_option maxRecDepth 100000 in
theorem mM_replace_s (l : Launch) (D : va_G) (o a b : Nat) (cA iA : ClassId) (er : Int32) (cf : Nat → Int64) (uf : Nat → Int32) (sz : Nat) (d : Nat) (hd : d < 5) (hu : 0 ≤ uf d) : Met l yM_replace (.code yM_replace cM_replace 3 none :: gW) ({ frames := 1, cells := 0, slots := 0, locals := 22 }) (pWs D (wM o a b cA iA er cf uf) (kT cA iA) sz [.ref o, .int (nI d)]) (QV D (wM o a b cA iA (nI 2) cf uf) (va_A (wM o a b cA iA er cf uf) sz)) 0 0 (va_A (wM o a b cA iA er cf uf) sz) := by
  refine Met.ofW (cc := cM_replace) (maxL := 3) (ret := none) (by decide) rfl ?_
  intro p e s m args below meth c s₁ B hml hv
  obtain ⟨rfl, hsz, hP, hK, hD0⟩ := hv
  have hx := B.exec
  have hb := B.bytes
  have hr := B.returns
  have hts := atoms_spec (ws := (.code yM_replace cM_replace 3 none :: gW)) B.pre
  have hg : ∀ w ∈ gW, w.before ([.ref o, .int (nI d)]).toArray s = true := fun w h => hts w (List.mem_cons_of_mem _ h)
  have hown : s.vm.findClass R_M = some m.cls := findClass_of_methodNamed B.named
  have hlocks := B.notSynchronized
  subst hsz
  have hD := hD0.self (sz := s.heap.size)
  generalize hAe : va_A (wM o a b cA iA er cf uf) s.heap.size = A at hD ⊢
  have hA : ∀ q : Nat, s.heap.size ≤ q → A q := fun q h => by rw [← hAe]; exact Or.inr h
  have hS : va_S A s.heap s.heap [] := va_S.rf
  have hP : va_P D cls_ (wM o a b cA iA er cf uf) s.heap := hP
  have hl := lv_entry ([.ref o, .int (nI d)]) (n := 3) (Nat.le_of_ble_eq_true rfl)
  rw [lg_entry_eq]
  generalize (lg_sl ([.ref o, .int (nI d)]) ++ List.replicate (3 - (lg_sl ([.ref o, .int (nI d)])).length) Slot.unset).toArray = ls at hl ⊢
  have hl : lv_has ls 3 [(0, .ref o), (1, .int (nI d))] := hl
  refine lv_aload_n hx hb dM_replace_0 rfl (lv_at hl 0 rfl) ?_
  refine lv_iload_n hx hb dM_replace_1 rfl (lv_at hl 1 rfl) ?_
  refine kS (n := 1) (As := [.int (nI d)]) (rest := [.ref o]) ⟨hx, hb, hml, hown, hts⟩ (mM_none l (nI d)) w_326 w_327 w_2 w_328 (by decide +kernel) ⟨rfl, rfl⟩ ⟨(Nat.le_of_ble_eq_true rfl), (Nat.le_of_ble_eq_true rfl)⟩ rfl hl.1 rfl (Nat.le_of_ble_eq_true rfl) dM_replace_2 ⟨Nat.zero_le _, Nat.zero_le _⟩ ?_
  refine tI (b9f (by rw [inR_of (by decide) hd]; rfl)) ?_
  refine lv_iconst (v := nI 1) hx hb dM_replace_5 (by decide +kernel) ?_
  refine kVi (n := 2) (As := [.int (nI 0), .int (nI 1)]) (rest := []) ⟨hx, hb, hml, hown, hts⟩ (mM_fails_f l D o a b cA iA er cf uf s.heap.size 1) w_292 w_294 v_11 w_2 w_295 (by decide +kernel) ⟨rfl, rfl⟩ ⟨(Nat.le_of_ble_eq_true rfl), (Nat.le_of_ble_eq_true rfl)⟩ hP hK hD hS hA rfl 1 0 rfl rfl rfl hl.1 rfl (Nat.le_of_ble_eq_true rfl) dM_replace_6 ⟨Nat.zero_le _, Nat.zero_le _⟩ (fun H locs hP hD hS => ?_)
  refine lv_if_eq (tgt := 13) hx hb dM_replace_9 (by decide) (fun h9 => ?_) (fun h9 => absurd (by decide +kernel) h9)
  refine lv_aload_n hx hb dM_replace_13 rfl (lv_at hl 0 rfl) ?_
  refine lv_aload_n hx hb dM_replace_14 rfl (lv_at hl 0 rfl) ?_
  refine va_get (D := D) (ci := 1) (v := .ref b) (C := R_M) (T := T_M) (N := 3) hx hb hg uM_in hown hK hP 0 rfl rfl 2 (by decide) (hg _ w_272) (fun _ h9 => h9) rfl dM_replace_15 ?_
  refine lv_iload_n hx hb dM_replace_18 rfl (lv_at hl 1 rfl) ?_
  refine aI hx hb hK hP 2 1 rfl rfl (by omega) (by decide) dM_replace_19 ?_
  refine lv_if_lt (tgt := 27) hx hb dM_replace_20 (by decide) (fun h20 => absurd h20 (Int32.not_lt.mpr hu)) (fun h20 => ?_)
  refine lv_iconst (v := nI 1) hx hb dM_replace_23 (by decide +kernel) ?_
  refine lv_goto (tgt := 28) hx hb dM_replace_24 (by decide) ?_
  refine lv_iconst (v := nI 2) hx hb dM_replace_28 (by decide +kernel) ?_
  refine kVi (n := 2) (As := [.int (nI 1), .int (nI 2)]) (rest := []) ⟨hx, hb, hml, hown, hts⟩ (mM_fails_t l D o a b cA iA (nI 0) cf uf H.size 2) w_292 w_294 v_11 w_2 w_295 (by decide +kernel) ⟨rfl, rfl⟩ ⟨(Nat.le_of_ble_eq_true rfl), (Nat.le_of_ble_eq_true rfl)⟩ hP hK hD hS hA rfl 1 0 rfl rfl rfl hl.1 rfl (Nat.le_of_ble_eq_true rfl) dM_replace_29 ⟨Nat.zero_le _, Nat.zero_le _⟩ (fun H locs hP hD hS => ?_)
  refine lv_if_eq (tgt := 36) hx hb dM_replace_32 (by decide) (fun h32 => absurd h32 (by decide +kernel)) (fun h32 => ?_)
  exact W.vret hx hb hr (fun t9 ht9 _ => ⟨⟨(), rfl, trivial, by show va_P _ _ _ t9.heap; rw [ht9]; exact hP⟩, hS.F ht9⟩) hS.2.2 dM_replace_35
set_option maxHeartbeats 4000000 in
set_option maxRecDepth 100000 in
theorem mM_replace_ok (l : Launch) (D : va_G) (o a b : Nat) (cA iA : ClassId) (er : Int32) (cf : Nat → Int64) (uf : Nat → Int32) (sz : Nat) (d : Nat) (hd : d < 5) (hu : uf d = -1) : Met l yM_replace (.code yM_replace cM_replace 3 none :: gW) ({ frames := 1, cells := 0, slots := 0, locals := 22 }) (pWs D (wM o a b cA iA er cf uf) (kT cA iA) sz [.ref o, .int (nI d)]) (QV D (wM o a b cA iA (nI 0) (zr cf d 100) (upd uf d (nI 0))) (va_A (wM o a b cA iA er cf uf) sz)) 0 0 (va_A (wM o a b cA iA er cf uf) sz) := by
  refine Met.ofW (cc := cM_replace) (maxL := 3) (ret := none) (by decide) rfl ?_
  intro p e s m args below meth c s₁ B hml hv
  obtain ⟨rfl, hsz, hP, hK, hD0⟩ := hv
  have hx := B.exec
  have hb := B.bytes
  have hr := B.returns
  have hts := atoms_spec (ws := (.code yM_replace cM_replace 3 none :: gW)) B.pre
  have hg : ∀ w ∈ gW, w.before ([.ref o, .int (nI d)]).toArray s = true := fun w h => hts w (List.mem_cons_of_mem _ h)
  have hown : s.vm.findClass R_M = some m.cls := findClass_of_methodNamed B.named
  have hlocks := B.notSynchronized
  subst hsz
  have hD := hD0.self (sz := s.heap.size)
  generalize hAe : va_A (wM o a b cA iA er cf uf) s.heap.size = A at hD ⊢
  have hA : ∀ q : Nat, s.heap.size ≤ q → A q := fun q h => by rw [← hAe]; exact Or.inr h
  have hS : va_S A s.heap s.heap [] := va_S.rf
  have hP : va_P D cls_ (wM o a b cA iA er cf uf) s.heap := hP
  have hl := lv_entry ([.ref o, .int (nI d)]) (n := 3) (Nat.le_of_ble_eq_true rfl)
  rw [lg_entry_eq]
  generalize (lg_sl ([.ref o, .int (nI d)]) ++ List.replicate (3 - (lg_sl ([.ref o, .int (nI d)])).length) Slot.unset).toArray = ls at hl ⊢
  have hl : lv_has ls 3 [(0, .ref o), (1, .int (nI d))] := hl
  refine lv_aload_n hx hb dM_replace_0 rfl (lv_at hl 0 rfl) ?_
  refine lv_iload_n hx hb dM_replace_1 rfl (lv_at hl 1 rfl) ?_
  refine kS (n := 1) (As := [.int (nI d)]) (rest := [.ref o]) ⟨hx, hb, hml, hown, hts⟩ (mM_none l (nI d)) w_326 w_327 w_2 w_328 (by decide +kernel) ⟨rfl, rfl⟩ ⟨(Nat.le_of_ble_eq_true rfl), (Nat.le_of_ble_eq_true rfl)⟩ rfl hl.1 rfl (Nat.le_of_ble_eq_true rfl) dM_replace_2 ⟨Nat.zero_le _, Nat.zero_le _⟩ ?_
  refine tI (b9f (by rw [inR_of (by decide) hd]; rfl)) ?_
  refine lv_iconst (v := nI 1) hx hb dM_replace_5 (by decide +kernel) ?_
  refine kVi (n := 2) (As := [.int (nI 0), .int (nI 1)]) (rest := []) ⟨hx, hb, hml, hown, hts⟩ (mM_fails_f l D o a b cA iA er cf uf s.heap.size 1) w_292 w_294 v_11 w_2 w_295 (by decide +kernel) ⟨rfl, rfl⟩ ⟨(Nat.le_of_ble_eq_true rfl), (Nat.le_of_ble_eq_true rfl)⟩ hP hK hD hS hA rfl 1 0 rfl rfl rfl hl.1 rfl (Nat.le_of_ble_eq_true rfl) dM_replace_6 ⟨Nat.zero_le _, Nat.zero_le _⟩ (fun H locs hP hD hS => ?_)
  refine lv_if_eq (tgt := 13) hx hb dM_replace_9 (by decide) (fun h9 => ?_) (fun h9 => absurd (by decide +kernel) h9)
  refine lv_aload_n hx hb dM_replace_13 rfl (lv_at hl 0 rfl) ?_
  refine lv_aload_n hx hb dM_replace_14 rfl (lv_at hl 0 rfl) ?_
  refine va_get (D := D) (ci := 1) (v := .ref b) (C := R_M) (T := T_M) (N := 3) hx hb hg uM_in hown hK hP 0 rfl rfl 2 (by decide) (hg _ w_272) (fun _ h9 => h9) rfl dM_replace_15 ?_
  refine lv_iload_n hx hb dM_replace_18 rfl (lv_at hl 1 rfl) ?_
  refine aI hx hb hK hP 2 1 rfl rfl (by omega) (by decide) dM_replace_19 ?_
  refine lv_if_lt (tgt := 27) hx hb dM_replace_20 (by decide) (fun h20 => ?_) (fun h20 => absurd (by rw [hu]; decide) h20)
  refine lv_iconst (v := nI 0) hx hb dM_replace_27 (by decide +kernel) ?_
  refine lv_iconst (v := nI 2) hx hb dM_replace_28 (by decide +kernel) ?_
  refine kVi (n := 2) (As := [.int (nI 0), .int (nI 2)]) (rest := []) ⟨hx, hb, hml, hown, hts⟩ (mM_fails_f l D o a b cA iA (nI 0) cf uf H.size 2) w_292 w_294 v_11 w_2 w_295 (by decide +kernel) ⟨rfl, rfl⟩ ⟨(Nat.le_of_ble_eq_true rfl), (Nat.le_of_ble_eq_true rfl)⟩ hP hK hD hS hA rfl 1 0 rfl rfl rfl hl.1 rfl (Nat.le_of_ble_eq_true rfl) dM_replace_29 ⟨Nat.zero_le _, Nat.zero_le _⟩ (fun H locs hP hD hS => ?_)
  refine lv_if_eq (tgt := 36) hx hb dM_replace_32 (by decide) (fun h32 => ?_) (fun h32 => absurd (by decide +kernel) h32)
  refine lv_aload_n hx hb dM_replace_36 rfl (lv_at hl 0 rfl) ?_
  refine va_get (D := D) (ci := 1) (v := .ref b) (C := R_M) (T := T_M) (N := 3) hx hb hg uM_in hown hK hP 0 rfl rfl 2 (by decide) (hg _ w_272) (fun _ h9 => h9) rfl dM_replace_37 ?_
  refine lv_iload_n hx hb dM_replace_40 rfl (lv_at hl 1 rfl) ?_
  refine lv_iconst (v := nI 0) hx hb dM_replace_41 (by decide +kernel) ?_
  refine sI hx hb hK hP hD hS 2 1 rfl rfl (by omega) (by decide) dM_replace_42 (fun H locs hP hD hS => ?_)
  have hP : va_P D cls_ (wM o a b cA iA (nI 0) cf (upd uf d (nI 0))) H := hP
  have hD : va_D A (wM o a b cA iA (nI 0) cf (upd uf d (nI 0))) := hD
  refine lv_iconst (v := nI 0) hx hb dM_replace_43 (by decide +kernel) ?_
  refine lv_istore_n hx hb dM_replace_44 rfl hl (by decide) rfl (fun ls hl => ?_)
  have hl : lv_has ls 3 [(2, .int (nI 0)), (0, .ref o), (1, .int (nI d))] := hl
  rw [← zr_0 cf d] at hP hD
  have key : ∀ (n : Nat) (j : Nat) (H : Heap) (locs : List Loc) (ls : Array Slot), j + n = 100 →  va_P D cls_ (wM o a b cA iA (nI 0) (zr cf d j) (upd uf d (nI 0))) H → va_D A (wM o a b cA iA (nI 0) (zr cf d j) (upd uf d (nI 0))) → va_S A s.heap H locs → lv_has ls 3 [(2, .int (nI j)), (0, .ref o), (1, .int (nI d))] → W p l e (headSpec (.code yM_replace cM_replace 3 none :: gW) ({ frames := 1, cells := 0, slots := 0, locals := 22 })).room s m ([.ref o, .int (nI d)]).toArray below meth c H locs 0 0 (MQ below (QV D (wM o a b cA iA (nI 0) (zr cf d 100) (upd uf d (nI 0))) A) ([.ref o, .int (nI d)]).toArray s 0 0 A) (F0 m 45 ls []) := by
    intro n
    induction n with
    | zero =>
      intro j H locs ls hj hP hD hS hl
      obtain rfl : j = 100 := by omega
      refine lv_iload_n hx hb dM_replace_45 rfl (lv_at hl 0 rfl) ?_
      refine lv_bipush (v := nI 100) hx hb dM_replace_46 (by decide +kernel) ?_
      refine lv_icmp_ge (tgt := 81) hx hb dM_replace_48 (by decide) (fun h48 => ?_) (fun h48 => absurd (nI_le (Nat.le_refl 100) (by decide)) h48)
      exact W.vret hx hb hr (fun t9 ht9 _ => ⟨⟨(), rfl, trivial, by show va_P _ _ _ t9.heap; rw [ht9]; exact hP⟩, hS.F ht9⟩) hS.2.2 dM_replace_81
    | succ n ih =>
      intro j H locs ls hj hP hD hS hl
      refine lv_iload_n hx hb dM_replace_45 rfl (lv_at hl 0 rfl) ?_
      refine lv_bipush (v := nI 100) hx hb dM_replace_46 (by decide +kernel) ?_
      refine lv_icmp_ge (tgt := 81) hx hb dM_replace_48 (by decide) (fun h48 => absurd h48 (nI_ge (by omega) (by decide))) (fun h48 => ?_)
      refine lv_aload_n hx hb dM_replace_51 rfl (lv_at hl 1 rfl) ?_
      refine va_get (D := D) (ci := 1) (v := .ref a) (C := R_M) (T := T_M) (N := 3) hx hb hg uM_in hown hK hP 0 rfl rfl 1 (by decide) (hg _ w_271) (fun _ h9 => h9) rfl dM_replace_52 ?_
      refine lv_iload_n hx hb dM_replace_55 rfl (lv_at hl 2 rfl) ?_
      refine lv_iload_n hx hb dM_replace_56 rfl (lv_at hl 0 rfl) ?_
      refine lv_iconst (v := nI 0) hx hb dM_replace_57 (by decide +kernel) ?_
      refine kS (n := 3) (As := [.int (nI d), .int (nI j), .int (nI 0)]) (rest := [.ref a]) ⟨hx, hb, hml, hown, hts⟩ (mM_at l d j 0) w_311 w_312 w_2 w_313 (by decide +kernel) ⟨rfl, rfl⟩ ⟨(Nat.le_of_ble_eq_true rfl), (Nat.le_of_ble_eq_true rfl)⟩ rfl hl.1 rfl (Nat.le_of_ble_eq_true rfl) dM_replace_58 ⟨Nat.zero_le _, Nat.zero_le _⟩ ?_
      refine lv_lconst (v := 0) hx hb dM_replace_61 (by decide +kernel) ?_
      refine sL hx hb hK hP hD hS 1 0 rfl rfl (ix_lt (by omega) (by omega) (by omega)) (by decide) dM_replace_62 (fun H locs hP hD hS => ?_)
      have hP : va_P D cls_ (wM o a b cA iA (nI 0) (vp_updL (zr cf d j) (ix d j 0) 0) (upd uf d (nI 0))) H := hP
      have hD : va_D A (wM o a b cA iA (nI 0) (vp_updL (zr cf d j) (ix d j 0) 0) (upd uf d (nI 0))) := hD
      refine lv_aload_n hx hb dM_replace_63 rfl (lv_at hl 1 rfl) ?_
      refine va_get (D := D) (ci := 1) (v := .ref a) (C := R_M) (T := T_M) (N := 3) hx hb hg uM_in hown hK hP 0 rfl rfl 1 (by decide) (hg _ w_271) (fun _ h9 => h9) rfl dM_replace_64 ?_
      refine lv_iload_n hx hb dM_replace_67 rfl (lv_at hl 2 rfl) ?_
      refine lv_iload_n hx hb dM_replace_68 rfl (lv_at hl 0 rfl) ?_
      refine lv_iconst (v := nI 1) hx hb dM_replace_69 (by decide +kernel) ?_
      refine kS (n := 3) (As := [.int (nI d), .int (nI j), .int (nI 1)]) (rest := [.ref a]) ⟨hx, hb, hml, hown, hts⟩ (mM_at l d j 1) w_311 w_312 w_2 w_313 (by decide +kernel) ⟨rfl, rfl⟩ ⟨(Nat.le_of_ble_eq_true rfl), (Nat.le_of_ble_eq_true rfl)⟩ rfl hl.1 rfl (Nat.le_of_ble_eq_true rfl) dM_replace_70 ⟨Nat.zero_le _, Nat.zero_le _⟩ ?_
      refine lv_lconst (v := 0) hx hb dM_replace_73 (by decide +kernel) ?_
      refine sL hx hb hK hP hD hS 1 0 rfl rfl (ix_lt (by omega) (by omega) (by omega)) (by decide) dM_replace_74 (fun H locs hP hD hS => ?_)
      have hP : va_P D cls_ (wM o a b cA iA (nI 0) (vp_updL (vp_updL (zr cf d j) (ix d j 0) 0) (ix d j 1) 0) (upd uf d (nI 0))) H := hP
      have hD : va_D A (wM o a b cA iA (nI 0) (vp_updL (vp_updL (zr cf d j) (ix d j 0) 0) (ix d j 1) 0) (upd uf d (nI 0))) := hD
      refine lv_iinc (k := 0) (v := nI (j + 1)) hx hb dM_replace_75 hl rfl (incI _)  (by decide) rfl (fun ls hl => ?_)
      have hl : lv_has ls 3 [(2, .int (nI (j + 1))), (0, .ref o), (1, .int (nI d))] := hl
      refine lv_goto (tgt := 45) hx hb dM_replace_78 (by decide) ?_
      rw [zr_s] at hP hD
      exact ih (j + 1) _ _ _ (by omega) hP hD hS hl
  exact key 100 0 _ _ _ rfl hP hD hS hl
set_option maxHeartbeats 4000000 in
set_option maxRecDepth 100000 in
theorem mM_rebuild_a (l : Launch) (D : va_G) (o a b : Nat) (cA iA : ClassId) (er : Int32) (cf : Nat → Int64) (uf : Nat → Int32) (sz : Nat) (x n : Int32) (hbad : (inR x 5 && !decide (n < 0)) = false) : Met l yM_rebuild (.code yM_rebuild cM_rebuild 5 (some .int) :: gW) ({ frames := 2, cells := 0, slots := 0, locals := 48 }) (pWs D (wM o a b cA iA er cf uf) (kT cA iA) sz [.ref o, .int x, .int n]) (QI (nI 0) D (wM o a b cA iA (nI 1) cf uf) (va_A (wM o a b cA iA er cf uf) sz)) 0 0 (va_A (wM o a b cA iA er cf uf) sz) := by
  refine Met.ofW (cc := cM_rebuild) (maxL := 5) (ret := (some .int)) (by decide) rfl ?_
  intro p e s m args below meth c s₁ B hml hv
  obtain ⟨rfl, hsz, hP, hK, hD0⟩ := hv
  have hx := B.exec
  have hb := B.bytes
  have hr := B.returns
  have hts := atoms_spec (ws := (.code yM_rebuild cM_rebuild 5 (some .int) :: gW)) B.pre
  have hg : ∀ w ∈ gW, w.before ([.ref o, .int x, .int n]).toArray s = true := fun w h => hts w (List.mem_cons_of_mem _ h)
  have hown : s.vm.findClass R_M = some m.cls := findClass_of_methodNamed B.named
  have hlocks := B.notSynchronized
  subst hsz
  have hD := hD0.self (sz := s.heap.size)
  generalize hAe : va_A (wM o a b cA iA er cf uf) s.heap.size = A at hD ⊢
  have hA : ∀ q : Nat, s.heap.size ≤ q → A q := fun q h => by rw [← hAe]; exact Or.inr h
  have hS : va_S A s.heap s.heap [] := va_S.rf
  have hP : va_P D cls_ (wM o a b cA iA er cf uf) s.heap := hP
  have hl := lv_entry ([.ref o, .int x, .int n]) (n := 5) (Nat.le_of_ble_eq_true rfl)
  rw [lg_entry_eq]
  generalize (lg_sl ([.ref o, .int x, .int n]) ++ List.replicate (5 - (lg_sl ([.ref o, .int x, .int n])).length) Slot.unset).toArray = ls at hl ⊢
  have hl : lv_has ls 5 [(0, .ref o), (1, .int x), (2, .int n)] := hl
  refine lv_aload_n hx hb dM_rebuild_0 rfl (lv_at hl 0 rfl) ?_
  refine lv_iload_n hx hb dM_rebuild_1 rfl (lv_at hl 1 rfl) ?_
  refine kS (n := 1) (As := [.int x]) (rest := [.ref o]) ⟨hx, hb, hml, hown, hts⟩ (mM_none l x) w_326 w_327 w_2 w_328 (by decide +kernel) ⟨rfl, rfl⟩ ⟨(Nat.le_of_ble_eq_true rfl), (Nat.le_of_ble_eq_true rfl)⟩ rfl hl.1 rfl (Nat.le_of_ble_eq_true rfl) dM_rebuild_2 ⟨Nat.zero_le _, Nat.zero_le _⟩ ?_
  refine lv_if_ne (tgt := 12) hx hb dM_rebuild_5 (by decide) (fun h5 => ?_) (fun h5 => ?_)
  · refine lv_iconst (v := nI 1) hx hb dM_rebuild_12 (by decide +kernel) ?_
    refine lv_goto (tgt := 17) hx hb dM_rebuild_13 (by decide) ?_
    refine lv_iconst (v := nI 1) hx hb dM_rebuild_17 (by decide +kernel) ?_
    refine kVi (n := 2) (As := [.int (nI 1), .int (nI 1)]) (rest := []) ⟨hx, hb, hml, hown, hts⟩ (mM_fails_t l D o a b cA iA er cf uf s.heap.size 1) w_292 w_294 v_11 w_2 w_295 (by decide +kernel) ⟨rfl, rfl⟩ ⟨(Nat.le_of_ble_eq_true rfl), (Nat.le_of_ble_eq_true rfl)⟩ hP hK hD hS hA rfl 1 0 rfl rfl rfl hl.1 rfl (Nat.le_of_ble_eq_true rfl) dM_rebuild_18 ⟨Nat.zero_le _, Nat.zero_le _⟩ (fun H locs hP hD hS => ?_)
    refine lv_if_eq (tgt := 26) hx hb dM_rebuild_21 (by decide) (fun h21 => absurd h21 (by decide +kernel)) (fun h21 => ?_)
    refine lv_iconst (v := nI 0) hx hb dM_rebuild_24 (by decide +kernel) ?_
    exact W.iret (v := nI 0) hx hb hr (fun t9 ht9 _ => ⟨⟨_, (), rfl, by show _ = _; rfl, by show va_P _ _ _ t9.heap; rw [ht9]; exact hP⟩, hS.F ht9⟩) hS.2.2 dM_rebuild_25
  · have c5 := nb_t (bi_0 h5)
    refine lv_iload_n hx hb dM_rebuild_8 rfl (lv_at hl 2 rfl) ?_
    refine lv_if_ge (tgt := 16) hx hb dM_rebuild_9 (by decide) (fun h9 => absurd h9 (fun z => by rw [c5, decide_eq_false (Int32.not_lt.mpr z)] at hbad; exact Bool.noConfusion hbad)) (fun h9 => ?_)
    refine lv_iconst (v := nI 1) hx hb dM_rebuild_12 (by decide +kernel) ?_
    refine lv_goto (tgt := 17) hx hb dM_rebuild_13 (by decide) ?_
    refine lv_iconst (v := nI 1) hx hb dM_rebuild_17 (by decide +kernel) ?_
    refine kVi (n := 2) (As := [.int (nI 1), .int (nI 1)]) (rest := []) ⟨hx, hb, hml, hown, hts⟩ (mM_fails_t l D o a b cA iA er cf uf s.heap.size 1) w_292 w_294 v_11 w_2 w_295 (by decide +kernel) ⟨rfl, rfl⟩ ⟨(Nat.le_of_ble_eq_true rfl), (Nat.le_of_ble_eq_true rfl)⟩ hP hK hD hS hA rfl 1 0 rfl rfl rfl hl.1 rfl (Nat.le_of_ble_eq_true rfl) dM_rebuild_18 ⟨Nat.zero_le _, Nat.zero_le _⟩ (fun H locs hP hD hS => ?_)
    refine lv_if_eq (tgt := 26) hx hb dM_rebuild_21 (by decide) (fun h21 => absurd h21 (by decide +kernel)) (fun h21 => ?_)
    refine lv_iconst (v := nI 0) hx hb dM_rebuild_24 (by decide +kernel) ?_
    exact W.iret (v := nI 0) hx hb hr (fun t9 ht9 _ => ⟨⟨_, (), rfl, by show _ = _; rfl, by show va_P _ _ _ t9.heap; rw [ht9]; exact hP⟩, hS.F ht9⟩) hS.2.2 dM_rebuild_25
set_option maxHeartbeats 4000000 in
set_option maxRecDepth 100000 in
theorem mM_rebuild_s (l : Launch) (D : va_G) (o a b : Nat) (cA iA : ClassId) (er : Int32) (cf : Nat → Int64) (uf : Nat → Int32) (sz : Nat) (d : Nat) (n : Int32) (hd : d < 5) (hn : 0 ≤ n) (hu : uf d = nI 100 ∨ uf d < 0) : Met l yM_rebuild (.code yM_rebuild cM_rebuild 5 (some .int) :: gW) ({ frames := 2, cells := 0, slots := 0, locals := 48 }) (pWs D (wM o a b cA iA er cf uf) (kT cA iA) sz [.ref o, .int (nI d), .int n]) (QI (nI 0) D (wM o a b cA iA (nI 2) cf uf) (va_A (wM o a b cA iA er cf uf) sz)) 0 0 (va_A (wM o a b cA iA er cf uf) sz) := by
  refine Met.ofW (cc := cM_rebuild) (maxL := 5) (ret := (some .int)) (by decide) rfl ?_
  intro p e s m args below meth c s₁ B hml hv
  obtain ⟨rfl, hsz, hP, hK, hD0⟩ := hv
  have hx := B.exec
  have hb := B.bytes
  have hr := B.returns
  have hts := atoms_spec (ws := (.code yM_rebuild cM_rebuild 5 (some .int) :: gW)) B.pre
  have hg : ∀ w ∈ gW, w.before ([.ref o, .int (nI d), .int n]).toArray s = true := fun w h => hts w (List.mem_cons_of_mem _ h)
  have hown : s.vm.findClass R_M = some m.cls := findClass_of_methodNamed B.named
  have hlocks := B.notSynchronized
  subst hsz
  have hD := hD0.self (sz := s.heap.size)
  generalize hAe : va_A (wM o a b cA iA er cf uf) s.heap.size = A at hD ⊢
  have hA : ∀ q : Nat, s.heap.size ≤ q → A q := fun q h => by rw [← hAe]; exact Or.inr h
  have hS : va_S A s.heap s.heap [] := va_S.rf
  have hP : va_P D cls_ (wM o a b cA iA er cf uf) s.heap := hP
  have hl := lv_entry ([.ref o, .int (nI d), .int n]) (n := 5) (Nat.le_of_ble_eq_true rfl)
  rw [lg_entry_eq]
  generalize (lg_sl ([.ref o, .int (nI d), .int n]) ++ List.replicate (5 - (lg_sl ([.ref o, .int (nI d), .int n])).length) Slot.unset).toArray = ls at hl ⊢
  have hl : lv_has ls 5 [(0, .ref o), (1, .int (nI d)), (2, .int n)] := hl
  refine lv_aload_n hx hb dM_rebuild_0 rfl (lv_at hl 0 rfl) ?_
  refine lv_iload_n hx hb dM_rebuild_1 rfl (lv_at hl 1 rfl) ?_
  refine kS (n := 1) (As := [.int (nI d)]) (rest := [.ref o]) ⟨hx, hb, hml, hown, hts⟩ (mM_none l (nI d)) w_326 w_327 w_2 w_328 (by decide +kernel) ⟨rfl, rfl⟩ ⟨(Nat.le_of_ble_eq_true rfl), (Nat.le_of_ble_eq_true rfl)⟩ rfl hl.1 rfl (Nat.le_of_ble_eq_true rfl) dM_rebuild_2 ⟨Nat.zero_le _, Nat.zero_le _⟩ ?_
  refine tI (b9f (by rw [inR_of (by decide) hd]; rfl)) ?_
  refine lv_if_ne (tgt := 12) hx hb dM_rebuild_5 (by decide) (fun h5 => absurd h5 (by decide +kernel)) (fun h5 => ?_)
  refine lv_iload_n hx hb dM_rebuild_8 rfl (lv_at hl 2 rfl) ?_
  refine lv_if_ge (tgt := 16) hx hb dM_rebuild_9 (by decide) (fun h9 => ?_) (fun h9 => absurd hn h9)
  refine lv_iconst (v := nI 0) hx hb dM_rebuild_16 (by decide +kernel) ?_
  refine lv_iconst (v := nI 1) hx hb dM_rebuild_17 (by decide +kernel) ?_
  refine kVi (n := 2) (As := [.int (nI 0), .int (nI 1)]) (rest := []) ⟨hx, hb, hml, hown, hts⟩ (mM_fails_f l D o a b cA iA er cf uf s.heap.size 1) w_292 w_294 v_11 w_2 w_295 (by decide +kernel) ⟨rfl, rfl⟩ ⟨(Nat.le_of_ble_eq_true rfl), (Nat.le_of_ble_eq_true rfl)⟩ hP hK hD hS hA rfl 1 0 rfl rfl rfl hl.1 rfl (Nat.le_of_ble_eq_true rfl) dM_rebuild_18 ⟨Nat.zero_le _, Nat.zero_le _⟩ (fun H locs hP hD hS => ?_)
  refine lv_if_eq (tgt := 26) hx hb dM_rebuild_21 (by decide) (fun h21 => ?_) (fun h21 => absurd (by decide +kernel) h21)
  refine lv_aload_n hx hb dM_rebuild_26 rfl (lv_at hl 0 rfl) ?_
  refine lv_aload_n hx hb dM_rebuild_27 rfl (lv_at hl 0 rfl) ?_
  refine va_get (D := D) (ci := 1) (v := .ref b) (C := R_M) (T := T_M) (N := 3) hx hb hg uM_in hown hK hP 0 rfl rfl 2 (by decide) (hg _ w_272) (fun _ h9 => h9) rfl dM_rebuild_28 ?_
  refine lv_iload_n hx hb dM_rebuild_31 rfl (lv_at hl 1 rfl) ?_
  refine aI hx hb hK hP 2 1 rfl rfl (by omega) (by decide) dM_rebuild_32 ?_
  refine lv_if_lt (tgt := 47) hx hb dM_rebuild_33 (by decide) (fun h33 => ?_) (fun h33 => ?_)
  · refine lv_iconst (v := nI 1) hx hb dM_rebuild_47 (by decide +kernel) ?_
    refine lv_goto (tgt := 52) hx hb dM_rebuild_48 (by decide) ?_
    refine lv_iconst (v := nI 2) hx hb dM_rebuild_52 (by decide +kernel) ?_
    refine kVi (n := 2) (As := [.int (nI 1), .int (nI 2)]) (rest := []) ⟨hx, hb, hml, hown, hts⟩ (mM_fails_t l D o a b cA iA (nI 0) cf uf H.size 2) w_292 w_294 v_11 w_2 w_295 (by decide +kernel) ⟨rfl, rfl⟩ ⟨(Nat.le_of_ble_eq_true rfl), (Nat.le_of_ble_eq_true rfl)⟩ hP hK hD hS hA rfl 1 0 rfl rfl rfl hl.1 rfl (Nat.le_of_ble_eq_true rfl) dM_rebuild_53 ⟨Nat.zero_le _, Nat.zero_le _⟩ (fun H locs hP hD hS => ?_)
    refine lv_if_eq (tgt := 61) hx hb dM_rebuild_56 (by decide) (fun h56 => absurd h56 (by decide +kernel)) (fun h56 => ?_)
    refine lv_iconst (v := nI 0) hx hb dM_rebuild_59 (by decide +kernel) ?_
    exact W.iret (v := nI 0) hx hb hr (fun t9 ht9 _ => ⟨⟨_, (), rfl, by show _ = _; rfl, by show va_P _ _ _ t9.heap; rw [ht9]; exact hP⟩, hS.F ht9⟩) hS.2.2 dM_rebuild_60
  · refine lv_aload_n hx hb dM_rebuild_36 rfl (lv_at hl 0 rfl) ?_
    refine va_get (D := D) (ci := 1) (v := .ref b) (C := R_M) (T := T_M) (N := 3) hx hb hg uM_in hown hK hP 0 rfl rfl 2 (by decide) (hg _ w_272) (fun _ h9 => h9) rfl dM_rebuild_37 ?_
    refine lv_iload_n hx hb dM_rebuild_40 rfl (lv_at hl 1 rfl) ?_
    refine aI hx hb hK hP 2 1 rfl rfl (by omega) (by decide) dM_rebuild_41 ?_
    refine lv_bipush (v := nI 100) hx hb dM_rebuild_42 (by decide +kernel) ?_
    refine lv_icmp_ne (tgt := 51) hx hb dM_rebuild_44 (by decide) (fun h44 => absurd h44 (fun z => z (hu.resolve_right h33))) (fun h44 => ?_)
    refine lv_iconst (v := nI 1) hx hb dM_rebuild_47 (by decide +kernel) ?_
    refine lv_goto (tgt := 52) hx hb dM_rebuild_48 (by decide) ?_
    refine lv_iconst (v := nI 2) hx hb dM_rebuild_52 (by decide +kernel) ?_
    refine kVi (n := 2) (As := [.int (nI 1), .int (nI 2)]) (rest := []) ⟨hx, hb, hml, hown, hts⟩ (mM_fails_t l D o a b cA iA (nI 0) cf uf H.size 2) w_292 w_294 v_11 w_2 w_295 (by decide +kernel) ⟨rfl, rfl⟩ ⟨(Nat.le_of_ble_eq_true rfl), (Nat.le_of_ble_eq_true rfl)⟩ hP hK hD hS hA rfl 1 0 rfl rfl rfl hl.1 rfl (Nat.le_of_ble_eq_true rfl) dM_rebuild_53 ⟨Nat.zero_le _, Nat.zero_le _⟩ (fun H locs hP hD hS => ?_)
    refine lv_if_eq (tgt := 61) hx hb dM_rebuild_56 (by decide) (fun h56 => absurd h56 (by decide +kernel)) (fun h56 => ?_)
    refine lv_iconst (v := nI 0) hx hb dM_rebuild_59 (by decide +kernel) ?_
    exact W.iret (v := nI 0) hx hb hr (fun t9 ht9 _ => ⟨⟨_, (), rfl, by show _ = _; rfl, by show va_P _ _ _ t9.heap; rw [ht9]; exact hP⟩, hS.F ht9⟩) hS.2.2 dM_rebuild_60
