set_option maxHeartbeats 4000000 in
set_option maxRecDepth 100000 in
theorem mX_read_ok (l : Launch) (D : va_G) (o a b : Nat) (cA iA : ClassId) (cf : Nat → Int64) (uf : Nat → Int32) (q h : Nat) (hq : q < 400) (hh : h < 2) (hil : il uf (dk q) (q / 4) = false) : Met l yX_read (.code yX_read cX_read 5 (some .long) :: gW) ({ frames := 7, cells := 0, slots := 0, locals := 116 }) (pW D (wX o a b cA iA cf uf) (kT cA iA) [.ref o, .int (nI q), .int (nI h)]) (k2_QcV (.long (wh cf uf (dk q) (q / 4) h))) 0 0 (fun _ => False) := by
  refine Met.ofW (cc := cX_read) (maxL := 5) (ret := (some .long)) (by decide) rfl ?_
  intro p e s m args below meth c s₁ B hml hv
  obtain ⟨rfl, hP, hK⟩ := hv
  have hx := B.exec
  have hb := B.bytes
  have hr := B.returns
  have hts := atoms_spec (ws := (.code yX_read cX_read 5 (some .long) :: gW)) B.pre
  have hg : ∀ w ∈ gW, w.before ([.ref o, .int (nI q), .int (nI h)]).toArray s = true := fun w h => hts w (List.mem_cons_of_mem _ h)
  have hown : s.vm.findClass R_X = some m.cls := findClass_of_methodNamed B.named
  have hlocks := B.notSynchronized
  have hl := lv_entry ([.ref o, .int (nI q), .int (nI h)]) (n := 5) (Nat.le_of_ble_eq_true rfl)
  rw [lg_entry_eq]
  generalize (lg_sl ([.ref o, .int (nI q), .int (nI h)]) ++ List.replicate (5 - (lg_sl ([.ref o, .int (nI q), .int (nI h)])).length) Slot.unset).toArray = ls at hl ⊢
  have hl : lv_has ls 5 [(0, .ref o), (1, .int (nI q)), (2, .int (nI h))] := hl
  refine lv_iload_n hx hb dX_read_0 rfl (lv_at hl 1 rfl) ?_
  refine kSn (n := 1) (As := [.int (nI q)]) (rest := []) ⟨hx, hb, hml, hown, hts⟩ (mX_checkPlace_ok l q (by omega)) w_80 w_81 w_1 w_82 (by decide +kernel) ⟨rfl, rfl⟩ ⟨(Nat.le_of_ble_eq_true rfl), (Nat.le_of_ble_eq_true rfl)⟩ rfl hl.1 rfl (Nat.le_of_ble_eq_true rfl) dX_read_1 ⟨Nat.zero_le _, Nat.zero_le _⟩ ?_
  refine lv_iload_n hx hb dX_read_4 rfl (lv_at hl 2 rfl) ?_
  refine kSn (n := 1) (As := [.int (nI h)]) (rest := []) ⟨hx, hb, hml, hown, hts⟩ (mX_checkHalf_ok l h (by omega)) w_151 w_152 w_1 w_153 (by decide +kernel) ⟨rfl, rfl⟩ ⟨(Nat.le_of_ble_eq_true rfl), (Nat.le_of_ble_eq_true rfl)⟩ rfl hl.1 rfl (Nat.le_of_ble_eq_true rfl) dX_read_5 ⟨Nat.zero_le _, Nat.zero_le _⟩ ?_
  refine lv_iload_n hx hb dX_read_8 rfl (lv_at hl 1 rfl) ?_
  refine kS (n := 1) (As := [.int (nI q)]) (rest := []) ⟨hx, hb, hml, hown, hts⟩ (mX_stripeOf l q (by omega)) w_64 w_65 w_1 w_66 (by decide +kernel) ⟨rfl, rfl⟩ ⟨(Nat.le_of_ble_eq_true rfl), (Nat.le_of_ble_eq_true rfl)⟩ rfl hl.1 rfl (Nat.le_of_ble_eq_true rfl) dX_read_9 ⟨Nat.zero_le _, Nat.zero_le _⟩ ?_
  refine lv_istore_n hx hb dX_read_12 rfl hl (by decide) rfl (fun ls hl => ?_)
  have hl : lv_has ls 5 [(3, .int (nI (q / 4))), (0, .ref o), (1, .int (nI q)), (2, .int (nI h))] := hl
  refine lv_iload_n hx hb dX_read_13 rfl (lv_at hl 2 rfl) ?_
  refine kS (n := 1) (As := [.int (nI q)]) (rest := []) ⟨hx, hb, hml, hown, hts⟩ (mX_diskOf l q (by omega)) w_61 w_62 w_1 w_63 (by decide +kernel) ⟨rfl, rfl⟩ ⟨(Nat.le_of_ble_eq_true rfl), (Nat.le_of_ble_eq_true rfl)⟩ rfl hl.1 rfl (Nat.le_of_ble_eq_true rfl) dX_read_14 ⟨Nat.zero_le _, Nat.zero_le _⟩ ?_
  refine lv_istore hx hb dX_read_17 hl (by decide) rfl (fun ls hl => ?_)
  have hl : lv_has ls 5 [(4, .int (nI (dk q))), (3, .int (nI (q / 4))), (0, .ref o), (1, .int (nI q)), (2, .int (nI h))] := hl
  refine lv_aload_n hx hb dX_read_19 rfl (lv_at hl 2 rfl) ?_
  refine lv_iload hx hb dX_read_20 (lv_at hl 0 rfl) ?_
  refine lv_iload_n hx hb dX_read_22 rfl (lv_at hl 1 rfl) ?_
  refine kV (n := 2) (As := [.int (nI (dk q)), .int (nI (q / 4))]) (rest := []) ⟨hx, hb, hml, hown, hts⟩ (mX_isLost l D o a b cA iA cf uf (dk q) (q / 4) (dk_lt _) (by omega)) w_67 w_69 v_5 w_1 w_70 (by decide +kernel) ⟨rfl, rfl⟩ ⟨(Nat.le_of_ble_eq_true rfl), (Nat.le_of_ble_eq_true rfl)⟩ hP hK 0 0 rfl rfl rfl hl.1 rfl (Nat.le_of_ble_eq_true rfl) dX_read_23 ⟨Nat.zero_le _, Nat.zero_le _⟩ ?_
  refine lv_if_eq (tgt := 39) hx hb dX_read_26 (by decide) (fun h26 => ?_) (fun h26 => absurd (bi_z hil) h26)
  refine lv_aload_n hx hb dX_read_39 rfl (lv_at hl 2 rfl) ?_
  refine lv_iload hx hb dX_read_40 (lv_at hl 0 rfl) ?_
  refine lv_iload_n hx hb dX_read_42 rfl (lv_at hl 1 rfl) ?_
  refine lv_iload_n hx hb dX_read_43 rfl (lv_at hl 4 rfl) ?_
  refine kV (n := 3) (As := [.int (nI (dk q)), .int (nI (q / 4)), .int (nI h)]) (rest := []) ⟨hx, hb, hml, hown, hts⟩ (mX_whatItHas l D o a b cA iA cf uf (dk q) (q / 4) h (dk_lt _) (by omega) (by omega)) w_171 w_173 v_7 w_1 w_174 (by decide +kernel) ⟨rfl, rfl⟩ ⟨(Nat.le_of_ble_eq_true rfl), (Nat.le_of_ble_eq_true rfl)⟩ hP hK 0 0 rfl rfl rfl hl.1 rfl (Nat.le_of_ble_eq_true rfl) dX_read_44 ⟨Nat.zero_le _, Nat.zero_le _⟩ ?_
  exact W.lret (v := wh cf uf (dk q) (q / 4) h) hx hb hr (fun t9 ht9 _ => ⟨by rfl, ht9⟩) (fun _ h9 => nomatch h9) dX_read_47
set_option maxHeartbeats 4000000 in
set_option maxRecDepth 100000 in
theorem mX_block_ok (l : Launch) (D : va_G) (o a b : Nat) (cA iA : ClassId) (cf : Nat → Int64) (uf : Nat → Int32) (d t h : Nat) (hd : d < 5) (ht : t < 100) (hh : h < 2) (hu : ¬ uf d = -1) : Met l yX_block (.code yX_block cX_block 4 (some .long) :: gW) ({ frames := 8, cells := 0, slots := 0, locals := 139 }) (pW D (wX o a b cA iA cf uf) (kT cA iA) [.ref o, .int (nI d), .int (nI t), .int (nI h)]) (k2_QcV (.long (cf (ix d t h)))) 0 0 (fun _ => False) := by
  refine Met.ofW (cc := cX_block) (maxL := 4) (ret := (some .long)) (by decide) rfl ?_
  intro p e s m args below meth c s₁ B hml hv
  obtain ⟨rfl, hP, hK⟩ := hv
  have hx := B.exec
  have hb := B.bytes
  have hr := B.returns
  have hts := atoms_spec (ws := (.code yX_block cX_block 4 (some .long) :: gW)) B.pre
  have hg : ∀ w ∈ gW, w.before ([.ref o, .int (nI d), .int (nI t), .int (nI h)]).toArray s = true := fun w h => hts w (List.mem_cons_of_mem _ h)
  have hown : s.vm.findClass R_X = some m.cls := findClass_of_methodNamed B.named
  have hlocks := B.notSynchronized
  have hl := lv_entry ([.ref o, .int (nI d), .int (nI t), .int (nI h)]) (n := 4) (Nat.le_of_ble_eq_true rfl)
  rw [lg_entry_eq]
  generalize (lg_sl ([.ref o, .int (nI d), .int (nI t), .int (nI h)]) ++ List.replicate (4 - (lg_sl ([.ref o, .int (nI d), .int (nI t), .int (nI h)])).length) Slot.unset).toArray = ls at hl ⊢
  have hl : lv_has ls 4 [(0, .ref o), (1, .int (nI d)), (2, .int (nI t)), (3, .int (nI h))] := hl
  refine lv_aload_n hx hb dX_block_0 rfl (lv_at hl 0 rfl) ?_
  refine lv_iload_n hx hb dX_block_1 rfl (lv_at hl 1 rfl) ?_
  refine lv_iload_n hx hb dX_block_2 rfl (lv_at hl 2 rfl) ?_
  refine lv_iload_n hx hb dX_block_3 rfl (lv_at hl 3 rfl) ?_
  refine kVn (n := 3) (As := [.int (nI d), .int (nI t), .int (nI h)]) (rest := []) ⟨hx, hb, hml, hown, hts⟩ (mX_checkStanding_ok l D o a b cA iA cf uf d t h (by omega) (by omega) (by omega) hu) w_241 w_243 v_9 w_1 w_244 (by decide +kernel) ⟨rfl, rfl⟩ ⟨(Nat.le_of_ble_eq_true rfl), (Nat.le_of_ble_eq_true rfl)⟩ hP hK 0 0 rfl rfl rfl hl.1 rfl (Nat.le_of_ble_eq_true rfl) dX_block_4 ⟨Nat.zero_le _, Nat.zero_le _⟩ ?_
  refine lv_aload_n hx hb dX_block_7 rfl (lv_at hl 0 rfl) ?_
  refine va_get (D := D) (ci := 0) (v := .ref a) (C := R_X) (T := T_X) (N := 2) hx hb hg uX_in hown hK hP 0 rfl rfl 0 (by decide) (hg _ w_18) (fun _ h9 => h9) rfl dX_block_8 ?_
  refine lv_iload_n hx hb dX_block_11 rfl (lv_at hl 1 rfl) ?_
  refine lv_iload_n hx hb dX_block_12 rfl (lv_at hl 2 rfl) ?_
  refine lv_iload_n hx hb dX_block_13 rfl (lv_at hl 3 rfl) ?_
  refine kS (n := 3) (As := [.int (nI d), .int (nI t), .int (nI h)]) (rest := [.ref a]) ⟨hx, hb, hml, hown, hts⟩ (mX_cellOf l d t h) w_50 w_51 w_1 w_52 (by decide +kernel) ⟨rfl, rfl⟩ ⟨(Nat.le_of_ble_eq_true rfl), (Nat.le_of_ble_eq_true rfl)⟩ rfl hl.1 rfl (Nat.le_of_ble_eq_true rfl) dX_block_14 ⟨Nat.zero_le _, Nat.zero_le _⟩ ?_
  refine aL hx hb hK hP 1 0 rfl rfl (ix_lt (by omega) (by omega) (by omega)) (by decide) dX_block_17 ?_
  exact W.lret (v := cf (ix d t h)) hx hb hr (fun t9 ht9 _ => ⟨by rfl, ht9⟩) (fun _ h9 => nomatch h9) dX_block_18
set_option maxHeartbeats 4000000 in
set_option maxRecDepth 100000 in
theorem mX_state_ok (l : Launch) (D : va_G) (o a b : Nat) (cA iA : ClassId) (cf : Nat → Int64) (uf : Nat → Int32) (d : Nat) (hd : d < 5) : Met l yX_state (.code yX_state cX_state 3 (some .int) :: gW) ({ frames := 7, cells := 0, slots := 0, locals := 116 }) (pW D (wX o a b cA iA cf uf) (kT cA iA) [.ref o, .int (nI d)]) (k2_QcV (.int (sv (uf d)))) 0 0 (fun _ => False) := by
  refine Met.ofW (cc := cX_state) (maxL := 3) (ret := (some .int)) (by decide) rfl ?_
  intro p e s m args below meth c s₁ B hml hv
  obtain ⟨rfl, hP, hK⟩ := hv
  have hx := B.exec
  have hb := B.bytes
  have hr := B.returns
  have hts := atoms_spec (ws := (.code yX_state cX_state 3 (some .int) :: gW)) B.pre
  have hg : ∀ w ∈ gW, w.before ([.ref o, .int (nI d)]).toArray s = true := fun w h => hts w (List.mem_cons_of_mem _ h)
  have hown : s.vm.findClass R_X = some m.cls := findClass_of_methodNamed B.named
  have hlocks := B.notSynchronized
  have hl := lv_entry ([.ref o, .int (nI d)]) (n := 3) (Nat.le_of_ble_eq_true rfl)
  rw [lg_entry_eq]
  generalize (lg_sl ([.ref o, .int (nI d)]) ++ List.replicate (3 - (lg_sl ([.ref o, .int (nI d)])).length) Slot.unset).toArray = ls at hl ⊢
  have hl : lv_has ls 3 [(0, .ref o), (1, .int (nI d))] := hl
  refine lv_iload_n hx hb dX_state_0 rfl (lv_at hl 1 rfl) ?_
  refine kSn (n := 1) (As := [.int (nI d)]) (rest := []) ⟨hx, hb, hml, hown, hts⟩ (mX_checkDisk_ok l d (by omega)) w_190 w_191 w_1 w_192 (by decide +kernel) ⟨rfl, rfl⟩ ⟨(Nat.le_of_ble_eq_true rfl), (Nat.le_of_ble_eq_true rfl)⟩ rfl hl.1 rfl (Nat.le_of_ble_eq_true rfl) dX_state_1 ⟨Nat.zero_le _, Nat.zero_le _⟩ ?_
  refine lv_aload_n hx hb dX_state_4 rfl (lv_at hl 0 rfl) ?_
  refine va_get (D := D) (ci := 0) (v := .ref b) (C := R_X) (T := T_X) (N := 2) hx hb hg uX_in hown hK hP 0 rfl rfl 1 (by decide) (hg _ w_19) (fun _ h9 => h9) rfl dX_state_5 ?_
  refine lv_iload_n hx hb dX_state_8 rfl (lv_at hl 1 rfl) ?_
  refine aI hx hb hK hP 2 1 rfl rfl (by omega) (by decide) dX_state_9 ?_
  refine lv_istore_n hx hb dX_state_10 rfl hl (by decide) rfl (fun ls hl => ?_)
  have hl : lv_has ls 3 [(2, .int (uf d)), (0, .ref o), (1, .int (nI d))] := hl
  refine lv_iload_n hx hb dX_state_11 rfl (lv_at hl 0 rfl) ?_
  refine lv_bipush (v := nI 100) hx hb dX_state_12 (by decide +kernel) ?_
  refine lv_icmp_ne (tgt := 19) hx hb dX_state_14 (by decide) (fun h14 => ?_) (fun h14 => ?_)
  · refine lv_iload_n hx hb dX_state_19 rfl (lv_at hl 0 rfl) ?_
    refine lv_iconst (v := -1) hx hb dX_state_20 (by decide +kernel) ?_
    refine lv_icmp_ne (tgt := 26) hx hb dX_state_21 (by decide) (fun h21 => ?_) (fun h21 => ?_)
    · refine lv_iconst (v := nI 2) hx hb dX_state_26 (by decide +kernel) ?_
      refine lv_iload_n hx hb dX_state_27 rfl (lv_at hl 0 rfl) ?_
      refine lv_iadd hx hb dX_state_28 ?_
      exact W.iret (v := (nI 2) + (uf d)) hx hb hr (fun t9 ht9 _ => ⟨by rw [sv, if_neg h14, if_neg h21], ht9⟩) (fun _ h9 => nomatch h9) dX_state_29
    · refine lv_iconst (v := nI 1) hx hb dX_state_24 (by decide +kernel) ?_
      exact W.iret (v := nI 1) hx hb hr (fun t9 ht9 _ => ⟨by rw [sv, if_neg h14, if_pos h21], ht9⟩) (fun _ h9 => nomatch h9) dX_state_25
  · refine lv_iconst (v := nI 0) hx hb dX_state_17 (by decide +kernel) ?_
    exact W.iret (v := nI 0) hx hb hr (fun t9 ht9 _ => ⟨by rw [sv, if_pos h14], ht9⟩) (fun _ h9 => nomatch h9) dX_state_18
set_option maxHeartbeats 4000000 in
set_option maxRecDepth 100000 in
theorem mX_rebuildBlock (l : Launch) (D : va_G) (o a b : Nat) (cA iA : ClassId) (cf : Nat → Int64) (uf : Nat → Int32) (sz : Nat) (d t : Nat) (hd : d < 5) (ht : t < 100) : Met l yX_rebuildBlock (.code yX_rebuildBlock cX_rebuildBlock 4 none :: gW) ({ frames := 2, cells := 0, slots := 0, locals := 48 }) (pWs D (wX o a b cA iA cf uf) (kT cA iA) sz [.ref o, .int (nI d), .int (nI t)]) (QV D (wX o a b cA iA (rbB cf d t) uf) (va_A (wX o a b cA iA cf uf) sz)) 0 0 (va_A (wX o a b cA iA cf uf) sz) := by
  refine Met.ofW (cc := cX_rebuildBlock) (maxL := 4) (ret := none) (by decide) rfl ?_
  intro p e s m args below meth c s₁ B hml hv
  obtain ⟨rfl, hsz, hP, hK, hD0⟩ := hv
  have hx := B.exec
  have hb := B.bytes
  have hr := B.returns
  have hts := atoms_spec (ws := (.code yX_rebuildBlock cX_rebuildBlock 4 none :: gW)) B.pre
  have hg : ∀ w ∈ gW, w.before ([.ref o, .int (nI d), .int (nI t)]).toArray s = true := fun w h => hts w (List.mem_cons_of_mem _ h)
  have hown : s.vm.findClass R_X = some m.cls := findClass_of_methodNamed B.named
  have hlocks := B.notSynchronized
  subst hsz
  have hD := hD0.self (sz := s.heap.size)
  generalize hAe : va_A (wX o a b cA iA cf uf) s.heap.size = A at hD ⊢
  have hA : ∀ q : Nat, s.heap.size ≤ q → A q := fun q h => by rw [← hAe]; exact Or.inr h
  have hS : va_S A s.heap s.heap [] := va_S.rf
  have hP : va_P D cls_ (wX o a b cA iA cf uf) s.heap := hP
  have hl := lv_entry ([.ref o, .int (nI d), .int (nI t)]) (n := 4) (Nat.le_of_ble_eq_true rfl)
  rw [lg_entry_eq]
  generalize (lg_sl ([.ref o, .int (nI d), .int (nI t)]) ++ List.replicate (4 - (lg_sl ([.ref o, .int (nI d), .int (nI t)])).length) Slot.unset).toArray = ls at hl ⊢
  have hl : lv_has ls 4 [(0, .ref o), (1, .int (nI d)), (2, .int (nI t))] := hl
  refine lv_iconst (v := nI 0) hx hb dX_rebuildBlock_0 (by decide +kernel) ?_
  refine lv_istore_n hx hb dX_rebuildBlock_1 rfl hl (by decide) rfl (fun ls hl => ?_)
  have hl : lv_has ls 4 [(3, .int (nI 0)), (0, .ref o), (1, .int (nI d)), (2, .int (nI t))] := hl
  refine lv_iload_n hx hb dX_rebuildBlock_2 rfl (lv_at hl 0 rfl) ?_
  refine lv_iconst (v := nI 2) hx hb dX_rebuildBlock_3 (by decide +kernel) ?_
  refine lv_icmp_ge (tgt := 31) hx hb dX_rebuildBlock_4 (by decide) (fun h4 => absurd h4 (by decide +kernel)) (fun h4 => ?_)
  refine lv_aload_n hx hb dX_rebuildBlock_7 rfl (lv_at hl 1 rfl) ?_
  refine va_get (D := D) (ci := 0) (v := .ref a) (C := R_X) (T := T_X) (N := 2) hx hb hg uX_in hown hK hP 0 rfl rfl 0 (by decide) (hg _ w_18) (fun _ h9 => h9) rfl dX_rebuildBlock_8 ?_
  refine lv_iload_n hx hb dX_rebuildBlock_11 rfl (lv_at hl 2 rfl) ?_
  refine lv_iload_n hx hb dX_rebuildBlock_12 rfl (lv_at hl 3 rfl) ?_
  refine lv_iload_n hx hb dX_rebuildBlock_13 rfl (lv_at hl 0 rfl) ?_
  refine kS (n := 3) (As := [.int (nI d), .int (nI t), .int (nI 0)]) (rest := [.ref a]) ⟨hx, hb, hml, hown, hts⟩ (mX_cellOf l d t 0) w_50 w_51 w_1 w_52 (by decide +kernel) ⟨rfl, rfl⟩ ⟨(Nat.le_of_ble_eq_true rfl), (Nat.le_of_ble_eq_true rfl)⟩ rfl hl.1 rfl (Nat.le_of_ble_eq_true rfl) dX_rebuildBlock_14 ⟨Nat.zero_le _, Nat.zero_le _⟩ ?_
  refine lv_aload_n hx hb dX_rebuildBlock_17 rfl (lv_at hl 1 rfl) ?_
  refine lv_iload_n hx hb dX_rebuildBlock_18 rfl (lv_at hl 2 rfl) ?_
  refine lv_iload_n hx hb dX_rebuildBlock_19 rfl (lv_at hl 3 rfl) ?_
  refine lv_iload_n hx hb dX_rebuildBlock_20 rfl (lv_at hl 0 rfl) ?_
  refine kV (n := 3) (As := [.int (nI d), .int (nI t), .int (nI 0)]) (rest := [.int (nI (ix d t 0)), .ref a]) ⟨hx, hb, hml, hown, hts⟩ (mX_xorOfOthers l D o a b cA iA cf uf d t 0 (by omega) (by omega) (by omega)) w_53 w_55 v_4 w_1 w_56 (by decide +kernel) ⟨rfl, rfl⟩ ⟨(Nat.le_of_ble_eq_true rfl), (Nat.le_of_ble_eq_true rfl)⟩ hP hK 0 0 rfl rfl rfl hl.1 rfl (Nat.le_of_ble_eq_true rfl) dX_rebuildBlock_21 ⟨Nat.zero_le _, Nat.zero_le _⟩ ?_
  refine sL hx hb hK hP hD hS 1 0 rfl rfl (ix_lt (by omega) (by omega) (by omega)) (by decide) dX_rebuildBlock_24 (fun H locs hP hD hS => ?_)
  have hP : va_P D cls_ (wX o a b cA iA (vp_updL cf (ix d t 0) (xo cf d t 0)) uf) H := hP
  have hD : va_D A (wX o a b cA iA (vp_updL cf (ix d t 0) (xo cf d t 0)) uf) := hD
  refine lv_iinc (k := 0) (v := nI 1) hx hb dX_rebuildBlock_25 hl rfl (by decide +kernel)  (by decide) rfl (fun ls hl => ?_)
  have hl : lv_has ls 4 [(3, .int (nI 1)), (0, .ref o), (1, .int (nI d)), (2, .int (nI t))] := hl
  refine lv_goto (tgt := 2) hx hb dX_rebuildBlock_28 (by decide) ?_
  refine lv_iload_n hx hb dX_rebuildBlock_2 rfl (lv_at hl 0 rfl) ?_
  refine lv_iconst (v := nI 2) hx hb dX_rebuildBlock_3 (by decide +kernel) ?_
  refine lv_icmp_ge (tgt := 31) hx hb dX_rebuildBlock_4 (by decide) (fun h4 => absurd h4 (by decide +kernel)) (fun h4 => ?_)
  refine lv_aload_n hx hb dX_rebuildBlock_7 rfl (lv_at hl 1 rfl) ?_
  refine va_get (D := D) (ci := 0) (v := .ref a) (C := R_X) (T := T_X) (N := 2) hx hb hg uX_in hown hK hP 0 rfl rfl 0 (by decide) (hg _ w_18) (fun _ h9 => h9) rfl dX_rebuildBlock_8 ?_
  refine lv_iload_n hx hb dX_rebuildBlock_11 rfl (lv_at hl 2 rfl) ?_
  refine lv_iload_n hx hb dX_rebuildBlock_12 rfl (lv_at hl 3 rfl) ?_
  refine lv_iload_n hx hb dX_rebuildBlock_13 rfl (lv_at hl 0 rfl) ?_
  refine kS (n := 3) (As := [.int (nI d), .int (nI t), .int (nI 1)]) (rest := [.ref a]) ⟨hx, hb, hml, hown, hts⟩ (mX_cellOf l d t 1) w_50 w_51 w_1 w_52 (by decide +kernel) ⟨rfl, rfl⟩ ⟨(Nat.le_of_ble_eq_true rfl), (Nat.le_of_ble_eq_true rfl)⟩ rfl hl.1 rfl (Nat.le_of_ble_eq_true rfl) dX_rebuildBlock_14 ⟨Nat.zero_le _, Nat.zero_le _⟩ ?_
  refine lv_aload_n hx hb dX_rebuildBlock_17 rfl (lv_at hl 1 rfl) ?_
  refine lv_iload_n hx hb dX_rebuildBlock_18 rfl (lv_at hl 2 rfl) ?_
  refine lv_iload_n hx hb dX_rebuildBlock_19 rfl (lv_at hl 3 rfl) ?_
  refine lv_iload_n hx hb dX_rebuildBlock_20 rfl (lv_at hl 0 rfl) ?_
  refine kV (n := 3) (As := [.int (nI d), .int (nI t), .int (nI 1)]) (rest := [.int (nI (ix d t 1)), .ref a]) ⟨hx, hb, hml, hown, hts⟩ (mX_xorOfOthers l D o a b cA iA (vp_updL cf (ix d t 0) (xo cf d t 0)) uf d t 1 (by omega) (by omega) (by omega)) w_53 w_55 v_4 w_1 w_56 (by decide +kernel) ⟨rfl, rfl⟩ ⟨(Nat.le_of_ble_eq_true rfl), (Nat.le_of_ble_eq_true rfl)⟩ hP hK 0 0 rfl rfl rfl hl.1 rfl (Nat.le_of_ble_eq_true rfl) dX_rebuildBlock_21 ⟨Nat.zero_le _, Nat.zero_le _⟩ ?_
  refine sL hx hb hK hP hD hS 1 0 rfl rfl (ix_lt (by omega) (by omega) (by omega)) (by decide) dX_rebuildBlock_24 (fun H locs hP hD hS => ?_)
  have hP : va_P D cls_ (wX o a b cA iA (vp_updL (vp_updL cf (ix d t 0) (xo cf d t 0)) (ix d t 1) (xo (vp_updL cf (ix d t 0) (xo cf d t 0)) d t 1)) uf) H := hP
  have hD : va_D A (wX o a b cA iA (vp_updL (vp_updL cf (ix d t 0) (xo cf d t 0)) (ix d t 1) (xo (vp_updL cf (ix d t 0) (xo cf d t 0)) d t 1)) uf) := hD
  refine lv_iinc (k := 0) (v := nI 2) hx hb dX_rebuildBlock_25 hl rfl (by decide +kernel)  (by decide) rfl (fun ls hl => ?_)
  have hl : lv_has ls 4 [(3, .int (nI 2)), (0, .ref o), (1, .int (nI d)), (2, .int (nI t))] := hl
  refine lv_goto (tgt := 2) hx hb dX_rebuildBlock_28 (by decide) ?_
  refine lv_iload_n hx hb dX_rebuildBlock_2 rfl (lv_at hl 0 rfl) ?_
  refine lv_iconst (v := nI 2) hx hb dX_rebuildBlock_3 (by decide +kernel) ?_
  refine lv_icmp_ge (tgt := 31) hx hb dX_rebuildBlock_4 (by decide) (fun h4 => ?_) (fun h4 => absurd (by decide +kernel) h4)
  exact W.vret hx hb hr (fun t9 ht9 _ => ⟨⟨(), rfl, trivial, by show va_P _ _ _ t9.heap; rw [ht9]; exact hP⟩, hS.F ht9⟩) hS.2.2 dX_rebuildBlock_31
set_option maxHeartbeats 4000000 in
set_option maxRecDepth 100000 in
theorem mX_mendParity (l : Launch) (D : va_G) (o a b : Nat) (cA iA : ClassId) (cf : Nat → Int64) (uf : Nat → Int32) (sz : Nat) (t : Nat) (ht : t < 100) : Met l yX_mendParity (.code yX_mendParity cX_mendParity 8 (some .boolean) :: gW) ({ frames := 2, cells := 0, slots := 0, locals := 48 }) (pWs D (wX o a b cA iA cf uf) (kT cA iA) sz [.ref o, .int (nI t)]) (QI (bi (!good cf t)) D (wX o a b cA iA (rbB cf (t % 5) t) uf) (va_A (wX o a b cA iA cf uf) sz)) 0 0 (va_A (wX o a b cA iA cf uf) sz) := by
  refine Met.ofW (cc := cX_mendParity) (maxL := 8) (ret := (some .boolean)) (by decide) rfl ?_
  intro p e s m args below meth c s₁ B hml hv
  obtain ⟨rfl, hsz, hP, hK, hD0⟩ := hv
  have hx := B.exec
  have hb := B.bytes
  have hr := B.returns
  have hts := atoms_spec (ws := (.code yX_mendParity cX_mendParity 8 (some .boolean) :: gW)) B.pre
  have hg : ∀ w ∈ gW, w.before ([.ref o, .int (nI t)]).toArray s = true := fun w h => hts w (List.mem_cons_of_mem _ h)
  have hown : s.vm.findClass R_X = some m.cls := findClass_of_methodNamed B.named
  have hlocks := B.notSynchronized
  subst hsz
  have hD := hD0.self (sz := s.heap.size)
  generalize hAe : va_A (wX o a b cA iA cf uf) s.heap.size = A at hD ⊢
  have hA : ∀ q : Nat, s.heap.size ≤ q → A q := fun q h => by rw [← hAe]; exact Or.inr h
  have hS : va_S A s.heap s.heap [] := va_S.rf
  have hP : va_P D cls_ (wX o a b cA iA cf uf) s.heap := hP
  have hl := lv_entry ([.ref o, .int (nI t)]) (n := 8) (Nat.le_of_ble_eq_true rfl)
  rw [lg_entry_eq]
  generalize (lg_sl ([.ref o, .int (nI t)]) ++ List.replicate (8 - (lg_sl ([.ref o, .int (nI t)])).length) Slot.unset).toArray = ls at hl ⊢
  have hl : lv_has ls 8 [(0, .ref o), (1, .int (nI t))] := hl
  refine lv_iload_n hx hb dX_mendParity_0 rfl (lv_at hl 1 rfl) ?_
  refine kS (n := 1) (As := [.int (nI t)]) (rest := []) ⟨hx, hb, hml, hown, hts⟩ (mX_parityDiskOf l t (by omega)) w_35 w_36 w_1 w_37 (by decide +kernel) ⟨rfl, rfl⟩ ⟨(Nat.le_of_ble_eq_true rfl), (Nat.le_of_ble_eq_true rfl)⟩ rfl hl.1 rfl (Nat.le_of_ble_eq_true rfl) dX_mendParity_1 ⟨Nat.zero_le _, Nat.zero_le _⟩ ?_
  refine lv_istore_n hx hb dX_mendParity_4 rfl hl (by decide) rfl (fun ls hl => ?_)
  have hl : lv_has ls 8 [(2, .int (nI (t % 5))), (0, .ref o), (1, .int (nI t))] := hl
  refine lv_iconst (v := nI 0) hx hb dX_mendParity_5 (by decide +kernel) ?_
  refine lv_istore_n hx hb dX_mendParity_6 rfl hl (by decide) rfl (fun ls hl => ?_)
  have hl : lv_has ls 8 [(3, .int (nI 0)), (2, .int (nI (t % 5))), (0, .ref o), (1, .int (nI t))] := hl
  refine lv_iconst (v := nI 0) hx hb dX_mendParity_7 (by decide +kernel) ?_
  refine lv_istore hx hb dX_mendParity_8 hl (by decide) rfl (fun ls hl => ?_)
  have hl : lv_has ls 8 [(4, .int (nI 0)), (3, .int (nI 0)), (2, .int (nI (t % 5))), (0, .ref o), (1, .int (nI t))] := hl
  refine lv_iload hx hb dX_mendParity_10 (lv_at hl 0 rfl) ?_
  refine lv_iconst (v := nI 2) hx hb dX_mendParity_12 (by decide +kernel) ?_
  refine lv_icmp_ge (tgt := 65) hx hb dX_mendParity_13 (by decide) (fun h13 => absurd h13 (by decide +kernel)) (fun h13 => ?_)
  refine lv_iload_n hx hb dX_mendParity_16 rfl (lv_at hl 2 rfl) ?_
  refine lv_iload_n hx hb dX_mendParity_17 rfl (lv_at hl 4 rfl) ?_
  refine lv_iload hx hb dX_mendParity_18 (lv_at hl 0 rfl) ?_
  refine kS (n := 3) (As := [.int (nI (t % 5)), .int (nI t), .int (nI 0)]) (rest := []) ⟨hx, hb, hml, hown, hts⟩ (mX_cellOf l (t % 5) t 0) w_50 w_51 w_1 w_52 (by decide +kernel) ⟨rfl, rfl⟩ ⟨(Nat.le_of_ble_eq_true rfl), (Nat.le_of_ble_eq_true rfl)⟩ rfl hl.1 rfl (Nat.le_of_ble_eq_true rfl) dX_mendParity_20 ⟨Nat.zero_le _, Nat.zero_le _⟩ ?_
  refine lv_istore hx hb dX_mendParity_23 hl (by decide) rfl (fun ls hl => ?_)
  have hl : lv_has ls 8 [(5, .int (nI (ix (t % 5) t 0))), (4, .int (nI 0)), (3, .int (nI 0)), (2, .int (nI (t % 5))), (0, .ref o), (1, .int (nI t))] := hl
  refine lv_aload_n hx hb dX_mendParity_25 rfl (lv_at hl 4 rfl) ?_
  refine lv_iload_n hx hb dX_mendParity_26 rfl (lv_at hl 3 rfl) ?_
  refine lv_iload_n hx hb dX_mendParity_27 rfl (lv_at hl 5 rfl) ?_
  refine lv_iload hx hb dX_mendParity_28 (lv_at hl 1 rfl) ?_
  refine kV (n := 3) (As := [.int (nI (t % 5)), .int (nI t), .int (nI 0)]) (rest := []) ⟨hx, hb, hml, hown, hts⟩ (mX_xorOfOthers l D o a b cA iA cf uf (t % 5) t 0 (by omega) (by omega) (by omega)) w_53 w_55 v_4 w_1 w_56 (by decide +kernel) ⟨rfl, rfl⟩ ⟨(Nat.le_of_ble_eq_true rfl), (Nat.le_of_ble_eq_true rfl)⟩ hP hK 0 0 rfl rfl rfl hl.1 rfl (Nat.le_of_ble_eq_true rfl) dX_mendParity_30 ⟨Nat.zero_le _, Nat.zero_le _⟩ ?_
  refine lv_lstore hx hb dX_mendParity_33 hl (by decide) rfl (fun ls hl => ?_)
  have hl : lv_has ls 8 [(6, .long (xo cf (t % 5) t 0)), (5, .int (nI (ix (t % 5) t 0))), (4, .int (nI 0)), (3, .int (nI 0)), (2, .int (nI (t % 5))), (0, .ref o), (1, .int (nI t))] := hl
  refine lv_aload_n hx hb dX_mendParity_35 rfl (lv_at hl 5 rfl) ?_
  refine va_get (D := D) (ci := 0) (v := .ref a) (C := R_X) (T := T_X) (N := 2) hx hb hg uX_in hown hK hP 0 rfl rfl 0 (by decide) (hg _ w_18) (fun _ h9 => h9) rfl dX_mendParity_36 ?_
  refine lv_iload hx hb dX_mendParity_39 (lv_at hl 1 rfl) ?_
  refine aL hx hb hK hP 1 0 rfl rfl (ix_lt (by omega) (by omega) (by omega)) (by decide) dX_mendParity_41 ?_
  refine lv_lload hx hb dX_mendParity_42 (lv_at hl 0 rfl) ?_
  refine W.lcmp hx hb dX_mendParity_44 ?_
  refine lv_if_eq (tgt := 59) hx hb dX_mendParity_45 (by decide) (fun h45 => ?_) (fun h45 => ?_)
  · have e0 := (lg_cmp_eq _ _).mp h45
    refine lv_iinc (k := 2) (v := nI 1) hx hb dX_mendParity_59 hl rfl (by decide +kernel)  (by decide) rfl (fun ls hl => ?_)
    have hl : lv_has ls 8 [(4, .int (nI 1)), (6, .long (xo cf (t % 5) t 0)), (5, .int (nI (ix (t % 5) t 0))), (3, .int (nI 0)), (2, .int (nI (t % 5))), (0, .ref o), (1, .int (nI t))] := hl
    refine lv_goto (tgt := 10) hx hb dX_mendParity_62 (by decide) ?_
    refine lv_iload hx hb dX_mendParity_10 (lv_at hl 0 rfl) ?_
    refine lv_iconst (v := nI 2) hx hb dX_mendParity_12 (by decide +kernel) ?_
    refine lv_icmp_ge (tgt := 65) hx hb dX_mendParity_13 (by decide) (fun h13 => absurd h13 (by decide +kernel)) (fun h13 => ?_)
    refine lv_iload_n hx hb dX_mendParity_16 rfl (lv_at hl 4 rfl) ?_
    refine lv_iload_n hx hb dX_mendParity_17 rfl (lv_at hl 6 rfl) ?_
    refine lv_iload hx hb dX_mendParity_18 (lv_at hl 0 rfl) ?_
    refine kS (n := 3) (As := [.int (nI (t % 5)), .int (nI t), .int (nI 1)]) (rest := []) ⟨hx, hb, hml, hown, hts⟩ (mX_cellOf l (t % 5) t 1) w_50 w_51 w_1 w_52 (by decide +kernel) ⟨rfl, rfl⟩ ⟨(Nat.le_of_ble_eq_true rfl), (Nat.le_of_ble_eq_true rfl)⟩ rfl hl.1 rfl (Nat.le_of_ble_eq_true rfl) dX_mendParity_20 ⟨Nat.zero_le _, Nat.zero_le _⟩ ?_
    refine lv_istore hx hb dX_mendParity_23 hl (by decide) rfl (fun ls hl => ?_)
    have hl : lv_has ls 8 [(5, .int (nI (ix (t % 5) t 1))), (4, .int (nI 1)), (6, .long (xo cf (t % 5) t 0)), (3, .int (nI 0)), (2, .int (nI (t % 5))), (0, .ref o), (1, .int (nI t))] := hl
    refine lv_aload_n hx hb dX_mendParity_25 rfl (lv_at hl 5 rfl) ?_
    refine lv_iload_n hx hb dX_mendParity_26 rfl (lv_at hl 4 rfl) ?_
    refine lv_iload_n hx hb dX_mendParity_27 rfl (lv_at hl 6 rfl) ?_
    refine lv_iload hx hb dX_mendParity_28 (lv_at hl 1 rfl) ?_
    refine kV (n := 3) (As := [.int (nI (t % 5)), .int (nI t), .int (nI 1)]) (rest := []) ⟨hx, hb, hml, hown, hts⟩ (mX_xorOfOthers l D o a b cA iA cf uf (t % 5) t 1 (by omega) (by omega) (by omega)) w_53 w_55 v_4 w_1 w_56 (by decide +kernel) ⟨rfl, rfl⟩ ⟨(Nat.le_of_ble_eq_true rfl), (Nat.le_of_ble_eq_true rfl)⟩ hP hK 0 0 rfl rfl rfl hl.1 rfl (Nat.le_of_ble_eq_true rfl) dX_mendParity_30 ⟨Nat.zero_le _, Nat.zero_le _⟩ ?_
    refine lv_lstore hx hb dX_mendParity_33 hl (by decide) rfl (fun ls hl => ?_)
    have hl : lv_has ls 8 [(6, .long (xo cf (t % 5) t 1)), (5, .int (nI (ix (t % 5) t 1))), (4, .int (nI 1)), (3, .int (nI 0)), (2, .int (nI (t % 5))), (0, .ref o), (1, .int (nI t))] := hl
    refine lv_aload_n hx hb dX_mendParity_35 rfl (lv_at hl 5 rfl) ?_
    refine va_get (D := D) (ci := 0) (v := .ref a) (C := R_X) (T := T_X) (N := 2) hx hb hg uX_in hown hK hP 0 rfl rfl 0 (by decide) (hg _ w_18) (fun _ h9 => h9) rfl dX_mendParity_36 ?_
    refine lv_iload hx hb dX_mendParity_39 (lv_at hl 1 rfl) ?_
    refine aL hx hb hK hP 1 0 rfl rfl (ix_lt (by omega) (by omega) (by omega)) (by decide) dX_mendParity_41 ?_
    refine lv_lload hx hb dX_mendParity_42 (lv_at hl 0 rfl) ?_
    refine W.lcmp hx hb dX_mendParity_44 ?_
    refine lv_if_eq (tgt := 59) hx hb dX_mendParity_45 (by decide) (fun h45 => ?_) (fun h45 => ?_)
    · have e1 := (lg_cmp_eq _ _).mp h45
      refine lv_iinc (k := 2) (v := nI 2) hx hb dX_mendParity_59 hl rfl (by decide +kernel)  (by decide) rfl (fun ls hl => ?_)
      have hl : lv_has ls 8 [(4, .int (nI 2)), (6, .long (xo cf (t % 5) t 1)), (5, .int (nI (ix (t % 5) t 1))), (3, .int (nI 0)), (2, .int (nI (t % 5))), (0, .ref o), (1, .int (nI t))] := hl
      refine lv_goto (tgt := 10) hx hb dX_mendParity_62 (by decide) ?_
      refine lv_iload hx hb dX_mendParity_10 (lv_at hl 0 rfl) ?_
      refine lv_iconst (v := nI 2) hx hb dX_mendParity_12 (by decide +kernel) ?_
      refine lv_icmp_ge (tgt := 65) hx hb dX_mendParity_13 (by decide) (fun h13 => ?_) (fun h13 => absurd (by decide +kernel) h13)
      refine lv_iload_n hx hb dX_mendParity_65 rfl (lv_at hl 3 rfl) ?_
      exact W.zret (v := nI 0) (ty := .boolean) hx hb hr nar_0 (fun t9 ht9 _ => ⟨⟨_, (), rfl, by show _ = _; rw [good_i e0 e1]; rfl, by show va_P _ _ _ t9.heap; rw [ht9]; rw [rbB_good ht (good_i e0 e1)]; exact hP⟩, hS.F ht9⟩) hS.2.2 dX_mendParity_66
    · have e1 := fun z => h45 ((lg_cmp_eq _ _).mpr z)
      refine lv_aload_n hx hb dX_mendParity_48 rfl (lv_at hl 5 rfl) ?_
      refine va_get (D := D) (ci := 0) (v := .ref a) (C := R_X) (T := T_X) (N := 2) hx hb hg uX_in hown hK hP 0 rfl rfl 0 (by decide) (hg _ w_18) (fun _ h9 => h9) rfl dX_mendParity_49 ?_
      refine lv_iload hx hb dX_mendParity_52 (lv_at hl 1 rfl) ?_
      refine lv_lload hx hb dX_mendParity_54 (lv_at hl 0 rfl) ?_
      refine sL hx hb hK hP hD hS 1 0 rfl rfl (ix_lt (by omega) (by omega) (by omega)) (by decide) dX_mendParity_56 (fun H locs hP hD hS => ?_)
      have hP : va_P D cls_ (wX o a b cA iA (vp_updL cf (ix (t % 5) t 1) (xo cf (t % 5) t 1)) uf) H := hP
      have hD : va_D A (wX o a b cA iA (vp_updL cf (ix (t % 5) t 1) (xo cf (t % 5) t 1)) uf) := hD
      refine lv_iconst (v := nI 1) hx hb dX_mendParity_57 (by decide +kernel) ?_
      refine lv_istore_n hx hb dX_mendParity_58 rfl hl (by decide) rfl (fun ls hl => ?_)
      have hl : lv_has ls 8 [(3, .int (nI 1)), (6, .long (xo cf (t % 5) t 1)), (5, .int (nI (ix (t % 5) t 1))), (4, .int (nI 1)), (2, .int (nI (t % 5))), (0, .ref o), (1, .int (nI t))] := hl
      refine lv_iinc (k := 3) (v := nI 2) hx hb dX_mendParity_59 hl rfl (by decide +kernel)  (by decide) rfl (fun ls hl => ?_)
      have hl : lv_has ls 8 [(4, .int (nI 2)), (3, .int (nI 1)), (6, .long (xo cf (t % 5) t 1)), (5, .int (nI (ix (t % 5) t 1))), (2, .int (nI (t % 5))), (0, .ref o), (1, .int (nI t))] := hl
      refine lv_goto (tgt := 10) hx hb dX_mendParity_62 (by decide) ?_
      refine lv_iload hx hb dX_mendParity_10 (lv_at hl 0 rfl) ?_
      refine lv_iconst (v := nI 2) hx hb dX_mendParity_12 (by decide +kernel) ?_
      refine lv_icmp_ge (tgt := 65) hx hb dX_mendParity_13 (by decide) (fun h13 => ?_) (fun h13 => absurd (by decide +kernel) h13)
      refine lv_iload_n hx hb dX_mendParity_65 rfl (lv_at hl 1 rfl) ?_
      exact W.zret (v := nI 1) (ty := .boolean) hx hb hr nar_1 (fun t9 ht9 _ => ⟨⟨_, (), rfl, by show _ = _; rw [good_n1 e1]; rfl, by show va_P _ _ _ t9.heap; rw [ht9]; rw [show rbB cf (t % 5) t = vp_updL cf (ix (t % 5) t 1) (xo cf (t % 5) t 1) by rw [rbB, ← e0, updL_self]]; exact hP⟩, hS.F ht9⟩) hS.2.2 dX_mendParity_66
  · have e0 := fun z => h45 ((lg_cmp_eq _ _).mpr z)
    refine lv_aload_n hx hb dX_mendParity_48 rfl (lv_at hl 5 rfl) ?_
    refine va_get (D := D) (ci := 0) (v := .ref a) (C := R_X) (T := T_X) (N := 2) hx hb hg uX_in hown hK hP 0 rfl rfl 0 (by decide) (hg _ w_18) (fun _ h9 => h9) rfl dX_mendParity_49 ?_
    refine lv_iload hx hb dX_mendParity_52 (lv_at hl 1 rfl) ?_
    refine lv_lload hx hb dX_mendParity_54 (lv_at hl 0 rfl) ?_
    refine sL hx hb hK hP hD hS 1 0 rfl rfl (ix_lt (by omega) (by omega) (by omega)) (by decide) dX_mendParity_56 (fun H locs hP hD hS => ?_)
    have hP : va_P D cls_ (wX o a b cA iA (vp_updL cf (ix (t % 5) t 0) (xo cf (t % 5) t 0)) uf) H := hP
    have hD : va_D A (wX o a b cA iA (vp_updL cf (ix (t % 5) t 0) (xo cf (t % 5) t 0)) uf) := hD
    refine lv_iconst (v := nI 1) hx hb dX_mendParity_57 (by decide +kernel) ?_
    refine lv_istore_n hx hb dX_mendParity_58 rfl hl (by decide) rfl (fun ls hl => ?_)
    have hl : lv_has ls 8 [(3, .int (nI 1)), (6, .long (xo cf (t % 5) t 0)), (5, .int (nI (ix (t % 5) t 0))), (4, .int (nI 0)), (2, .int (nI (t % 5))), (0, .ref o), (1, .int (nI t))] := hl
    refine lv_iinc (k := 3) (v := nI 1) hx hb dX_mendParity_59 hl rfl (by decide +kernel)  (by decide) rfl (fun ls hl => ?_)
    have hl : lv_has ls 8 [(4, .int (nI 1)), (3, .int (nI 1)), (6, .long (xo cf (t % 5) t 0)), (5, .int (nI (ix (t % 5) t 0))), (2, .int (nI (t % 5))), (0, .ref o), (1, .int (nI t))] := hl
    refine lv_goto (tgt := 10) hx hb dX_mendParity_62 (by decide) ?_
    refine lv_iload hx hb dX_mendParity_10 (lv_at hl 0 rfl) ?_
    refine lv_iconst (v := nI 2) hx hb dX_mendParity_12 (by decide +kernel) ?_
    refine lv_icmp_ge (tgt := 65) hx hb dX_mendParity_13 (by decide) (fun h13 => absurd h13 (by decide +kernel)) (fun h13 => ?_)
    refine lv_iload_n hx hb dX_mendParity_16 rfl (lv_at hl 4 rfl) ?_
    refine lv_iload_n hx hb dX_mendParity_17 rfl (lv_at hl 6 rfl) ?_
    refine lv_iload hx hb dX_mendParity_18 (lv_at hl 0 rfl) ?_
    refine kS (n := 3) (As := [.int (nI (t % 5)), .int (nI t), .int (nI 1)]) (rest := []) ⟨hx, hb, hml, hown, hts⟩ (mX_cellOf l (t % 5) t 1) w_50 w_51 w_1 w_52 (by decide +kernel) ⟨rfl, rfl⟩ ⟨(Nat.le_of_ble_eq_true rfl), (Nat.le_of_ble_eq_true rfl)⟩ rfl hl.1 rfl (Nat.le_of_ble_eq_true rfl) dX_mendParity_20 ⟨Nat.zero_le _, Nat.zero_le _⟩ ?_
    refine lv_istore hx hb dX_mendParity_23 hl (by decide) rfl (fun ls hl => ?_)
    have hl : lv_has ls 8 [(5, .int (nI (ix (t % 5) t 1))), (4, .int (nI 1)), (3, .int (nI 1)), (6, .long (xo cf (t % 5) t 0)), (2, .int (nI (t % 5))), (0, .ref o), (1, .int (nI t))] := hl
    refine lv_aload_n hx hb dX_mendParity_25 rfl (lv_at hl 5 rfl) ?_
    refine lv_iload_n hx hb dX_mendParity_26 rfl (lv_at hl 4 rfl) ?_
    refine lv_iload_n hx hb dX_mendParity_27 rfl (lv_at hl 6 rfl) ?_
    refine lv_iload hx hb dX_mendParity_28 (lv_at hl 1 rfl) ?_
    refine kV (n := 3) (As := [.int (nI (t % 5)), .int (nI t), .int (nI 1)]) (rest := []) ⟨hx, hb, hml, hown, hts⟩ (mX_xorOfOthers l D o a b cA iA (vp_updL cf (ix (t % 5) t 0) (xo cf (t % 5) t 0)) uf (t % 5) t 1 (by omega) (by omega) (by omega)) w_53 w_55 v_4 w_1 w_56 (by decide +kernel) ⟨rfl, rfl⟩ ⟨(Nat.le_of_ble_eq_true rfl), (Nat.le_of_ble_eq_true rfl)⟩ hP hK 0 0 rfl rfl rfl hl.1 rfl (Nat.le_of_ble_eq_true rfl) dX_mendParity_30 ⟨Nat.zero_le _, Nat.zero_le _⟩ ?_
    refine lv_lstore hx hb dX_mendParity_33 hl (by decide) rfl (fun ls hl => ?_)
    have hl : lv_has ls 8 [(6, .long (xo (vp_updL cf (ix (t % 5) t 0) (xo cf (t % 5) t 0)) (t % 5) t 1)), (5, .int (nI (ix (t % 5) t 1))), (4, .int (nI 1)), (3, .int (nI 1)), (2, .int (nI (t % 5))), (0, .ref o), (1, .int (nI t))] := hl
    refine lv_aload_n hx hb dX_mendParity_35 rfl (lv_at hl 5 rfl) ?_
    refine va_get (D := D) (ci := 0) (v := .ref a) (C := R_X) (T := T_X) (N := 2) hx hb hg uX_in hown hK hP 0 rfl rfl 0 (by decide) (hg _ w_18) (fun _ h9 => h9) rfl dX_mendParity_36 ?_
    refine lv_iload hx hb dX_mendParity_39 (lv_at hl 1 rfl) ?_
    refine aL hx hb hK hP 1 0 rfl rfl (ix_lt (by omega) (by omega) (by omega)) (by decide) dX_mendParity_41 ?_
    refine lv_lload hx hb dX_mendParity_42 (lv_at hl 0 rfl) ?_
    refine W.lcmp hx hb dX_mendParity_44 ?_
    refine lv_if_eq (tgt := 59) hx hb dX_mendParity_45 (by decide) (fun h45 => ?_) (fun h45 => ?_)
    · have e1 := (lg_cmp_eq _ _).mp h45
      refine lv_iinc (k := 2) (v := nI 2) hx hb dX_mendParity_59 hl rfl (by decide +kernel)  (by decide) rfl (fun ls hl => ?_)
      have hl : lv_has ls 8 [(4, .int (nI 2)), (6, .long (xo (vp_updL cf (ix (t % 5) t 0) (xo cf (t % 5) t 0)) (t % 5) t 1)), (5, .int (nI (ix (t % 5) t 1))), (3, .int (nI 1)), (2, .int (nI (t % 5))), (0, .ref o), (1, .int (nI t))] := hl
      refine lv_goto (tgt := 10) hx hb dX_mendParity_62 (by decide) ?_
      refine lv_iload hx hb dX_mendParity_10 (lv_at hl 0 rfl) ?_
      refine lv_iconst (v := nI 2) hx hb dX_mendParity_12 (by decide +kernel) ?_
      refine lv_icmp_ge (tgt := 65) hx hb dX_mendParity_13 (by decide) (fun h13 => ?_) (fun h13 => absurd (by decide +kernel) h13)
      refine lv_iload_n hx hb dX_mendParity_65 rfl (lv_at hl 3 rfl) ?_
      exact W.zret (v := nI 1) (ty := .boolean) hx hb hr nar_1 (fun t9 ht9 _ => ⟨⟨_, (), rfl, by show _ = _; rw [good_n0 e0]; rfl, by show va_P _ _ _ t9.heap; rw [ht9]; rw [show rbB cf (t % 5) t = vp_updL cf (ix (t % 5) t 0) (xo cf (t % 5) t 0) by rw [rbB, ← e1, updL_self]]; exact hP⟩, hS.F ht9⟩) hS.2.2 dX_mendParity_66
    · have e1 := fun z => h45 ((lg_cmp_eq _ _).mpr z)
      refine lv_aload_n hx hb dX_mendParity_48 rfl (lv_at hl 5 rfl) ?_
      refine va_get (D := D) (ci := 0) (v := .ref a) (C := R_X) (T := T_X) (N := 2) hx hb hg uX_in hown hK hP 0 rfl rfl 0 (by decide) (hg _ w_18) (fun _ h9 => h9) rfl dX_mendParity_49 ?_
      refine lv_iload hx hb dX_mendParity_52 (lv_at hl 1 rfl) ?_
      refine lv_lload hx hb dX_mendParity_54 (lv_at hl 0 rfl) ?_
      refine sL hx hb hK hP hD hS 1 0 rfl rfl (ix_lt (by omega) (by omega) (by omega)) (by decide) dX_mendParity_56 (fun H locs hP hD hS => ?_)
      have hP : va_P D cls_ (wX o a b cA iA (vp_updL (vp_updL cf (ix (t % 5) t 0) (xo cf (t % 5) t 0)) (ix (t % 5) t 1) (xo (vp_updL cf (ix (t % 5) t 0) (xo cf (t % 5) t 0)) (t % 5) t 1)) uf) H := hP
      have hD : va_D A (wX o a b cA iA (vp_updL (vp_updL cf (ix (t % 5) t 0) (xo cf (t % 5) t 0)) (ix (t % 5) t 1) (xo (vp_updL cf (ix (t % 5) t 0) (xo cf (t % 5) t 0)) (t % 5) t 1)) uf) := hD
      refine lv_iconst (v := nI 1) hx hb dX_mendParity_57 (by decide +kernel) ?_
      refine lv_istore_n hx hb dX_mendParity_58 rfl hl (by decide) rfl (fun ls hl => ?_)
      have hl : lv_has ls 8 [(3, .int (nI 1)), (6, .long (xo (vp_updL cf (ix (t % 5) t 0) (xo cf (t % 5) t 0)) (t % 5) t 1)), (5, .int (nI (ix (t % 5) t 1))), (4, .int (nI 1)), (2, .int (nI (t % 5))), (0, .ref o), (1, .int (nI t))] := hl
      refine lv_iinc (k := 3) (v := nI 2) hx hb dX_mendParity_59 hl rfl (by decide +kernel)  (by decide) rfl (fun ls hl => ?_)
      have hl : lv_has ls 8 [(4, .int (nI 2)), (3, .int (nI 1)), (6, .long (xo (vp_updL cf (ix (t % 5) t 0) (xo cf (t % 5) t 0)) (t % 5) t 1)), (5, .int (nI (ix (t % 5) t 1))), (2, .int (nI (t % 5))), (0, .ref o), (1, .int (nI t))] := hl
      refine lv_goto (tgt := 10) hx hb dX_mendParity_62 (by decide) ?_
      refine lv_iload hx hb dX_mendParity_10 (lv_at hl 0 rfl) ?_
      refine lv_iconst (v := nI 2) hx hb dX_mendParity_12 (by decide +kernel) ?_
      refine lv_icmp_ge (tgt := 65) hx hb dX_mendParity_13 (by decide) (fun h13 => ?_) (fun h13 => absurd (by decide +kernel) h13)
      refine lv_iload_n hx hb dX_mendParity_65 rfl (lv_at hl 1 rfl) ?_
      exact W.zret (v := nI 1) (ty := .boolean) hx hb hr nar_1 (fun t9 ht9 _ => ⟨⟨_, (), rfl, by show _ = _; rw [good_n0 e0]; rfl, by show va_P _ _ _ t9.heap; rw [ht9]; exact hP⟩, hS.F ht9⟩) hS.2.2 dX_mendParity_66
set_option maxHeartbeats 4000000 in
set_option maxRecDepth 100000 in
theorem mX_write_ok (l : Launch) (D : va_G) (o a b : Nat) (cA iA : ClassId) (cf : Nat → Int64) (uf : Nat → Int32) (sz : Nat) (q h : Nat) (hq : q < 400) (hh : h < 2) (v : Int64) (hil : il uf (dk q) (q / 4) = false) : Met l yX_write (.code yX_write cX_write 10 none :: gW) ({ frames := 7, cells := 0, slots := 0, locals := 116 }) (pWs D (wX o a b cA iA cf uf) (kT cA iA) sz [.ref o, .int (nI q), .int (nI h), .long v]) (QV D (wX o a b cA iA (wN cf uf q h v) uf) (va_A (wX o a b cA iA cf uf) sz)) 0 0 (va_A (wX o a b cA iA cf uf) sz) := by
  refine Met.ofW (cc := cX_write) (maxL := 10) (ret := none) (by decide) rfl ?_
  intro p e s m args below meth c s₁ B hml hv
  obtain ⟨rfl, hsz, hP, hK, hD0⟩ := hv
  have hx := B.exec
  have hb := B.bytes
  have hr := B.returns
  have hts := atoms_spec (ws := (.code yX_write cX_write 10 none :: gW)) B.pre
  have hg : ∀ w ∈ gW, w.before ([.ref o, .int (nI q), .int (nI h), .long v]).toArray s = true := fun w h => hts w (List.mem_cons_of_mem _ h)
  have hown : s.vm.findClass R_X = some m.cls := findClass_of_methodNamed B.named
  have hlocks := B.notSynchronized
  subst hsz
  have hD := hD0.self (sz := s.heap.size)
  generalize hAe : va_A (wX o a b cA iA cf uf) s.heap.size = A at hD ⊢
  have hA : ∀ q : Nat, s.heap.size ≤ q → A q := fun q h => by rw [← hAe]; exact Or.inr h
  have hS : va_S A s.heap s.heap [] := va_S.rf
  have hP : va_P D cls_ (wX o a b cA iA cf uf) s.heap := hP
  have hl := lv_entry ([.ref o, .int (nI q), .int (nI h), .long v]) (n := 10) (Nat.le_of_ble_eq_true rfl)
  rw [lg_entry_eq]
  generalize (lg_sl ([.ref o, .int (nI q), .int (nI h), .long v]) ++ List.replicate (10 - (lg_sl ([.ref o, .int (nI q), .int (nI h), .long v])).length) Slot.unset).toArray = ls at hl ⊢
  have hl : lv_has ls 10 [(0, .ref o), (1, .int (nI q)), (2, .int (nI h)), (3, .long v)] := hl
  refine lv_iload_n hx hb dX_write_0 rfl (lv_at hl 1 rfl) ?_
  refine kSn (n := 1) (As := [.int (nI q)]) (rest := []) ⟨hx, hb, hml, hown, hts⟩ (mX_checkPlace_ok l q (by omega)) w_80 w_81 w_1 w_82 (by decide +kernel) ⟨rfl, rfl⟩ ⟨(Nat.le_of_ble_eq_true rfl), (Nat.le_of_ble_eq_true rfl)⟩ rfl hl.1 rfl (Nat.le_of_ble_eq_true rfl) dX_write_1 ⟨Nat.zero_le _, Nat.zero_le _⟩ ?_
  refine lv_iload_n hx hb dX_write_4 rfl (lv_at hl 2 rfl) ?_
  refine kSn (n := 1) (As := [.int (nI h)]) (rest := []) ⟨hx, hb, hml, hown, hts⟩ (mX_checkHalf_ok l h (by omega)) w_151 w_152 w_1 w_153 (by decide +kernel) ⟨rfl, rfl⟩ ⟨(Nat.le_of_ble_eq_true rfl), (Nat.le_of_ble_eq_true rfl)⟩ rfl hl.1 rfl (Nat.le_of_ble_eq_true rfl) dX_write_5 ⟨Nat.zero_le _, Nat.zero_le _⟩ ?_
  refine lv_iload_n hx hb dX_write_8 rfl (lv_at hl 1 rfl) ?_
  refine kS (n := 1) (As := [.int (nI q)]) (rest := []) ⟨hx, hb, hml, hown, hts⟩ (mX_stripeOf l q (by omega)) w_64 w_65 w_1 w_66 (by decide +kernel) ⟨rfl, rfl⟩ ⟨(Nat.le_of_ble_eq_true rfl), (Nat.le_of_ble_eq_true rfl)⟩ rfl hl.1 rfl (Nat.le_of_ble_eq_true rfl) dX_write_9 ⟨Nat.zero_le _, Nat.zero_le _⟩ ?_
  refine lv_istore hx hb dX_write_12 hl (by decide) rfl (fun ls hl => ?_)
  have hl : lv_has ls 10 [(5, .int (nI (q / 4))), (0, .ref o), (1, .int (nI q)), (2, .int (nI h)), (3, .long v)] := hl
  refine lv_iload_n hx hb dX_write_14 rfl (lv_at hl 2 rfl) ?_
  refine kS (n := 1) (As := [.int (nI q)]) (rest := []) ⟨hx, hb, hml, hown, hts⟩ (mX_diskOf l q (by omega)) w_61 w_62 w_1 w_63 (by decide +kernel) ⟨rfl, rfl⟩ ⟨(Nat.le_of_ble_eq_true rfl), (Nat.le_of_ble_eq_true rfl)⟩ rfl hl.1 rfl (Nat.le_of_ble_eq_true rfl) dX_write_15 ⟨Nat.zero_le _, Nat.zero_le _⟩ ?_
  refine lv_istore hx hb dX_write_18 hl (by decide) rfl (fun ls hl => ?_)
  have hl : lv_has ls 10 [(6, .int (nI (dk q))), (5, .int (nI (q / 4))), (0, .ref o), (1, .int (nI q)), (2, .int (nI h)), (3, .long v)] := hl
  refine lv_aload_n hx hb dX_write_20 rfl (lv_at hl 2 rfl) ?_
  refine lv_iload hx hb dX_write_21 (lv_at hl 0 rfl) ?_
  refine lv_iload hx hb dX_write_23 (lv_at hl 1 rfl) ?_
  refine kV (n := 2) (As := [.int (nI (dk q)), .int (nI (q / 4))]) (rest := []) ⟨hx, hb, hml, hown, hts⟩ (mX_isLost l D o a b cA iA cf uf (dk q) (q / 4) (dk_lt _) (by omega)) w_67 w_69 v_5 w_1 w_70 (by decide +kernel) ⟨rfl, rfl⟩ ⟨(Nat.le_of_ble_eq_true rfl), (Nat.le_of_ble_eq_true rfl)⟩ hP hK 0 0 rfl rfl rfl hl.1 rfl (Nat.le_of_ble_eq_true rfl) dX_write_25 ⟨Nat.zero_le _, Nat.zero_le _⟩ ?_
  refine lv_if_eq (tgt := 41) hx hb dX_write_28 (by decide) (fun h28 => ?_) (fun h28 => absurd (bi_z hil) h28)
  refine lv_aload_n hx hb dX_write_41 rfl (lv_at hl 2 rfl) ?_
  refine lv_iload hx hb dX_write_42 (lv_at hl 0 rfl) ?_
  refine lv_iload hx hb dX_write_44 (lv_at hl 1 rfl) ?_
  refine lv_iload_n hx hb dX_write_46 rfl (lv_at hl 4 rfl) ?_
  refine kV (n := 3) (As := [.int (nI (dk q)), .int (nI (q / 4)), .int (nI h)]) (rest := []) ⟨hx, hb, hml, hown, hts⟩ (mX_whatItHas l D o a b cA iA cf uf (dk q) (q / 4) h (dk_lt _) (by omega) (by omega)) w_171 w_173 v_7 w_1 w_174 (by decide +kernel) ⟨rfl, rfl⟩ ⟨(Nat.le_of_ble_eq_true rfl), (Nat.le_of_ble_eq_true rfl)⟩ hP hK 0 0 rfl rfl rfl hl.1 rfl (Nat.le_of_ble_eq_true rfl) dX_write_47 ⟨Nat.zero_le _, Nat.zero_le _⟩ ?_
  refine lv_lstore hx hb dX_write_50 hl (by decide) rfl (fun ls hl => ?_)
  have hl : lv_has ls 10 [(7, .long (wh cf uf (dk q) (q / 4) h)), (6, .int (nI (dk q))), (5, .int (nI (q / 4))), (0, .ref o), (1, .int (nI q)), (2, .int (nI h)), (3, .long v)] := hl
  refine lv_iload hx hb dX_write_52 (lv_at hl 2 rfl) ?_
  refine kS (n := 1) (As := [.int (nI (q / 4))]) (rest := []) ⟨hx, hb, hml, hown, hts⟩ (mX_parityDiskOf l (q / 4) (by omega)) w_35 w_36 w_1 w_37 (by decide +kernel) ⟨rfl, rfl⟩ ⟨(Nat.le_of_ble_eq_true rfl), (Nat.le_of_ble_eq_true rfl)⟩ rfl hl.1 rfl (Nat.le_of_ble_eq_true rfl) dX_write_54 ⟨Nat.zero_le _, Nat.zero_le _⟩ ?_
  refine lv_istore hx hb dX_write_57 hl (by decide) rfl (fun ls hl => ?_)
  have hl : lv_has ls 10 [(9, .int (nI ((q / 4) % 5))), (7, .long (wh cf uf (dk q) (q / 4) h)), (6, .int (nI (dk q))), (5, .int (nI (q / 4))), (0, .ref o), (1, .int (nI q)), (2, .int (nI h)), (3, .long v)] := hl
  refine lv_aload_n hx hb dX_write_59 rfl (lv_at hl 4 rfl) ?_
  refine lv_iload hx hb dX_write_60 (lv_at hl 0 rfl) ?_
  refine lv_iload hx hb dX_write_62 (lv_at hl 3 rfl) ?_
  refine kV (n := 2) (As := [.int (nI ((q / 4) % 5)), .int (nI (q / 4))]) (rest := []) ⟨hx, hb, hml, hown, hts⟩ (mX_canBeUsed l D o a b cA iA cf uf ((q / 4) % 5) (q / 4) (by omega) (by omega)) w_38 w_40 v_1 w_1 w_41 (by decide +kernel) ⟨rfl, rfl⟩ ⟨(Nat.le_of_ble_eq_true rfl), (Nat.le_of_ble_eq_true rfl)⟩ hP hK 0 0 rfl rfl rfl hl.1 rfl (Nat.le_of_ble_eq_true rfl) dX_write_64 ⟨Nat.zero_le _, Nat.zero_le _⟩ ?_
  refine lv_if_eq (tgt := 90) hx hb dX_write_67 (by decide) (fun h67 => ?_) (fun h67 => ?_)
  · have e67 := bi_0 h67
    refine lv_aload_n hx hb dX_write_90 rfl (lv_at hl 4 rfl) ?_
    refine lv_iload hx hb dX_write_91 (lv_at hl 2 rfl) ?_
    refine lv_iload hx hb dX_write_93 (lv_at hl 3 rfl) ?_
    refine kV (n := 2) (As := [.int (nI (dk q)), .int (nI (q / 4))]) (rest := []) ⟨hx, hb, hml, hown, hts⟩ (mX_canBeUsed l D o a b cA iA cf uf (dk q) (q / 4) (dk_lt _) (by omega)) w_38 w_40 v_1 w_1 w_41 (by decide +kernel) ⟨rfl, rfl⟩ ⟨(Nat.le_of_ble_eq_true rfl), (Nat.le_of_ble_eq_true rfl)⟩ hP hK 0 0 rfl rfl rfl hl.1 rfl (Nat.le_of_ble_eq_true rfl) dX_write_95 ⟨Nat.zero_le _, Nat.zero_le _⟩ ?_
    refine lv_if_eq (tgt := 115) hx hb dX_write_98 (by decide) (fun h98 => ?_) (fun h98 => ?_)
    · have e98 := bi_0 h98
      exact W.vret hx hb hr (fun t9 ht9 _ => ⟨⟨(), rfl, trivial, by show va_P _ _ _ t9.heap; rw [ht9]; rw [wN, if_neg (nt_f e98), wP, if_neg (nt_f e67)]; exact hP⟩, hS.F ht9⟩) hS.2.2 dX_write_115
    · have e98 := bi_1 h98
      refine lv_aload_n hx hb dX_write_101 rfl (lv_at hl 4 rfl) ?_
      refine va_get (D := D) (ci := 0) (v := .ref a) (C := R_X) (T := T_X) (N := 2) hx hb hg uX_in hown hK hP 0 rfl rfl 0 (by decide) (hg _ w_18) (fun _ h9 => h9) rfl dX_write_102 ?_
      refine lv_iload hx hb dX_write_105 (lv_at hl 2 rfl) ?_
      refine lv_iload hx hb dX_write_107 (lv_at hl 3 rfl) ?_
      refine lv_iload_n hx hb dX_write_109 rfl (lv_at hl 6 rfl) ?_
      refine kS (n := 3) (As := [.int (nI (dk q)), .int (nI (q / 4)), .int (nI h)]) (rest := [.ref a]) ⟨hx, hb, hml, hown, hts⟩ (mX_cellOf l (dk q) (q / 4) h) w_50 w_51 w_1 w_52 (by decide +kernel) ⟨rfl, rfl⟩ ⟨(Nat.le_of_ble_eq_true rfl), (Nat.le_of_ble_eq_true rfl)⟩ rfl hl.1 rfl (Nat.le_of_ble_eq_true rfl) dX_write_110 ⟨Nat.zero_le _, Nat.zero_le _⟩ ?_
      refine lv_lload_n hx hb dX_write_113 rfl (lv_at hl 7 rfl) ?_
      refine sL hx hb hK hP hD hS 1 0 rfl rfl (ix_lt (dk_lt _) (by omega) (by omega)) (by decide) dX_write_114 (fun H locs hP hD hS => ?_)
      have hP : va_P D cls_ (wX o a b cA iA (vp_updL cf (ix (dk q) (q / 4) h) v) uf) H := hP
      have hD : va_D A (wX o a b cA iA (vp_updL cf (ix (dk q) (q / 4) h) v) uf) := hD
      exact W.vret hx hb hr (fun t9 ht9 _ => ⟨⟨(), rfl, trivial, by show va_P _ _ _ t9.heap; rw [ht9]; rw [wN, if_pos e98, wP, if_neg (nt_f e67)]; exact hP⟩, hS.F ht9⟩) hS.2.2 dX_write_115
  · have e67 := bi_1 h67
    refine lv_aload_n hx hb dX_write_70 rfl (lv_at hl 4 rfl) ?_
    refine va_get (D := D) (ci := 0) (v := .ref a) (C := R_X) (T := T_X) (N := 2) hx hb hg uX_in hown hK hP 0 rfl rfl 0 (by decide) (hg _ w_18) (fun _ h9 => h9) rfl dX_write_71 ?_
    refine lv_iload hx hb dX_write_74 (lv_at hl 0 rfl) ?_
    refine lv_iload hx hb dX_write_76 (lv_at hl 3 rfl) ?_
    refine lv_iload_n hx hb dX_write_78 rfl (lv_at hl 6 rfl) ?_
    refine kS (n := 3) (As := [.int (nI ((q / 4) % 5)), .int (nI (q / 4)), .int (nI h)]) (rest := [.ref a]) ⟨hx, hb, hml, hown, hts⟩ (mX_cellOf l ((q / 4) % 5) (q / 4) h) w_50 w_51 w_1 w_52 (by decide +kernel) ⟨rfl, rfl⟩ ⟨(Nat.le_of_ble_eq_true rfl), (Nat.le_of_ble_eq_true rfl)⟩ rfl hl.1 rfl (Nat.le_of_ble_eq_true rfl) dX_write_79 ⟨Nat.zero_le _, Nat.zero_le _⟩ ?_
    refine lv_dup2_11 hx hb dX_write_82 rfl rfl ?_
    refine aL hx hb hK hP 1 0 rfl rfl (ix_lt (by omega) (by omega) (by omega)) (by decide) dX_write_83 ?_
    refine lv_lload hx hb dX_write_84 (lv_at hl 1 rfl) ?_
    refine lv_lload_n hx hb dX_write_86 rfl (lv_at hl 7 rfl) ?_
    refine lv_lxor hx hb dX_write_87 ?_
    refine lv_lxor hx hb dX_write_88 ?_
    refine sL hx hb hK hP hD hS 1 0 rfl rfl (ix_lt (by omega) (by omega) (by omega)) (by decide) dX_write_89 (fun H locs hP hD hS => ?_)
    have hP : va_P D cls_ (wX o a b cA iA (vp_updL cf (ix ((q / 4) % 5) (q / 4) h) ((cf (ix ((q / 4) % 5) (q / 4) h)) ^^^ ((wh cf uf (dk q) (q / 4) h) ^^^ v))) uf) H := hP
    have hD : va_D A (wX o a b cA iA (vp_updL cf (ix ((q / 4) % 5) (q / 4) h) ((cf (ix ((q / 4) % 5) (q / 4) h)) ^^^ ((wh cf uf (dk q) (q / 4) h) ^^^ v))) uf) := hD
    refine lv_aload_n hx hb dX_write_90 rfl (lv_at hl 4 rfl) ?_
    refine lv_iload hx hb dX_write_91 (lv_at hl 2 rfl) ?_
    refine lv_iload hx hb dX_write_93 (lv_at hl 3 rfl) ?_
    refine kV (n := 2) (As := [.int (nI (dk q)), .int (nI (q / 4))]) (rest := []) ⟨hx, hb, hml, hown, hts⟩ (mX_canBeUsed l D o a b cA iA (vp_updL cf (ix ((q / 4) % 5) (q / 4) h) ((cf (ix ((q / 4) % 5) (q / 4) h)) ^^^ ((wh cf uf (dk q) (q / 4) h) ^^^ v))) uf (dk q) (q / 4) (dk_lt _) (by omega)) w_38 w_40 v_1 w_1 w_41 (by decide +kernel) ⟨rfl, rfl⟩ ⟨(Nat.le_of_ble_eq_true rfl), (Nat.le_of_ble_eq_true rfl)⟩ hP hK 0 0 rfl rfl rfl hl.1 rfl (Nat.le_of_ble_eq_true rfl) dX_write_95 ⟨Nat.zero_le _, Nat.zero_le _⟩ ?_
    refine lv_if_eq (tgt := 115) hx hb dX_write_98 (by decide) (fun h98 => ?_) (fun h98 => ?_)
    · have e98 := bi_0 h98
      exact W.vret hx hb hr (fun t9 ht9 _ => ⟨⟨(), rfl, trivial, by show va_P _ _ _ t9.heap; rw [ht9]; rw [wN, if_neg (nt_f e98), wP, if_pos e67]; exact hP⟩, hS.F ht9⟩) hS.2.2 dX_write_115
    · have e98 := bi_1 h98
      refine lv_aload_n hx hb dX_write_101 rfl (lv_at hl 4 rfl) ?_
      refine va_get (D := D) (ci := 0) (v := .ref a) (C := R_X) (T := T_X) (N := 2) hx hb hg uX_in hown hK hP 0 rfl rfl 0 (by decide) (hg _ w_18) (fun _ h9 => h9) rfl dX_write_102 ?_
      refine lv_iload hx hb dX_write_105 (lv_at hl 2 rfl) ?_
      refine lv_iload hx hb dX_write_107 (lv_at hl 3 rfl) ?_
      refine lv_iload_n hx hb dX_write_109 rfl (lv_at hl 6 rfl) ?_
      refine kS (n := 3) (As := [.int (nI (dk q)), .int (nI (q / 4)), .int (nI h)]) (rest := [.ref a]) ⟨hx, hb, hml, hown, hts⟩ (mX_cellOf l (dk q) (q / 4) h) w_50 w_51 w_1 w_52 (by decide +kernel) ⟨rfl, rfl⟩ ⟨(Nat.le_of_ble_eq_true rfl), (Nat.le_of_ble_eq_true rfl)⟩ rfl hl.1 rfl (Nat.le_of_ble_eq_true rfl) dX_write_110 ⟨Nat.zero_le _, Nat.zero_le _⟩ ?_
      refine lv_lload_n hx hb dX_write_113 rfl (lv_at hl 7 rfl) ?_
      refine sL hx hb hK hP hD hS 1 0 rfl rfl (ix_lt (dk_lt _) (by omega) (by omega)) (by decide) dX_write_114 (fun H locs hP hD hS => ?_)
      have hP : va_P D cls_ (wX o a b cA iA (vp_updL (vp_updL cf (ix ((q / 4) % 5) (q / 4) h) ((cf (ix ((q / 4) % 5) (q / 4) h)) ^^^ ((wh cf uf (dk q) (q / 4) h) ^^^ v))) (ix (dk q) (q / 4) h) v) uf) H := hP
      have hD : va_D A (wX o a b cA iA (vp_updL (vp_updL cf (ix ((q / 4) % 5) (q / 4) h) ((cf (ix ((q / 4) % 5) (q / 4) h)) ^^^ ((wh cf uf (dk q) (q / 4) h) ^^^ v))) (ix (dk q) (q / 4) h) v) uf) := hD
      exact W.vret hx hb hr (fun t9 ht9 _ => ⟨⟨(), rfl, trivial, by show va_P _ _ _ t9.heap; rw [ht9]; rw [wN, if_pos e98, wP, if_pos e67]; exact hP⟩, hS.F ht9⟩) hS.2.2 dX_write_115
set_option maxHeartbeats 4000000 in
set_option maxRecDepth 100000 in
theorem mX_fail_ok (l : Launch) (D : va_G) (o a b : Nat) (cA iA : ClassId) (cf : Nat → Int64) (uf : Nat → Int32) (sz : Nat) (d : Nat) (hd : d < 5) : Met l yX_fail (.code yX_fail cX_fail 2 none :: gW) ({ frames := 7, cells := 0, slots := 0, locals := 116 }) (pWs D (wX o a b cA iA cf uf) (kT cA iA) sz [.ref o, .int (nI d)]) (QV D (wX o a b cA iA cf (upd uf d (-1))) (va_A (wX o a b cA iA cf uf) sz)) 0 0 (va_A (wX o a b cA iA cf uf) sz) := by
  refine Met.ofW (cc := cX_fail) (maxL := 2) (ret := none) (by decide) rfl ?_
  intro p e s m args below meth c s₁ B hml hv
  obtain ⟨rfl, hsz, hP, hK, hD0⟩ := hv
  have hx := B.exec
  have hb := B.bytes
  have hr := B.returns
  have hts := atoms_spec (ws := (.code yX_fail cX_fail 2 none :: gW)) B.pre
  have hg : ∀ w ∈ gW, w.before ([.ref o, .int (nI d)]).toArray s = true := fun w h => hts w (List.mem_cons_of_mem _ h)
  have hown : s.vm.findClass R_X = some m.cls := findClass_of_methodNamed B.named
  have hlocks := B.notSynchronized
  subst hsz
  have hD := hD0.self (sz := s.heap.size)
  generalize hAe : va_A (wX o a b cA iA cf uf) s.heap.size = A at hD ⊢
  have hA : ∀ q : Nat, s.heap.size ≤ q → A q := fun q h => by rw [← hAe]; exact Or.inr h
  have hS : va_S A s.heap s.heap [] := va_S.rf
  have hP : va_P D cls_ (wX o a b cA iA cf uf) s.heap := hP
  have hl := lv_entry ([.ref o, .int (nI d)]) (n := 2) (Nat.le_of_ble_eq_true rfl)
  rw [lg_entry_eq]
  generalize (lg_sl ([.ref o, .int (nI d)]) ++ List.replicate (2 - (lg_sl ([.ref o, .int (nI d)])).length) Slot.unset).toArray = ls at hl ⊢
  have hl : lv_has ls 2 [(0, .ref o), (1, .int (nI d))] := hl
  refine lv_iload_n hx hb dX_fail_0 rfl (lv_at hl 1 rfl) ?_
  refine kSn (n := 1) (As := [.int (nI d)]) (rest := []) ⟨hx, hb, hml, hown, hts⟩ (mX_checkDisk_ok l d (by omega)) w_190 w_191 w_1 w_192 (by decide +kernel) ⟨rfl, rfl⟩ ⟨(Nat.le_of_ble_eq_true rfl), (Nat.le_of_ble_eq_true rfl)⟩ rfl hl.1 rfl (Nat.le_of_ble_eq_true rfl) dX_fail_1 ⟨Nat.zero_le _, Nat.zero_le _⟩ ?_
  refine lv_aload_n hx hb dX_fail_4 rfl (lv_at hl 0 rfl) ?_
  refine va_get (D := D) (ci := 0) (v := .ref b) (C := R_X) (T := T_X) (N := 2) hx hb hg uX_in hown hK hP 0 rfl rfl 1 (by decide) (hg _ w_19) (fun _ h9 => h9) rfl dX_fail_5 ?_
  refine lv_iload_n hx hb dX_fail_8 rfl (lv_at hl 1 rfl) ?_
  refine lv_iconst (v := -1) hx hb dX_fail_9 (by decide +kernel) ?_
  refine sI hx hb hK hP hD hS 2 1 rfl rfl (by omega) (by decide) dX_fail_10 (fun H locs hP hD hS => ?_)
  have hP : va_P D cls_ (wX o a b cA iA cf (upd uf d (-1))) H := hP
  have hD : va_D A (wX o a b cA iA cf (upd uf d (-1))) := hD
  exact W.vret hx hb hr (fun t9 ht9 _ => ⟨⟨(), rfl, trivial, by show va_P _ _ _ t9.heap; rw [ht9]; exact hP⟩, hS.F ht9⟩) hS.2.2 dX_fail_11
set_option maxHeartbeats 4000000 in
set_option maxRecDepth 100000 in
theorem mX_flip_ok (l : Launch) (D : va_G) (o a b : Nat) (cA iA : ClassId) (cf : Nat → Int64) (uf : Nat → Int32) (sz : Nat) (d t h : Nat) (hd : d < 5) (ht : t < 100) (hh : h < 2) (v : Int64) (hu : ¬ uf d = -1) : Met l yX_flip (.code yX_flip cX_flip 6 none :: gW) ({ frames := 8, cells := 0, slots := 0, locals := 139 }) (pWs D (wX o a b cA iA cf uf) (kT cA iA) sz [.ref o, .int (nI d), .int (nI t), .int (nI h), .long v]) (QV D (wX o a b cA iA (vp_updL cf (ix d t h) (cf (ix d t h) ^^^ v)) uf) (va_A (wX o a b cA iA cf uf) sz)) 0 0 (va_A (wX o a b cA iA cf uf) sz) := by
  refine Met.ofW (cc := cX_flip) (maxL := 6) (ret := none) (by decide) rfl ?_
  intro p e s m args below meth c s₁ B hml hv
  obtain ⟨rfl, hsz, hP, hK, hD0⟩ := hv
  have hx := B.exec
  have hb := B.bytes
  have hr := B.returns
  have hts := atoms_spec (ws := (.code yX_flip cX_flip 6 none :: gW)) B.pre
  have hg : ∀ w ∈ gW, w.before ([.ref o, .int (nI d), .int (nI t), .int (nI h), .long v]).toArray s = true := fun w h => hts w (List.mem_cons_of_mem _ h)
  have hown : s.vm.findClass R_X = some m.cls := findClass_of_methodNamed B.named
  have hlocks := B.notSynchronized
  subst hsz
  have hD := hD0.self (sz := s.heap.size)
  generalize hAe : va_A (wX o a b cA iA cf uf) s.heap.size = A at hD ⊢
  have hA : ∀ q : Nat, s.heap.size ≤ q → A q := fun q h => by rw [← hAe]; exact Or.inr h
  have hS : va_S A s.heap s.heap [] := va_S.rf
  have hP : va_P D cls_ (wX o a b cA iA cf uf) s.heap := hP
  have hl := lv_entry ([.ref o, .int (nI d), .int (nI t), .int (nI h), .long v]) (n := 6) (Nat.le_of_ble_eq_true rfl)
  rw [lg_entry_eq]
  generalize (lg_sl ([.ref o, .int (nI d), .int (nI t), .int (nI h), .long v]) ++ List.replicate (6 - (lg_sl ([.ref o, .int (nI d), .int (nI t), .int (nI h), .long v])).length) Slot.unset).toArray = ls at hl ⊢
  have hl : lv_has ls 6 [(0, .ref o), (1, .int (nI d)), (2, .int (nI t)), (3, .int (nI h)), (4, .long v)] := hl
  refine lv_aload_n hx hb dX_flip_0 rfl (lv_at hl 0 rfl) ?_
  refine lv_iload_n hx hb dX_flip_1 rfl (lv_at hl 1 rfl) ?_
  refine lv_iload_n hx hb dX_flip_2 rfl (lv_at hl 2 rfl) ?_
  refine lv_iload_n hx hb dX_flip_3 rfl (lv_at hl 3 rfl) ?_
  refine kVn (n := 3) (As := [.int (nI d), .int (nI t), .int (nI h)]) (rest := []) ⟨hx, hb, hml, hown, hts⟩ (mX_checkStanding_ok l D o a b cA iA cf uf d t h (by omega) (by omega) (by omega) hu) w_241 w_243 v_9 w_1 w_244 (by decide +kernel) ⟨rfl, rfl⟩ ⟨(Nat.le_of_ble_eq_true rfl), (Nat.le_of_ble_eq_true rfl)⟩ hP hK 0 0 rfl rfl rfl hl.1 rfl (Nat.le_of_ble_eq_true rfl) dX_flip_4 ⟨Nat.zero_le _, Nat.zero_le _⟩ ?_
  refine lv_aload_n hx hb dX_flip_7 rfl (lv_at hl 0 rfl) ?_
  refine va_get (D := D) (ci := 0) (v := .ref a) (C := R_X) (T := T_X) (N := 2) hx hb hg uX_in hown hK hP 0 rfl rfl 0 (by decide) (hg _ w_18) (fun _ h9 => h9) rfl dX_flip_8 ?_
  refine lv_iload_n hx hb dX_flip_11 rfl (lv_at hl 1 rfl) ?_
  refine lv_iload_n hx hb dX_flip_12 rfl (lv_at hl 2 rfl) ?_
  refine lv_iload_n hx hb dX_flip_13 rfl (lv_at hl 3 rfl) ?_
  refine kS (n := 3) (As := [.int (nI d), .int (nI t), .int (nI h)]) (rest := [.ref a]) ⟨hx, hb, hml, hown, hts⟩ (mX_cellOf l d t h) w_50 w_51 w_1 w_52 (by decide +kernel) ⟨rfl, rfl⟩ ⟨(Nat.le_of_ble_eq_true rfl), (Nat.le_of_ble_eq_true rfl)⟩ rfl hl.1 rfl (Nat.le_of_ble_eq_true rfl) dX_flip_14 ⟨Nat.zero_le _, Nat.zero_le _⟩ ?_
  refine lv_dup2_11 hx hb dX_flip_17 rfl rfl ?_
  refine aL hx hb hK hP 1 0 rfl rfl (ix_lt (by omega) (by omega) (by omega)) (by decide) dX_flip_18 ?_
  refine lv_lload hx hb dX_flip_19 (lv_at hl 4 rfl) ?_
  refine lv_lxor hx hb dX_flip_21 ?_
  refine sL hx hb hK hP hD hS 1 0 rfl rfl (ix_lt (by omega) (by omega) (by omega)) (by decide) dX_flip_22 (fun H locs hP hD hS => ?_)
  have hP : va_P D cls_ (wX o a b cA iA (vp_updL cf (ix d t h) ((cf (ix d t h)) ^^^ v)) uf) H := hP
  have hD : va_D A (wX o a b cA iA (vp_updL cf (ix d t h) ((cf (ix d t h)) ^^^ v)) uf) := hD
  exact W.vret hx hb hr (fun t9 ht9 _ => ⟨⟨(), rfl, trivial, by show va_P _ _ _ t9.heap; rw [ht9]; exact hP⟩, hS.F ht9⟩) hS.2.2 dX_flip_23
