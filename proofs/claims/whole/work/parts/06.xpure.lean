set_option maxHeartbeats 4000000 in
set_option maxRecDepth 100000 in
theorem mX_stripeOf (l : Launch) (q : Nat) (hq : q < 400) : Met l yX_stripeOf (.code yX_stripeOf cX_stripeOf 1 (some .int) :: gW) ({ frames := 0, cells := 0, slots := 0, locals := 0 }) (pN [.int (nI q)]) (k2_QcV (.int (nI (q / 4)))) 0 0 (fun _ => False) := by
  refine Met.ofW (cc := cX_stripeOf) (maxL := 1) (ret := (some .int)) (by decide) rfl ?_
  intro p e s m args below meth c s₁ B hml hv
  obtain ⟨rfl, -⟩ := hv
  have hx := B.exec
  have hb := B.bytes
  have hr := B.returns
  have hts := atoms_spec (ws := (.code yX_stripeOf cX_stripeOf 1 (some .int) :: gW)) B.pre
  have hg : ∀ w ∈ gW, w.before ([.int (nI q)]).toArray s = true := fun w h => hts w (List.mem_cons_of_mem _ h)
  have hown : s.vm.findClass R_X = some m.cls := findClass_of_methodNamed B.named
  have hlocks := B.notSynchronized
  have hl := lv_entry ([.int (nI q)]) (n := 1) (Nat.le_of_ble_eq_true rfl)
  rw [lg_entry_eq]
  generalize (lg_sl ([.int (nI q)]) ++ List.replicate (1 - (lg_sl ([.int (nI q)])).length) Slot.unset).toArray = ls at hl ⊢
  have hl : lv_has ls 1 [(0, .int (nI q))] := hl
  refine lv_iload_n hx hb dX_stripeOf_0 rfl (lv_at hl 0 rfl) ?_
  refine lv_iconst (v := nI 4) hx hb dX_stripeOf_1 (by decide +kernel) ?_
  refine lv_idiv hx hb dX_stripeOf_2 (by decide +kernel) ?_
  refine tI (pk_div (by omega) (by decide) (by decide)) ?_
  exact W.iret (v := nI (q / 4)) hx hb hr (fun t9 ht9 _ => ⟨by rfl, ht9⟩) (fun _ h9 => nomatch h9) dX_stripeOf_3
set_option maxHeartbeats 4000000 in
set_option maxRecDepth 100000 in
theorem mX_parityDiskOf (l : Launch) (t : Nat) (ht : t < 100) : Met l yX_parityDiskOf (.code yX_parityDiskOf cX_parityDiskOf 1 (some .int) :: gW) ({ frames := 0, cells := 0, slots := 0, locals := 0 }) (pN [.int (nI t)]) (k2_QcV (.int (nI (t % 5)))) 0 0 (fun _ => False) := by
  refine Met.ofW (cc := cX_parityDiskOf) (maxL := 1) (ret := (some .int)) (by decide) rfl ?_
  intro p e s m args below meth c s₁ B hml hv
  obtain ⟨rfl, -⟩ := hv
  have hx := B.exec
  have hb := B.bytes
  have hr := B.returns
  have hts := atoms_spec (ws := (.code yX_parityDiskOf cX_parityDiskOf 1 (some .int) :: gW)) B.pre
  have hg : ∀ w ∈ gW, w.before ([.int (nI t)]).toArray s = true := fun w h => hts w (List.mem_cons_of_mem _ h)
  have hown : s.vm.findClass R_X = some m.cls := findClass_of_methodNamed B.named
  have hlocks := B.notSynchronized
  have hl := lv_entry ([.int (nI t)]) (n := 1) (Nat.le_of_ble_eq_true rfl)
  rw [lg_entry_eq]
  generalize (lg_sl ([.int (nI t)]) ++ List.replicate (1 - (lg_sl ([.int (nI t)])).length) Slot.unset).toArray = ls at hl ⊢
  have hl : lv_has ls 1 [(0, .int (nI t))] := hl
  refine lv_iload_n hx hb dX_parityDiskOf_0 rfl (lv_at hl 0 rfl) ?_
  refine lv_iconst (v := nI 5) hx hb dX_parityDiskOf_1 (by decide +kernel) ?_
  refine lv_irem hx hb dX_parityDiskOf_2 (by decide +kernel) ?_
  refine tI (pk_rem (by omega) (by decide) (by decide)) ?_
  exact W.iret (v := nI (t % 5)) hx hb hr (fun t9 ht9 _ => ⟨by rfl, ht9⟩) (fun _ h9 => nomatch h9) dX_parityDiskOf_3
set_option maxHeartbeats 4000000 in
set_option maxRecDepth 100000 in
theorem mX_diskOf (l : Launch) (q : Nat) (hq : q < 400) : Met l yX_diskOf (.code yX_diskOf cX_diskOf 2 (some .int) :: gW) ({ frames := 1, cells := 0, slots := 0, locals := 20 }) (pN [.int (nI q)]) (k2_QcV (.int (nI (dk q)))) 0 0 (fun _ => False) := by
  refine Met.ofW (cc := cX_diskOf) (maxL := 2) (ret := (some .int)) (by decide) rfl ?_
  intro p e s m args below meth c s₁ B hml hv
  obtain ⟨rfl, -⟩ := hv
  have hx := B.exec
  have hb := B.bytes
  have hr := B.returns
  have hts := atoms_spec (ws := (.code yX_diskOf cX_diskOf 2 (some .int) :: gW)) B.pre
  have hg : ∀ w ∈ gW, w.before ([.int (nI q)]).toArray s = true := fun w h => hts w (List.mem_cons_of_mem _ h)
  have hown : s.vm.findClass R_X = some m.cls := findClass_of_methodNamed B.named
  have hlocks := B.notSynchronized
  have hl := lv_entry ([.int (nI q)]) (n := 2) (Nat.le_of_ble_eq_true rfl)
  rw [lg_entry_eq]
  generalize (lg_sl ([.int (nI q)]) ++ List.replicate (2 - (lg_sl ([.int (nI q)])).length) Slot.unset).toArray = ls at hl ⊢
  have hl : lv_has ls 2 [(0, .int (nI q))] := hl
  refine lv_iload_n hx hb dX_diskOf_0 rfl (lv_at hl 0 rfl) ?_
  refine lv_iconst (v := nI 4) hx hb dX_diskOf_1 (by decide +kernel) ?_
  refine lv_irem hx hb dX_diskOf_2 (by decide +kernel) ?_
  refine tI (pk_rem (by omega) (by decide) (by decide)) ?_
  refine lv_istore_n hx hb dX_diskOf_3 rfl hl (by decide) rfl (fun ls hl => ?_)
  have hl : lv_has ls 2 [(1, .int (nI (q % 4))), (0, .int (nI q))] := hl
  refine lv_iload_n hx hb dX_diskOf_4 rfl (lv_at hl 0 rfl) ?_
  refine lv_iload_n hx hb dX_diskOf_5 rfl (lv_at hl 1 rfl) ?_
  refine kS (n := 1) (As := [.int (nI q)]) (rest := [.int (nI (q % 4))]) ⟨hx, hb, hml, hown, hts⟩ (mX_stripeOf l q (by omega)) w_64 w_65 w_1 w_66 (by decide +kernel) ⟨rfl, rfl⟩ ⟨(Nat.le_of_ble_eq_true rfl), (Nat.le_of_ble_eq_true rfl)⟩ rfl hl.1 rfl (Nat.le_of_ble_eq_true rfl) dX_diskOf_6 ⟨Nat.zero_le _, Nat.zero_le _⟩ ?_
  refine kS (n := 1) (As := [.int (nI (q / 4))]) (rest := [.int (nI (q % 4))]) ⟨hx, hb, hml, hown, hts⟩ (mX_parityDiskOf l (q / 4) (by omega)) w_35 w_36 w_1 w_37 (by decide +kernel) ⟨rfl, rfl⟩ ⟨(Nat.le_of_ble_eq_true rfl), (Nat.le_of_ble_eq_true rfl)⟩ rfl hl.1 rfl (Nat.le_of_ble_eq_true rfl) dX_diskOf_9 ⟨Nat.zero_le _, Nat.zero_le _⟩ ?_
  refine lv_icmp_ge (tgt := 19) hx hb dX_diskOf_12 (by decide) (fun h12 => ?_) (fun h12 => ?_)
  · have e9 : ¬ q % 4 < q / 4 % 5 := fun z => nI_ge z (by omega) h12
    refine lv_iload_n hx hb dX_diskOf_19 rfl (lv_at hl 0 rfl) ?_
    refine lv_iconst (v := nI 1) hx hb dX_diskOf_20 (by decide +kernel) ?_
    refine lv_iadd hx hb dX_diskOf_21 ?_
    refine tI (nI_add _ _) ?_
    exact W.iret (v := nI ((q % 4) + 1)) hx hb hr (fun t9 ht9 _ => ⟨by rw [dk, if_neg e9], ht9⟩) (fun _ h9 => nomatch h9) dX_diskOf_22
  · have e9 : q % 4 < q / 4 % 5 := Nat.lt_of_not_le (fun z => h12 (nI_le z (by omega)))
    refine lv_iload_n hx hb dX_diskOf_15 rfl (lv_at hl 0 rfl) ?_
    refine lv_goto (tgt := 22) hx hb dX_diskOf_16 (by decide) ?_
    exact W.iret (v := nI (q % 4)) hx hb hr (fun t9 ht9 _ => ⟨by rw [dk, if_pos e9], ht9⟩) (fun _ h9 => nomatch h9) dX_diskOf_22
set_option maxHeartbeats 4000000 in
set_option maxRecDepth 100000 in
theorem mX_cellOf (l : Launch) (d t h : Nat) : Met l yX_cellOf (.code yX_cellOf cX_cellOf 3 (some .int) :: gW) ({ frames := 0, cells := 0, slots := 0, locals := 0 }) (pN [.int (nI d), .int (nI t), .int (nI h)]) (k2_QcV (.int (nI (ix d t h)))) 0 0 (fun _ => False) := by
  refine Met.ofW (cc := cX_cellOf) (maxL := 3) (ret := (some .int)) (by decide) rfl ?_
  intro p e s m args below meth c s₁ B hml hv
  obtain ⟨rfl, -⟩ := hv
  have hx := B.exec
  have hb := B.bytes
  have hr := B.returns
  have hts := atoms_spec (ws := (.code yX_cellOf cX_cellOf 3 (some .int) :: gW)) B.pre
  have hg : ∀ w ∈ gW, w.before ([.int (nI d), .int (nI t), .int (nI h)]).toArray s = true := fun w h => hts w (List.mem_cons_of_mem _ h)
  have hown : s.vm.findClass R_X = some m.cls := findClass_of_methodNamed B.named
  have hlocks := B.notSynchronized
  have hl := lv_entry ([.int (nI d), .int (nI t), .int (nI h)]) (n := 3) (Nat.le_of_ble_eq_true rfl)
  rw [lg_entry_eq]
  generalize (lg_sl ([.int (nI d), .int (nI t), .int (nI h)]) ++ List.replicate (3 - (lg_sl ([.int (nI d), .int (nI t), .int (nI h)])).length) Slot.unset).toArray = ls at hl ⊢
  have hl : lv_has ls 3 [(0, .int (nI d)), (1, .int (nI t)), (2, .int (nI h))] := hl
  refine lv_iload_n hx hb dX_cellOf_0 rfl (lv_at hl 0 rfl) ?_
  refine lv_bipush (v := nI 100) hx hb dX_cellOf_1 (by decide +kernel) ?_
  refine lv_imul hx hb dX_cellOf_3 ?_
  refine tI (pk_mul _ _) ?_
  refine lv_iload_n hx hb dX_cellOf_4 rfl (lv_at hl 1 rfl) ?_
  refine lv_iadd hx hb dX_cellOf_5 ?_
  refine tI (nI_add _ _) ?_
  refine lv_iconst (v := nI 2) hx hb dX_cellOf_6 (by decide +kernel) ?_
  refine lv_imul hx hb dX_cellOf_7 ?_
  refine tI (pk_mul _ _) ?_
  refine lv_iload_n hx hb dX_cellOf_8 rfl (lv_at hl 2 rfl) ?_
  refine lv_iadd hx hb dX_cellOf_9 ?_
  refine tI (nI_add _ _) ?_
  exact W.iret (v := nI ((((d * 100) + t) * 2) + h)) hx hb hr (fun t9 ht9 _ => ⟨by rfl, ht9⟩) (fun _ h9 => nomatch h9) dX_cellOf_10
set_option maxHeartbeats 4000000 in
set_option maxRecDepth 100000 in
theorem mX_canBeUsed (l : Launch) (D : va_G) (o a b : Nat) (cA iA : ClassId) (cf : Nat → Int64) (uf : Nat → Int32) (d t : Nat) (hd : d < 5) (ht : t < 100) : Met l yX_canBeUsed (.code yX_canBeUsed cX_canBeUsed 3 (some .boolean) :: gW) ({ frames := 0, cells := 0, slots := 0, locals := 0 }) (pW D (wX o a b cA iA cf uf) (kT cA iA) [.ref o, .int (nI d), .int (nI t)]) (k2_QcV (.int (bi (cu uf d t)))) 0 0 (fun _ => False) := by
  refine Met.ofW (cc := cX_canBeUsed) (maxL := 3) (ret := (some .boolean)) (by decide) rfl ?_
  intro p e s m args below meth c s₁ B hml hv
  obtain ⟨rfl, hP, hK⟩ := hv
  have hx := B.exec
  have hb := B.bytes
  have hr := B.returns
  have hts := atoms_spec (ws := (.code yX_canBeUsed cX_canBeUsed 3 (some .boolean) :: gW)) B.pre
  have hg : ∀ w ∈ gW, w.before ([.ref o, .int (nI d), .int (nI t)]).toArray s = true := fun w h => hts w (List.mem_cons_of_mem _ h)
  have hown : s.vm.findClass R_X = some m.cls := findClass_of_methodNamed B.named
  have hlocks := B.notSynchronized
  have hl := lv_entry ([.ref o, .int (nI d), .int (nI t)]) (n := 3) (Nat.le_of_ble_eq_true rfl)
  rw [lg_entry_eq]
  generalize (lg_sl ([.ref o, .int (nI d), .int (nI t)]) ++ List.replicate (3 - (lg_sl ([.ref o, .int (nI d), .int (nI t)])).length) Slot.unset).toArray = ls at hl ⊢
  have hl : lv_has ls 3 [(0, .ref o), (1, .int (nI d)), (2, .int (nI t))] := hl
  refine lv_iload_n hx hb dX_canBeUsed_0 rfl (lv_at hl 2 rfl) ?_
  refine lv_aload_n hx hb dX_canBeUsed_1 rfl (lv_at hl 0 rfl) ?_
  refine va_get (D := D) (ci := 0) (v := .ref b) (C := R_X) (T := T_X) (N := 2) hx hb hg uX_in hown hK hP 0 rfl rfl 1 (by decide) (hg _ w_19) (fun _ h9 => h9) rfl dX_canBeUsed_2 ?_
  refine lv_iload_n hx hb dX_canBeUsed_5 rfl (lv_at hl 1 rfl) ?_
  refine aI hx hb hK hP 2 1 rfl rfl (by omega) (by decide) dX_canBeUsed_6 ?_
  refine lv_icmp_ge (tgt := 14) hx hb dX_canBeUsed_7 (by decide) (fun h7 => ?_) (fun h7 => ?_)
  · refine lv_iconst (v := nI 0) hx hb dX_canBeUsed_14 (by decide +kernel) ?_
    exact W.zret (v := nI 0) (ty := .boolean) hx hb hr nar_0 (fun t9 ht9 _ => ⟨by rw [cu_f h7]; rfl, ht9⟩) (fun _ h9 => nomatch h9) dX_canBeUsed_15
  · refine lv_iconst (v := nI 1) hx hb dX_canBeUsed_10 (by decide +kernel) ?_
    refine lv_goto (tgt := 15) hx hb dX_canBeUsed_11 (by decide) ?_
    exact W.zret (v := nI 1) (ty := .boolean) hx hb hr nar_1 (fun t9 ht9 _ => ⟨by rw [cu_t h7]; rfl, ht9⟩) (fun _ h9 => nomatch h9) dX_canBeUsed_15
set_option maxHeartbeats 4000000 in
set_option maxRecDepth 100000 in
theorem mX_othersCanBeUsed (l : Launch) (D : va_G) (o a b : Nat) (cA iA : ClassId) (cf : Nat → Int64) (uf : Nat → Int32) (d t : Nat) (hd : d < 5) (ht : t < 100) : Met l yX_othersCanBeUsed (.code yX_othersCanBeUsed cX_othersCanBeUsed 4 (some .boolean) :: gW) ({ frames := 1, cells := 0, slots := 0, locals := 22 }) (pW D (wX o a b cA iA cf uf) (kT cA iA) [.ref o, .int (nI d), .int (nI t)]) (k2_QcV (.int (bi (oc uf d t)))) 0 0 (fun _ => False) := by
  refine Met.ofW (cc := cX_othersCanBeUsed) (maxL := 4) (ret := (some .boolean)) (by decide) rfl ?_
  intro p e s m args below meth c s₁ B hml hv
  obtain ⟨rfl, hP, hK⟩ := hv
  have hx := B.exec
  have hb := B.bytes
  have hr := B.returns
  have hts := atoms_spec (ws := (.code yX_othersCanBeUsed cX_othersCanBeUsed 4 (some .boolean) :: gW)) B.pre
  have hg : ∀ w ∈ gW, w.before ([.ref o, .int (nI d), .int (nI t)]).toArray s = true := fun w h => hts w (List.mem_cons_of_mem _ h)
  have hown : s.vm.findClass R_X = some m.cls := findClass_of_methodNamed B.named
  have hlocks := B.notSynchronized
  have hl := lv_entry ([.ref o, .int (nI d), .int (nI t)]) (n := 4) (Nat.le_of_ble_eq_true rfl)
  rw [lg_entry_eq]
  generalize (lg_sl ([.ref o, .int (nI d), .int (nI t)]) ++ List.replicate (4 - (lg_sl ([.ref o, .int (nI d), .int (nI t)])).length) Slot.unset).toArray = ls at hl ⊢
  have hl : lv_has ls 4 [(0, .ref o), (1, .int (nI d)), (2, .int (nI t))] := hl
  refine lv_iconst (v := nI 0) hx hb dX_othersCanBeUsed_0 (by decide +kernel) ?_
  refine lv_istore_n hx hb dX_othersCanBeUsed_1 rfl hl (by decide) rfl (fun ls hl => ?_)
  have hl : lv_has ls 4 [(3, .int (nI 0)), (0, .ref o), (1, .int (nI d)), (2, .int (nI t))] := hl
  have key : ∀ n j : Nat, j + n = 5 → oc uf d t = ocN uf d t n → ∀ ls : Array Slot, lv_has ls 4 [(3, .int (nI j)), (0, .ref o), (1, .int (nI d)), (2, .int (nI t))] → W p l e (headSpec (.code yX_othersCanBeUsed cX_othersCanBeUsed 4 (some .boolean) :: gW) ({ frames := 1, cells := 0, slots := 0, locals := 22 })).room s m ([.ref o, .int (nI d), .int (nI t)]).toArray below meth c s.heap [] 0 0 (MQ below (k2_QcV (.int (bi (oc uf d t)))) ([.ref o, .int (nI d), .int (nI t)]).toArray s 0 0 (fun _ => False)) (F0 m 2 ls []) := by
    intro n
    induction n with
    | zero =>
      intro j hj hi ls hl
      obtain rfl : j = 5 := by omega
      refine lv_iload_n hx hb dX_othersCanBeUsed_2 rfl (lv_at hl 0 rfl) ?_
      refine lv_iconst (v := nI 5) hx hb dX_othersCanBeUsed_3 (by decide +kernel) ?_
      refine lv_icmp_ge (tgt := 29) hx hb dX_othersCanBeUsed_4 (by decide) (fun h4 => ?_) (fun h4 => absurd (nI_le (Nat.le_refl 5) (by decide)) h4)
      refine lv_iconst (v := nI 1) hx hb dX_othersCanBeUsed_29 (by decide +kernel) ?_
      exact W.zret (v := nI 1) (ty := .boolean) hx hb hr nar_1 (fun t9 ht9 _ => ⟨by rw [hi]; rfl, ht9⟩) (fun _ h9 => nomatch h9) dX_othersCanBeUsed_30
    | succ n ih =>
      intro j hj hi ls hl
      have e4 : 4 - n = j := by omega
      refine lv_iload_n hx hb dX_othersCanBeUsed_2 rfl (lv_at hl 0 rfl) ?_
      refine lv_iconst (v := nI 5) hx hb dX_othersCanBeUsed_3 (by decide +kernel) ?_
      refine lv_icmp_ge (tgt := 29) hx hb dX_othersCanBeUsed_4 (by decide) (fun h4 => absurd h4 (nI_ge (by omega) (by decide))) (fun h4 => ?_)
      refine lv_iload_n hx hb dX_othersCanBeUsed_7 rfl (lv_at hl 0 rfl) ?_
      refine lv_iload_n hx hb dX_othersCanBeUsed_8 rfl (lv_at hl 2 rfl) ?_
      refine lv_icmp_eq (tgt := 23) hx hb dX_othersCanBeUsed_9 (by decide) (fun h9 => ?_) (fun h9 => ?_)
      · have e9 : j = d := (nI_eq (by omega) (by omega)).mp h9
        refine lv_iinc (k := 0) (v := nI (j + 1)) hx hb dX_othersCanBeUsed_23 hl rfl (incI _)  (by decide) rfl (fun ls hl => ?_)
        have hl : lv_has ls 4 [(3, .int (nI (j + 1))), (0, .ref o), (1, .int (nI d)), (2, .int (nI t))] := hl
        refine lv_goto (tgt := 2) hx hb dX_othersCanBeUsed_26 (by decide) ?_
        exact ih (j + 1) (by omega) (by rw [hi]; simp [ocN, e4, e9]) ls hl
      · have e9 : ¬ j = d := fun z => h9 (by rw [z])
        refine lv_aload_n hx hb dX_othersCanBeUsed_12 rfl (lv_at hl 1 rfl) ?_
        refine lv_iload_n hx hb dX_othersCanBeUsed_13 rfl (lv_at hl 0 rfl) ?_
        refine lv_iload_n hx hb dX_othersCanBeUsed_14 rfl (lv_at hl 3 rfl) ?_
        refine kV (n := 2) (As := [.int (nI j), .int (nI t)]) (rest := []) ⟨hx, hb, hml, hown, hts⟩ (mX_canBeUsed l D o a b cA iA cf uf j t (by omega) (by omega)) w_38 w_40 v_1 w_1 w_41 (by decide +kernel) ⟨rfl, rfl⟩ ⟨(Nat.le_of_ble_eq_true rfl), (Nat.le_of_ble_eq_true rfl)⟩ hP hK 0 0 rfl rfl rfl hl.1 rfl (Nat.le_of_ble_eq_true rfl) dX_othersCanBeUsed_15 ⟨Nat.zero_le _, Nat.zero_le _⟩ ?_
        refine lv_if_ne (tgt := 23) hx hb dX_othersCanBeUsed_18 (by decide) (fun h18 => ?_) (fun h18 => ?_)
        · refine lv_iinc (k := 0) (v := nI (j + 1)) hx hb dX_othersCanBeUsed_23 hl rfl (incI _)  (by decide) rfl (fun ls hl => ?_)
          have hl : lv_has ls 4 [(3, .int (nI (j + 1))), (0, .ref o), (1, .int (nI d)), (2, .int (nI t))] := hl
          refine lv_goto (tgt := 2) hx hb dX_othersCanBeUsed_26 (by decide) ?_
          exact ih (j + 1) (by omega) (by rw [hi]; simp [ocN, e4, bi_1 h18]) ls hl
        · refine lv_iconst (v := nI 0) hx hb dX_othersCanBeUsed_21 (by decide +kernel) ?_
          exact W.zret (v := nI 0) (ty := .boolean) hx hb hr nar_0 (fun t9 ht9 _ => ⟨by rw [show oc uf d t = false by rw [hi]; simp [ocN, e4, e9, bi_0 h18]]; rfl, ht9⟩) (fun _ h9 => nomatch h9) dX_othersCanBeUsed_22
  exact key 5 0 rfl rfl ls hl
set_option maxHeartbeats 4000000 in
set_option maxRecDepth 100000 in
theorem mX_allCanBeUsed (l : Launch) (D : va_G) (o a b : Nat) (cA iA : ClassId) (cf : Nat → Int64) (uf : Nat → Int32) (t : Nat) (ht : t < 100) : Met l yX_allCanBeUsed (.code yX_allCanBeUsed cX_allCanBeUsed 3 (some .boolean) :: gW) ({ frames := 2, cells := 0, slots := 0, locals := 45 }) (pW D (wX o a b cA iA cf uf) (kT cA iA) [.ref o, .int (nI t)]) (k2_QcV (.int (bi (allU uf t)))) 0 0 (fun _ => False) := by
  refine Met.ofW (cc := cX_allCanBeUsed) (maxL := 3) (ret := (some .boolean)) (by decide) rfl ?_
  intro p e s m args below meth c s₁ B hml hv
  obtain ⟨rfl, hP, hK⟩ := hv
  have hx := B.exec
  have hb := B.bytes
  have hr := B.returns
  have hts := atoms_spec (ws := (.code yX_allCanBeUsed cX_allCanBeUsed 3 (some .boolean) :: gW)) B.pre
  have hg : ∀ w ∈ gW, w.before ([.ref o, .int (nI t)]).toArray s = true := fun w h => hts w (List.mem_cons_of_mem _ h)
  have hown : s.vm.findClass R_X = some m.cls := findClass_of_methodNamed B.named
  have hlocks := B.notSynchronized
  have hl := lv_entry ([.ref o, .int (nI t)]) (n := 3) (Nat.le_of_ble_eq_true rfl)
  rw [lg_entry_eq]
  generalize (lg_sl ([.ref o, .int (nI t)]) ++ List.replicate (3 - (lg_sl ([.ref o, .int (nI t)])).length) Slot.unset).toArray = ls at hl ⊢
  have hl : lv_has ls 3 [(0, .ref o), (1, .int (nI t))] := hl
  refine lv_iload_n hx hb dX_allCanBeUsed_0 rfl (lv_at hl 1 rfl) ?_
  refine kS (n := 1) (As := [.int (nI t)]) (rest := []) ⟨hx, hb, hml, hown, hts⟩ (mX_parityDiskOf l t (by omega)) w_35 w_36 w_1 w_37 (by decide +kernel) ⟨rfl, rfl⟩ ⟨(Nat.le_of_ble_eq_true rfl), (Nat.le_of_ble_eq_true rfl)⟩ rfl hl.1 rfl (Nat.le_of_ble_eq_true rfl) dX_allCanBeUsed_1 ⟨Nat.zero_le _, Nat.zero_le _⟩ ?_
  refine lv_istore_n hx hb dX_allCanBeUsed_4 rfl hl (by decide) rfl (fun ls hl => ?_)
  have hl : lv_has ls 3 [(2, .int (nI (t % 5))), (0, .ref o), (1, .int (nI t))] := hl
  refine lv_aload_n hx hb dX_allCanBeUsed_5 rfl (lv_at hl 1 rfl) ?_
  refine lv_iload_n hx hb dX_allCanBeUsed_6 rfl (lv_at hl 0 rfl) ?_
  refine lv_iload_n hx hb dX_allCanBeUsed_7 rfl (lv_at hl 2 rfl) ?_
  refine kV (n := 2) (As := [.int (nI (t % 5)), .int (nI t)]) (rest := []) ⟨hx, hb, hml, hown, hts⟩ (mX_canBeUsed l D o a b cA iA cf uf (t % 5) t (by omega) (by omega)) w_38 w_40 v_1 w_1 w_41 (by decide +kernel) ⟨rfl, rfl⟩ ⟨(Nat.le_of_ble_eq_true rfl), (Nat.le_of_ble_eq_true rfl)⟩ hP hK 0 0 rfl rfl rfl hl.1 rfl (Nat.le_of_ble_eq_true rfl) dX_allCanBeUsed_8 ⟨Nat.zero_le _, Nat.zero_le _⟩ ?_
  refine lv_if_eq (tgt := 27) hx hb dX_allCanBeUsed_11 (by decide) (fun h11 => ?_) (fun h11 => ?_)
  · refine lv_iconst (v := nI 0) hx hb dX_allCanBeUsed_27 (by decide +kernel) ?_
    exact W.zret (v := nI 0) (ty := .boolean) hx hb hr nar_0 (fun t9 ht9 _ => ⟨by rw [allU, bi_0 h11]; rfl, ht9⟩) (fun _ h9 => nomatch h9) dX_allCanBeUsed_28
  · refine lv_aload_n hx hb dX_allCanBeUsed_14 rfl (lv_at hl 1 rfl) ?_
    refine lv_iload_n hx hb dX_allCanBeUsed_15 rfl (lv_at hl 0 rfl) ?_
    refine lv_iload_n hx hb dX_allCanBeUsed_16 rfl (lv_at hl 2 rfl) ?_
    refine kV (n := 2) (As := [.int (nI (t % 5)), .int (nI t)]) (rest := []) ⟨hx, hb, hml, hown, hts⟩ (mX_othersCanBeUsed l D o a b cA iA cf uf (t % 5) t (by omega) (by omega)) w_42 w_44 v_2 w_1 w_45 (by decide +kernel) ⟨rfl, rfl⟩ ⟨(Nat.le_of_ble_eq_true rfl), (Nat.le_of_ble_eq_true rfl)⟩ hP hK 0 0 rfl rfl rfl hl.1 rfl (Nat.le_of_ble_eq_true rfl) dX_allCanBeUsed_17 ⟨Nat.zero_le _, Nat.zero_le _⟩ ?_
    refine lv_if_eq (tgt := 27) hx hb dX_allCanBeUsed_20 (by decide) (fun h20 => ?_) (fun h20 => ?_)
    · refine lv_iconst (v := nI 0) hx hb dX_allCanBeUsed_27 (by decide +kernel) ?_
      exact W.zret (v := nI 0) (ty := .boolean) hx hb hr nar_0 (fun t9 ht9 _ => ⟨by rw [allU, bi_1 h11, bi_0 h20]; rfl, ht9⟩) (fun _ h9 => nomatch h9) dX_allCanBeUsed_28
    · refine lv_iconst (v := nI 1) hx hb dX_allCanBeUsed_23 (by decide +kernel) ?_
      refine lv_goto (tgt := 28) hx hb dX_allCanBeUsed_24 (by decide) ?_
      exact W.zret (v := nI 1) (ty := .boolean) hx hb hr nar_1 (fun t9 ht9 _ => ⟨by rw [allU, bi_1 h11, bi_1 h20]; rfl, ht9⟩) (fun _ h9 => nomatch h9) dX_allCanBeUsed_28
set_option maxHeartbeats 4000000 in
set_option maxRecDepth 100000 in
theorem mX_isLost (l : Launch) (D : va_G) (o a b : Nat) (cA iA : ClassId) (cf : Nat → Int64) (uf : Nat → Int32) (d t : Nat) (hd : d < 5) (ht : t < 100) : Met l yX_isLost (.code yX_isLost cX_isLost 3 (some .boolean) :: gW) ({ frames := 2, cells := 0, slots := 0, locals := 45 }) (pW D (wX o a b cA iA cf uf) (kT cA iA) [.ref o, .int (nI d), .int (nI t)]) (k2_QcV (.int (bi (il uf d t)))) 0 0 (fun _ => False) := by
  refine Met.ofW (cc := cX_isLost) (maxL := 3) (ret := (some .boolean)) (by decide) rfl ?_
  intro p e s m args below meth c s₁ B hml hv
  obtain ⟨rfl, hP, hK⟩ := hv
  have hx := B.exec
  have hb := B.bytes
  have hr := B.returns
  have hts := atoms_spec (ws := (.code yX_isLost cX_isLost 3 (some .boolean) :: gW)) B.pre
  have hg : ∀ w ∈ gW, w.before ([.ref o, .int (nI d), .int (nI t)]).toArray s = true := fun w h => hts w (List.mem_cons_of_mem _ h)
  have hown : s.vm.findClass R_X = some m.cls := findClass_of_methodNamed B.named
  have hlocks := B.notSynchronized
  have hl := lv_entry ([.ref o, .int (nI d), .int (nI t)]) (n := 3) (Nat.le_of_ble_eq_true rfl)
  rw [lg_entry_eq]
  generalize (lg_sl ([.ref o, .int (nI d), .int (nI t)]) ++ List.replicate (3 - (lg_sl ([.ref o, .int (nI d), .int (nI t)])).length) Slot.unset).toArray = ls at hl ⊢
  have hl : lv_has ls 3 [(0, .ref o), (1, .int (nI d)), (2, .int (nI t))] := hl
  refine lv_aload_n hx hb dX_isLost_0 rfl (lv_at hl 0 rfl) ?_
  refine lv_iload_n hx hb dX_isLost_1 rfl (lv_at hl 1 rfl) ?_
  refine lv_iload_n hx hb dX_isLost_2 rfl (lv_at hl 2 rfl) ?_
  refine kV (n := 2) (As := [.int (nI d), .int (nI t)]) (rest := []) ⟨hx, hb, hml, hown, hts⟩ (mX_canBeUsed l D o a b cA iA cf uf d t (by omega) (by omega)) w_38 w_40 v_1 w_1 w_41 (by decide +kernel) ⟨rfl, rfl⟩ ⟨(Nat.le_of_ble_eq_true rfl), (Nat.le_of_ble_eq_true rfl)⟩ hP hK 0 0 rfl rfl rfl hl.1 rfl (Nat.le_of_ble_eq_true rfl) dX_isLost_3 ⟨Nat.zero_le _, Nat.zero_le _⟩ ?_
  refine lv_if_ne (tgt := 22) hx hb dX_isLost_6 (by decide) (fun h6 => ?_) (fun h6 => ?_)
  · refine lv_iconst (v := nI 0) hx hb dX_isLost_22 (by decide +kernel) ?_
    exact W.zret (v := nI 0) (ty := .boolean) hx hb hr nar_0 (fun t9 ht9 _ => ⟨by rw [il, bi_1 h6]; rfl, ht9⟩) (fun _ h9 => nomatch h9) dX_isLost_23
  · refine lv_aload_n hx hb dX_isLost_9 rfl (lv_at hl 0 rfl) ?_
    refine lv_iload_n hx hb dX_isLost_10 rfl (lv_at hl 1 rfl) ?_
    refine lv_iload_n hx hb dX_isLost_11 rfl (lv_at hl 2 rfl) ?_
    refine kV (n := 2) (As := [.int (nI d), .int (nI t)]) (rest := []) ⟨hx, hb, hml, hown, hts⟩ (mX_othersCanBeUsed l D o a b cA iA cf uf d t (by omega) (by omega)) w_42 w_44 v_2 w_1 w_45 (by decide +kernel) ⟨rfl, rfl⟩ ⟨(Nat.le_of_ble_eq_true rfl), (Nat.le_of_ble_eq_true rfl)⟩ hP hK 0 0 rfl rfl rfl hl.1 rfl (Nat.le_of_ble_eq_true rfl) dX_isLost_12 ⟨Nat.zero_le _, Nat.zero_le _⟩ ?_
    refine lv_if_ne (tgt := 22) hx hb dX_isLost_15 (by decide) (fun h15 => ?_) (fun h15 => ?_)
    · refine lv_iconst (v := nI 0) hx hb dX_isLost_22 (by decide +kernel) ?_
      exact W.zret (v := nI 0) (ty := .boolean) hx hb hr nar_0 (fun t9 ht9 _ => ⟨by rw [il, bi_0 h6, bi_1 h15]; rfl, ht9⟩) (fun _ h9 => nomatch h9) dX_isLost_23
    · refine lv_iconst (v := nI 1) hx hb dX_isLost_18 (by decide +kernel) ?_
      refine lv_goto (tgt := 23) hx hb dX_isLost_19 (by decide) ?_
      exact W.zret (v := nI 1) (ty := .boolean) hx hb hr nar_1 (fun t9 ht9 _ => ⟨by rw [il, bi_0 h6, bi_0 h15]; rfl, ht9⟩) (fun _ h9 => nomatch h9) dX_isLost_23
set_option maxHeartbeats 4000000 in
set_option maxRecDepth 100000 in
theorem mX_xorOfOthers (l : Launch) (D : va_G) (o a b : Nat) (cA iA : ClassId) (cf : Nat → Int64) (uf : Nat → Int32) (d t h : Nat) (hd : d < 5) (ht : t < 100) (hh : h < 2) : Met l yX_xorOfOthers (.code yX_xorOfOthers cX_xorOfOthers 7 (some .long) :: gW) ({ frames := 1, cells := 0, slots := 0, locals := 22 }) (pW D (wX o a b cA iA cf uf) (kT cA iA) [.ref o, .int (nI d), .int (nI t), .int (nI h)]) (k2_QcV (.long (xo cf d t h))) 0 0 (fun _ => False) := by
  refine Met.ofW (cc := cX_xorOfOthers) (maxL := 7) (ret := (some .long)) (by decide) rfl ?_
  intro p e s m args below meth c s₁ B hml hv
  obtain ⟨rfl, hP, hK⟩ := hv
  have hx := B.exec
  have hb := B.bytes
  have hr := B.returns
  have hts := atoms_spec (ws := (.code yX_xorOfOthers cX_xorOfOthers 7 (some .long) :: gW)) B.pre
  have hg : ∀ w ∈ gW, w.before ([.ref o, .int (nI d), .int (nI t), .int (nI h)]).toArray s = true := fun w h => hts w (List.mem_cons_of_mem _ h)
  have hown : s.vm.findClass R_X = some m.cls := findClass_of_methodNamed B.named
  have hlocks := B.notSynchronized
  have hl := lv_entry ([.ref o, .int (nI d), .int (nI t), .int (nI h)]) (n := 7) (Nat.le_of_ble_eq_true rfl)
  rw [lg_entry_eq]
  generalize (lg_sl ([.ref o, .int (nI d), .int (nI t), .int (nI h)]) ++ List.replicate (7 - (lg_sl ([.ref o, .int (nI d), .int (nI t), .int (nI h)])).length) Slot.unset).toArray = ls at hl ⊢
  have hl : lv_has ls 7 [(0, .ref o), (1, .int (nI d)), (2, .int (nI t)), (3, .int (nI h))] := hl
  refine lv_lconst (v := 0) hx hb dX_xorOfOthers_0 (by decide +kernel) ?_
  refine lv_lstore hx hb dX_xorOfOthers_1 hl (by decide) rfl (fun ls hl => ?_)
  have hl : lv_has ls 7 [(4, .long 0), (0, .ref o), (1, .int (nI d)), (2, .int (nI t)), (3, .int (nI h))] := hl
  refine lv_iconst (v := nI 0) hx hb dX_xorOfOthers_3 (by decide +kernel) ?_
  refine lv_istore hx hb dX_xorOfOthers_4 hl (by decide) rfl (fun ls hl => ?_)
  have hl : lv_has ls 7 [(6, .int (nI 0)), (4, .long 0), (0, .ref o), (1, .int (nI d)), (2, .int (nI t)), (3, .int (nI h))] := hl
  have key : ∀ n j : Nat, j + n = 5 → ∀ ls : Array Slot, lv_has ls 7 [(6, .int (nI j)), (4, .long (xoN cf d t h j)), (0, .ref o), (1, .int (nI d)), (2, .int (nI t)), (3, .int (nI h))] → W p l e (headSpec (.code yX_xorOfOthers cX_xorOfOthers 7 (some .long) :: gW) ({ frames := 1, cells := 0, slots := 0, locals := 22 })).room s m ([.ref o, .int (nI d), .int (nI t), .int (nI h)]).toArray below meth c s.heap [] 0 0 (MQ below (k2_QcV (.long (xo cf d t h))) ([.ref o, .int (nI d), .int (nI t), .int (nI h)]).toArray s 0 0 (fun _ => False)) (F0 m 6 ls []) := by
    intro n
    induction n with
    | zero =>
      intro j hj ls hl
      obtain rfl : j = 5 := by omega
      refine lv_iload hx hb dX_xorOfOthers_6 (lv_at hl 0 rfl) ?_
      refine lv_iconst (v := nI 5) hx hb dX_xorOfOthers_8 (by decide +kernel) ?_
      refine lv_icmp_ge (tgt := 41) hx hb dX_xorOfOthers_9 (by decide) (fun h9 => ?_) (fun h9 => absurd (nI_le (Nat.le_refl 5) (by decide)) h9)
      refine lv_lload hx hb dX_xorOfOthers_41 (lv_at hl 1 rfl) ?_
      exact W.lret (v := xoN cf d t h 5) hx hb hr (fun t9 ht9 _ => ⟨by rfl, ht9⟩) (fun _ h9 => nomatch h9) dX_xorOfOthers_43
    | succ n ih =>
      intro j hj ls hl
      refine lv_iload hx hb dX_xorOfOthers_6 (lv_at hl 0 rfl) ?_
      refine lv_iconst (v := nI 5) hx hb dX_xorOfOthers_8 (by decide +kernel) ?_
      refine lv_icmp_ge (tgt := 41) hx hb dX_xorOfOthers_9 (by decide) (fun h9 => absurd h9 (nI_ge (by omega) (by decide))) (fun h9 => ?_)
      refine lv_iload hx hb dX_xorOfOthers_12 (lv_at hl 0 rfl) ?_
      refine lv_iload_n hx hb dX_xorOfOthers_14 rfl (lv_at hl 3 rfl) ?_
      refine lv_icmp_eq (tgt := 35) hx hb dX_xorOfOthers_15 (by decide) (fun h15 => ?_) (fun h15 => ?_)
      · have e15 : j = d := (nI_eq (by omega) (by omega)).mp h15
        refine lv_iinc (k := 0) (v := nI (j + 1)) hx hb dX_xorOfOthers_35 hl rfl (incI _)  (by decide) rfl (fun ls hl => ?_)
        have hl : lv_has ls 7 [(6, .int (nI (j + 1))), (4, .long (xoN cf d t h j)), (0, .ref o), (1, .int (nI d)), (2, .int (nI t)), (3, .int (nI h))] := hl
        refine lv_goto (tgt := 6) hx hb dX_xorOfOthers_38 (by decide) ?_
        rw [← xoN_p (cf := cf) (s := t) (h := h) e15] at hl
        exact ih (j + 1) (by omega) ls hl
      · have e15 : ¬ j = d := fun z => h15 (by rw [z])
        refine lv_lload hx hb dX_xorOfOthers_18 (lv_at hl 1 rfl) ?_
        refine lv_aload_n hx hb dX_xorOfOthers_20 rfl (lv_at hl 2 rfl) ?_
        refine va_get (D := D) (ci := 0) (v := .ref a) (C := R_X) (T := T_X) (N := 2) hx hb hg uX_in hown hK hP 0 rfl rfl 0 (by decide) (hg _ w_18) (fun _ h9 => h9) rfl dX_xorOfOthers_21 ?_
        refine lv_iload hx hb dX_xorOfOthers_24 (lv_at hl 0 rfl) ?_
        refine lv_iload_n hx hb dX_xorOfOthers_26 rfl (lv_at hl 4 rfl) ?_
        refine lv_iload_n hx hb dX_xorOfOthers_27 rfl (lv_at hl 5 rfl) ?_
        refine kS (n := 3) (As := [.int (nI j), .int (nI t), .int (nI h)]) (rest := [.ref a, .long (xoN cf d t h j)]) ⟨hx, hb, hml, hown, hts⟩ (mX_cellOf l j t h) w_50 w_51 w_1 w_52 (by decide +kernel) ⟨rfl, rfl⟩ ⟨(Nat.le_of_ble_eq_true rfl), (Nat.le_of_ble_eq_true rfl)⟩ rfl hl.1 rfl (Nat.le_of_ble_eq_true rfl) dX_xorOfOthers_28 ⟨Nat.zero_le _, Nat.zero_le _⟩ ?_
        refine aL hx hb hK hP 1 0 rfl rfl (ix_lt (by omega) (by omega) (by omega)) (by decide) dX_xorOfOthers_31 ?_
        refine lv_lxor hx hb dX_xorOfOthers_32 ?_
        refine tL (xoN_n e15).symm ?_
        refine lv_lstore hx hb dX_xorOfOthers_33 hl (by decide) rfl (fun ls hl => ?_)
        have hl : lv_has ls 7 [(4, .long (xoN cf d t h (j + 1))), (6, .int (nI j)), (0, .ref o), (1, .int (nI d)), (2, .int (nI t)), (3, .int (nI h))] := hl
        refine lv_iinc (k := 1) (v := nI (j + 1)) hx hb dX_xorOfOthers_35 hl rfl (incI _)  (by decide) rfl (fun ls hl => ?_)
        have hl : lv_has ls 7 [(6, .int (nI (j + 1))), (4, .long (xoN cf d t h (j + 1))), (0, .ref o), (1, .int (nI d)), (2, .int (nI t)), (3, .int (nI h))] := hl
        refine lv_goto (tgt := 6) hx hb dX_xorOfOthers_38 (by decide) ?_
        exact ih (j + 1) (by omega) ls hl
  exact key 5 0 rfl ls hl
set_option maxHeartbeats 4000000 in
set_option maxRecDepth 100000 in
theorem mX_whatItHas (l : Launch) (D : va_G) (o a b : Nat) (cA iA : ClassId) (cf : Nat → Int64) (uf : Nat → Int32) (d t h : Nat) (hd : d < 5) (ht : t < 100) (hh : h < 2) : Met l yX_whatItHas (.code yX_whatItHas cX_whatItHas 4 (some .long) :: gW) ({ frames := 2, cells := 0, slots := 0, locals := 48 }) (pW D (wX o a b cA iA cf uf) (kT cA iA) [.ref o, .int (nI d), .int (nI t), .int (nI h)]) (k2_QcV (.long (wh cf uf d t h))) 0 0 (fun _ => False) := by
  refine Met.ofW (cc := cX_whatItHas) (maxL := 4) (ret := (some .long)) (by decide) rfl ?_
  intro p e s m args below meth c s₁ B hml hv
  obtain ⟨rfl, hP, hK⟩ := hv
  have hx := B.exec
  have hb := B.bytes
  have hr := B.returns
  have hts := atoms_spec (ws := (.code yX_whatItHas cX_whatItHas 4 (some .long) :: gW)) B.pre
  have hg : ∀ w ∈ gW, w.before ([.ref o, .int (nI d), .int (nI t), .int (nI h)]).toArray s = true := fun w h => hts w (List.mem_cons_of_mem _ h)
  have hown : s.vm.findClass R_X = some m.cls := findClass_of_methodNamed B.named
  have hlocks := B.notSynchronized
  have hl := lv_entry ([.ref o, .int (nI d), .int (nI t), .int (nI h)]) (n := 4) (Nat.le_of_ble_eq_true rfl)
  rw [lg_entry_eq]
  generalize (lg_sl ([.ref o, .int (nI d), .int (nI t), .int (nI h)]) ++ List.replicate (4 - (lg_sl ([.ref o, .int (nI d), .int (nI t), .int (nI h)])).length) Slot.unset).toArray = ls at hl ⊢
  have hl : lv_has ls 4 [(0, .ref o), (1, .int (nI d)), (2, .int (nI t)), (3, .int (nI h))] := hl
  refine lv_aload_n hx hb dX_whatItHas_0 rfl (lv_at hl 0 rfl) ?_
  refine lv_iload_n hx hb dX_whatItHas_1 rfl (lv_at hl 1 rfl) ?_
  refine lv_iload_n hx hb dX_whatItHas_2 rfl (lv_at hl 2 rfl) ?_
  refine kV (n := 2) (As := [.int (nI d), .int (nI t)]) (rest := []) ⟨hx, hb, hml, hown, hts⟩ (mX_canBeUsed l D o a b cA iA cf uf d t (by omega) (by omega)) w_38 w_40 v_1 w_1 w_41 (by decide +kernel) ⟨rfl, rfl⟩ ⟨(Nat.le_of_ble_eq_true rfl), (Nat.le_of_ble_eq_true rfl)⟩ hP hK 0 0 rfl rfl rfl hl.1 rfl (Nat.le_of_ble_eq_true rfl) dX_whatItHas_3 ⟨Nat.zero_le _, Nat.zero_le _⟩ ?_
  refine lv_if_eq (tgt := 21) hx hb dX_whatItHas_6 (by decide) (fun h6 => ?_) (fun h6 => ?_)
  · refine lv_aload_n hx hb dX_whatItHas_21 rfl (lv_at hl 0 rfl) ?_
    refine lv_iload_n hx hb dX_whatItHas_22 rfl (lv_at hl 1 rfl) ?_
    refine lv_iload_n hx hb dX_whatItHas_23 rfl (lv_at hl 2 rfl) ?_
    refine lv_iload_n hx hb dX_whatItHas_24 rfl (lv_at hl 3 rfl) ?_
    refine kV (n := 3) (As := [.int (nI d), .int (nI t), .int (nI h)]) (rest := []) ⟨hx, hb, hml, hown, hts⟩ (mX_xorOfOthers l D o a b cA iA cf uf d t h (by omega) (by omega) (by omega)) w_53 w_55 v_4 w_1 w_56 (by decide +kernel) ⟨rfl, rfl⟩ ⟨(Nat.le_of_ble_eq_true rfl), (Nat.le_of_ble_eq_true rfl)⟩ hP hK 0 0 rfl rfl rfl hl.1 rfl (Nat.le_of_ble_eq_true rfl) dX_whatItHas_25 ⟨Nat.zero_le _, Nat.zero_le _⟩ ?_
    exact W.lret (v := xo cf d t h) hx hb hr (fun t9 ht9 _ => ⟨by rw [wh_f (bi_0 h6)], ht9⟩) (fun _ h9 => nomatch h9) dX_whatItHas_28
  · refine lv_aload_n hx hb dX_whatItHas_9 rfl (lv_at hl 0 rfl) ?_
    refine va_get (D := D) (ci := 0) (v := .ref a) (C := R_X) (T := T_X) (N := 2) hx hb hg uX_in hown hK hP 0 rfl rfl 0 (by decide) (hg _ w_18) (fun _ h9 => h9) rfl dX_whatItHas_10 ?_
    refine lv_iload_n hx hb dX_whatItHas_13 rfl (lv_at hl 1 rfl) ?_
    refine lv_iload_n hx hb dX_whatItHas_14 rfl (lv_at hl 2 rfl) ?_
    refine lv_iload_n hx hb dX_whatItHas_15 rfl (lv_at hl 3 rfl) ?_
    refine kS (n := 3) (As := [.int (nI d), .int (nI t), .int (nI h)]) (rest := [.ref a]) ⟨hx, hb, hml, hown, hts⟩ (mX_cellOf l d t h) w_50 w_51 w_1 w_52 (by decide +kernel) ⟨rfl, rfl⟩ ⟨(Nat.le_of_ble_eq_true rfl), (Nat.le_of_ble_eq_true rfl)⟩ rfl hl.1 rfl (Nat.le_of_ble_eq_true rfl) dX_whatItHas_16 ⟨Nat.zero_le _, Nat.zero_le _⟩ ?_
    refine aL hx hb hK hP 1 0 rfl rfl (ix_lt (by omega) (by omega) (by omega)) (by decide) dX_whatItHas_19 ?_
    exact W.lret (v := cf (ix d t h)) hx hb hr (fun t9 ht9 _ => ⟨by rw [wh_t (bi_1 h6)], ht9⟩) (fun _ h9 => nomatch h9) dX_whatItHas_20
set_option maxHeartbeats 4000000 in
set_option maxRecDepth 100000 in
theorem mX_lost (l : Launch) (D : va_G) (o a b : Nat) (cA iA : ClassId) (cf : Nat → Int64) (uf : Nat → Int32)  : Met l yX_lost (.code yX_lost cX_lost 3 (some .int) :: gW) ({ frames := 3, cells := 0, slots := 0, locals := 67 }) (pW D (wX o a b cA iA cf uf) (kT cA iA) [.ref o]) (k2_QcV (.int (nI (loF uf 400)))) 0 0 (fun _ => False) := by
  refine Met.ofW (cc := cX_lost) (maxL := 3) (ret := (some .int)) (by decide) rfl ?_
  intro p e s m args below meth c s₁ B hml hv
  obtain ⟨rfl, hP, hK⟩ := hv
  have hx := B.exec
  have hb := B.bytes
  have hr := B.returns
  have hts := atoms_spec (ws := (.code yX_lost cX_lost 3 (some .int) :: gW)) B.pre
  have hg : ∀ w ∈ gW, w.before ([.ref o]).toArray s = true := fun w h => hts w (List.mem_cons_of_mem _ h)
  have hown : s.vm.findClass R_X = some m.cls := findClass_of_methodNamed B.named
  have hlocks := B.notSynchronized
  have hl := lv_entry ([.ref o]) (n := 3) (Nat.le_of_ble_eq_true rfl)
  rw [lg_entry_eq]
  generalize (lg_sl ([.ref o]) ++ List.replicate (3 - (lg_sl ([.ref o])).length) Slot.unset).toArray = ls at hl ⊢
  have hl : lv_has ls 3 [(0, .ref o)] := hl
  refine lv_iconst (v := nI 0) hx hb dX_lost_0 (by decide +kernel) ?_
  refine lv_istore_n hx hb dX_lost_1 rfl hl (by decide) rfl (fun ls hl => ?_)
  have hl : lv_has ls 3 [(1, .int (nI 0)), (0, .ref o)] := hl
  refine lv_iconst (v := nI 0) hx hb dX_lost_2 (by decide +kernel) ?_
  refine lv_istore_n hx hb dX_lost_3 rfl hl (by decide) rfl (fun ls hl => ?_)
  have hl : lv_has ls 3 [(2, .int (nI 0)), (1, .int (nI 0)), (0, .ref o)] := hl
  have key : ∀ n j : Nat, j + n = 400 → ∀ ls : Array Slot, lv_has ls 3 [(2, .int (nI j)), (1, .int (nI (loF uf j))), (0, .ref o)] → W p l e (headSpec (.code yX_lost cX_lost 3 (some .int) :: gW) ({ frames := 3, cells := 0, slots := 0, locals := 67 })).room s m ([.ref o]).toArray below meth c s.heap [] 0 0 (MQ below (k2_QcV (.int (nI (loF uf 400)))) ([.ref o]).toArray s 0 0 (fun _ => False)) (F0 m 4 ls []) := by
    intro n
    induction n with
    | zero =>
      intro j hj ls hl
      obtain rfl : j = 400 := by omega
      refine lv_iload_n hx hb dX_lost_4 rfl (lv_at hl 0 rfl) ?_
      refine lv_sipush (v := nI 400) hx hb dX_lost_5 (by decide +kernel) ?_
      refine lv_icmp_ge (tgt := 35) hx hb dX_lost_8 (by decide) (fun h8 => ?_) (fun h8 => absurd (nI_le (Nat.le_refl 400) (by decide)) h8)
      refine lv_iload_n hx hb dX_lost_35 rfl (lv_at hl 1 rfl) ?_
      exact W.iret (v := nI (loF uf 400)) hx hb hr (fun t9 ht9 _ => ⟨by rfl, ht9⟩) (fun _ h9 => nomatch h9) dX_lost_36
    | succ n ih =>
      intro j hj ls hl
      refine lv_iload_n hx hb dX_lost_4 rfl (lv_at hl 0 rfl) ?_
      refine lv_sipush (v := nI 400) hx hb dX_lost_5 (by decide +kernel) ?_
      refine lv_icmp_ge (tgt := 35) hx hb dX_lost_8 (by decide) (fun h8 => absurd h8 (nI_ge (by omega) (by decide))) (fun h8 => ?_)
      refine lv_aload_n hx hb dX_lost_11 rfl (lv_at hl 2 rfl) ?_
      refine lv_iload_n hx hb dX_lost_12 rfl (lv_at hl 0 rfl) ?_
      refine kS (n := 1) (As := [.int (nI j)]) (rest := [.ref o]) ⟨hx, hb, hml, hown, hts⟩ (mX_diskOf l j (by omega)) w_61 w_62 w_1 w_63 (by decide +kernel) ⟨rfl, rfl⟩ ⟨(Nat.le_of_ble_eq_true rfl), (Nat.le_of_ble_eq_true rfl)⟩ rfl hl.1 rfl (Nat.le_of_ble_eq_true rfl) dX_lost_13 ⟨Nat.zero_le _, Nat.zero_le _⟩ ?_
      refine lv_iload_n hx hb dX_lost_16 rfl (lv_at hl 0 rfl) ?_
      refine kS (n := 1) (As := [.int (nI j)]) (rest := [.int (nI (dk j)), .ref o]) ⟨hx, hb, hml, hown, hts⟩ (mX_stripeOf l j (by omega)) w_64 w_65 w_1 w_66 (by decide +kernel) ⟨rfl, rfl⟩ ⟨(Nat.le_of_ble_eq_true rfl), (Nat.le_of_ble_eq_true rfl)⟩ rfl hl.1 rfl (Nat.le_of_ble_eq_true rfl) dX_lost_17 ⟨Nat.zero_le _, Nat.zero_le _⟩ ?_
      refine kV (n := 2) (As := [.int (nI (dk j)), .int (nI (j / 4))]) (rest := []) ⟨hx, hb, hml, hown, hts⟩ (mX_isLost l D o a b cA iA cf uf (dk j) (j / 4) (dk_lt _) (by omega)) w_67 w_69 v_5 w_1 w_70 (by decide +kernel) ⟨rfl, rfl⟩ ⟨(Nat.le_of_ble_eq_true rfl), (Nat.le_of_ble_eq_true rfl)⟩ hP hK 0 0 rfl rfl rfl hl.1 rfl (Nat.le_of_ble_eq_true rfl) dX_lost_20 ⟨Nat.zero_le _, Nat.zero_le _⟩ ?_
      refine lv_if_eq (tgt := 29) hx hb dX_lost_23 (by decide) (fun h23 => ?_) (fun h23 => ?_)
      · have e9 := loF_f (bi_0 h23)
        refine lv_iinc (k := 0) (v := nI (j + 1)) hx hb dX_lost_29 hl rfl (incI _)  (by decide) rfl (fun ls hl => ?_)
        have hl : lv_has ls 3 [(2, .int (nI (j + 1))), (1, .int (nI (loF uf j))), (0, .ref o)] := hl
        refine lv_goto (tgt := 4) hx hb dX_lost_32 (by decide) ?_
        rw [← e9] at hl
        exact ih (j + 1) (by omega) ls hl
      · have e9 := loF_t (bi_1 h23)
        refine lv_iinc (k := 1) (v := nI (loF uf j + 1)) hx hb dX_lost_26 hl rfl (incI _)  (by decide) rfl (fun ls hl => ?_)
        have hl : lv_has ls 3 [(1, .int (nI (loF uf j + 1))), (2, .int (nI j)), (0, .ref o)] := hl
        refine lv_iinc (k := 1) (v := nI (j + 1)) hx hb dX_lost_29 hl rfl (incI _)  (by decide) rfl (fun ls hl => ?_)
        have hl : lv_has ls 3 [(2, .int (nI (j + 1))), (1, .int (nI (loF uf j + 1))), (0, .ref o)] := hl
        refine lv_goto (tgt := 4) hx hb dX_lost_32 (by decide) ?_
        rw [← e9] at hl
        exact ih (j + 1) (by omega) ls hl
  exact key 400 0 rfl ls hl
