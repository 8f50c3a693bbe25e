set_option maxHeartbeats 4000000 in
set_option maxRecDepth 100000 in
theorem mM_disk (l : Launch) (q : Nat) (hq : q < 400) : Met l yM_disk (.code yM_disk cM_disk 3 (some .int) :: gW) ({ frames := 0, cells := 0, slots := 0, locals := 0 }) (pN [.int (nI q)]) (k2_QcV (.int (nI (dk q)))) 0 0 (fun _ => False) := by
  refine Met.ofW (cc := cM_disk) (maxL := 3) (ret := (some .int)) (by decide) rfl ?_
  intro p e s m args below meth c s₁ B hml hv
  obtain ⟨rfl, -⟩ := hv
  have hx := B.exec
  have hb := B.bytes
  have hr := B.returns
  have hts := atoms_spec (ws := (.code yM_disk cM_disk 3 (some .int) :: gW)) B.pre
  have hg : ∀ w ∈ gW, w.before ([.int (nI q)]).toArray s = true := fun w h => hts w (List.mem_cons_of_mem _ h)
  have hown : s.vm.findClass R_M = some m.cls := findClass_of_methodNamed B.named
  have hlocks := B.notSynchronized
  have hl := lv_entry ([.int (nI q)]) (n := 3) (Nat.le_of_ble_eq_true rfl)
  rw [lg_entry_eq]
  generalize (lg_sl ([.int (nI q)]) ++ List.replicate (3 - (lg_sl ([.int (nI q)])).length) Slot.unset).toArray = ls at hl ⊢
  have hl : lv_has ls 3 [(0, .int (nI q))] := hl
  refine lv_iload_n hx hb dM_disk_0 rfl (lv_at hl 0 rfl) ?_
  refine lv_iconst (v := nI 4) hx hb dM_disk_1 (by decide +kernel) ?_
  refine lv_irem hx hb dM_disk_2 (by decide +kernel) ?_
  refine tI (pk_rem (by omega) (by decide) (by decide)) ?_
  refine lv_istore_n hx hb dM_disk_3 rfl hl (by decide) rfl (fun ls hl => ?_)
  have hl : lv_has ls 3 [(1, .int (nI (q % 4))), (0, .int (nI q))] := hl
  refine lv_iload_n hx hb dM_disk_4 rfl (lv_at hl 1 rfl) ?_
  refine lv_iconst (v := nI 4) hx hb dM_disk_5 (by decide +kernel) ?_
  refine lv_idiv hx hb dM_disk_6 (by decide +kernel) ?_
  refine tI (pk_div (by omega) (by decide) (by decide)) ?_
  refine lv_iconst (v := nI 5) hx hb dM_disk_7 (by decide +kernel) ?_
  refine lv_irem hx hb dM_disk_8 (by decide +kernel) ?_
  refine tI (pk_rem (by omega) (by decide) (by decide)) ?_
  refine lv_istore_n hx hb dM_disk_9 rfl hl (by decide) rfl (fun ls hl => ?_)
  have hl : lv_has ls 3 [(2, .int (nI ((q / 4) % 5))), (1, .int (nI (q % 4))), (0, .int (nI q))] := hl
  refine lv_iload_n hx hb dM_disk_10 rfl (lv_at hl 1 rfl) ?_
  refine lv_iload_n hx hb dM_disk_11 rfl (lv_at hl 0 rfl) ?_
  refine lv_icmp_ge (tgt := 19) hx hb dM_disk_12 (by decide) (fun h12 => ?_) (fun h12 => ?_)
  · have e9 : ¬ q % 4 < q / 4 % 5 := fun z => nI_ge z (by omega) h12
    refine lv_iload_n hx hb dM_disk_19 rfl (lv_at hl 1 rfl) ?_
    refine lv_iconst (v := nI 1) hx hb dM_disk_20 (by decide +kernel) ?_
    refine lv_iadd hx hb dM_disk_21 ?_
    refine tI (nI_add _ _) ?_
    exact W.iret (v := nI ((q % 4) + 1)) hx hb hr (fun t9 ht9 _ => ⟨by rw [dk, if_neg e9], ht9⟩) (fun _ h9 => nomatch h9) dM_disk_22
  · have e9 : q % 4 < q / 4 % 5 := Nat.lt_of_not_le (fun z => h12 (nI_le z (by omega)))
    refine lv_iload_n hx hb dM_disk_15 rfl (lv_at hl 1 rfl) ?_
    refine lv_goto (tgt := 22) hx hb dM_disk_16 (by decide) ?_
    exact W.iret (v := nI (q % 4)) hx hb hr (fun t9 ht9 _ => ⟨by rw [dk, if_pos e9], ht9⟩) (fun _ h9 => nomatch h9) dM_disk_22
set_option maxHeartbeats 4000000 in
set_option maxRecDepth 100000 in
theorem mM_at (l : Launch) (d t h : Nat) : Met l yM_at (.code yM_at cM_at 3 (some .int) :: gW) ({ frames := 0, cells := 0, slots := 0, locals := 0 }) (pN [.int (nI d), .int (nI t), .int (nI h)]) (k2_QcV (.int (nI (ix d t h)))) 0 0 (fun _ => False) := by
  refine Met.ofW (cc := cM_at) (maxL := 3) (ret := (some .int)) (by decide) rfl ?_
  intro p e s m args below meth c s₁ B hml hv
  obtain ⟨rfl, -⟩ := hv
  have hx := B.exec
  have hb := B.bytes
  have hr := B.returns
  have hts := atoms_spec (ws := (.code yM_at cM_at 3 (some .int) :: gW)) B.pre
  have hg : ∀ w ∈ gW, w.before ([.int (nI d), .int (nI t), .int (nI h)]).toArray s = true := fun w h => hts w (List.mem_cons_of_mem _ h)
  have hown : s.vm.findClass R_M = some m.cls := findClass_of_methodNamed B.named
  have hlocks := B.notSynchronized
  have hl := lv_entry ([.int (nI d), .int (nI t), .int (nI h)]) (n := 3) (Nat.le_of_ble_eq_true rfl)
  rw [lg_entry_eq]
  generalize (lg_sl ([.int (nI d), .int (nI t), .int (nI h)]) ++ List.replicate (3 - (lg_sl ([.int (nI d), .int (nI t), .int (nI h)])).length) Slot.unset).toArray = ls at hl ⊢
  have hl : lv_has ls 3 [(0, .int (nI d)), (1, .int (nI t)), (2, .int (nI h))] := hl
  refine lv_iload_n hx hb dM_at_0 rfl (lv_at hl 0 rfl) ?_
  refine lv_bipush (v := nI 100) hx hb dM_at_1 (by decide +kernel) ?_
  refine lv_imul hx hb dM_at_3 ?_
  refine tI (pk_mul _ _) ?_
  refine lv_iload_n hx hb dM_at_4 rfl (lv_at hl 1 rfl) ?_
  refine lv_iadd hx hb dM_at_5 ?_
  refine tI (nI_add _ _) ?_
  refine lv_iconst (v := nI 2) hx hb dM_at_6 (by decide +kernel) ?_
  refine lv_imul hx hb dM_at_7 ?_
  refine tI (pk_mul _ _) ?_
  refine lv_iload_n hx hb dM_at_8 rfl (lv_at hl 2 rfl) ?_
  refine lv_iadd hx hb dM_at_9 ?_
  refine tI (nI_add _ _) ?_
  exact W.iret (v := nI ((((d * 100) + t) * 2) + h)) hx hb hr (fun t9 ht9 _ => ⟨by rfl, ht9⟩) (fun _ h9 => nomatch h9) dM_at_10
set_option maxHeartbeats 4000000 in
set_option maxRecDepth 100000 in
theorem mM_thrown (l : Launch) (D : va_G) (o a b : Nat) (cA iA : ClassId) (er : Int32) (cf : Nat → Int64) (uf : Nat → Int32)  : Met l yM_thrown (.code yM_thrown cM_thrown 1 (some .int) :: gW) ({ frames := 0, cells := 0, slots := 0, locals := 0 }) (pW D (wM o a b cA iA er cf uf) (kT cA iA) [.ref o]) (k2_QcV (.int er)) 0 0 (fun _ => False) := by
  refine Met.ofW (cc := cM_thrown) (maxL := 1) (ret := (some .int)) (by decide) rfl ?_
  intro p e s m args below meth c s₁ B hml hv
  obtain ⟨rfl, hP, hK⟩ := hv
  have hx := B.exec
  have hb := B.bytes
  have hr := B.returns
  have hts := atoms_spec (ws := (.code yM_thrown cM_thrown 1 (some .int) :: gW)) B.pre
  have hg : ∀ w ∈ gW, w.before ([.ref o]).toArray s = true := fun w h => hts w (List.mem_cons_of_mem _ h)
  have hown : s.vm.findClass R_M = some m.cls := findClass_of_methodNamed B.named
  have hlocks := B.notSynchronized
  have hl := lv_entry ([.ref o]) (n := 1) (Nat.le_of_ble_eq_true rfl)
  rw [lg_entry_eq]
  generalize (lg_sl ([.ref o]) ++ List.replicate (1 - (lg_sl ([.ref o])).length) Slot.unset).toArray = ls at hl ⊢
  have hl : lv_has ls 1 [(0, .ref o)] := hl
  refine lv_aload_n hx hb dM_thrown_0 rfl (lv_at hl 0 rfl) ?_
  refine va_get (D := D) (ci := 1) (v := .int er) (C := R_M) (T := T_M) (N := 3) hx hb hg uM_in hown hK hP 0 rfl rfl 0 (by decide) (hg _ w_270) (fun _ h9 => h9) rfl dM_thrown_1 ?_
  exact W.iret (v := er) hx hb hr (fun t9 ht9 _ => ⟨by rfl, ht9⟩) (fun _ h9 => nomatch h9) dM_thrown_4
set_option maxHeartbeats 4000000 in
set_option maxRecDepth 100000 in
theorem mM_usable (l : Launch) (D : va_G) (o a b : Nat) (cA iA : ClassId) (er : Int32) (cf : Nat → Int64) (uf : Nat → Int32) (d t : Nat) (hd : d < 5) (ht : t < 100) : Met l yM_usable (.code yM_usable cM_usable 3 (some .boolean) :: gW) ({ frames := 0, cells := 0, slots := 0, locals := 0 }) (pW D (wM o a b cA iA er cf uf) (kT cA iA) [.ref o, .int (nI d), .int (nI t)]) (k2_QcV (.int (bi (cu uf d t)))) 0 0 (fun _ => False) := by
  refine Met.ofW (cc := cM_usable) (maxL := 3) (ret := (some .boolean)) (by decide) rfl ?_
  intro p e s m args below meth c s₁ B hml hv
  obtain ⟨rfl, hP, hK⟩ := hv
  have hx := B.exec
  have hb := B.bytes
  have hr := B.returns
  have hts := atoms_spec (ws := (.code yM_usable cM_usable 3 (some .boolean) :: gW)) B.pre
  have hg : ∀ w ∈ gW, w.before ([.ref o, .int (nI d), .int (nI t)]).toArray s = true := fun w h => hts w (List.mem_cons_of_mem _ h)
  have hown : s.vm.findClass R_M = some m.cls := findClass_of_methodNamed B.named
  have hlocks := B.notSynchronized
  have hl := lv_entry ([.ref o, .int (nI d), .int (nI t)]) (n := 3) (Nat.le_of_ble_eq_true rfl)
  rw [lg_entry_eq]
  generalize (lg_sl ([.ref o, .int (nI d), .int (nI t)]) ++ List.replicate (3 - (lg_sl ([.ref o, .int (nI d), .int (nI t)])).length) Slot.unset).toArray = ls at hl ⊢
  have hl : lv_has ls 3 [(0, .ref o), (1, .int (nI d)), (2, .int (nI t))] := hl
  refine lv_aload_n hx hb dM_usable_0 rfl (lv_at hl 0 rfl) ?_
  refine va_get (D := D) (ci := 1) (v := .ref b) (C := R_M) (T := T_M) (N := 3) hx hb hg uM_in hown hK hP 0 rfl rfl 2 (by decide) (hg _ w_272) (fun _ h9 => h9) rfl dM_usable_1 ?_
  refine lv_iload_n hx hb dM_usable_4 rfl (lv_at hl 1 rfl) ?_
  refine aI hx hb hK hP 2 1 rfl rfl (by omega) (by decide) dM_usable_5 ?_
  refine lv_iload_n hx hb dM_usable_6 rfl (lv_at hl 2 rfl) ?_
  refine lv_icmp_le (tgt := 14) hx hb dM_usable_7 (by decide) (fun h7 => ?_) (fun h7 => ?_)
  · refine lv_iconst (v := nI 0) hx hb dM_usable_14 (by decide +kernel) ?_
    exact W.zret (v := nI 0) (ty := .boolean) hx hb hr nar_0 (fun t9 ht9 _ => ⟨by rw [cu_f h7]; rfl, ht9⟩) (fun _ h9 => nomatch h9) dM_usable_15
  · refine lv_iconst (v := nI 1) hx hb dM_usable_10 (by decide +kernel) ?_
    refine lv_goto (tgt := 15) hx hb dM_usable_11 (by decide) ?_
    exact W.zret (v := nI 1) (ty := .boolean) hx hb hr nar_1 (fun t9 ht9 _ => ⟨by rw [cu_t h7]; rfl, ht9⟩) (fun _ h9 => nomatch h9) dM_usable_15
set_option maxHeartbeats 4000000 in
set_option maxRecDepth 100000 in
theorem mM_gone (l : Launch) (D : va_G) (o a b : Nat) (cA iA : ClassId) (er : Int32) (cf : Nat → Int64) (uf : Nat → Int32) (d t : Nat) (hd : d < 5) (ht : t < 100) : Met l yM_gone (.code yM_gone cM_gone 4 (some .boolean) :: gW) ({ frames := 1, cells := 0, slots := 0, locals := 22 }) (pW D (wM o a b cA iA er cf uf) (kT cA iA) [.ref o, .int (nI d), .int (nI t)]) (k2_QcV (.int (bi (il uf d t)))) 0 0 (fun _ => False) := by
  refine Met.ofW (cc := cM_gone) (maxL := 4) (ret := (some .boolean)) (by decide) rfl ?_
  intro p e s m args below meth c s₁ B hml hv
  obtain ⟨rfl, hP, hK⟩ := hv
  have hx := B.exec
  have hb := B.bytes
  have hr := B.returns
  have hts := atoms_spec (ws := (.code yM_gone cM_gone 4 (some .boolean) :: gW)) B.pre
  have hg : ∀ w ∈ gW, w.before ([.ref o, .int (nI d), .int (nI t)]).toArray s = true := fun w h => hts w (List.mem_cons_of_mem _ h)
  have hown : s.vm.findClass R_M = some m.cls := findClass_of_methodNamed B.named
  have hlocks := B.notSynchronized
  have hl := lv_entry ([.ref o, .int (nI d), .int (nI t)]) (n := 4) (Nat.le_of_ble_eq_true rfl)
  rw [lg_entry_eq]
  generalize (lg_sl ([.ref o, .int (nI d), .int (nI t)]) ++ List.replicate (4 - (lg_sl ([.ref o, .int (nI d), .int (nI t)])).length) Slot.unset).toArray = ls at hl ⊢
  have hl : lv_has ls 4 [(0, .ref o), (1, .int (nI d)), (2, .int (nI t))] := hl
  refine lv_aload_n hx hb dM_gone_0 rfl (lv_at hl 0 rfl) ?_
  refine lv_iload_n hx hb dM_gone_1 rfl (lv_at hl 1 rfl) ?_
  refine lv_iload_n hx hb dM_gone_2 rfl (lv_at hl 2 rfl) ?_
  refine kV (n := 2) (As := [.int (nI d), .int (nI t)]) (rest := []) ⟨hx, hb, hml, hown, hts⟩ (mM_usable l D o a b cA iA er cf uf d t (by omega) (by omega)) w_303 w_305 v_13 w_2 w_306 (by decide +kernel) ⟨rfl, rfl⟩ ⟨(Nat.le_of_ble_eq_true rfl), (Nat.le_of_ble_eq_true rfl)⟩ hP hK 1 0 rfl rfl rfl hl.1 rfl (Nat.le_of_ble_eq_true rfl) dM_gone_3 ⟨Nat.zero_le _, Nat.zero_le _⟩ ?_
  refine lv_if_eq (tgt := 11) hx hb dM_gone_6 (by decide) (fun h6 => ?_) (fun h6 => ?_)
  · have e6 := bi_0 h6
    refine lv_iconst (v := nI 0) hx hb dM_gone_11 (by decide +kernel) ?_
    refine lv_istore_n hx hb dM_gone_12 rfl hl (by decide) rfl (fun ls hl => ?_)
    have hl : lv_has ls 4 [(3, .int (nI 0)), (0, .ref o), (1, .int (nI d)), (2, .int (nI t))] := hl
    have key : ∀ n j : Nat, j + n = 5 → oc uf d t = ocN uf d t n → ∀ ls : Array Slot, lv_has ls 4 [(3, .int (nI j)), (0, .ref o), (1, .int (nI d)), (2, .int (nI t))] → W p l e (headSpec (.code yM_gone cM_gone 4 (some .boolean) :: gW) ({ frames := 1, cells := 0, slots := 0, locals := 22 })).room s m ([.ref o, .int (nI d), .int (nI t)]).toArray below meth c s.heap [] 0 0 (MQ below (k2_QcV (.int (bi (il uf d t)))) ([.ref o, .int (nI d), .int (nI t)]).toArray s 0 0 (fun _ => False)) (F0 m 13 ls []) := by
      intro n
      induction n with
      | zero =>
        intro j hj hi ls hl
        obtain rfl : j = 5 := by omega
        refine lv_iload_n hx hb dM_gone_13 rfl (lv_at hl 0 rfl) ?_
        refine lv_iconst (v := nI 5) hx hb dM_gone_14 (by decide +kernel) ?_
        refine lv_icmp_ge (tgt := 40) hx hb dM_gone_15 (by decide) (fun h15 => ?_) (fun h15 => absurd (nI_le (Nat.le_refl 5) (by decide)) h15)
        refine lv_iconst (v := nI 0) hx hb dM_gone_40 (by decide +kernel) ?_
        exact W.zret (v := nI 0) (ty := .boolean) hx hb hr nar_0 (fun t9 ht9 _ => ⟨by rw [il, e6, show oc uf d t = true from hi]; rfl, ht9⟩) (fun _ h9 => nomatch h9) dM_gone_41
      | succ n ih =>
        intro j hj hi ls hl
        have e4 : 4 - n = j := by omega
        refine lv_iload_n hx hb dM_gone_13 rfl (lv_at hl 0 rfl) ?_
        refine lv_iconst (v := nI 5) hx hb dM_gone_14 (by decide +kernel) ?_
        refine lv_icmp_ge (tgt := 40) hx hb dM_gone_15 (by decide) (fun h15 => absurd h15 (nI_ge (by omega) (by decide))) (fun h15 => ?_)
        refine lv_iload_n hx hb dM_gone_18 rfl (lv_at hl 0 rfl) ?_
        refine lv_iload_n hx hb dM_gone_19 rfl (lv_at hl 2 rfl) ?_
        refine lv_icmp_eq (tgt := 34) hx hb dM_gone_20 (by decide) (fun h20 => ?_) (fun h20 => ?_)
        · have e9 : j = d := (nI_eq (by omega) (by omega)).mp h20
          refine lv_iinc (k := 0) (v := nI (j + 1)) hx hb dM_gone_34 hl rfl (incI _)  (by decide) rfl (fun ls hl => ?_)
          have hl : lv_has ls 4 [(3, .int (nI (j + 1))), (0, .ref o), (1, .int (nI d)), (2, .int (nI t))] := hl
          refine lv_goto (tgt := 13) hx hb dM_gone_37 (by decide) ?_
          exact ih (j + 1) (by omega) (by rw [hi]; simp [ocN, e4, e9]) ls hl
        · have e9 : ¬ j = d := fun z => h20 (by rw [z])
          refine lv_aload_n hx hb dM_gone_23 rfl (lv_at hl 1 rfl) ?_
          refine lv_iload_n hx hb dM_gone_24 rfl (lv_at hl 0 rfl) ?_
          refine lv_iload_n hx hb dM_gone_25 rfl (lv_at hl 3 rfl) ?_
          refine kV (n := 2) (As := [.int (nI j), .int (nI t)]) (rest := []) ⟨hx, hb, hml, hown, hts⟩ (mM_usable l D o a b cA iA er cf uf j t (by omega) (by omega)) w_303 w_305 v_13 w_2 w_306 (by decide +kernel) ⟨rfl, rfl⟩ ⟨(Nat.le_of_ble_eq_true rfl), (Nat.le_of_ble_eq_true rfl)⟩ hP hK 1 0 rfl rfl rfl hl.1 rfl (Nat.le_of_ble_eq_true rfl) dM_gone_26 ⟨Nat.zero_le _, Nat.zero_le _⟩ ?_
          refine lv_if_ne (tgt := 34) hx hb dM_gone_29 (by decide) (fun h29 => ?_) (fun h29 => ?_)
          · refine lv_iinc (k := 0) (v := nI (j + 1)) hx hb dM_gone_34 hl rfl (incI _)  (by decide) rfl (fun ls hl => ?_)
            have hl : lv_has ls 4 [(3, .int (nI (j + 1))), (0, .ref o), (1, .int (nI d)), (2, .int (nI t))] := hl
            refine lv_goto (tgt := 13) hx hb dM_gone_37 (by decide) ?_
            exact ih (j + 1) (by omega) (by rw [hi]; simp [ocN, e4, bi_1 h29]) ls hl
          · refine lv_iconst (v := nI 1) hx hb dM_gone_32 (by decide +kernel) ?_
            exact W.zret (v := nI 1) (ty := .boolean) hx hb hr nar_1 (fun t9 ht9 _ => ⟨by rw [il, e6, show oc uf d t = false by rw [hi]; simp [ocN, e4, e9, bi_0 h29]]; rfl, ht9⟩) (fun _ h9 => nomatch h9) dM_gone_33
    exact key 5 0 rfl rfl ls hl
  · have e6 := bi_1 h6
    refine lv_iconst (v := nI 0) hx hb dM_gone_9 (by decide +kernel) ?_
    exact W.zret (v := nI 0) (ty := .boolean) hx hb hr nar_0 (fun t9 ht9 _ => ⟨by rw [il, e6]; rfl, ht9⟩) (fun _ h9 => nomatch h9) dM_gone_10
set_option maxHeartbeats 4000000 in
set_option maxRecDepth 100000 in
theorem mM_others (l : Launch) (D : va_G) (o a b : Nat) (cA iA : ClassId) (er : Int32) (cf : Nat → Int64) (uf : Nat → Int32) (d t h : Nat) (hd : d < 5) (ht : t < 100) (hh : h < 2) : Met l yM_others (.code yM_others cM_others 7 (some .long) :: gW) ({ frames := 1, cells := 0, slots := 0, locals := 22 }) (pW D (wM o a b cA iA er cf uf) (kT cA iA) [.ref o, .int (nI d), .int (nI t), .int (nI h)]) (k2_QcV (.long (xo cf d t h))) 0 0 (fun _ => False) := by
  refine Met.ofW (cc := cM_others) (maxL := 7) (ret := (some .long)) (by decide) rfl ?_
  intro p e s m args below meth c s₁ B hml hv
  obtain ⟨rfl, hP, hK⟩ := hv
  have hx := B.exec
  have hb := B.bytes
  have hr := B.returns
  have hts := atoms_spec (ws := (.code yM_others cM_others 7 (some .long) :: gW)) B.pre
  have hg : ∀ w ∈ gW, w.before ([.ref o, .int (nI d), .int (nI t), .int (nI h)]).toArray s = true := fun w h => hts w (List.mem_cons_of_mem _ h)
  have hown : s.vm.findClass R_M = some m.cls := findClass_of_methodNamed B.named
  have hlocks := B.notSynchronized
  have hl := lv_entry ([.ref o, .int (nI d), .int (nI t), .int (nI h)]) (n := 7) (Nat.le_of_ble_eq_true rfl)
  rw [lg_entry_eq]
  generalize (lg_sl ([.ref o, .int (nI d), .int (nI t), .int (nI h)]) ++ List.replicate (7 - (lg_sl ([.ref o, .int (nI d), .int (nI t), .int (nI h)])).length) Slot.unset).toArray = ls at hl ⊢
  have hl : lv_has ls 7 [(0, .ref o), (1, .int (nI d)), (2, .int (nI t)), (3, .int (nI h))] := hl
  refine lv_lconst (v := 0) hx hb dM_others_0 (by decide +kernel) ?_
  refine lv_lstore hx hb dM_others_1 hl (by decide) rfl (fun ls hl => ?_)
  have hl : lv_has ls 7 [(4, .long 0), (0, .ref o), (1, .int (nI d)), (2, .int (nI t)), (3, .int (nI h))] := hl
  refine lv_iconst (v := nI 0) hx hb dM_others_3 (by decide +kernel) ?_
  refine lv_istore hx hb dM_others_4 hl (by decide) rfl (fun ls hl => ?_)
  have hl : lv_has ls 7 [(6, .int (nI 0)), (4, .long 0), (0, .ref o), (1, .int (nI d)), (2, .int (nI t)), (3, .int (nI h))] := hl
  have key : ∀ n j : Nat, j + n = 5 → ∀ ls : Array Slot, lv_has ls 7 [(6, .int (nI j)), (4, .long (xoN cf d t h j)), (0, .ref o), (1, .int (nI d)), (2, .int (nI t)), (3, .int (nI h))] → W p l e (headSpec (.code yM_others cM_others 7 (some .long) :: gW) ({ frames := 1, cells := 0, slots := 0, locals := 22 })).room s m ([.ref o, .int (nI d), .int (nI t), .int (nI h)]).toArray below meth c s.heap [] 0 0 (MQ below (k2_QcV (.long (xo cf d t h))) ([.ref o, .int (nI d), .int (nI t), .int (nI h)]).toArray s 0 0 (fun _ => False)) (F0 m 6 ls []) := by
    intro n
    induction n with
    | zero =>
      intro j hj ls hl
      obtain rfl : j = 5 := by omega
      refine lv_iload hx hb dM_others_6 (lv_at hl 0 rfl) ?_
      refine lv_iconst (v := nI 5) hx hb dM_others_8 (by decide +kernel) ?_
      refine lv_icmp_ge (tgt := 41) hx hb dM_others_9 (by decide) (fun h9 => ?_) (fun h9 => absurd (nI_le (Nat.le_refl 5) (by decide)) h9)
      refine lv_lload hx hb dM_others_41 (lv_at hl 1 rfl) ?_
      exact W.lret (v := xoN cf d t h 5) hx hb hr (fun t9 ht9 _ => ⟨by rfl, ht9⟩) (fun _ h9 => nomatch h9) dM_others_43
    | succ n ih =>
      intro j hj ls hl
      refine lv_iload hx hb dM_others_6 (lv_at hl 0 rfl) ?_
      refine lv_iconst (v := nI 5) hx hb dM_others_8 (by decide +kernel) ?_
      refine lv_icmp_ge (tgt := 41) hx hb dM_others_9 (by decide) (fun h9 => absurd h9 (nI_ge (by omega) (by decide))) (fun h9 => ?_)
      refine lv_iload hx hb dM_others_12 (lv_at hl 0 rfl) ?_
      refine lv_iload_n hx hb dM_others_14 rfl (lv_at hl 3 rfl) ?_
      refine lv_icmp_eq (tgt := 35) hx hb dM_others_15 (by decide) (fun h15 => ?_) (fun h15 => ?_)
      · have e15 : j = d := (nI_eq (by omega) (by omega)).mp h15
        refine lv_iinc (k := 0) (v := nI (j + 1)) hx hb dM_others_35 hl rfl (incI _)  (by decide) rfl (fun ls hl => ?_)
        have hl : lv_has ls 7 [(6, .int (nI (j + 1))), (4, .long (xoN cf d t h j)), (0, .ref o), (1, .int (nI d)), (2, .int (nI t)), (3, .int (nI h))] := hl
        refine lv_goto (tgt := 6) hx hb dM_others_38 (by decide) ?_
        rw [← xoN_p (cf := cf) (s := t) (h := h) e15] at hl
        exact ih (j + 1) (by omega) ls hl
      · have e15 : ¬ j = d := fun z => h15 (by rw [z])
        refine lv_lload hx hb dM_others_18 (lv_at hl 1 rfl) ?_
        refine lv_aload_n hx hb dM_others_20 rfl (lv_at hl 2 rfl) ?_
        refine va_get (D := D) (ci := 1) (v := .ref a) (C := R_M) (T := T_M) (N := 3) hx hb hg uM_in hown hK hP 0 rfl rfl 1 (by decide) (hg _ w_271) (fun _ h9 => h9) rfl dM_others_21 ?_
        refine lv_iload hx hb dM_others_24 (lv_at hl 0 rfl) ?_
        refine lv_iload_n hx hb dM_others_26 rfl (lv_at hl 4 rfl) ?_
        refine lv_iload_n hx hb dM_others_27 rfl (lv_at hl 5 rfl) ?_
        refine kS (n := 3) (As := [.int (nI j), .int (nI t), .int (nI h)]) (rest := [.ref a, .long (xoN cf d t h j)]) ⟨hx, hb, hml, hown, hts⟩ (mM_at l j t h) w_311 w_312 w_2 w_313 (by decide +kernel) ⟨rfl, rfl⟩ ⟨(Nat.le_of_ble_eq_true rfl), (Nat.le_of_ble_eq_true rfl)⟩ rfl hl.1 rfl (Nat.le_of_ble_eq_true rfl) dM_others_28 ⟨Nat.zero_le _, Nat.zero_le _⟩ ?_
        refine aL hx hb hK hP 1 0 rfl rfl (ix_lt (by omega) (by omega) (by omega)) (by decide) dM_others_31 ?_
        refine lv_lxor hx hb dM_others_32 ?_
        refine tL (xoN_n e15).symm ?_
        refine lv_lstore hx hb dM_others_33 hl (by decide) rfl (fun ls hl => ?_)
        have hl : lv_has ls 7 [(4, .long (xoN cf d t h (j + 1))), (6, .int (nI j)), (0, .ref o), (1, .int (nI d)), (2, .int (nI t)), (3, .int (nI h))] := hl
        refine lv_iinc (k := 1) (v := nI (j + 1)) hx hb dM_others_35 hl rfl (incI _)  (by decide) rfl (fun ls hl => ?_)
        have hl : lv_has ls 7 [(6, .int (nI (j + 1))), (4, .long (xoN cf d t h (j + 1))), (0, .ref o), (1, .int (nI d)), (2, .int (nI t)), (3, .int (nI h))] := hl
        refine lv_goto (tgt := 6) hx hb dM_others_38 (by decide) ?_
        exact ih (j + 1) (by omega) ls hl
  exact key 5 0 rfl ls hl
set_option maxHeartbeats 4000000 in
set_option maxRecDepth 100000 in
theorem mM_has (l : Launch) (D : va_G) (o a b : Nat) (cA iA : ClassId) (er : Int32) (cf : Nat → Int64) (uf : Nat → Int32) (d t h : Nat) (hd : d < 5) (ht : t < 100) (hh : h < 2) : Met l yM_has (.code yM_has cM_has 4 (some .long) :: gW) ({ frames := 2, cells := 0, slots := 0, locals := 48 }) (pW D (wM o a b cA iA er cf uf) (kT cA iA) [.ref o, .int (nI d), .int (nI t), .int (nI h)]) (k2_QcV (.long (wh cf uf d t h))) 0 0 (fun _ => False) := by
  refine Met.ofW (cc := cM_has) (maxL := 4) (ret := (some .long)) (by decide) rfl ?_
  intro p e s m args below meth c s₁ B hml hv
  obtain ⟨rfl, hP, hK⟩ := hv
  have hx := B.exec
  have hb := B.bytes
  have hr := B.returns
  have hts := atoms_spec (ws := (.code yM_has cM_has 4 (some .long) :: gW)) B.pre
  have hg : ∀ w ∈ gW, w.before ([.ref o, .int (nI d), .int (nI t), .int (nI h)]).toArray s = true := fun w h => hts w (List.mem_cons_of_mem _ h)
  have hown : s.vm.findClass R_M = some m.cls := findClass_of_methodNamed B.named
  have hlocks := B.notSynchronized
  have hl := lv_entry ([.ref o, .int (nI d), .int (nI t), .int (nI h)]) (n := 4) (Nat.le_of_ble_eq_true rfl)
  rw [lg_entry_eq]
  generalize (lg_sl ([.ref o, .int (nI d), .int (nI t), .int (nI h)]) ++ List.replicate (4 - (lg_sl ([.ref o, .int (nI d), .int (nI t), .int (nI h)])).length) Slot.unset).toArray = ls at hl ⊢
  have hl : lv_has ls 4 [(0, .ref o), (1, .int (nI d)), (2, .int (nI t)), (3, .int (nI h))] := hl
  refine lv_aload_n hx hb dM_has_0 rfl (lv_at hl 0 rfl) ?_
  refine lv_iload_n hx hb dM_has_1 rfl (lv_at hl 1 rfl) ?_
  refine lv_iload_n hx hb dM_has_2 rfl (lv_at hl 2 rfl) ?_
  refine kV (n := 2) (As := [.int (nI d), .int (nI t)]) (rest := []) ⟨hx, hb, hml, hown, hts⟩ (mM_usable l D o a b cA iA er cf uf d t (by omega) (by omega)) w_303 w_305 v_13 w_2 w_306 (by decide +kernel) ⟨rfl, rfl⟩ ⟨(Nat.le_of_ble_eq_true rfl), (Nat.le_of_ble_eq_true rfl)⟩ hP hK 1 0 rfl rfl rfl hl.1 rfl (Nat.le_of_ble_eq_true rfl) dM_has_3 ⟨Nat.zero_le _, Nat.zero_le _⟩ ?_
  refine lv_if_eq (tgt := 23) hx hb dM_has_6 (by decide) (fun h6 => ?_) (fun h6 => ?_)
  · refine lv_aload_n hx hb dM_has_23 rfl (lv_at hl 0 rfl) ?_
    refine lv_iload_n hx hb dM_has_24 rfl (lv_at hl 1 rfl) ?_
    refine lv_iload_n hx hb dM_has_25 rfl (lv_at hl 2 rfl) ?_
    refine lv_iload_n hx hb dM_has_26 rfl (lv_at hl 3 rfl) ?_
    refine kV (n := 3) (As := [.int (nI d), .int (nI t), .int (nI h)]) (rest := []) ⟨hx, hb, hml, hown, hts⟩ (mM_others l D o a b cA iA er cf uf d t h (by omega) (by omega) (by omega)) w_314 w_316 v_15 w_2 w_317 (by decide +kernel) ⟨rfl, rfl⟩ ⟨(Nat.le_of_ble_eq_true rfl), (Nat.le_of_ble_eq_true rfl)⟩ hP hK 1 0 rfl rfl rfl hl.1 rfl (Nat.le_of_ble_eq_true rfl) dM_has_27 ⟨Nat.zero_le _, Nat.zero_le _⟩ ?_
    exact W.lret (v := xo cf d t h) hx hb hr (fun t9 ht9 _ => ⟨by rw [wh_f (bi_0 h6)], ht9⟩) (fun _ h9 => nomatch h9) dM_has_30
  · refine lv_aload_n hx hb dM_has_9 rfl (lv_at hl 0 rfl) ?_
    refine va_get (D := D) (ci := 1) (v := .ref a) (C := R_M) (T := T_M) (N := 3) hx hb hg uM_in hown hK hP 0 rfl rfl 1 (by decide) (hg _ w_271) (fun _ h9 => h9) rfl dM_has_10 ?_
    refine lv_iload_n hx hb dM_has_13 rfl (lv_at hl 1 rfl) ?_
    refine lv_iload_n hx hb dM_has_14 rfl (lv_at hl 2 rfl) ?_
    refine lv_iload_n hx hb dM_has_15 rfl (lv_at hl 3 rfl) ?_
    refine kS (n := 3) (As := [.int (nI d), .int (nI t), .int (nI h)]) (rest := [.ref a]) ⟨hx, hb, hml, hown, hts⟩ (mM_at l d t h) w_311 w_312 w_2 w_313 (by decide +kernel) ⟨rfl, rfl⟩ ⟨(Nat.le_of_ble_eq_true rfl), (Nat.le_of_ble_eq_true rfl)⟩ rfl hl.1 rfl (Nat.le_of_ble_eq_true rfl) dM_has_16 ⟨Nat.zero_le _, Nat.zero_le _⟩ ?_
    refine aL hx hb hK hP 1 0 rfl rfl (ix_lt (by omega) (by omega) (by omega)) (by decide) dM_has_19 ?_
    refine lv_goto (tgt := 30) hx hb dM_has_20 (by decide) ?_
    exact W.lret (v := cf (ix d t h)) hx hb hr (fun t9 ht9 _ => ⟨by rw [wh_t (bi_1 h6)], ht9⟩) (fun _ h9 => nomatch h9) dM_has_30
set_option maxHeartbeats 4000000 in
set_option maxRecDepth 100000 in
theorem mM_noPlace (l : Launch) (D : va_G) (o a b : Nat) (cA iA : ClassId) (er : Int32) (cf : Nat → Int64) (uf : Nat → Int32) (x y : Int32) : Met l yM_noPlace (.code yM_noPlace cM_noPlace 3 (some .boolean) :: gW) ({ frames := 0, cells := 0, slots := 0, locals := 0 }) (pW D (wM o a b cA iA er cf uf) (kT cA iA) [.ref o, .int x, .int y]) (k2_QcV (.int (bi (!(inR x 400 && inR y 2))))) 0 0 (fun _ => False) := by
  refine Met.ofW (cc := cM_noPlace) (maxL := 3) (ret := (some .boolean)) (by decide) rfl ?_
  intro p e s m args below meth c s₁ B hml hv
  obtain ⟨rfl, hP, hK⟩ := hv
  have hx := B.exec
  have hb := B.bytes
  have hr := B.returns
  have hts := atoms_spec (ws := (.code yM_noPlace cM_noPlace 3 (some .boolean) :: gW)) B.pre
  have hg : ∀ w ∈ gW, w.before ([.ref o, .int x, .int y]).toArray s = true := fun w h => hts w (List.mem_cons_of_mem _ h)
  have hown : s.vm.findClass R_M = some m.cls := findClass_of_methodNamed B.named
  have hlocks := B.notSynchronized
  have hl := lv_entry ([.ref o, .int x, .int y]) (n := 3) (Nat.le_of_ble_eq_true rfl)
  rw [lg_entry_eq]
  generalize (lg_sl ([.ref o, .int x, .int y]) ++ List.replicate (3 - (lg_sl ([.ref o, .int x, .int y])).length) Slot.unset).toArray = ls at hl ⊢
  have hl : lv_has ls 3 [(0, .ref o), (1, .int x), (2, .int y)] := hl
  refine lv_iload_n hx hb dM_noPlace_0 rfl (lv_at hl 1 rfl) ?_
  refine lv_if_lt (tgt := 20) hx hb dM_noPlace_1 (by decide) (fun h1 => ?_) (fun h1 => ?_)
  · refine lv_iconst (v := nI 1) hx hb dM_noPlace_20 (by decide +kernel) ?_
    refine lv_goto (tgt := 25) hx hb dM_noPlace_21 (by decide) ?_
    exact W.zret (v := nI 1) (ty := .boolean) hx hb hr nar_1 (fun t9 ht9 _ => ⟨by rw [inR_neg h1]; rfl, ht9⟩) (fun _ h9 => nomatch h9) dM_noPlace_25
  · refine lv_iload_n hx hb dM_noPlace_4 rfl (lv_at hl 1 rfl) ?_
    refine lv_sipush (v := nI 400) hx hb dM_noPlace_5 (by decide +kernel) ?_
    refine lv_icmp_ge (tgt := 20) hx hb dM_noPlace_8 (by decide) (fun h8 => ?_) (fun h8 => ?_)
    · refine lv_iconst (v := nI 1) hx hb dM_noPlace_20 (by decide +kernel) ?_
      refine lv_goto (tgt := 25) hx hb dM_noPlace_21 (by decide) ?_
      exact W.zret (v := nI 1) (ty := .boolean) hx hb hr nar_1 (fun t9 ht9 _ => ⟨by rw [inR_ge h8]; rfl, ht9⟩) (fun _ h9 => nomatch h9) dM_noPlace_25
    · refine lv_iload_n hx hb dM_noPlace_11 rfl (lv_at hl 2 rfl) ?_
      refine lv_if_lt (tgt := 20) hx hb dM_noPlace_12 (by decide) (fun h12 => ?_) (fun h12 => ?_)
      · refine lv_iconst (v := nI 1) hx hb dM_noPlace_20 (by decide +kernel) ?_
        refine lv_goto (tgt := 25) hx hb dM_noPlace_21 (by decide) ?_
        exact W.zret (v := nI 1) (ty := .boolean) hx hb hr nar_1 (fun t9 ht9 _ => ⟨by rw [inR_neg h12, Bool.and_false]; rfl, ht9⟩) (fun _ h9 => nomatch h9) dM_noPlace_25
      · refine lv_iload_n hx hb dM_noPlace_15 rfl (lv_at hl 2 rfl) ?_
        refine lv_iconst (v := nI 1) hx hb dM_noPlace_16 (by decide +kernel) ?_
        refine lv_icmp_le (tgt := 24) hx hb dM_noPlace_17 (by decide) (fun h17 => ?_) (fun h17 => ?_)
        · refine lv_iconst (v := nI 0) hx hb dM_noPlace_24 (by decide +kernel) ?_
          exact W.zret (v := nI 0) (ty := .boolean) hx hb hr nar_0 (fun t9 ht9 _ => ⟨by rw [inR_t h1 h8, inR_1 h12 h17]; rfl, ht9⟩) (fun _ h9 => nomatch h9) dM_noPlace_25
        · refine lv_iconst (v := nI 1) hx hb dM_noPlace_20 (by decide +kernel) ?_
          refine lv_goto (tgt := 25) hx hb dM_noPlace_21 (by decide) ?_
          exact W.zret (v := nI 1) (ty := .boolean) hx hb hr nar_1 (fun t9 ht9 _ => ⟨by rw [inR_n1 h17, Bool.and_false]; rfl, ht9⟩) (fun _ h9 => nomatch h9) dM_noPlace_25
set_option maxHeartbeats 4000000 in
set_option maxRecDepth 100000 in
theorem mM_none (l : Launch) (x : Int32) : Met l yM_none (.code yM_none cM_none 1 (some .boolean) :: gW) ({ frames := 0, cells := 0, slots := 0, locals := 0 }) (pN [.int x]) (k2_QcV (.int (bi (!inR x 5)))) 0 0 (fun _ => False) := by
  refine Met.ofW (cc := cM_none) (maxL := 1) (ret := (some .boolean)) (by decide) rfl ?_
  intro p e s m args below meth c s₁ B hml hv
  obtain ⟨rfl, -⟩ := hv
  have hx := B.exec
  have hb := B.bytes
  have hr := B.returns
  have hts := atoms_spec (ws := (.code yM_none cM_none 1 (some .boolean) :: gW)) B.pre
  have hg : ∀ w ∈ gW, w.before ([.int x]).toArray s = true := fun w h => hts w (List.mem_cons_of_mem _ h)
  have hown : s.vm.findClass R_M = some m.cls := findClass_of_methodNamed B.named
  have hlocks := B.notSynchronized
  have hl := lv_entry ([.int x]) (n := 1) (Nat.le_of_ble_eq_true rfl)
  rw [lg_entry_eq]
  generalize (lg_sl ([.int x]) ++ List.replicate (1 - (lg_sl ([.int x])).length) Slot.unset).toArray = ls at hl ⊢
  have hl : lv_has ls 1 [(0, .int x)] := hl
  refine lv_iload_n hx hb dM_none_0 rfl (lv_at hl 0 rfl) ?_
  refine lv_if_lt (tgt := 9) hx hb dM_none_1 (by decide) (fun h1 => ?_) (fun h1 => ?_)
  · refine lv_iconst (v := nI 1) hx hb dM_none_9 (by decide +kernel) ?_
    refine lv_goto (tgt := 14) hx hb dM_none_10 (by decide) ?_
    exact W.zret (v := nI 1) (ty := .boolean) hx hb hr nar_1 (fun t9 ht9 _ => ⟨by rw [inR_neg h1]; rfl, ht9⟩) (fun _ h9 => nomatch h9) dM_none_14
  · refine lv_iload_n hx hb dM_none_4 rfl (lv_at hl 0 rfl) ?_
    refine lv_iconst (v := nI 5) hx hb dM_none_5 (by decide +kernel) ?_
    refine lv_icmp_lt (tgt := 13) hx hb dM_none_6 (by decide) (fun h6 => ?_) (fun h6 => ?_)
    · refine lv_iconst (v := nI 0) hx hb dM_none_13 (by decide +kernel) ?_
      exact W.zret (v := nI 0) (ty := .boolean) hx hb hr nar_0 (fun t9 ht9 _ => ⟨by rw [inR_t' h1 h6]; rfl, ht9⟩) (fun _ h9 => nomatch h9) dM_none_14
    · refine lv_iconst (v := nI 1) hx hb dM_none_9 (by decide +kernel) ?_
      refine lv_goto (tgt := 14) hx hb dM_none_10 (by decide) ?_
      exact W.zret (v := nI 1) (ty := .boolean) hx hb hr nar_1 (fun t9 ht9 _ => ⟨by rw [inR_nl h6]; rfl, ht9⟩) (fun _ h9 => nomatch h9) dM_none_14
set_option maxHeartbeats 4000000 in
set_option maxRecDepth 100000 in
theorem mM_noBlock (l : Launch) (D : va_G) (o a b : Nat) (cA iA : ClassId) (er : Int32) (cf : Nat → Int64) (uf : Nat → Int32) (x y z : Int32) : Met l yM_noBlock (.code yM_noBlock cM_noBlock 4 (some .boolean) :: gW) ({ frames := 1, cells := 0, slots := 0, locals := 20 }) (pW D (wM o a b cA iA er cf uf) (kT cA iA) [.ref o, .int x, .int y, .int z]) (k2_QcV (.int (bi (!(inR x 5 && (inR y 100 && inR z 2)))))) 0 0 (fun _ => False) := by
  refine Met.ofW (cc := cM_noBlock) (maxL := 4) (ret := (some .boolean)) (by decide) rfl ?_
  intro p e s m args below meth c s₁ B hml hv
  obtain ⟨rfl, hP, hK⟩ := hv
  have hx := B.exec
  have hb := B.bytes
  have hr := B.returns
  have hts := atoms_spec (ws := (.code yM_noBlock cM_noBlock 4 (some .boolean) :: gW)) B.pre
  have hg : ∀ w ∈ gW, w.before ([.ref o, .int x, .int y, .int z]).toArray s = true := fun w h => hts w (List.mem_cons_of_mem _ h)
  have hown : s.vm.findClass R_M = some m.cls := findClass_of_methodNamed B.named
  have hlocks := B.notSynchronized
  have hl := lv_entry ([.ref o, .int x, .int y, .int z]) (n := 4) (Nat.le_of_ble_eq_true rfl)
  rw [lg_entry_eq]
  generalize (lg_sl ([.ref o, .int x, .int y, .int z]) ++ List.replicate (4 - (lg_sl ([.ref o, .int x, .int y, .int z])).length) Slot.unset).toArray = ls at hl ⊢
  have hl : lv_has ls 4 [(0, .ref o), (1, .int x), (2, .int y), (3, .int z)] := hl
  refine lv_iload_n hx hb dM_noBlock_0 rfl (lv_at hl 1 rfl) ?_
  refine kS (n := 1) (As := [.int x]) (rest := []) ⟨hx, hb, hml, hown, hts⟩ (mM_none l x) w_326 w_327 w_2 w_328 (by decide +kernel) ⟨rfl, rfl⟩ ⟨(Nat.le_of_ble_eq_true rfl), (Nat.le_of_ble_eq_true rfl)⟩ rfl hl.1 rfl (Nat.le_of_ble_eq_true rfl) dM_noBlock_1 ⟨Nat.zero_le _, Nat.zero_le _⟩ ?_
  refine lv_if_ne (tgt := 26) hx hb dM_noBlock_4 (by decide) (fun h4 => ?_) (fun h4 => ?_)
  · refine lv_iconst (v := nI 1) hx hb dM_noBlock_26 (by decide +kernel) ?_
    refine lv_goto (tgt := 31) hx hb dM_noBlock_27 (by decide) ?_
    exact W.zret (v := nI 1) (ty := .boolean) hx hb hr nar_1 (fun t9 ht9 _ => ⟨by rw [nb_f (bi_1 h4)]; rfl, ht9⟩) (fun _ h9 => nomatch h9) dM_noBlock_31
  · refine lv_iload_n hx hb dM_noBlock_7 rfl (lv_at hl 2 rfl) ?_
    refine lv_if_lt (tgt := 26) hx hb dM_noBlock_8 (by decide) (fun h8 => ?_) (fun h8 => ?_)
    · refine lv_iconst (v := nI 1) hx hb dM_noBlock_26 (by decide +kernel) ?_
      refine lv_goto (tgt := 31) hx hb dM_noBlock_27 (by decide) ?_
      exact W.zret (v := nI 1) (ty := .boolean) hx hb hr nar_1 (fun t9 ht9 _ => ⟨by rw [inR_neg h8, Bool.false_and, Bool.and_false]; rfl, ht9⟩) (fun _ h9 => nomatch h9) dM_noBlock_31
    · refine lv_iload_n hx hb dM_noBlock_11 rfl (lv_at hl 2 rfl) ?_
      refine lv_bipush (v := nI 100) hx hb dM_noBlock_12 (by decide +kernel) ?_
      refine lv_icmp_ge (tgt := 26) hx hb dM_noBlock_14 (by decide) (fun h14 => ?_) (fun h14 => ?_)
      · refine lv_iconst (v := nI 1) hx hb dM_noBlock_26 (by decide +kernel) ?_
        refine lv_goto (tgt := 31) hx hb dM_noBlock_27 (by decide) ?_
        exact W.zret (v := nI 1) (ty := .boolean) hx hb hr nar_1 (fun t9 ht9 _ => ⟨by rw [inR_ge h14, Bool.false_and, Bool.and_false]; rfl, ht9⟩) (fun _ h9 => nomatch h9) dM_noBlock_31
      · refine lv_iload_n hx hb dM_noBlock_17 rfl (lv_at hl 3 rfl) ?_
        refine lv_if_lt (tgt := 26) hx hb dM_noBlock_18 (by decide) (fun h18 => ?_) (fun h18 => ?_)
        · refine lv_iconst (v := nI 1) hx hb dM_noBlock_26 (by decide +kernel) ?_
          refine lv_goto (tgt := 31) hx hb dM_noBlock_27 (by decide) ?_
          exact W.zret (v := nI 1) (ty := .boolean) hx hb hr nar_1 (fun t9 ht9 _ => ⟨by rw [inR_neg h18, Bool.and_false, Bool.and_false]; rfl, ht9⟩) (fun _ h9 => nomatch h9) dM_noBlock_31
        · refine lv_iload_n hx hb dM_noBlock_21 rfl (lv_at hl 3 rfl) ?_
          refine lv_iconst (v := nI 1) hx hb dM_noBlock_22 (by decide +kernel) ?_
          refine lv_icmp_le (tgt := 30) hx hb dM_noBlock_23 (by decide) (fun h23 => ?_) (fun h23 => ?_)
          · refine lv_iconst (v := nI 0) hx hb dM_noBlock_30 (by decide +kernel) ?_
            exact W.zret (v := nI 0) (ty := .boolean) hx hb hr nar_0 (fun t9 ht9 _ => ⟨by rw [nb_t (bi_0 h4), inR_t h8 h14, inR_1 h18 h23]; rfl, ht9⟩) (fun _ h9 => nomatch h9) dM_noBlock_31
          · refine lv_iconst (v := nI 1) hx hb dM_noBlock_26 (by decide +kernel) ?_
            refine lv_goto (tgt := 31) hx hb dM_noBlock_27 (by decide) ?_
            exact W.zret (v := nI 1) (ty := .boolean) hx hb hr nar_1 (fun t9 ht9 _ => ⟨by rw [inR_n1 h23, Bool.and_false, Bool.and_false]; rfl, ht9⟩) (fun _ h9 => nomatch h9) dM_noBlock_31
set_option maxHeartbeats 4000000 in
set_option maxRecDepth 100000 in
theorem mM_fails_t (l : Launch) (D : va_G) (o a b : Nat) (cA iA : ClassId) (er : Int32) (cf : Nat → Int64) (uf : Nat → Int32) (sz : Nat) (w9 : Nat) : Met l yM_fails (.code yM_fails cM_fails 3 (some .boolean) :: gW) ({ frames := 0, cells := 0, slots := 0, locals := 0 }) (pWs D (wM o a b cA iA er cf uf) (kT cA iA) sz [.ref o, .int (nI 1), .int (nI w9)]) (QI (nI 1) D (wM o a b cA iA (nI w9) cf uf) (va_A (wM o a b cA iA er cf uf) sz)) 0 0 (va_A (wM o a b cA iA er cf uf) sz) := by
  refine Met.ofW (cc := cM_fails) (maxL := 3) (ret := (some .boolean)) (by decide) rfl ?_
  intro p e s m args below meth c s₁ B hml hv
  obtain ⟨rfl, hsz, hP, hK, hD0⟩ := hv
  have hx := B.exec
  have hb := B.bytes
  have hr := B.returns
  have hts := atoms_spec (ws := (.code yM_fails cM_fails 3 (some .boolean) :: gW)) B.pre
  have hg : ∀ w ∈ gW, w.before ([.ref o, .int (nI 1), .int (nI w9)]).toArray s = true := fun w h => hts w (List.mem_cons_of_mem _ h)
  have hown : s.vm.findClass R_M = some m.cls := findClass_of_methodNamed B.named
  have hlocks := B.notSynchronized
  subst hsz
  have hD := hD0.self (sz := s.heap.size)
  generalize hAe : va_A (wM o a b cA iA er cf uf) s.heap.size = A at hD ⊢
  have hA : ∀ q : Nat, s.heap.size ≤ q → A q := fun q h => by rw [← hAe]; exact Or.inr h
  have hS : va_S A s.heap s.heap [] := va_S.rf
  have hP : va_P D cls_ (wM o a b cA iA er cf uf) s.heap := hP
  have hl := lv_entry ([.ref o, .int (nI 1), .int (nI w9)]) (n := 3) (Nat.le_of_ble_eq_true rfl)
  rw [lg_entry_eq]
  generalize (lg_sl ([.ref o, .int (nI 1), .int (nI w9)]) ++ List.replicate (3 - (lg_sl ([.ref o, .int (nI 1), .int (nI w9)])).length) Slot.unset).toArray = ls at hl ⊢
  have hl : lv_has ls 3 [(0, .ref o), (1, .int (nI 1)), (2, .int (nI w9))] := hl
  refine lv_aload_n hx hb dM_fails_0 rfl (lv_at hl 0 rfl) ?_
  refine lv_iload_n hx hb dM_fails_1 rfl (lv_at hl 1 rfl) ?_
  refine lv_if_eq (tgt := 9) hx hb dM_fails_2 (by decide) (fun h2 => absurd h2 (by decide +kernel)) (fun h2 => ?_)
  refine lv_iload_n hx hb dM_fails_5 rfl (lv_at hl 2 rfl) ?_
  refine lv_goto (tgt := 10) hx hb dM_fails_6 (by decide) ?_
  refine va_put (D := D) (ci := 1) (v := .int (nI w9)) (ty := .int) (C := R_M) (T := T_M) (N := 3) hx hb hg uM_in ty_M ty_M_ok nd_M hown hK hP hD hS 0 rfl rfl 0 (by decide) (hg _ w_270) (fun _ h9 => h9) rfl (by decide +kernel) rfl rfl (Nat.le_of_ble_eq_true rfl) dM_fails_10 (fun H locs hP hD hS => ?_)
  have hP : va_P D cls_ (wM o a b cA iA (nI w9) cf uf) H := hP
  have hD : va_D A (wM o a b cA iA (nI w9) cf uf) := hD
  refine lv_iload_n hx hb dM_fails_13 rfl (lv_at hl 1 rfl) ?_
  exact W.zret (v := nI 1) (ty := .boolean) hx hb hr nar_1 (fun t9 ht9 _ => ⟨⟨_, (), rfl, by show _ = _; rfl, by show va_P _ _ _ t9.heap; rw [ht9]; exact hP⟩, hS.F ht9⟩) hS.2.2 dM_fails_14
set_option maxHeartbeats 4000000 in
set_option maxRecDepth 100000 in
theorem mM_fails_f (l : Launch) (D : va_G) (o a b : Nat) (cA iA : ClassId) (er : Int32) (cf : Nat → Int64) (uf : Nat → Int32) (sz : Nat) (w9 : Nat) : Met l yM_fails (.code yM_fails cM_fails 3 (some .boolean) :: gW) ({ frames := 0, cells := 0, slots := 0, locals := 0 }) (pWs D (wM o a b cA iA er cf uf) (kT cA iA) sz [.ref o, .int (nI 0), .int (nI w9)]) (QI (nI 0) D (wM o a b cA iA (nI 0) cf uf) (va_A (wM o a b cA iA er cf uf) sz)) 0 0 (va_A (wM o a b cA iA er cf uf) sz) := by
  refine Met.ofW (cc := cM_fails) (maxL := 3) (ret := (some .boolean)) (by decide) rfl ?_
  intro p e s m args below meth c s₁ B hml hv
  obtain ⟨rfl, hsz, hP, hK, hD0⟩ := hv
  have hx := B.exec
  have hb := B.bytes
  have hr := B.returns
  have hts := atoms_spec (ws := (.code yM_fails cM_fails 3 (some .boolean) :: gW)) B.pre
  have hg : ∀ w ∈ gW, w.before ([.ref o, .int (nI 0), .int (nI w9)]).toArray s = true := fun w h => hts w (List.mem_cons_of_mem _ h)
  have hown : s.vm.findClass R_M = some m.cls := findClass_of_methodNamed B.named
  have hlocks := B.notSynchronized
  subst hsz
  have hD := hD0.self (sz := s.heap.size)
  generalize hAe : va_A (wM o a b cA iA er cf uf) s.heap.size = A at hD ⊢
  have hA : ∀ q : Nat, s.heap.size ≤ q → A q := fun q h => by rw [← hAe]; exact Or.inr h
  have hS : va_S A s.heap s.heap [] := va_S.rf
  have hP : va_P D cls_ (wM o a b cA iA er cf uf) s.heap := hP
  have hl := lv_entry ([.ref o, .int (nI 0), .int (nI w9)]) (n := 3) (Nat.le_of_ble_eq_true rfl)
  rw [lg_entry_eq]
  generalize (lg_sl ([.ref o, .int (nI 0), .int (nI w9)]) ++ List.replicate (3 - (lg_sl ([.ref o, .int (nI 0), .int (nI w9)])).length) Slot.unset).toArray = ls at hl ⊢
  have hl : lv_has ls 3 [(0, .ref o), (1, .int (nI 0)), (2, .int (nI w9))] := hl
  refine lv_aload_n hx hb dM_fails_0 rfl (lv_at hl 0 rfl) ?_
  refine lv_iload_n hx hb dM_fails_1 rfl (lv_at hl 1 rfl) ?_
  refine lv_if_eq (tgt := 9) hx hb dM_fails_2 (by decide) (fun h2 => ?_) (fun h2 => absurd (by decide +kernel) h2)
  refine lv_iconst (v := nI 0) hx hb dM_fails_9 (by decide +kernel) ?_
  refine va_put (D := D) (ci := 1) (v := .int (nI 0)) (ty := .int) (C := R_M) (T := T_M) (N := 3) hx hb hg uM_in ty_M ty_M_ok nd_M hown hK hP hD hS 0 rfl rfl 0 (by decide) (hg _ w_270) (fun _ h9 => h9) rfl (by decide +kernel) rfl rfl (Nat.le_of_ble_eq_true rfl) dM_fails_10 (fun H locs hP hD hS => ?_)
  have hP : va_P D cls_ (wM o a b cA iA (nI 0) cf uf) H := hP
  have hD : va_D A (wM o a b cA iA (nI 0) cf uf) := hD
  refine lv_iload_n hx hb dM_fails_13 rfl (lv_at hl 1 rfl) ?_
  exact W.zret (v := nI 0) (ty := .boolean) hx hb hr nar_0 (fun t9 ht9 _ => ⟨⟨_, (), rfl, by show _ = _; rfl, by show va_P _ _ _ t9.heap; rw [ht9]; exact hP⟩, hS.F ht9⟩) hS.2.2 dM_fails_14
