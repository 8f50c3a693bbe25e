set_option maxHeartbeats 4000000 in
set_option maxRecDepth 100000 in
theorem mX_checkDisk_ok (l : Launch) (k : Nat) (hk : k < 5) : Met l yX_checkDisk (.code yX_checkDisk cX_checkDisk 1 none :: gW) ({ frames := 6, cells := 0, slots := 0, locals := 96 }) (pN [.int (nI k)]) (QN) 0 0 (fun _ => False) := by
  refine Met.ofW (cc := cX_checkDisk) (maxL := 1) (ret := none) (by decide) rfl ?_
  intro p e s m args below meth c s₁ B hml hv
  obtain ⟨rfl, -⟩ := hv
  have hx := B.exec
  have hb := B.bytes
  have hr := B.returns
  have hts := atoms_spec (ws := (.code yX_checkDisk cX_checkDisk 1 none :: gW)) B.pre
  have hg : ∀ w ∈ gW, w.before ([.int (nI k)]).toArray s = true := fun w h => hts w (List.mem_cons_of_mem _ h)
  have hown : s.vm.findClass R_X = some m.cls := findClass_of_methodNamed B.named
  have hlocks := B.notSynchronized
  have hl := lv_entry ([.int (nI k)]) (n := 1) (Nat.le_of_ble_eq_true rfl)
  rw [lg_entry_eq]
  generalize (lg_sl ([.int (nI k)]) ++ List.replicate (1 - (lg_sl ([.int (nI k)])).length) Slot.unset).toArray = ls at hl ⊢
  have hl : lv_has ls 1 [(0, .int (nI k))] := hl
  refine lv_iload_n hx hb dX_checkDisk_0 rfl (lv_at hl 0 rfl) ?_
  refine lv_if_lt (tgt := 9) hx hb dX_checkDisk_1 (by decide) (fun h1 => absurd h1 (nI_pos (by omega))) (fun h1 => ?_)
  refine lv_iload_n hx hb dX_checkDisk_4 rfl (lv_at hl 0 rfl) ?_
  refine lv_iconst (v := nI 5) hx hb dX_checkDisk_5 (by decide +kernel) ?_
  refine lv_icmp_lt (tgt := 19) hx hb dX_checkDisk_6 (by decide) (fun h6 => ?_) (fun h6 => absurd (nI_lt hk (by decide)) h6)
  exact W.vret hx hb hr (fun t9 ht9 _ => ⟨rfl, ht9⟩) (fun _ h9 => nomatch h9) dX_checkDisk_19
set_option maxHeartbeats 4000000 in
set_option maxRecDepth 100000 in
theorem mX_checkDisk_bad (l : Launch) (hls : l.stackTraces = false) (x : Int32) (hbad : inR x 5 = false) : vx_Met l yX_checkDisk (.code yX_checkDisk cX_checkDisk 1 none :: gW) ({ frames := 6, cells := 1, slots := 6, locals := 96 }) (pT [.int x]) qNv (XE IAE) 1 6 (fun _ => False) := by
  refine vx_ofW (cc := cX_checkDisk) (maxL := 1) (ret := none) (by decide) rfl ?_
  intro p e s m args below meth c s₁ B hml htab hv
  obtain ⟨rfl, hF⟩ := hv
  have hx := B.exec
  have hb := B.bytes
  have hr := B.returns
  have hts := atoms_spec (ws := (.code yX_checkDisk cX_checkDisk 1 none :: gW)) B.pre
  have hg : ∀ w ∈ gW, w.before ([.int x]).toArray s = true := fun w h => hts w (List.mem_cons_of_mem _ h)
  have hown : s.vm.findClass R_X = some m.cls := findClass_of_methodNamed B.named
  have hlocks := B.notSynchronized
  have hl := lv_entry ([.int x]) (n := 1) (Nat.le_of_ble_eq_true rfl)
  rw [lg_entry_eq]
  generalize (lg_sl ([.int x]) ++ List.replicate (1 - (lg_sl ([.int x])).length) Slot.unset).toArray = ls at hl ⊢
  have hl : lv_has ls 1 [(0, .int x)] := hl
  refine lv_iload_n hx hb dX_checkDisk_0 rfl (lv_at hl 0 rfl) ?_
  refine lv_if_lt (tgt := 9) hx hb dX_checkDisk_1 (by decide) (fun h1 => ?_) (fun h1 => ?_)
  · exact thr (E := IAE) (tx := "disk is not 0..4") hx hb hls hF hown hg (by decide +kernel) (by decide +kernel) w_83 w_6 atG_A atB_A atO_A (by decide +kernel) (hl.1.trans hml.symm) dX_checkDisk_9 dX_checkDisk_12 dX_checkDisk_13 dX_checkDisk_15 dX_checkDisk_18 htab ⟨(Nat.le_of_ble_eq_true rfl), (Nat.le_of_ble_eq_true rfl), (Nat.le_of_ble_eq_true rfl), (Nat.le_of_ble_eq_true rfl)⟩ hlocks
  · refine lv_iload_n hx hb dX_checkDisk_4 rfl (lv_at hl 0 rfl) ?_
    refine lv_iconst (v := nI 5) hx hb dX_checkDisk_5 (by decide +kernel) ?_
    refine lv_icmp_lt (tgt := 19) hx hb dX_checkDisk_6 (by decide) (fun h6 => absurd h6 (inR_f hbad h1)) (fun h6 => ?_)
    exact thr (E := IAE) (tx := "disk is not 0..4") hx hb hls hF hown hg (by decide +kernel) (by decide +kernel) w_83 w_6 atG_A atB_A atO_A (by decide +kernel) (hl.1.trans hml.symm) dX_checkDisk_9 dX_checkDisk_12 dX_checkDisk_13 dX_checkDisk_15 dX_checkDisk_18 htab ⟨(Nat.le_of_ble_eq_true rfl), (Nat.le_of_ble_eq_true rfl), (Nat.le_of_ble_eq_true rfl), (Nat.le_of_ble_eq_true rfl)⟩ hlocks
set_option maxHeartbeats 4000000 in
set_option maxRecDepth 100000 in
theorem mX_checkPlace_ok (l : Launch) (k : Nat) (hk : k < 400) : Met l yX_checkPlace (.code yX_checkPlace cX_checkPlace 1 none :: gW) ({ frames := 6, cells := 0, slots := 0, locals := 96 }) (pN [.int (nI k)]) (QN) 0 0 (fun _ => False) := by
  refine Met.ofW (cc := cX_checkPlace) (maxL := 1) (ret := none) (by decide) rfl ?_
  intro p e s m args below meth c s₁ B hml hv
  obtain ⟨rfl, -⟩ := hv
  have hx := B.exec
  have hb := B.bytes
  have hr := B.returns
  have hts := atoms_spec (ws := (.code yX_checkPlace cX_checkPlace 1 none :: gW)) B.pre
  have hg : ∀ w ∈ gW, w.before ([.int (nI k)]).toArray s = true := fun w h => hts w (List.mem_cons_of_mem _ h)
  have hown : s.vm.findClass R_X = some m.cls := findClass_of_methodNamed B.named
  have hlocks := B.notSynchronized
  have hl := lv_entry ([.int (nI k)]) (n := 1) (Nat.le_of_ble_eq_true rfl)
  rw [lg_entry_eq]
  generalize (lg_sl ([.int (nI k)]) ++ List.replicate (1 - (lg_sl ([.int (nI k)])).length) Slot.unset).toArray = ls at hl ⊢
  have hl : lv_has ls 1 [(0, .int (nI k))] := hl
  refine lv_iload_n hx hb dX_checkPlace_0 rfl (lv_at hl 0 rfl) ?_
  refine lv_if_lt (tgt := 11) hx hb dX_checkPlace_1 (by decide) (fun h1 => absurd h1 (nI_pos (by omega))) (fun h1 => ?_)
  refine lv_iload_n hx hb dX_checkPlace_4 rfl (lv_at hl 0 rfl) ?_
  refine lv_sipush (v := nI 400) hx hb dX_checkPlace_5 (by decide +kernel) ?_
  refine lv_icmp_lt (tgt := 21) hx hb dX_checkPlace_8 (by decide) (fun h8 => ?_) (fun h8 => absurd (nI_lt hk (by decide)) h8)
  exact W.vret hx hb hr (fun t9 ht9 _ => ⟨rfl, ht9⟩) (fun _ h9 => nomatch h9) dX_checkPlace_21
set_option maxHeartbeats 4000000 in
set_option maxRecDepth 100000 in
theorem mX_checkPlace_bad (l : Launch) (hls : l.stackTraces = false) (x : Int32) (hbad : inR x 400 = false) : vx_Met l yX_checkPlace (.code yX_checkPlace cX_checkPlace 1 none :: gW) ({ frames := 6, cells := 1, slots := 6, locals := 96 }) (pT [.int x]) qNv (XE IAE) 1 6 (fun _ => False) := by
  refine vx_ofW (cc := cX_checkPlace) (maxL := 1) (ret := none) (by decide) rfl ?_
  intro p e s m args below meth c s₁ B hml htab hv
  obtain ⟨rfl, hF⟩ := hv
  have hx := B.exec
  have hb := B.bytes
  have hr := B.returns
  have hts := atoms_spec (ws := (.code yX_checkPlace cX_checkPlace 1 none :: gW)) B.pre
  have hg : ∀ w ∈ gW, w.before ([.int x]).toArray s = true := fun w h => hts w (List.mem_cons_of_mem _ h)
  have hown : s.vm.findClass R_X = some m.cls := findClass_of_methodNamed B.named
  have hlocks := B.notSynchronized
  have hl := lv_entry ([.int x]) (n := 1) (Nat.le_of_ble_eq_true rfl)
  rw [lg_entry_eq]
  generalize (lg_sl ([.int x]) ++ List.replicate (1 - (lg_sl ([.int x])).length) Slot.unset).toArray = ls at hl ⊢
  have hl : lv_has ls 1 [(0, .int x)] := hl
  refine lv_iload_n hx hb dX_checkPlace_0 rfl (lv_at hl 0 rfl) ?_
  refine lv_if_lt (tgt := 11) hx hb dX_checkPlace_1 (by decide) (fun h1 => ?_) (fun h1 => ?_)
  · exact thr (E := IAE) (tx := "place is not 0..399") hx hb hls hF hown hg (by decide +kernel) (by decide +kernel) w_83 w_6 atG_A atB_A atO_A (by decide +kernel) (hl.1.trans hml.symm) dX_checkPlace_11 dX_checkPlace_14 dX_checkPlace_15 dX_checkPlace_17 dX_checkPlace_20 htab ⟨(Nat.le_of_ble_eq_true rfl), (Nat.le_of_ble_eq_true rfl), (Nat.le_of_ble_eq_true rfl), (Nat.le_of_ble_eq_true rfl)⟩ hlocks
  · refine lv_iload_n hx hb dX_checkPlace_4 rfl (lv_at hl 0 rfl) ?_
    refine lv_sipush (v := nI 400) hx hb dX_checkPlace_5 (by decide +kernel) ?_
    refine lv_icmp_lt (tgt := 21) hx hb dX_checkPlace_8 (by decide) (fun h8 => absurd h8 (inR_f hbad h1)) (fun h8 => ?_)
    exact thr (E := IAE) (tx := "place is not 0..399") hx hb hls hF hown hg (by decide +kernel) (by decide +kernel) w_83 w_6 atG_A atB_A atO_A (by decide +kernel) (hl.1.trans hml.symm) dX_checkPlace_11 dX_checkPlace_14 dX_checkPlace_15 dX_checkPlace_17 dX_checkPlace_20 htab ⟨(Nat.le_of_ble_eq_true rfl), (Nat.le_of_ble_eq_true rfl), (Nat.le_of_ble_eq_true rfl), (Nat.le_of_ble_eq_true rfl)⟩ hlocks
set_option maxHeartbeats 4000000 in
set_option maxRecDepth 100000 in
theorem mX_checkHalf_ok (l : Launch) (k : Nat) (hk : k < 2) : Met l yX_checkHalf (.code yX_checkHalf cX_checkHalf 1 none :: gW) ({ frames := 6, cells := 0, slots := 0, locals := 96 }) (pN [.int (nI k)]) (QN) 0 0 (fun _ => False) := by
  refine Met.ofW (cc := cX_checkHalf) (maxL := 1) (ret := none) (by decide) rfl ?_
  intro p e s m args below meth c s₁ B hml hv
  obtain ⟨rfl, -⟩ := hv
  have hx := B.exec
  have hb := B.bytes
  have hr := B.returns
  have hts := atoms_spec (ws := (.code yX_checkHalf cX_checkHalf 1 none :: gW)) B.pre
  have hg : ∀ w ∈ gW, w.before ([.int (nI k)]).toArray s = true := fun w h => hts w (List.mem_cons_of_mem _ h)
  have hown : s.vm.findClass R_X = some m.cls := findClass_of_methodNamed B.named
  have hlocks := B.notSynchronized
  have hl := lv_entry ([.int (nI k)]) (n := 1) (Nat.le_of_ble_eq_true rfl)
  rw [lg_entry_eq]
  generalize (lg_sl ([.int (nI k)]) ++ List.replicate (1 - (lg_sl ([.int (nI k)])).length) Slot.unset).toArray = ls at hl ⊢
  have hl : lv_has ls 1 [(0, .int (nI k))] := hl
  refine lv_iload_n hx hb dX_checkHalf_0 rfl (lv_at hl 0 rfl) ?_
  refine lv_if_lt (tgt := 9) hx hb dX_checkHalf_1 (by decide) (fun h1 => absurd h1 (nI_pos (by omega))) (fun h1 => ?_)
  refine lv_iload_n hx hb dX_checkHalf_4 rfl (lv_at hl 0 rfl) ?_
  refine lv_iconst (v := nI 2) hx hb dX_checkHalf_5 (by decide +kernel) ?_
  refine lv_icmp_lt (tgt := 19) hx hb dX_checkHalf_6 (by decide) (fun h6 => ?_) (fun h6 => absurd (nI_lt hk (by decide)) h6)
  exact W.vret hx hb hr (fun t9 ht9 _ => ⟨rfl, ht9⟩) (fun _ h9 => nomatch h9) dX_checkHalf_19
set_option maxHeartbeats 4000000 in
set_option maxRecDepth 100000 in
theorem mX_checkHalf_bad (l : Launch) (hls : l.stackTraces = false) (x : Int32) (hbad : inR x 2 = false) : vx_Met l yX_checkHalf (.code yX_checkHalf cX_checkHalf 1 none :: gW) ({ frames := 6, cells := 1, slots := 6, locals := 96 }) (pT [.int x]) qNv (XE IAE) 1 6 (fun _ => False) := by
  refine vx_ofW (cc := cX_checkHalf) (maxL := 1) (ret := none) (by decide) rfl ?_
  intro p e s m args below meth c s₁ B hml htab hv
  obtain ⟨rfl, hF⟩ := hv
  have hx := B.exec
  have hb := B.bytes
  have hr := B.returns
  have hts := atoms_spec (ws := (.code yX_checkHalf cX_checkHalf 1 none :: gW)) B.pre
  have hg : ∀ w ∈ gW, w.before ([.int x]).toArray s = true := fun w h => hts w (List.mem_cons_of_mem _ h)
  have hown : s.vm.findClass R_X = some m.cls := findClass_of_methodNamed B.named
  have hlocks := B.notSynchronized
  have hl := lv_entry ([.int x]) (n := 1) (Nat.le_of_ble_eq_true rfl)
  rw [lg_entry_eq]
  generalize (lg_sl ([.int x]) ++ List.replicate (1 - (lg_sl ([.int x])).length) Slot.unset).toArray = ls at hl ⊢
  have hl : lv_has ls 1 [(0, .int x)] := hl
  refine lv_iload_n hx hb dX_checkHalf_0 rfl (lv_at hl 0 rfl) ?_
  refine lv_if_lt (tgt := 9) hx hb dX_checkHalf_1 (by decide) (fun h1 => ?_) (fun h1 => ?_)
  · exact thr (E := IAE) (tx := "half is not 0..1") hx hb hls hF hown hg (by decide +kernel) (by decide +kernel) w_83 w_6 atG_A atB_A atO_A (by decide +kernel) (hl.1.trans hml.symm) dX_checkHalf_9 dX_checkHalf_12 dX_checkHalf_13 dX_checkHalf_15 dX_checkHalf_18 htab ⟨(Nat.le_of_ble_eq_true rfl), (Nat.le_of_ble_eq_true rfl), (Nat.le_of_ble_eq_true rfl), (Nat.le_of_ble_eq_true rfl)⟩ hlocks
  · refine lv_iload_n hx hb dX_checkHalf_4 rfl (lv_at hl 0 rfl) ?_
    refine lv_iconst (v := nI 2) hx hb dX_checkHalf_5 (by decide +kernel) ?_
    refine lv_icmp_lt (tgt := 19) hx hb dX_checkHalf_6 (by decide) (fun h6 => absurd h6 (inR_f hbad h1)) (fun h6 => ?_)
    exact thr (E := IAE) (tx := "half is not 0..1") hx hb hls hF hown hg (by decide +kernel) (by decide +kernel) w_83 w_6 atG_A atB_A atO_A (by decide +kernel) (hl.1.trans hml.symm) dX_checkHalf_9 dX_checkHalf_12 dX_checkHalf_13 dX_checkHalf_15 dX_checkHalf_18 htab ⟨(Nat.le_of_ble_eq_true rfl), (Nat.le_of_ble_eq_true rfl), (Nat.le_of_ble_eq_true rfl), (Nat.le_of_ble_eq_true rfl)⟩ hlocks
set_option maxHeartbeats 4000000 in
set_option maxRecDepth 100000 in
theorem mX_checkBlock_ok (l : Launch) (k : Nat) (hk : k < 100) : Met l yX_checkBlock (.code yX_checkBlock cX_checkBlock 1 none :: gW) ({ frames := 6, cells := 0, slots := 0, locals := 96 }) (pN [.int (nI k)]) (QN) 0 0 (fun _ => False) := by
  refine Met.ofW (cc := cX_checkBlock) (maxL := 1) (ret := none) (by decide) rfl ?_
  intro p e s m args below meth c s₁ B hml hv
  obtain ⟨rfl, -⟩ := hv
  have hx := B.exec
  have hb := B.bytes
  have hr := B.returns
  have hts := atoms_spec (ws := (.code yX_checkBlock cX_checkBlock 1 none :: gW)) B.pre
  have hg : ∀ w ∈ gW, w.before ([.int (nI k)]).toArray s = true := fun w h => hts w (List.mem_cons_of_mem _ h)
  have hown : s.vm.findClass R_X = some m.cls := findClass_of_methodNamed B.named
  have hlocks := B.notSynchronized
  have hl := lv_entry ([.int (nI k)]) (n := 1) (Nat.le_of_ble_eq_true rfl)
  rw [lg_entry_eq]
  generalize (lg_sl ([.int (nI k)]) ++ List.replicate (1 - (lg_sl ([.int (nI k)])).length) Slot.unset).toArray = ls at hl ⊢
  have hl : lv_has ls 1 [(0, .int (nI k))] := hl
  refine lv_iload_n hx hb dX_checkBlock_0 rfl (lv_at hl 0 rfl) ?_
  refine lv_if_lt (tgt := 10) hx hb dX_checkBlock_1 (by decide) (fun h1 => absurd h1 (nI_pos (by omega))) (fun h1 => ?_)
  refine lv_iload_n hx hb dX_checkBlock_4 rfl (lv_at hl 0 rfl) ?_
  refine lv_bipush (v := nI 100) hx hb dX_checkBlock_5 (by decide +kernel) ?_
  refine lv_icmp_lt (tgt := 20) hx hb dX_checkBlock_7 (by decide) (fun h7 => ?_) (fun h7 => absurd (nI_lt hk (by decide)) h7)
  exact W.vret hx hb hr (fun t9 ht9 _ => ⟨rfl, ht9⟩) (fun _ h9 => nomatch h9) dX_checkBlock_20
set_option maxHeartbeats 4000000 in
set_option maxRecDepth 100000 in
theorem mX_checkBlock_bad (l : Launch) (hls : l.stackTraces = false) (x : Int32) (hbad : inR x 100 = false) : vx_Met l yX_checkBlock (.code yX_checkBlock cX_checkBlock 1 none :: gW) ({ frames := 6, cells := 1, slots := 6, locals := 96 }) (pT [.int x]) qNv (XE IAE) 1 6 (fun _ => False) := by
  refine vx_ofW (cc := cX_checkBlock) (maxL := 1) (ret := none) (by decide) rfl ?_
  intro p e s m args below meth c s₁ B hml htab hv
  obtain ⟨rfl, hF⟩ := hv
  have hx := B.exec
  have hb := B.bytes
  have hr := B.returns
  have hts := atoms_spec (ws := (.code yX_checkBlock cX_checkBlock 1 none :: gW)) B.pre
  have hg : ∀ w ∈ gW, w.before ([.int x]).toArray s = true := fun w h => hts w (List.mem_cons_of_mem _ h)
  have hown : s.vm.findClass R_X = some m.cls := findClass_of_methodNamed B.named
  have hlocks := B.notSynchronized
  have hl := lv_entry ([.int x]) (n := 1) (Nat.le_of_ble_eq_true rfl)
  rw [lg_entry_eq]
  generalize (lg_sl ([.int x]) ++ List.replicate (1 - (lg_sl ([.int x])).length) Slot.unset).toArray = ls at hl ⊢
  have hl : lv_has ls 1 [(0, .int x)] := hl
  refine lv_iload_n hx hb dX_checkBlock_0 rfl (lv_at hl 0 rfl) ?_
  refine lv_if_lt (tgt := 10) hx hb dX_checkBlock_1 (by decide) (fun h1 => ?_) (fun h1 => ?_)
  · exact thr (E := IAE) (tx := "block is not 0..99") hx hb hls hF hown hg (by decide +kernel) (by decide +kernel) w_83 w_6 atG_A atB_A atO_A (by decide +kernel) (hl.1.trans hml.symm) dX_checkBlock_10 dX_checkBlock_13 dX_checkBlock_14 dX_checkBlock_16 dX_checkBlock_19 htab ⟨(Nat.le_of_ble_eq_true rfl), (Nat.le_of_ble_eq_true rfl), (Nat.le_of_ble_eq_true rfl), (Nat.le_of_ble_eq_true rfl)⟩ hlocks
  · refine lv_iload_n hx hb dX_checkBlock_4 rfl (lv_at hl 0 rfl) ?_
    refine lv_bipush (v := nI 100) hx hb dX_checkBlock_5 (by decide +kernel) ?_
    refine lv_icmp_lt (tgt := 20) hx hb dX_checkBlock_7 (by decide) (fun h7 => absurd h7 (inR_f hbad h1)) (fun h7 => ?_)
    exact thr (E := IAE) (tx := "block is not 0..99") hx hb hls hF hown hg (by decide +kernel) (by decide +kernel) w_83 w_6 atG_A atB_A atO_A (by decide +kernel) (hl.1.trans hml.symm) dX_checkBlock_10 dX_checkBlock_13 dX_checkBlock_14 dX_checkBlock_16 dX_checkBlock_19 htab ⟨(Nat.le_of_ble_eq_true rfl), (Nat.le_of_ble_eq_true rfl), (Nat.le_of_ble_eq_true rfl), (Nat.le_of_ble_eq_true rfl)⟩ hlocks
set_option maxHeartbeats 4000000 in
set_option maxRecDepth 100000 in
theorem mX_checkStanding_ok (l : Launch) (D : va_G) (o a b : Nat) (cA iA : ClassId) (cf : Nat → Int64) (uf : Nat → Int32) (d t h : Nat) (hd : d < 5) (ht : t < 100) (hh : h < 2) (hu : ¬ uf d = -1) : Met l yX_checkStanding (.code yX_checkStanding cX_checkStanding 4 none :: gW) ({ frames := 7, cells := 0, slots := 0, locals := 116 }) (pW D (wX o a b cA iA cf uf) (kT cA iA) [.ref o, .int (nI d), .int (nI t), .int (nI h)]) (QN) 0 0 (fun _ => False) := by
  refine Met.ofW (cc := cX_checkStanding) (maxL := 4) (ret := none) (by decide) rfl ?_
  intro p e s m args below meth c s₁ B hml hv
  obtain ⟨rfl, hP, hK⟩ := hv
  have hx := B.exec
  have hb := B.bytes
  have hr := B.returns
  have hts := atoms_spec (ws := (.code yX_checkStanding cX_checkStanding 4 none :: gW)) B.pre
  have hg : ∀ w ∈ gW, w.before ([.ref o, .int (nI d), .int (nI t), .int (nI h)]).toArray s = true := fun w h => hts w (List.mem_cons_of_mem _ h)
  have hown : s.vm.findClass R_X = some m.cls := findClass_of_methodNamed B.named
  have hlocks := B.notSynchronized
  have hl := lv_entry ([.ref o, .int (nI d), .int (nI t), .int (nI h)]) (n := 4) (Nat.le_of_ble_eq_true rfl)
  rw [lg_entry_eq]
  generalize (lg_sl ([.ref o, .int (nI d), .int (nI t), .int (nI h)]) ++ List.replicate (4 - (lg_sl ([.ref o, .int (nI d), .int (nI t), .int (nI h)])).length) Slot.unset).toArray = ls at hl ⊢
  have hl : lv_has ls 4 [(0, .ref o), (1, .int (nI d)), (2, .int (nI t)), (3, .int (nI h))] := hl
  refine lv_iload_n hx hb dX_checkStanding_0 rfl (lv_at hl 1 rfl) ?_
  refine kSn (n := 1) (As := [.int (nI d)]) (rest := []) ⟨hx, hb, hml, hown, hts⟩ (mX_checkDisk_ok l d (by omega)) w_190 w_191 w_1 w_192 (by decide +kernel) ⟨rfl, rfl⟩ ⟨(Nat.le_of_ble_eq_true rfl), (Nat.le_of_ble_eq_true rfl)⟩ rfl hl.1 rfl (Nat.le_of_ble_eq_true rfl) dX_checkStanding_1 ⟨Nat.zero_le _, Nat.zero_le _⟩ ?_
  refine lv_iload_n hx hb dX_checkStanding_4 rfl (lv_at hl 2 rfl) ?_
  refine kSn (n := 1) (As := [.int (nI t)]) (rest := []) ⟨hx, hb, hml, hown, hts⟩ (mX_checkBlock_ok l t (by omega)) w_245 w_246 w_1 w_247 (by decide +kernel) ⟨rfl, rfl⟩ ⟨(Nat.le_of_ble_eq_true rfl), (Nat.le_of_ble_eq_true rfl)⟩ rfl hl.1 rfl (Nat.le_of_ble_eq_true rfl) dX_checkStanding_5 ⟨Nat.zero_le _, Nat.zero_le _⟩ ?_
  refine lv_iload_n hx hb dX_checkStanding_8 rfl (lv_at hl 3 rfl) ?_
  refine kSn (n := 1) (As := [.int (nI h)]) (rest := []) ⟨hx, hb, hml, hown, hts⟩ (mX_checkHalf_ok l h (by omega)) w_151 w_152 w_1 w_153 (by decide +kernel) ⟨rfl, rfl⟩ ⟨(Nat.le_of_ble_eq_true rfl), (Nat.le_of_ble_eq_true rfl)⟩ rfl hl.1 rfl (Nat.le_of_ble_eq_true rfl) dX_checkStanding_9 ⟨Nat.zero_le _, Nat.zero_le _⟩ ?_
  refine lv_aload_n hx hb dX_checkStanding_12 rfl (lv_at hl 0 rfl) ?_
  refine va_get (D := D) (ci := 0) (v := .ref b) (C := R_X) (T := T_X) (N := 2) hx hb hg uX_in hown hK hP 0 rfl rfl 1 (by decide) (hg _ w_19) (fun _ h9 => h9) rfl dX_checkStanding_13 ?_
  refine lv_iload_n hx hb dX_checkStanding_16 rfl (lv_at hl 1 rfl) ?_
  refine aI hx hb hK hP 2 1 rfl rfl (by omega) (by decide) dX_checkStanding_17 ?_
  refine lv_iconst (v := -1) hx hb dX_checkStanding_18 (by decide +kernel) ?_
  refine lv_icmp_ne (tgt := 32) hx hb dX_checkStanding_19 (by decide) (fun h19 => ?_) (fun h19 => absurd h19 hu)
  exact W.vret hx hb hr (fun t9 ht9 _ => ⟨rfl, ht9⟩) (fun _ h9 => nomatch h9) dX_checkStanding_32
set_option maxHeartbeats 4000000 in
set_option maxRecDepth 100000 in
theorem mX_checkStanding_a (l : Launch) (hls : l.stackTraces = false) (D : va_G) (o a b : Nat) (cA iA : ClassId) (cf : Nat → Int64) (uf : Nat → Int32) (x y z : Int32) (hbad : (inR x 5 && (inR y 100 && inR z 2)) = false) : vx_Met l yX_checkStanding (.code yX_checkStanding cX_checkStanding 4 none :: gW) ({ frames := 7, cells := 1, slots := 6, locals := 116 }) (pTW D (wX o a b cA iA cf uf) (kT cA iA) [.ref o, .int x, .int y, .int z]) qNv (XE IAE) 1 6 (fun _ => False) := by
  refine vx_ofW (cc := cX_checkStanding) (maxL := 4) (ret := none) (by decide) rfl ?_
  intro p e s m args below meth c s₁ B hml htab hv
  obtain ⟨rfl, hF, hP, hK⟩ := hv
  have hx := B.exec
  have hb := B.bytes
  have hr := B.returns
  have hts := atoms_spec (ws := (.code yX_checkStanding cX_checkStanding 4 none :: gW)) B.pre
  have hg : ∀ w ∈ gW, w.before ([.ref o, .int x, .int y, .int z]).toArray s = true := fun w h => hts w (List.mem_cons_of_mem _ h)
  have hown : s.vm.findClass R_X = some m.cls := findClass_of_methodNamed B.named
  have hlocks := B.notSynchronized
  have hl := lv_entry ([.ref o, .int x, .int y, .int z]) (n := 4) (Nat.le_of_ble_eq_true rfl)
  rw [lg_entry_eq]
  generalize (lg_sl ([.ref o, .int x, .int y, .int z]) ++ List.replicate (4 - (lg_sl ([.ref o, .int x, .int y, .int z])).length) Slot.unset).toArray = ls at hl ⊢
  have hl : lv_has ls 4 [(0, .ref o), (1, .int x), (2, .int y), (3, .int z)] := hl
  refine lv_iload_n hx hb dX_checkStanding_0 rfl (lv_at hl 1 rfl) ?_
  by_cases c1 : inR x 5 = true
  · obtain ⟨d, hd, rfl⟩ := inR_nat (by decide) c1
    refine kSn (n := 1) (As := [.int (nI d)]) (rest := []) ⟨hx, hb, hml, hown, hts⟩ (mX_checkDisk_ok l d (by omega)) w_190 w_191 w_1 w_192 (by decide +kernel) ⟨rfl, rfl⟩ ⟨(Nat.le_of_ble_eq_true rfl), (Nat.le_of_ble_eq_true rfl)⟩ rfl hl.1 rfl (Nat.le_of_ble_eq_true rfl) dX_checkStanding_1 ⟨Nat.zero_le _, Nat.zero_le _⟩ ?_
    refine lv_iload_n hx hb dX_checkStanding_4 rfl (lv_at hl 2 rfl) ?_
    by_cases c5 : inR y 100 = true
    · obtain ⟨t, ht, rfl⟩ := inR_nat (by decide) c5
      refine kSn (n := 1) (As := [.int (nI t)]) (rest := []) ⟨hx, hb, hml, hown, hts⟩ (mX_checkBlock_ok l t (by omega)) w_245 w_246 w_1 w_247 (by decide +kernel) ⟨rfl, rfl⟩ ⟨(Nat.le_of_ble_eq_true rfl), (Nat.le_of_ble_eq_true rfl)⟩ rfl hl.1 rfl (Nat.le_of_ble_eq_true rfl) dX_checkStanding_5 ⟨Nat.zero_le _, Nat.zero_le _⟩ ?_
      refine lv_iload_n hx hb dX_checkStanding_8 rfl (lv_at hl 3 rfl) ?_
      by_cases c9 : inR z 2 = true
      · obtain ⟨h, hh, rfl⟩ := inR_nat (by decide) c9
        refine kSn (n := 1) (As := [.int (nI h)]) (rest := []) ⟨hx, hb, hml, hown, hts⟩ (mX_checkHalf_ok l h (by omega)) w_151 w_152 w_1 w_153 (by decide +kernel) ⟨rfl, rfl⟩ ⟨(Nat.le_of_ble_eq_true rfl), (Nat.le_of_ble_eq_true rfl)⟩ rfl hl.1 rfl (Nat.le_of_ble_eq_true rfl) dX_checkStanding_9 ⟨Nat.zero_le _, Nat.zero_le _⟩ ?_
        rw [c1, c5, c9] at hbad
        exact Bool.noConfusion hbad
      · exact passS (n := 1) (As := [.int z]) (rest := []) ⟨hx, hb, hml, hown, hts⟩ (mX_checkHalf_bad l hls z (Bool.eq_false_iff.mpr c9)) w_151 w_152 w_1 w_153 (by decide +kernel) ⟨rfl, rfl⟩ ⟨(Nat.le_of_ble_eq_true rfl), (Nat.le_of_ble_eq_true rfl)⟩ hF rfl hl.1 rfl (Nat.le_of_ble_eq_true rfl) dX_checkStanding_9 ⟨(Nat.le_of_ble_eq_true rfl), (Nat.le_of_ble_eq_true rfl)⟩ htab hlocks
    · exact passS (n := 1) (As := [.int y]) (rest := []) ⟨hx, hb, hml, hown, hts⟩ (mX_checkBlock_bad l hls y (Bool.eq_false_iff.mpr c5)) w_245 w_246 w_1 w_247 (by decide +kernel) ⟨rfl, rfl⟩ ⟨(Nat.le_of_ble_eq_true rfl), (Nat.le_of_ble_eq_true rfl)⟩ hF rfl hl.1 rfl (Nat.le_of_ble_eq_true rfl) dX_checkStanding_5 ⟨(Nat.le_of_ble_eq_true rfl), (Nat.le_of_ble_eq_true rfl)⟩ htab hlocks
  · exact passS (n := 1) (As := [.int x]) (rest := []) ⟨hx, hb, hml, hown, hts⟩ (mX_checkDisk_bad l hls x (Bool.eq_false_iff.mpr c1)) w_190 w_191 w_1 w_192 (by decide +kernel) ⟨rfl, rfl⟩ ⟨(Nat.le_of_ble_eq_true rfl), (Nat.le_of_ble_eq_true rfl)⟩ hF rfl hl.1 rfl (Nat.le_of_ble_eq_true rfl) dX_checkStanding_1 ⟨(Nat.le_of_ble_eq_true rfl), (Nat.le_of_ble_eq_true rfl)⟩ htab hlocks
set_option maxHeartbeats 4000000 in
set_option maxRecDepth 100000 in
theorem mX_checkStanding_s (l : Launch) (hls : l.stackTraces = false) (D : va_G) (o a b : Nat) (cA iA : ClassId) (cf : Nat → Int64) (uf : Nat → Int32) (d t h : Nat) (hd : d < 5) (ht : t < 100) (hh : h < 2) (hu : uf d = -1) : vx_Met l yX_checkStanding (.code yX_checkStanding cX_checkStanding 4 none :: gW) ({ frames := 7, cells := 1, slots := 6, locals := 116 }) (pTW D (wX o a b cA iA cf uf) (kT cA iA) [.ref o, .int (nI d), .int (nI t), .int (nI h)]) qNv (XE ISE) 1 6 (fun _ => False) := by
  refine vx_ofW (cc := cX_checkStanding) (maxL := 4) (ret := none) (by decide) rfl ?_
  intro p e s m args below meth c s₁ B hml htab hv
  obtain ⟨rfl, hF, hP, hK⟩ := hv
  have hx := B.exec
  have hb := B.bytes
  have hr := B.returns
  have hts := atoms_spec (ws := (.code yX_checkStanding cX_checkStanding 4 none :: gW)) B.pre
  have hg : ∀ w ∈ gW, w.before ([.ref o, .int (nI d), .int (nI t), .int (nI h)]).toArray s = true := fun w h => hts w (List.mem_cons_of_mem _ h)
  have hown : s.vm.findClass R_X = some m.cls := findClass_of_methodNamed B.named
  have hlocks := B.notSynchronized
  have hl := lv_entry ([.ref o, .int (nI d), .int (nI t), .int (nI h)]) (n := 4) (Nat.le_of_ble_eq_true rfl)
  rw [lg_entry_eq]
  generalize (lg_sl ([.ref o, .int (nI d), .int (nI t), .int (nI h)]) ++ List.replicate (4 - (lg_sl ([.ref o, .int (nI d), .int (nI t), .int (nI h)])).length) Slot.unset).toArray = ls at hl ⊢
  have hl : lv_has ls 4 [(0, .ref o), (1, .int (nI d)), (2, .int (nI t)), (3, .int (nI h))] := hl
  refine lv_iload_n hx hb dX_checkStanding_0 rfl (lv_at hl 1 rfl) ?_
  refine kSn (n := 1) (As := [.int (nI d)]) (rest := []) ⟨hx, hb, hml, hown, hts⟩ (mX_checkDisk_ok l d (by omega)) w_190 w_191 w_1 w_192 (by decide +kernel) ⟨rfl, rfl⟩ ⟨(Nat.le_of_ble_eq_true rfl), (Nat.le_of_ble_eq_true rfl)⟩ rfl hl.1 rfl (Nat.le_of_ble_eq_true rfl) dX_checkStanding_1 ⟨Nat.zero_le _, Nat.zero_le _⟩ ?_
  refine lv_iload_n hx hb dX_checkStanding_4 rfl (lv_at hl 2 rfl) ?_
  refine kSn (n := 1) (As := [.int (nI t)]) (rest := []) ⟨hx, hb, hml, hown, hts⟩ (mX_checkBlock_ok l t (by omega)) w_245 w_246 w_1 w_247 (by decide +kernel) ⟨rfl, rfl⟩ ⟨(Nat.le_of_ble_eq_true rfl), (Nat.le_of_ble_eq_true rfl)⟩ rfl hl.1 rfl (Nat.le_of_ble_eq_true rfl) dX_checkStanding_5 ⟨Nat.zero_le _, Nat.zero_le _⟩ ?_
  refine lv_iload_n hx hb dX_checkStanding_8 rfl (lv_at hl 3 rfl) ?_
  refine kSn (n := 1) (As := [.int (nI h)]) (rest := []) ⟨hx, hb, hml, hown, hts⟩ (mX_checkHalf_ok l h (by omega)) w_151 w_152 w_1 w_153 (by decide +kernel) ⟨rfl, rfl⟩ ⟨(Nat.le_of_ble_eq_true rfl), (Nat.le_of_ble_eq_true rfl)⟩ rfl hl.1 rfl (Nat.le_of_ble_eq_true rfl) dX_checkStanding_9 ⟨Nat.zero_le _, Nat.zero_le _⟩ ?_
  refine lv_aload_n hx hb dX_checkStanding_12 rfl (lv_at hl 0 rfl) ?_
  refine va_get (D := D) (ci := 0) (v := .ref b) (C := R_X) (T := T_X) (N := 2) hx hb hg uX_in hown hK hP 0 rfl rfl 1 (by decide) (hg _ w_19) (fun _ h9 => h9) rfl dX_checkStanding_13 ?_
  refine lv_iload_n hx hb dX_checkStanding_16 rfl (lv_at hl 1 rfl) ?_
  refine aI hx hb hK hP 2 1 rfl rfl (by omega) (by decide) dX_checkStanding_17 ?_
  refine lv_iconst (v := -1) hx hb dX_checkStanding_18 (by decide +kernel) ?_
  refine lv_icmp_ne (tgt := 32) hx hb dX_checkStanding_19 (by decide) (fun h19 => absurd h19 (fun z => z hu)) (fun h19 => ?_)
  exact thr (E := ISE) (tx := "the disk failed") hx hb hls hF hown hg (by decide +kernel) (by decide +kernel) w_202 w_8 atG_S atB_S atO_S (by decide +kernel) (hl.1.trans hml.symm) dX_checkStanding_22 dX_checkStanding_25 dX_checkStanding_26 dX_checkStanding_28 dX_checkStanding_31 htab ⟨(Nat.le_of_ble_eq_true rfl), (Nat.le_of_ble_eq_true rfl), (Nat.le_of_ble_eq_true rfl), (Nat.le_of_ble_eq_true rfl)⟩ hlocks
