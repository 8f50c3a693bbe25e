set_option maxHeartbeats 4000000 in
set_option maxRecDepth 100000 in
theorem mX_read_a (l : Launch) (hls : l.stackTraces = false) (D : va_G) (o a b : Nat) (cA iA : ClassId) (cf : Nat → Int64) (uf : Nat → Int32) (x y : Int32) (hbad : (inR x 400 && inR y 2) = false) : vx_Met l yX_read (.code yX_read cX_read 5 (some .long) :: gW) ({ frames := 7, cells := 1, slots := 6, locals := 116 }) (pTW D (wX o a b cA iA cf uf) (kT cA iA) [.ref o, .int x, .int y]) qNl (XE IAE) 1 6 (fun _ => False) := by
  refine vx_ofW (cc := cX_read) (maxL := 5) (ret := (some .long)) (by decide) rfl ?_
  intro p e s m args below meth c s₁ B hml htab hv
  obtain ⟨rfl, hF, hP, hK⟩ := hv
  have hx := B.exec
  have hb := B.bytes
  have hr := B.returns
  have hts := atoms_spec (ws := (.code yX_read cX_read 5 (some .long) :: gW)) B.pre
  have hg : ∀ w ∈ gW, w.before ([.ref o, .int x, .int y]).toArray s = true := fun w h => hts w (List.mem_cons_of_mem _ h)
  have hown : s.vm.findClass R_X = some m.cls := findClass_of_methodNamed B.named
  have hlocks := B.notSynchronized
  have hl := lv_entry ([.ref o, .int x, .int y]) (n := 5) (Nat.le_of_ble_eq_true rfl)
  rw [lg_entry_eq]
  generalize (lg_sl ([.ref o, .int x, .int y]) ++ List.replicate (5 - (lg_sl ([.ref o, .int x, .int y])).length) Slot.unset).toArray = ls at hl ⊢
  have hl : lv_has ls 5 [(0, .ref o), (1, .int x), (2, .int y)] := hl
  refine lv_iload_n hx hb dX_read_0 rfl (lv_at hl 1 rfl) ?_
  by_cases c1 : inR x 400 = true
  · obtain ⟨q, hq, rfl⟩ := inR_nat (by decide) c1
    refine kSn (n := 1) (As := [.int (nI q)]) (rest := []) ⟨hx, hb, hml, hown, hts⟩ (mX_checkPlace_ok l q (by omega)) w_80 w_81 w_1 w_82 (by decide +kernel) ⟨rfl, rfl⟩ ⟨(Nat.le_of_ble_eq_true rfl), (Nat.le_of_ble_eq_true rfl)⟩ rfl hl.1 rfl (Nat.le_of_ble_eq_true rfl) dX_read_1 ⟨Nat.zero_le _, Nat.zero_le _⟩ ?_
    refine lv_iload_n hx hb dX_read_4 rfl (lv_at hl 2 rfl) ?_
    by_cases c5 : inR y 2 = true
    · obtain ⟨h, hh, rfl⟩ := inR_nat (by decide) c5
      refine kSn (n := 1) (As := [.int (nI h)]) (rest := []) ⟨hx, hb, hml, hown, hts⟩ (mX_checkHalf_ok l h (by omega)) w_151 w_152 w_1 w_153 (by decide +kernel) ⟨rfl, rfl⟩ ⟨(Nat.le_of_ble_eq_true rfl), (Nat.le_of_ble_eq_true rfl)⟩ rfl hl.1 rfl (Nat.le_of_ble_eq_true rfl) dX_read_5 ⟨Nat.zero_le _, Nat.zero_le _⟩ ?_
      rw [c1, c5] at hbad
      exact Bool.noConfusion hbad
    · exact passS (n := 1) (As := [.int y]) (rest := []) ⟨hx, hb, hml, hown, hts⟩ (mX_checkHalf_bad l hls y (Bool.eq_false_iff.mpr c5)) w_151 w_152 w_1 w_153 (by decide +kernel) ⟨rfl, rfl⟩ ⟨(Nat.le_of_ble_eq_true rfl), (Nat.le_of_ble_eq_true rfl)⟩ hF rfl hl.1 rfl (Nat.le_of_ble_eq_true rfl) dX_read_5 ⟨(Nat.le_of_ble_eq_true rfl), (Nat.le_of_ble_eq_true rfl)⟩ htab hlocks
  · exact passS (n := 1) (As := [.int x]) (rest := []) ⟨hx, hb, hml, hown, hts⟩ (mX_checkPlace_bad l hls x (Bool.eq_false_iff.mpr c1)) w_80 w_81 w_1 w_82 (by decide +kernel) ⟨rfl, rfl⟩ ⟨(Nat.le_of_ble_eq_true rfl), (Nat.le_of_ble_eq_true rfl)⟩ hF rfl hl.1 rfl (Nat.le_of_ble_eq_true rfl) dX_read_1 ⟨(Nat.le_of_ble_eq_true rfl), (Nat.le_of_ble_eq_true rfl)⟩ htab hlocks
set_option maxHeartbeats 4000000 in
set_option maxRecDepth 100000 in
theorem mX_read_u (l : Launch) (hls : l.stackTraces = false) (D : va_G) (o a b : Nat) (cA iA : ClassId) (cf : Nat → Int64) (uf : Nat → Int32) (q h : Nat) (hq : q < 400) (hh : h < 2) (hil : il uf (dk q) (q / 4) = true) : vx_Met l yX_read (.code yX_read cX_read 5 (some .long) :: gW) ({ frames := 7, cells := 1, slots := 6, locals := 116 }) (pTW D (wX o a b cA iA cf uf) (kT cA iA) [.ref o, .int (nI q), .int (nI h)]) qNl (XE UOE) 1 6 (fun _ => False) := by
  refine vx_ofW (cc := cX_read) (maxL := 5) (ret := (some .long)) (by decide) rfl ?_
  intro p e s m args below meth c s₁ B hml htab hv
  obtain ⟨rfl, hF, hP, hK⟩ := hv
  have hx := B.exec
  have hb := B.bytes
  have hr := B.returns
  have hts := atoms_spec (ws := (.code yX_read cX_read 5 (some .long) :: gW)) B.pre
  have hg : ∀ w ∈ gW, w.before ([.ref o, .int (nI q), .int (nI h)]).toArray s = true := fun w h => hts w (List.mem_cons_of_mem _ h)
  have hown : s.vm.findClass R_X = some m.cls := findClass_of_methodNamed B.named
  have hlocks := B.notSynchronized
  have hl := lv_entry ([.ref o, .int (nI q), .int (nI h)]) (n := 5) (Nat.le_of_ble_eq_true rfl)
  rw [lg_entry_eq]
  generalize (lg_sl ([.ref o, .int (nI q), .int (nI h)]) ++ List.replicate (5 - (lg_sl ([.ref o, .int (nI q), .int (nI h)])).length) Slot.unset).toArray = ls at hl ⊢
  have hl : lv_has ls 5 [(0, .ref o), (1, .int (nI q)), (2, .int (nI h))] := hl
  refine lv_iload_n hx hb dX_read_0 rfl (lv_at hl 1 rfl) ?_
  refine kSn (n := 1) (As := [.int (nI q)]) (rest := []) ⟨hx, hb, hml, hown, hts⟩ (mX_checkPlace_ok l q (by omega)) w_80 w_81 w_1 w_82 (by decide +kernel) ⟨rfl, rfl⟩ ⟨(Nat.le_of_ble_eq_true rfl), (Nat.le_of_ble_eq_true rfl)⟩ rfl hl.1 rfl (Nat.le_of_ble_eq_true rfl) dX_read_1 ⟨Nat.zero_le _, Nat.zero_le _⟩ ?_
  refine lv_iload_n hx hb dX_read_4 rfl (lv_at hl 2 rfl) ?_
  refine kSn (n := 1) (As := [.int (nI h)]) (rest := []) ⟨hx, hb, hml, hown, hts⟩ (mX_checkHalf_ok l h (by omega)) w_151 w_152 w_1 w_153 (by decide +kernel) ⟨rfl, rfl⟩ ⟨(Nat.le_of_ble_eq_true rfl), (Nat.le_of_ble_eq_true rfl)⟩ rfl hl.1 rfl (Nat.le_of_ble_eq_true rfl) dX_read_5 ⟨Nat.zero_le _, Nat.zero_le _⟩ ?_
  refine lv_iload_n hx hb dX_read_8 rfl (lv_at hl 1 rfl) ?_
  refine kS (n := 1) (As := [.int (nI q)]) (rest := []) ⟨hx, hb, hml, hown, hts⟩ (mX_stripeOf l q (by omega)) w_64 w_65 w_1 w_66 (by decide +kernel) ⟨rfl, rfl⟩ ⟨(Nat.le_of_ble_eq_true rfl), (Nat.le_of_ble_eq_true rfl)⟩ rfl hl.1 rfl (Nat.le_of_ble_eq_true rfl) dX_read_9 ⟨Nat.zero_le _, Nat.zero_le _⟩ ?_
  refine lv_istore_n hx hb dX_read_12 rfl hl (by decide) rfl (fun ls hl => ?_)
  have hl : lv_has ls 5 [(3, .int (nI (q / 4))), (0, .ref o), (1, .int (nI q)), (2, .int (nI h))] := hl
  refine lv_iload_n hx hb dX_read_13 rfl (lv_at hl 2 rfl) ?_
  refine kS (n := 1) (As := [.int (nI q)]) (rest := []) ⟨hx, hb, hml, hown, hts⟩ (mX_diskOf l q (by omega)) w_61 w_62 w_1 w_63 (by decide +kernel) ⟨rfl, rfl⟩ ⟨(Nat.le_of_ble_eq_true rfl), (Nat.le_of_ble_eq_true rfl)⟩ rfl hl.1 rfl (Nat.le_of_ble_eq_true rfl) dX_read_14 ⟨Nat.zero_le _, Nat.zero_le _⟩ ?_
  refine lv_istore hx hb dX_read_17 hl (by decide) rfl (fun ls hl => ?_)
  have hl : lv_has ls 5 [(4, .int (nI (dk q))), (3, .int (nI (q / 4))), (0, .ref o), (1, .int (nI q)), (2, .int (nI h))] := hl
  refine lv_aload_n hx hb dX_read_19 rfl (lv_at hl 2 rfl) ?_
  refine lv_iload hx hb dX_read_20 (lv_at hl 0 rfl) ?_
  refine lv_iload_n hx hb dX_read_22 rfl (lv_at hl 1 rfl) ?_
  refine kV (n := 2) (As := [.int (nI (dk q)), .int (nI (q / 4))]) (rest := []) ⟨hx, hb, hml, hown, hts⟩ (mX_isLost l D o a b cA iA cf uf (dk q) (q / 4) (dk_lt _) (by omega)) w_67 w_69 v_5 w_1 w_70 (by decide +kernel) ⟨rfl, rfl⟩ ⟨(Nat.le_of_ble_eq_true rfl), (Nat.le_of_ble_eq_true rfl)⟩ hP hK 0 0 rfl rfl rfl hl.1 rfl (Nat.le_of_ble_eq_true rfl) dX_read_23 ⟨Nat.zero_le _, Nat.zero_le _⟩ ?_
  refine lv_if_eq (tgt := 39) hx hb dX_read_26 (by decide) (fun h26 => absurd h26 (bi_nz hil)) (fun h26 => ?_)
  exact thr (E := UOE) (tx := "the place is lost") hx hb hls hF hown hg (by decide +kernel) (by decide +kernel) w_155 w_7 atG_U atB_U atO_U (by decide +kernel) (hl.1.trans hml.symm) dX_read_29 dX_read_32 dX_read_33 dX_read_35 dX_read_38 htab ⟨(Nat.le_of_ble_eq_true rfl), (Nat.le_of_ble_eq_true rfl), (Nat.le_of_ble_eq_true rfl), (Nat.le_of_ble_eq_true rfl)⟩ hlocks
set_option maxHeartbeats 4000000 in
set_option maxRecDepth 100000 in
theorem mX_write_a (l : Launch) (hls : l.stackTraces = false) (D : va_G) (o a b : Nat) (cA iA : ClassId) (cf : Nat → Int64) (uf : Nat → Int32) (x y : Int32) (v : Int64) (hbad : (inR x 400 && inR y 2) = false) : vx_Met l yX_write (.code yX_write cX_write 10 none :: gW) ({ frames := 7, cells := 1, slots := 6, locals := 116 }) (pTW D (wX o a b cA iA cf uf) (kT cA iA) [.ref o, .int x, .int y, .long v]) qNv (XE IAE) 1 6 (fun _ => False) := by
  refine vx_ofW (cc := cX_write) (maxL := 10) (ret := none) (by decide) rfl ?_
  intro p e s m args below meth c s₁ B hml htab hv
  obtain ⟨rfl, hF, hP, hK⟩ := hv
  have hx := B.exec
  have hb := B.bytes
  have hr := B.returns
  have hts := atoms_spec (ws := (.code yX_write cX_write 10 none :: gW)) B.pre
  have hg : ∀ w ∈ gW, w.before ([.ref o, .int x, .int y, .long v]).toArray s = true := fun w h => hts w (List.mem_cons_of_mem _ h)
  have hown : s.vm.findClass R_X = some m.cls := findClass_of_methodNamed B.named
  have hlocks := B.notSynchronized
  have hl := lv_entry ([.ref o, .int x, .int y, .long v]) (n := 10) (Nat.le_of_ble_eq_true rfl)
  rw [lg_entry_eq]
  generalize (lg_sl ([.ref o, .int x, .int y, .long v]) ++ List.replicate (10 - (lg_sl ([.ref o, .int x, .int y, .long v])).length) Slot.unset).toArray = ls at hl ⊢
  have hl : lv_has ls 10 [(0, .ref o), (1, .int x), (2, .int y), (3, .long v)] := hl
  refine lv_iload_n hx hb dX_write_0 rfl (lv_at hl 1 rfl) ?_
  by_cases c1 : inR x 400 = true
  · obtain ⟨q, hq, rfl⟩ := inR_nat (by decide) c1
    refine kSn (n := 1) (As := [.int (nI q)]) (rest := []) ⟨hx, hb, hml, hown, hts⟩ (mX_checkPlace_ok l q (by omega)) w_80 w_81 w_1 w_82 (by decide +kernel) ⟨rfl, rfl⟩ ⟨(Nat.le_of_ble_eq_true rfl), (Nat.le_of_ble_eq_true rfl)⟩ rfl hl.1 rfl (Nat.le_of_ble_eq_true rfl) dX_write_1 ⟨Nat.zero_le _, Nat.zero_le _⟩ ?_
    refine lv_iload_n hx hb dX_write_4 rfl (lv_at hl 2 rfl) ?_
    by_cases c5 : inR y 2 = true
    · obtain ⟨h, hh, rfl⟩ := inR_nat (by decide) c5
      refine kSn (n := 1) (As := [.int (nI h)]) (rest := []) ⟨hx, hb, hml, hown, hts⟩ (mX_checkHalf_ok l h (by omega)) w_151 w_152 w_1 w_153 (by decide +kernel) ⟨rfl, rfl⟩ ⟨(Nat.le_of_ble_eq_true rfl), (Nat.le_of_ble_eq_true rfl)⟩ rfl hl.1 rfl (Nat.le_of_ble_eq_true rfl) dX_write_5 ⟨Nat.zero_le _, Nat.zero_le _⟩ ?_
      rw [c1, c5] at hbad
      exact Bool.noConfusion hbad
    · exact passS (n := 1) (As := [.int y]) (rest := []) ⟨hx, hb, hml, hown, hts⟩ (mX_checkHalf_bad l hls y (Bool.eq_false_iff.mpr c5)) w_151 w_152 w_1 w_153 (by decide +kernel) ⟨rfl, rfl⟩ ⟨(Nat.le_of_ble_eq_true rfl), (Nat.le_of_ble_eq_true rfl)⟩ hF rfl hl.1 rfl (Nat.le_of_ble_eq_true rfl) dX_write_5 ⟨(Nat.le_of_ble_eq_true rfl), (Nat.le_of_ble_eq_true rfl)⟩ htab hlocks
  · exact passS (n := 1) (As := [.int x]) (rest := []) ⟨hx, hb, hml, hown, hts⟩ (mX_checkPlace_bad l hls x (Bool.eq_false_iff.mpr c1)) w_80 w_81 w_1 w_82 (by decide +kernel) ⟨rfl, rfl⟩ ⟨(Nat.le_of_ble_eq_true rfl), (Nat.le_of_ble_eq_true rfl)⟩ hF rfl hl.1 rfl (Nat.le_of_ble_eq_true rfl) dX_write_1 ⟨(Nat.le_of_ble_eq_true rfl), (Nat.le_of_ble_eq_true rfl)⟩ htab hlocks
set_option maxHeartbeats 4000000 in
set_option maxRecDepth 100000 in
theorem mX_write_u (l : Launch) (hls : l.stackTraces = false) (D : va_G) (o a b : Nat) (cA iA : ClassId) (cf : Nat → Int64) (uf : Nat → Int32) (q h : Nat) (hq : q < 400) (hh : h < 2) (v : Int64) (hil : il uf (dk q) (q / 4) = true) : vx_Met l yX_write (.code yX_write cX_write 10 none :: gW) ({ frames := 7, cells := 1, slots := 6, locals := 116 }) (pTW D (wX o a b cA iA cf uf) (kT cA iA) [.ref o, .int (nI q), .int (nI h), .long v]) qNv (XE UOE) 1 6 (fun _ => False) := by
  refine vx_ofW (cc := cX_write) (maxL := 10) (ret := none) (by decide) rfl ?_
  intro p e s m args below meth c s₁ B hml htab hv
  obtain ⟨rfl, hF, hP, hK⟩ := hv
  have hx := B.exec
  have hb := B.bytes
  have hr := B.returns
  have hts := atoms_spec (ws := (.code yX_write cX_write 10 none :: gW)) B.pre
  have hg : ∀ w ∈ gW, w.before ([.ref o, .int (nI q), .int (nI h), .long v]).toArray s = true := fun w h => hts w (List.mem_cons_of_mem _ h)
  have hown : s.vm.findClass R_X = some m.cls := findClass_of_methodNamed B.named
  have hlocks := B.notSynchronized
  have hl := lv_entry ([.ref o, .int (nI q), .int (nI h), .long v]) (n := 10) (Nat.le_of_ble_eq_true rfl)
  rw [lg_entry_eq]
  generalize (lg_sl ([.ref o, .int (nI q), .int (nI h), .long v]) ++ List.replicate (10 - (lg_sl ([.ref o, .int (nI q), .int (nI h), .long v])).length) Slot.unset).toArray = ls at hl ⊢
  have hl : lv_has ls 10 [(0, .ref o), (1, .int (nI q)), (2, .int (nI h)), (3, .long v)] := hl
  refine lv_iload_n hx hb dX_write_0 rfl (lv_at hl 1 rfl) ?_
  refine kSn (n := 1) (As := [.int (nI q)]) (rest := []) ⟨hx, hb, hml, hown, hts⟩ (mX_checkPlace_ok l q (by omega)) w_80 w_81 w_1 w_82 (by decide +kernel) ⟨rfl, rfl⟩ ⟨(Nat.le_of_ble_eq_true rfl), (Nat.le_of_ble_eq_true rfl)⟩ rfl hl.1 rfl (Nat.le_of_ble_eq_true rfl) dX_write_1 ⟨Nat.zero_le _, Nat.zero_le _⟩ ?_
  refine lv_iload_n hx hb dX_write_4 rfl (lv_at hl 2 rfl) ?_
  refine kSn (n := 1) (As := [.int (nI h)]) (rest := []) ⟨hx, hb, hml, hown, hts⟩ (mX_checkHalf_ok l h (by omega)) w_151 w_152 w_1 w_153 (by decide +kernel) ⟨rfl, rfl⟩ ⟨(Nat.le_of_ble_eq_true rfl), (Nat.le_of_ble_eq_true rfl)⟩ rfl hl.1 rfl (Nat.le_of_ble_eq_true rfl) dX_write_5 ⟨Nat.zero_le _, Nat.zero_le _⟩ ?_
  refine lv_iload_n hx hb dX_write_8 rfl (lv_at hl 1 rfl) ?_
  refine kS (n := 1) (As := [.int (nI q)]) (rest := []) ⟨hx, hb, hml, hown, hts⟩ (mX_stripeOf l q (by omega)) w_64 w_65 w_1 w_66 (by decide +kernel) ⟨rfl, rfl⟩ ⟨(Nat.le_of_ble_eq_true rfl), (Nat.le_of_ble_eq_true rfl)⟩ rfl hl.1 rfl (Nat.le_of_ble_eq_true rfl) dX_write_9 ⟨Nat.zero_le _, Nat.zero_le _⟩ ?_
  refine lv_istore hx hb dX_write_12 hl (by decide) rfl (fun ls hl => ?_)
  have hl : lv_has ls 10 [(5, .int (nI (q / 4))), (0, .ref o), (1, .int (nI q)), (2, .int (nI h)), (3, .long v)] := hl
  refine lv_iload_n hx hb dX_write_14 rfl (lv_at hl 2 rfl) ?_
  refine kS (n := 1) (As := [.int (nI q)]) (rest := []) ⟨hx, hb, hml, hown, hts⟩ (mX_diskOf l q (by omega)) w_61 w_62 w_1 w_63 (by decide +kernel) ⟨rfl, rfl⟩ ⟨(Nat.le_of_ble_eq_true rfl), (Nat.le_of_ble_eq_true rfl)⟩ rfl hl.1 rfl (Nat.le_of_ble_eq_true rfl) dX_write_15 ⟨Nat.zero_le _, Nat.zero_le _⟩ ?_
  refine lv_istore hx hb dX_write_18 hl (by decide) rfl (fun ls hl => ?_)
  have hl : lv_has ls 10 [(6, .int (nI (dk q))), (5, .int (nI (q / 4))), (0, .ref o), (1, .int (nI q)), (2, .int (nI h)), (3, .long v)] := hl
  refine lv_aload_n hx hb dX_write_20 rfl (lv_at hl 2 rfl) ?_
  refine lv_iload hx hb dX_write_21 (lv_at hl 0 rfl) ?_
  refine lv_iload hx hb dX_write_23 (lv_at hl 1 rfl) ?_
  refine kV (n := 2) (As := [.int (nI (dk q)), .int (nI (q / 4))]) (rest := []) ⟨hx, hb, hml, hown, hts⟩ (mX_isLost l D o a b cA iA cf uf (dk q) (q / 4) (dk_lt _) (by omega)) w_67 w_69 v_5 w_1 w_70 (by decide +kernel) ⟨rfl, rfl⟩ ⟨(Nat.le_of_ble_eq_true rfl), (Nat.le_of_ble_eq_true rfl)⟩ hP hK 0 0 rfl rfl rfl hl.1 rfl (Nat.le_of_ble_eq_true rfl) dX_write_25 ⟨Nat.zero_le _, Nat.zero_le _⟩ ?_
  refine lv_if_eq (tgt := 41) hx hb dX_write_28 (by decide) (fun h28 => absurd h28 (bi_nz hil)) (fun h28 => ?_)
  exact thr (E := UOE) (tx := "the write is refused") hx hb hls hF hown hg (by decide +kernel) (by decide +kernel) w_155 w_7 atG_U atB_U atO_U (by decide +kernel) (hl.1.trans hml.symm) dX_write_31 dX_write_34 dX_write_35 dX_write_37 dX_write_40 htab ⟨(Nat.le_of_ble_eq_true rfl), (Nat.le_of_ble_eq_true rfl), (Nat.le_of_ble_eq_true rfl), (Nat.le_of_ble_eq_true rfl)⟩ hlocks
set_option maxHeartbeats 4000000 in
set_option maxRecDepth 100000 in
theorem mX_fail_a (l : Launch) (hls : l.stackTraces = false) (D : va_G) (o a b : Nat) (cA iA : ClassId) (cf : Nat → Int64) (uf : Nat → Int32) (x : Int32) (hbad : inR x 5 = false) : vx_Met l yX_fail (.code yX_fail cX_fail 2 none :: gW) ({ frames := 7, cells := 1, slots := 6, locals := 116 }) (pTW D (wX o a b cA iA cf uf) (kT cA iA) [.ref o, .int x]) qNv (XE IAE) 1 6 (fun _ => False) := by
  refine vx_ofW (cc := cX_fail) (maxL := 2) (ret := none) (by decide) rfl ?_
  intro p e s m args below meth c s₁ B hml htab hv
  obtain ⟨rfl, hF, hP, hK⟩ := hv
  have hx := B.exec
  have hb := B.bytes
  have hr := B.returns
  have hts := atoms_spec (ws := (.code yX_fail cX_fail 2 none :: gW)) B.pre
  have hg : ∀ w ∈ gW, w.before ([.ref o, .int x]).toArray s = true := fun w h => hts w (List.mem_cons_of_mem _ h)
  have hown : s.vm.findClass R_X = some m.cls := findClass_of_methodNamed B.named
  have hlocks := B.notSynchronized
  have hl := lv_entry ([.ref o, .int x]) (n := 2) (Nat.le_of_ble_eq_true rfl)
  rw [lg_entry_eq]
  generalize (lg_sl ([.ref o, .int x]) ++ List.replicate (2 - (lg_sl ([.ref o, .int x])).length) Slot.unset).toArray = ls at hl ⊢
  have hl : lv_has ls 2 [(0, .ref o), (1, .int x)] := hl
  refine lv_iload_n hx hb dX_fail_0 rfl (lv_at hl 1 rfl) ?_
  by_cases c1 : inR x 5 = true
  · obtain ⟨d, hd, rfl⟩ := inR_nat (by decide) c1
    refine kSn (n := 1) (As := [.int (nI d)]) (rest := []) ⟨hx, hb, hml, hown, hts⟩ (mX_checkDisk_ok l d (by omega)) w_190 w_191 w_1 w_192 (by decide +kernel) ⟨rfl, rfl⟩ ⟨(Nat.le_of_ble_eq_true rfl), (Nat.le_of_ble_eq_true rfl)⟩ rfl hl.1 rfl (Nat.le_of_ble_eq_true rfl) dX_fail_1 ⟨Nat.zero_le _, Nat.zero_le _⟩ ?_
    exact absurd (c1.symm.trans hbad) Bool.noConfusion
  · exact passS (n := 1) (As := [.int x]) (rest := []) ⟨hx, hb, hml, hown, hts⟩ (mX_checkDisk_bad l hls x (Bool.eq_false_iff.mpr c1)) w_190 w_191 w_1 w_192 (by decide +kernel) ⟨rfl, rfl⟩ ⟨(Nat.le_of_ble_eq_true rfl), (Nat.le_of_ble_eq_true rfl)⟩ hF rfl hl.1 rfl (Nat.le_of_ble_eq_true rfl) dX_fail_1 ⟨(Nat.le_of_ble_eq_true rfl), (Nat.le_of_ble_eq_true rfl)⟩ htab hlocks
set_option maxHeartbeats 4000000 in
set_option maxRecDepth 100000 in
theorem mX_replace_a (l : Launch) (hls : l.stackTraces = false) (D : va_G) (o a b : Nat) (cA iA : ClassId) (cf : Nat → Int64) (uf : Nat → Int32) (x : Int32) (hbad : inR x 5 = false) : vx_Met l yX_replace (.code yX_replace cX_replace 4 none :: gW) ({ frames := 7, cells := 1, slots := 6, locals := 116 }) (pTW D (wX o a b cA iA cf uf) (kT cA iA) [.ref o, .int x]) qNv (XE IAE) 1 6 (fun _ => False) := by
  refine vx_ofW (cc := cX_replace) (maxL := 4) (ret := none) (by decide) rfl ?_
  intro p e s m args below meth c s₁ B hml htab hv
  obtain ⟨rfl, hF, hP, hK⟩ := hv
  have hx := B.exec
  have hb := B.bytes
  have hr := B.returns
  have hts := atoms_spec (ws := (.code yX_replace cX_replace 4 none :: gW)) B.pre
  have hg : ∀ w ∈ gW, w.before ([.ref o, .int x]).toArray s = true := fun w h => hts w (List.mem_cons_of_mem _ h)
  have hown : s.vm.findClass R_X = some m.cls := findClass_of_methodNamed B.named
  have hlocks := B.notSynchronized
  have hl := lv_entry ([.ref o, .int x]) (n := 4) (Nat.le_of_ble_eq_true rfl)
  rw [lg_entry_eq]
  generalize (lg_sl ([.ref o, .int x]) ++ List.replicate (4 - (lg_sl ([.ref o, .int x])).length) Slot.unset).toArray = ls at hl ⊢
  have hl : lv_has ls 4 [(0, .ref o), (1, .int x)] := hl
  refine lv_iload_n hx hb dX_replace_0 rfl (lv_at hl 1 rfl) ?_
  by_cases c1 : inR x 5 = true
  · obtain ⟨d, hd, rfl⟩ := inR_nat (by decide) c1
    refine kSn (n := 1) (As := [.int (nI d)]) (rest := []) ⟨hx, hb, hml, hown, hts⟩ (mX_checkDisk_ok l d (by omega)) w_190 w_191 w_1 w_192 (by decide +kernel) ⟨rfl, rfl⟩ ⟨(Nat.le_of_ble_eq_true rfl), (Nat.le_of_ble_eq_true rfl)⟩ rfl hl.1 rfl (Nat.le_of_ble_eq_true rfl) dX_replace_1 ⟨Nat.zero_le _, Nat.zero_le _⟩ ?_
    exact absurd (c1.symm.trans hbad) Bool.noConfusion
  · exact passS (n := 1) (As := [.int x]) (rest := []) ⟨hx, hb, hml, hown, hts⟩ (mX_checkDisk_bad l hls x (Bool.eq_false_iff.mpr c1)) w_190 w_191 w_1 w_192 (by decide +kernel) ⟨rfl, rfl⟩ ⟨(Nat.le_of_ble_eq_true rfl), (Nat.le_of_ble_eq_true rfl)⟩ hF rfl hl.1 rfl (Nat.le_of_ble_eq_true rfl) dX_replace_1 ⟨(Nat.le_of_ble_eq_true rfl), (Nat.le_of_ble_eq_true rfl)⟩ htab hlocks
set_option maxHeartbeats 4000000 in
set_option maxRecDepth 100000 in
theorem mX_state_a (l : Launch) (hls : l.stackTraces = false) (D : va_G) (o a b : Nat) (cA iA : ClassId) (cf : Nat → Int64) (uf : Nat → Int32) (x : Int32) (hbad : inR x 5 = false) : vx_Met l yX_state (.code yX_state cX_state 3 (some .int) :: gW) ({ frames := 7, cells := 1, slots := 6, locals := 116 }) (pTW D (wX o a b cA iA cf uf) (kT cA iA) [.ref o, .int x]) qNi (XE IAE) 1 6 (fun _ => False) := by
  refine vx_ofW (cc := cX_state) (maxL := 3) (ret := (some .int)) (by decide) rfl ?_
  intro p e s m args below meth c s₁ B hml htab hv
  obtain ⟨rfl, hF, hP, hK⟩ := hv
  have hx := B.exec
  have hb := B.bytes
  have hr := B.returns
  have hts := atoms_spec (ws := (.code yX_state cX_state 3 (some .int) :: gW)) B.pre
  have hg : ∀ w ∈ gW, w.before ([.ref o, .int x]).toArray s = true := fun w h => hts w (List.mem_cons_of_mem _ h)
  have hown : s.vm.findClass R_X = some m.cls := findClass_of_methodNamed B.named
  have hlocks := B.notSynchronized
  have hl := lv_entry ([.ref o, .int x]) (n := 3) (Nat.le_of_ble_eq_true rfl)
  rw [lg_entry_eq]
  generalize (lg_sl ([.ref o, .int x]) ++ List.replicate (3 - (lg_sl ([.ref o, .int x])).length) Slot.unset).toArray = ls at hl ⊢
  have hl : lv_has ls 3 [(0, .ref o), (1, .int x)] := hl
  refine lv_iload_n hx hb dX_state_0 rfl (lv_at hl 1 rfl) ?_
  by_cases c1 : inR x 5 = true
  · obtain ⟨d, hd, rfl⟩ := inR_nat (by decide) c1
    refine kSn (n := 1) (As := [.int (nI d)]) (rest := []) ⟨hx, hb, hml, hown, hts⟩ (mX_checkDisk_ok l d (by omega)) w_190 w_191 w_1 w_192 (by decide +kernel) ⟨rfl, rfl⟩ ⟨(Nat.le_of_ble_eq_true rfl), (Nat.le_of_ble_eq_true rfl)⟩ rfl hl.1 rfl (Nat.le_of_ble_eq_true rfl) dX_state_1 ⟨Nat.zero_le _, Nat.zero_le _⟩ ?_
    exact absurd (c1.symm.trans hbad) Bool.noConfusion
  · exact passS (n := 1) (As := [.int x]) (rest := []) ⟨hx, hb, hml, hown, hts⟩ (mX_checkDisk_bad l hls x (Bool.eq_false_iff.mpr c1)) w_190 w_191 w_1 w_192 (by decide +kernel) ⟨rfl, rfl⟩ ⟨(Nat.le_of_ble_eq_true rfl), (Nat.le_of_ble_eq_true rfl)⟩ hF rfl hl.1 rfl (Nat.le_of_ble_eq_true rfl) dX_state_1 ⟨(Nat.le_of_ble_eq_true rfl), (Nat.le_of_ble_eq_true rfl)⟩ htab hlocks
set_option maxHeartbeats 4000000 in
set_option maxRecDepth 100000 in
theorem mX_replace_s (l : Launch) (hls : l.stackTraces = false) (D : va_G) (o a b : Nat) (cA iA : ClassId) (cf : Nat → Int64) (uf : Nat → Int32) (d : Nat) (hd : d < 5) (hu : ¬ uf d = -1) : vx_Met l yX_replace (.code yX_replace cX_replace 4 none :: gW) ({ frames := 7, cells := 1, slots := 6, locals := 116 }) (pTW D (wX o a b cA iA cf uf) (kT cA iA) [.ref o, .int (nI d)]) qNv (XE ISE) 1 6 (fun _ => False) := by
  refine vx_ofW (cc := cX_replace) (maxL := 4) (ret := none) (by decide) rfl ?_
  intro p e s m args below meth c s₁ B hml htab hv
  obtain ⟨rfl, hF, hP, hK⟩ := hv
  have hx := B.exec
  have hb := B.bytes
  have hr := B.returns
  have hts := atoms_spec (ws := (.code yX_replace cX_replace 4 none :: gW)) B.pre
  have hg : ∀ w ∈ gW, w.before ([.ref o, .int (nI d)]).toArray s = true := fun w h => hts w (List.mem_cons_of_mem _ h)
  have hown : s.vm.findClass R_X = some m.cls := findClass_of_methodNamed B.named
  have hlocks := B.notSynchronized
  have hl := lv_entry ([.ref o, .int (nI d)]) (n := 4) (Nat.le_of_ble_eq_true rfl)
  rw [lg_entry_eq]
  generalize (lg_sl ([.ref o, .int (nI d)]) ++ List.replicate (4 - (lg_sl ([.ref o, .int (nI d)])).length) Slot.unset).toArray = ls at hl ⊢
  have hl : lv_has ls 4 [(0, .ref o), (1, .int (nI d))] := hl
  refine lv_iload_n hx hb dX_replace_0 rfl (lv_at hl 1 rfl) ?_
  refine kSn (n := 1) (As := [.int (nI d)]) (rest := []) ⟨hx, hb, hml, hown, hts⟩ (mX_checkDisk_ok l d (by omega)) w_190 w_191 w_1 w_192 (by decide +kernel) ⟨rfl, rfl⟩ ⟨(Nat.le_of_ble_eq_true rfl), (Nat.le_of_ble_eq_true rfl)⟩ rfl hl.1 rfl (Nat.le_of_ble_eq_true rfl) dX_replace_1 ⟨Nat.zero_le _, Nat.zero_le _⟩ ?_
  refine lv_aload_n hx hb dX_replace_4 rfl (lv_at hl 0 rfl) ?_
  refine va_get (D := D) (ci := 0) (v := .ref b) (C := R_X) (T := T_X) (N := 2) hx hb hg uX_in hown hK hP 0 rfl rfl 1 (by decide) (hg _ w_19) (fun _ h9 => h9) rfl dX_replace_5 ?_
  refine lv_iload_n hx hb dX_replace_8 rfl (lv_at hl 1 rfl) ?_
  refine aI hx hb hK hP 2 1 rfl rfl (by omega) (by decide) dX_replace_9 ?_
  refine lv_iconst (v := -1) hx hb dX_replace_10 (by decide +kernel) ?_
  refine lv_icmp_eq (tgt := 24) hx hb dX_replace_11 (by decide) (fun h11 => absurd h11 hu) (fun h11 => ?_)
  exact thr (E := ISE) (tx := "the disk did not fail") hx hb hls hF hown hg (by decide +kernel) (by decide +kernel) w_202 w_8 atG_S atB_S atO_S (by decide +kernel) (hl.1.trans hml.symm) dX_replace_14 dX_replace_17 dX_replace_18 dX_replace_20 dX_replace_23 htab ⟨(Nat.le_of_ble_eq_true rfl), (Nat.le_of_ble_eq_true rfl), (Nat.le_of_ble_eq_true rfl), (Nat.le_of_ble_eq_true rfl)⟩ hlocks
set_option maxHeartbeats 4000000 in
set_option maxRecDepth 100000 in
theorem mX_rebuild_a (l : Launch) (hls : l.stackTraces = false) (D : va_G) (o a b : Nat) (cA iA : ClassId) (cf : Nat → Int64) (uf : Nat → Int32) (x n : Int32) (hbad : (inR x 5 && !decide (n < 0)) = false) : vx_Met l yX_rebuild (.code yX_rebuild cX_rebuild 6 (some .int) :: gW) ({ frames := 7, cells := 1, slots := 6, locals := 116 }) (pTW D (wX o a b cA iA cf uf) (kT cA iA) [.ref o, .int x, .int n]) qNi (XE IAE) 1 6 (fun _ => False) := by
  refine vx_ofW (cc := cX_rebuild) (maxL := 6) (ret := (some .int)) (by decide) rfl ?_
  intro p e s m args below meth c s₁ B hml htab hv
  obtain ⟨rfl, hF, hP, hK⟩ := hv
  have hx := B.exec
  have hb := B.bytes
  have hr := B.returns
  have hts := atoms_spec (ws := (.code yX_rebuild cX_rebuild 6 (some .int) :: gW)) B.pre
  have hg : ∀ w ∈ gW, w.before ([.ref o, .int x, .int n]).toArray s = true := fun w h => hts w (List.mem_cons_of_mem _ h)
  have hown : s.vm.findClass R_X = some m.cls := findClass_of_methodNamed B.named
  have hlocks := B.notSynchronized
  have hl := lv_entry ([.ref o, .int x, .int n]) (n := 6) (Nat.le_of_ble_eq_true rfl)
  rw [lg_entry_eq]
  generalize (lg_sl ([.ref o, .int x, .int n]) ++ List.replicate (6 - (lg_sl ([.ref o, .int x, .int n])).length) Slot.unset).toArray = ls at hl ⊢
  have hl : lv_has ls 6 [(0, .ref o), (1, .int x), (2, .int n)] := hl
  refine lv_iload_n hx hb dX_rebuild_0 rfl (lv_at hl 1 rfl) ?_
  by_cases c1 : inR x 5 = true
  · obtain ⟨d, hd, rfl⟩ := inR_nat (by decide) c1
    refine kSn (n := 1) (As := [.int (nI d)]) (rest := []) ⟨hx, hb, hml, hown, hts⟩ (mX_checkDisk_ok l d (by omega)) w_190 w_191 w_1 w_192 (by decide +kernel) ⟨rfl, rfl⟩ ⟨(Nat.le_of_ble_eq_true rfl), (Nat.le_of_ble_eq_true rfl)⟩ rfl hl.1 rfl (Nat.le_of_ble_eq_true rfl) dX_rebuild_1 ⟨Nat.zero_le _, Nat.zero_le _⟩ ?_
    refine lv_iload_n hx hb dX_rebuild_4 rfl (lv_at hl 2 rfl) ?_
    refine lv_if_ge (tgt := 18) hx hb dX_rebuild_5 (by decide) (fun h5 => absurd h5 (fun z => by rw [c1, decide_eq_false (Int32.not_lt.mpr z)] at hbad; exact Bool.noConfusion hbad)) (fun h5 => ?_)
    exact thr (E := IAE) (tx := "n is below 0") hx hb hls hF hown hg (by decide +kernel) (by decide +kernel) w_83 w_6 atG_A atB_A atO_A (by decide +kernel) (hl.1.trans hml.symm) dX_rebuild_8 dX_rebuild_11 dX_rebuild_12 dX_rebuild_14 dX_rebuild_17 htab ⟨(Nat.le_of_ble_eq_true rfl), (Nat.le_of_ble_eq_true rfl), (Nat.le_of_ble_eq_true rfl), (Nat.le_of_ble_eq_true rfl)⟩ hlocks
  · exact passS (n := 1) (As := [.int x]) (rest := []) ⟨hx, hb, hml, hown, hts⟩ (mX_checkDisk_bad l hls x (Bool.eq_false_iff.mpr c1)) w_190 w_191 w_1 w_192 (by decide +kernel) ⟨rfl, rfl⟩ ⟨(Nat.le_of_ble_eq_true rfl), (Nat.le_of_ble_eq_true rfl)⟩ hF rfl hl.1 rfl (Nat.le_of_ble_eq_true rfl) dX_rebuild_1 ⟨(Nat.le_of_ble_eq_true rfl), (Nat.le_of_ble_eq_true rfl)⟩ htab hlocks
set_option maxHeartbeats 4000000 in
set_option maxRecDepth 100000 in
theorem mX_rebuild_s (l : Launch) (hls : l.stackTraces = false) (D : va_G) (o a b : Nat) (cA iA : ClassId) (cf : Nat → Int64) (uf : Nat → Int32) (d : Nat) (n : Int32) (hd : d < 5) (hn : 0 ≤ n) (hu : uf d = nI 100 ∨ uf d = -1) : vx_Met l yX_rebuild (.code yX_rebuild cX_rebuild 6 (some .int) :: gW) ({ frames := 7, cells := 1, slots := 6, locals := 116 }) (pTW D (wX o a b cA iA cf uf) (kT cA iA) [.ref o, .int (nI d), .int n]) qNi (XE ISE) 1 6 (fun _ => False) := by
  refine vx_ofW (cc := cX_rebuild) (maxL := 6) (ret := (some .int)) (by decide) rfl ?_
  intro p e s m args below meth c s₁ B hml htab hv
  obtain ⟨rfl, hF, hP, hK⟩ := hv
  have hx := B.exec
  have hb := B.bytes
  have hr := B.returns
  have hts := atoms_spec (ws := (.code yX_rebuild cX_rebuild 6 (some .int) :: gW)) B.pre
  have hg : ∀ w ∈ gW, w.before ([.ref o, .int (nI d), .int n]).toArray s = true := fun w h => hts w (List.mem_cons_of_mem _ h)
  have hown : s.vm.findClass R_X = some m.cls := findClass_of_methodNamed B.named
  have hlocks := B.notSynchronized
  have hl := lv_entry ([.ref o, .int (nI d), .int n]) (n := 6) (Nat.le_of_ble_eq_true rfl)
  rw [lg_entry_eq]
  generalize (lg_sl ([.ref o, .int (nI d), .int n]) ++ List.replicate (6 - (lg_sl ([.ref o, .int (nI d), .int n])).length) Slot.unset).toArray = ls at hl ⊢
  have hl : lv_has ls 6 [(0, .ref o), (1, .int (nI d)), (2, .int n)] := hl
  refine lv_iload_n hx hb dX_rebuild_0 rfl (lv_at hl 1 rfl) ?_
  refine kSn (n := 1) (As := [.int (nI d)]) (rest := []) ⟨hx, hb, hml, hown, hts⟩ (mX_checkDisk_ok l d (by omega)) w_190 w_191 w_1 w_192 (by decide +kernel) ⟨rfl, rfl⟩ ⟨(Nat.le_of_ble_eq_true rfl), (Nat.le_of_ble_eq_true rfl)⟩ rfl hl.1 rfl (Nat.le_of_ble_eq_true rfl) dX_rebuild_1 ⟨Nat.zero_le _, Nat.zero_le _⟩ ?_
  refine lv_iload_n hx hb dX_rebuild_4 rfl (lv_at hl 2 rfl) ?_
  refine lv_if_ge (tgt := 18) hx hb dX_rebuild_5 (by decide) (fun h5 => ?_) (fun h5 => absurd hn h5)
  refine lv_aload_n hx hb dX_rebuild_18 rfl (lv_at hl 0 rfl) ?_
  refine va_get (D := D) (ci := 0) (v := .ref b) (C := R_X) (T := T_X) (N := 2) hx hb hg uX_in hown hK hP 0 rfl rfl 1 (by decide) (hg _ w_19) (fun _ h9 => h9) rfl dX_rebuild_19 ?_
  refine lv_iload_n hx hb dX_rebuild_22 rfl (lv_at hl 1 rfl) ?_
  refine aI hx hb hK hP 2 1 rfl rfl (by omega) (by decide) dX_rebuild_23 ?_
  refine lv_istore_n hx hb dX_rebuild_24 rfl hl (by decide) rfl (fun ls hl => ?_)
  have hl : lv_has ls 6 [(3, .int (uf d)), (0, .ref o), (1, .int (nI d)), (2, .int n)] := hl
  refine lv_iload_n hx hb dX_rebuild_25 rfl (lv_at hl 0 rfl) ?_
  refine lv_bipush (v := nI 100) hx hb dX_rebuild_26 (by decide +kernel) ?_
  refine lv_icmp_eq (tgt := 36) hx hb dX_rebuild_28 (by decide) (fun h28 => ?_) (fun h28 => ?_)
  · exact thr (E := ISE) (tx := "the disk is not being rebuilt") hx hb hls hF hown hg (by decide +kernel) (by decide +kernel) w_202 w_8 atG_S atB_S atO_S (by decide +kernel) (hl.1.trans hml.symm) dX_rebuild_36 dX_rebuild_39 dX_rebuild_40 dX_rebuild_42 dX_rebuild_45 htab ⟨(Nat.le_of_ble_eq_true rfl), (Nat.le_of_ble_eq_true rfl), (Nat.le_of_ble_eq_true rfl), (Nat.le_of_ble_eq_true rfl)⟩ hlocks
  · refine lv_iload_n hx hb dX_rebuild_31 rfl (lv_at hl 0 rfl) ?_
    refine lv_iconst (v := -1) hx hb dX_rebuild_32 (by decide +kernel) ?_
    refine lv_icmp_ne (tgt := 46) hx hb dX_rebuild_33 (by decide) (fun h33 => absurd h33 (fun z => z (hu.resolve_left h28))) (fun h33 => ?_)
    exact thr (E := ISE) (tx := "the disk is not being rebuilt") hx hb hls hF hown hg (by decide +kernel) (by decide +kernel) w_202 w_8 atG_S atB_S atO_S (by decide +kernel) (hl.1.trans hml.symm) dX_rebuild_36 dX_rebuild_39 dX_rebuild_40 dX_rebuild_42 dX_rebuild_45 htab ⟨(Nat.le_of_ble_eq_true rfl), (Nat.le_of_ble_eq_true rfl), (Nat.le_of_ble_eq_true rfl), (Nat.le_of_ble_eq_true rfl)⟩ hlocks
set_option maxHeartbeats 4000000 in
set_option maxRecDepth 100000 in
theorem mX_flip_a (l : Launch) (hls : l.stackTraces = false) (D : va_G) (o a b : Nat) (cA iA : ClassId) (cf : Nat → Int64) (uf : Nat → Int32) (x y z : Int32) (v : Int64) (hbad : (inR x 5 && (inR y 100 && inR z 2)) = false) : vx_Met l yX_flip (.code yX_flip cX_flip 6 none :: gW) ({ frames := 8, cells := 1, slots := 6, locals := 139 }) (pTW D (wX o a b cA iA cf uf) (kT cA iA) [.ref o, .int x, .int y, .int z, .long v]) qNv (XE IAE) 1 6 (fun _ => False) := by
  refine vx_ofW (cc := cX_flip) (maxL := 6) (ret := none) (by decide) rfl ?_
  intro p e s m args below meth c s₁ B hml htab hv
  obtain ⟨rfl, hF, hP, hK⟩ := hv
  have hx := B.exec
  have hb := B.bytes
  have hr := B.returns
  have hts := atoms_spec (ws := (.code yX_flip cX_flip 6 none :: gW)) B.pre
  have hg : ∀ w ∈ gW, w.before ([.ref o, .int x, .int y, .int z, .long v]).toArray s = true := fun w h => hts w (List.mem_cons_of_mem _ h)
  have hown : s.vm.findClass R_X = some m.cls := findClass_of_methodNamed B.named
  have hlocks := B.notSynchronized
  have hl := lv_entry ([.ref o, .int x, .int y, .int z, .long v]) (n := 6) (Nat.le_of_ble_eq_true rfl)
  rw [lg_entry_eq]
  generalize (lg_sl ([.ref o, .int x, .int y, .int z, .long v]) ++ List.replicate (6 - (lg_sl ([.ref o, .int x, .int y, .int z, .long v])).length) Slot.unset).toArray = ls at hl ⊢
  have hl : lv_has ls 6 [(0, .ref o), (1, .int x), (2, .int y), (3, .int z), (4, .long v)] := hl
  refine lv_aload_n hx hb dX_flip_0 rfl (lv_at hl 0 rfl) ?_
  refine lv_iload_n hx hb dX_flip_1 rfl (lv_at hl 1 rfl) ?_
  refine lv_iload_n hx hb dX_flip_2 rfl (lv_at hl 2 rfl) ?_
  refine lv_iload_n hx hb dX_flip_3 rfl (lv_at hl 3 rfl) ?_
  exact passV (n := 3) (As := [.int x, .int y, .int z]) (rest := []) ⟨hx, hb, hml, hown, hts⟩ (mX_checkStanding_a l hls D o a b cA iA cf uf x y z hbad) w_241 w_243 v_9 w_1 w_244 (by decide +kernel) ⟨rfl, rfl⟩ ⟨(Nat.le_of_ble_eq_true rfl), (Nat.le_of_ble_eq_true rfl)⟩ hF hP hK 0 0 rfl rfl rfl hl.1 rfl (Nat.le_of_ble_eq_true rfl) dX_flip_4 ⟨(Nat.le_of_ble_eq_true rfl), (Nat.le_of_ble_eq_true rfl)⟩ htab hlocks
set_option maxHeartbeats 4000000 in
set_option maxRecDepth 100000 in
theorem mX_flip_s (l : Launch) (hls : l.stackTraces = false) (D : va_G) (o a b : Nat) (cA iA : ClassId) (cf : Nat → Int64) (uf : Nat → Int32) (d t h : Nat) (hd : d < 5) (ht : t < 100) (hh : h < 2) (v : Int64) (hu : uf d = -1) : vx_Met l yX_flip (.code yX_flip cX_flip 6 none :: gW) ({ frames := 8, cells := 1, slots := 6, locals := 139 }) (pTW D (wX o a b cA iA cf uf) (kT cA iA) [.ref o, .int (nI d), .int (nI t), .int (nI h), .long v]) qNv (XE ISE) 1 6 (fun _ => False) := by
  refine vx_ofW (cc := cX_flip) (maxL := 6) (ret := none) (by decide) rfl ?_
  intro p e s m args below meth c s₁ B hml htab hv
  obtain ⟨rfl, hF, hP, hK⟩ := hv
  have hx := B.exec
  have hb := B.bytes
  have hr := B.returns
  have hts := atoms_spec (ws := (.code yX_flip cX_flip 6 none :: gW)) B.pre
  have hg : ∀ w ∈ gW, w.before ([.ref o, .int (nI d), .int (nI t), .int (nI h), .long v]).toArray s = true := fun w h => hts w (List.mem_cons_of_mem _ h)
  have hown : s.vm.findClass R_X = some m.cls := findClass_of_methodNamed B.named
  have hlocks := B.notSynchronized
  have hl := lv_entry ([.ref o, .int (nI d), .int (nI t), .int (nI h), .long v]) (n := 6) (Nat.le_of_ble_eq_true rfl)
  rw [lg_entry_eq]
  generalize (lg_sl ([.ref o, .int (nI d), .int (nI t), .int (nI h), .long v]) ++ List.replicate (6 - (lg_sl ([.ref o, .int (nI d), .int (nI t), .int (nI h), .long v])).length) Slot.unset).toArray = ls at hl ⊢
  have hl : lv_has ls 6 [(0, .ref o), (1, .int (nI d)), (2, .int (nI t)), (3, .int (nI h)), (4, .long v)] := hl
  refine lv_aload_n hx hb dX_flip_0 rfl (lv_at hl 0 rfl) ?_
  refine lv_iload_n hx hb dX_flip_1 rfl (lv_at hl 1 rfl) ?_
  refine lv_iload_n hx hb dX_flip_2 rfl (lv_at hl 2 rfl) ?_
  refine lv_iload_n hx hb dX_flip_3 rfl (lv_at hl 3 rfl) ?_
  exact passV (n := 3) (As := [.int (nI d), .int (nI t), .int (nI h)]) (rest := []) ⟨hx, hb, hml, hown, hts⟩ (mX_checkStanding_s l hls D o a b cA iA cf uf d t h hd ht hh hu) w_241 w_243 v_9 w_1 w_244 (by decide +kernel) ⟨rfl, rfl⟩ ⟨(Nat.le_of_ble_eq_true rfl), (Nat.le_of_ble_eq_true rfl)⟩ hF hP hK 0 0 rfl rfl rfl hl.1 rfl (Nat.le_of_ble_eq_true rfl) dX_flip_4 ⟨(Nat.le_of_ble_eq_true rfl), (Nat.le_of_ble_eq_true rfl)⟩ htab hlocks
set_option maxHeartbeats 4000000 in
set_option maxRecDepth 100000 in
theorem mX_block_a (l : Launch) (hls : l.stackTraces = false) (D : va_G) (o a b : Nat) (cA iA : ClassId) (cf : Nat → Int64) (uf : Nat → Int32) (x y z : Int32) (hbad : (inR x 5 && (inR y 100 && inR z 2)) = false) : vx_Met l yX_block (.code yX_block cX_block 4 (some .long) :: gW) ({ frames := 8, cells := 1, slots := 6, locals := 139 }) (pTW D (wX o a b cA iA cf uf) (kT cA iA) [.ref o, .int x, .int y, .int z]) qNl (XE IAE) 1 6 (fun _ => False) := by
  refine vx_ofW (cc := cX_block) (maxL := 4) (ret := (some .long)) (by decide) rfl ?_
  intro p e s m args below meth c s₁ B hml htab hv
  obtain ⟨rfl, hF, hP, hK⟩ := hv
  have hx := B.exec
  have hb := B.bytes
  have hr := B.returns
  have hts := atoms_spec (ws := (.code yX_block cX_block 4 (some .long) :: gW)) B.pre
  have hg : ∀ w ∈ gW, w.before ([.ref o, .int x, .int y, .int z]).toArray s = true := fun w h => hts w (List.mem_cons_of_mem _ h)
  have hown : s.vm.findClass R_X = some m.cls := findClass_of_methodNamed B.named
  have hlocks := B.notSynchronized
  have hl := lv_entry ([.ref o, .int x, .int y, .int z]) (n := 4) (Nat.le_of_ble_eq_true rfl)
  rw [lg_entry_eq]
  generalize (lg_sl ([.ref o, .int x, .int y, .int z]) ++ List.replicate (4 - (lg_sl ([.ref o, .int x, .int y, .int z])).length) Slot.unset).toArray = ls at hl ⊢
  have hl : lv_has ls 4 [(0, .ref o), (1, .int x), (2, .int y), (3, .int z)] := hl
  refine lv_aload_n hx hb dX_block_0 rfl (lv_at hl 0 rfl) ?_
  refine lv_iload_n hx hb dX_block_1 rfl (lv_at hl 1 rfl) ?_
  refine lv_iload_n hx hb dX_block_2 rfl (lv_at hl 2 rfl) ?_
  refine lv_iload_n hx hb dX_block_3 rfl (lv_at hl 3 rfl) ?_
  exact passV (n := 3) (As := [.int x, .int y, .int z]) (rest := []) ⟨hx, hb, hml, hown, hts⟩ (mX_checkStanding_a l hls D o a b cA iA cf uf x y z hbad) w_241 w_243 v_9 w_1 w_244 (by decide +kernel) ⟨rfl, rfl⟩ ⟨(Nat.le_of_ble_eq_true rfl), (Nat.le_of_ble_eq_true rfl)⟩ hF hP hK 0 0 rfl rfl rfl hl.1 rfl (Nat.le_of_ble_eq_true rfl) dX_block_4 ⟨(Nat.le_of_ble_eq_true rfl), (Nat.le_of_ble_eq_true rfl)⟩ htab hlocks
set_option maxHeartbeats 4000000 in
set_option maxRecDepth 100000 in
theorem mX_block_s (l : Launch) (hls : l.stackTraces = false) (D : va_G) (o a b : Nat) (cA iA : ClassId) (cf : Nat → Int64) (uf : Nat → Int32) (d t h : Nat) (hd : d < 5) (ht : t < 100) (hh : h < 2) (hu : uf d = -1) : vx_Met l yX_block (.code yX_block cX_block 4 (some .long) :: gW) ({ frames := 8, cells := 1, slots := 6, locals := 139 }) (pTW D (wX o a b cA iA cf uf) (kT cA iA) [.ref o, .int (nI d), .int (nI t), .int (nI h)]) qNl (XE ISE) 1 6 (fun _ => False) := by
  refine vx_ofW (cc := cX_block) (maxL := 4) (ret := (some .long)) (by decide) rfl ?_
  intro p e s m args below meth c s₁ B hml htab hv
  obtain ⟨rfl, hF, hP, hK⟩ := hv
  have hx := B.exec
  have hb := B.bytes
  have hr := B.returns
  have hts := atoms_spec (ws := (.code yX_block cX_block 4 (some .long) :: gW)) B.pre
  have hg : ∀ w ∈ gW, w.before ([.ref o, .int (nI d), .int (nI t), .int (nI h)]).toArray s = true := fun w h => hts w (List.mem_cons_of_mem _ h)
  have hown : s.vm.findClass R_X = some m.cls := findClass_of_methodNamed B.named
  have hlocks := B.notSynchronized
  have hl := lv_entry ([.ref o, .int (nI d), .int (nI t), .int (nI h)]) (n := 4) (Nat.le_of_ble_eq_true rfl)
  rw [lg_entry_eq]
  generalize (lg_sl ([.ref o, .int (nI d), .int (nI t), .int (nI h)]) ++ List.replicate (4 - (lg_sl ([.ref o, .int (nI d), .int (nI t), .int (nI h)])).length) Slot.unset).toArray = ls at hl ⊢
  have hl : lv_has ls 4 [(0, .ref o), (1, .int (nI d)), (2, .int (nI t)), (3, .int (nI h))] := hl
  refine lv_aload_n hx hb dX_block_0 rfl (lv_at hl 0 rfl) ?_
  refine lv_iload_n hx hb dX_block_1 rfl (lv_at hl 1 rfl) ?_
  refine lv_iload_n hx hb dX_block_2 rfl (lv_at hl 2 rfl) ?_
  refine lv_iload_n hx hb dX_block_3 rfl (lv_at hl 3 rfl) ?_
  exact passV (n := 3) (As := [.int (nI d), .int (nI t), .int (nI h)]) (rest := []) ⟨hx, hb, hml, hown, hts⟩ (mX_checkStanding_s l hls D o a b cA iA cf uf d t h hd ht hh hu) w_241 w_243 v_9 w_1 w_244 (by decide +kernel) ⟨rfl, rfl⟩ ⟨(Nat.le_of_ble_eq_true rfl), (Nat.le_of_ble_eq_true rfl)⟩ hF hP hK 0 0 rfl rfl rfl hl.1 rfl (Nat.le_of_ble_eq_true rfl) dX_block_4 ⟨(Nat.le_of_ble_eq_true rfl), (Nat.le_of_ble_eq_true rfl)⟩ htab hlocks
