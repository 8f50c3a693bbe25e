set_option maxHeartbeats 4000000 in
set_option maxRecDepth 100000 in
theorem mM_rebuild_ok (l : Launch) (D : va_G) (o a b : Nat) (cA iA : ClassId) (er : Int32) (cf : Nat → Int64) (uf : Nat → Int32) (sz : Nat) (d n9 f : Nat) (hd : d < 5) (hn : n9 < 2 ^ 31) (hf : f < 100) (hu : uf d = nI f) : Met l yM_rebuild (.code yM_rebuild cM_rebuild 5 (some .int) :: gW) ({ frames := 2, cells := 0, slots := 0, locals := 48 }) (pWs D (wM o a b cA iA er cf uf) (kT cA iA) sz [.ref o, .int (nI d), .int (nI n9)]) (QI (nI (rbF uf d (min n9 (100 - f)) cf f).2) D (wM o a b cA iA (nI 0) ((rbF uf d (min n9 (100 - f)) cf f).1) (upd uf d (nI (rbF uf d (min n9 (100 - f)) cf f).2))) (va_A (wM o a b cA iA er cf uf) sz)) 0 0 (va_A (wM o a b cA iA er cf uf) sz) := by
  refine Met.ofW (cc := cM_rebuild) (maxL := 5) (ret := (some .int)) (by decide) rfl ?_
  intro p e s m args below meth c s₁ B hml hv
  obtain ⟨rfl, hsz, hP, hK, hD0⟩ := hv
  have hx := B.exec
  have hb := B.bytes
  have hr := B.returns
  have hts := atoms_spec (ws := (.code yM_rebuild cM_rebuild 5 (some .int) :: gW)) B.pre
  have hg : ∀ w ∈ gW, w.before ([.ref o, .int (nI d), .int (nI n9)]).toArray s = true := fun w h => hts w (List.mem_cons_of_mem _ h)
  have hown : s.vm.findClass R_M = some m.cls := findClass_of_methodNamed B.named
  have hlocks := B.notSynchronized
  subst hsz
  have hD := hD0.self (sz := s.heap.size)
  generalize hAe : va_A (wM o a b cA iA er cf uf) s.heap.size = A at hD ⊢
  have hA : ∀ q : Nat, s.heap.size ≤ q → A q := fun q h => by rw [← hAe]; exact Or.inr h
  have hS : va_S A s.heap s.heap [] := va_S.rf
  have hP : va_P D cls_ (wM o a b cA iA er cf uf) s.heap := hP
  have hl := lv_entry ([.ref o, .int (nI d), .int (nI n9)]) (n := 5) (Nat.le_of_ble_eq_true rfl)
  rw [lg_entry_eq]
  generalize (lg_sl ([.ref o, .int (nI d), .int (nI n9)]) ++ List.replicate (5 - (lg_sl ([.ref o, .int (nI d), .int (nI n9)])).length) Slot.unset).toArray = ls at hl ⊢
  have hl : lv_has ls 5 [(0, .ref o), (1, .int (nI d)), (2, .int (nI n9))] := hl
  refine lv_aload_n hx hb dM_rebuild_0 rfl (lv_at hl 0 rfl) ?_
  refine lv_iload_n hx hb dM_rebuild_1 rfl (lv_at hl 1 rfl) ?_
  refine kS (n := 1) (As := [.int (nI d)]) (rest := [.ref o]) ⟨hx, hb, hml, hown, hts⟩ (mM_none l (nI d)) w_326 w_327 w_2 w_328 (by decide +kernel) ⟨rfl, rfl⟩ ⟨(Nat.le_of_ble_eq_true rfl), (Nat.le_of_ble_eq_true rfl)⟩ rfl hl.1 rfl (Nat.le_of_ble_eq_true rfl) dM_rebuild_2 ⟨Nat.zero_le _, Nat.zero_le _⟩ ?_
  refine tI (b9f (by rw [inR_of (by decide) hd]; rfl)) ?_
  refine lv_if_ne (tgt := 12) hx hb dM_rebuild_5 (by decide) (fun h5 => absurd h5 (by decide +kernel)) (fun h5 => ?_)
  refine lv_iload_n hx hb dM_rebuild_8 rfl (lv_at hl 2 rfl) ?_
  refine lv_if_ge (tgt := 16) hx hb dM_rebuild_9 (by decide) (fun h9 => ?_) (fun h9 => absurd (nI_pos' hn) h9)
  refine lv_iconst (v := nI 0) hx hb dM_rebuild_16 (by decide +kernel) ?_
  refine lv_iconst (v := nI 1) hx hb dM_rebuild_17 (by decide +kernel) ?_
  refine kVi (n := 2) (As := [.int (nI 0), .int (nI 1)]) (rest := []) ⟨hx, hb, hml, hown, hts⟩ (mM_fails_f l D o a b cA iA er cf uf s.heap.size 1) w_292 w_294 v_11 w_2 w_295 (by decide +kernel) ⟨rfl, rfl⟩ ⟨(Nat.le_of_ble_eq_true rfl), (Nat.le_of_ble_eq_true rfl)⟩ hP hK hD hS hA rfl 1 0 rfl rfl rfl hl.1 rfl (Nat.le_of_ble_eq_true rfl) dM_rebuild_18 ⟨Nat.zero_le _, Nat.zero_le _⟩ (fun H locs hP hD hS => ?_)
  refine lv_if_eq (tgt := 26) hx hb dM_rebuild_21 (by decide) (fun h21 => ?_) (fun h21 => absurd (by decide +kernel) h21)
  refine lv_aload_n hx hb dM_rebuild_26 rfl (lv_at hl 0 rfl) ?_
  refine lv_aload_n hx hb dM_rebuild_27 rfl (lv_at hl 0 rfl) ?_
  refine va_get (D := D) (ci := 1) (v := .ref b) (C := R_M) (T := T_M) (N := 3) hx hb hg uM_in hown hK hP 0 rfl rfl 2 (by decide) (hg _ w_272) (fun _ h9 => h9) rfl dM_rebuild_28 ?_
  refine lv_iload_n hx hb dM_rebuild_31 rfl (lv_at hl 1 rfl) ?_
  refine aI hx hb hK hP 2 1 rfl rfl (by omega) (by decide) dM_rebuild_32 ?_
  refine lv_if_lt (tgt := 47) hx hb dM_rebuild_33 (by decide) (fun h33 => absurd h33 (by rw [hu]; exact nI_pos (by omega))) (fun h33 => ?_)
  refine lv_aload_n hx hb dM_rebuild_36 rfl (lv_at hl 0 rfl) ?_
  refine va_get (D := D) (ci := 1) (v := .ref b) (C := R_M) (T := T_M) (N := 3) hx hb hg uM_in hown hK hP 0 rfl rfl 2 (by decide) (hg _ w_272) (fun _ h9 => h9) rfl dM_rebuild_37 ?_
  refine lv_iload_n hx hb dM_rebuild_40 rfl (lv_at hl 1 rfl) ?_
  refine aI hx hb hK hP 2 1 rfl rfl (by omega) (by decide) dM_rebuild_41 ?_
  refine lv_bipush (v := nI 100) hx hb dM_rebuild_42 (by decide +kernel) ?_
  refine lv_icmp_ne (tgt := 51) hx hb dM_rebuild_44 (by decide) (fun h44 => ?_) (fun h44 => absurd h44 (fun z => by rw [hu] at z; have := (nI_eq (by omega) (by decide)).mp z; omega))
  refine lv_iconst (v := nI 0) hx hb dM_rebuild_51 (by decide +kernel) ?_
  refine lv_iconst (v := nI 2) hx hb dM_rebuild_52 (by decide +kernel) ?_
  refine kVi (n := 2) (As := [.int (nI 0), .int (nI 2)]) (rest := []) ⟨hx, hb, hml, hown, hts⟩ (mM_fails_f l D o a b cA iA (nI 0) cf uf H.size 2) w_292 w_294 v_11 w_2 w_295 (by decide +kernel) ⟨rfl, rfl⟩ ⟨(Nat.le_of_ble_eq_true rfl), (Nat.le_of_ble_eq_true rfl)⟩ hP hK hD hS hA rfl 1 0 rfl rfl rfl hl.1 rfl (Nat.le_of_ble_eq_true rfl) dM_rebuild_53 ⟨Nat.zero_le _, Nat.zero_le _⟩ (fun H locs hP hD hS => ?_)
  refine lv_if_eq (tgt := 61) hx hb dM_rebuild_56 (by decide) (fun h56 => ?_) (fun h56 => absurd (by decide +kernel) h56)
  refine lv_iconst (v := nI 0) hx hb dM_rebuild_61 (by decide +kernel) ?_
  refine lv_istore_n hx hb dM_rebuild_62 rfl hl (by decide) rfl (fun ls hl => ?_)
  have hl : lv_has ls 5 [(3, .int (nI 0)), (0, .ref o), (1, .int (nI d)), (2, .int (nI n9))] := hl
  have eu : upd uf d (nI f) = uf := by rw [← hu]; exact upd_self uf d
  rw [← eu] at hP hD
  have key : ∀ (n : Nat) (j k : Nat) (c9 : Nat → Int64) (H : Heap) (locs : List Loc) (ls : Array Slot), n = min (n9 - k) (100 - j) → j ≤ 100 → k ≤ n9 → rbF uf d (min n9 (100 - f)) cf f = rbF uf d n c9 j → va_P D cls_ (wM o a b cA iA (nI 0) c9 (upd uf d (nI j))) H → va_D A (wM o a b cA iA (nI 0) c9 (upd uf d (nI j))) → va_S A s.heap H locs → lv_has ls 5 [(3, .int (nI k)), (0, .ref o), (1, .int (nI d)), (2, .int (nI n9))] → W p l e (headSpec (.code yM_rebuild cM_rebuild 5 (some .int) :: gW) ({ frames := 2, cells := 0, slots := 0, locals := 48 })).room s m ([.ref o, .int (nI d), .int (nI n9)]).toArray below meth c H locs 0 0 (MQ below (QI (nI (rbF uf d (min n9 (100 - f)) cf f).2) D (wM o a b cA iA (nI 0) ((rbF uf d (min n9 (100 - f)) cf f).1) (upd uf d (nI (rbF uf d (min n9 (100 - f)) cf f).2))) A) ([.ref o, .int (nI d), .int (nI n9)]).toArray s 0 0 A) (F0 m 63 ls []) := by
    intro n
    induction n with
    | zero =>
      intro j k c9 H locs ls hr9 hj hk hi hP hD hS hl
      have hi : rbF uf d (min n9 (100 - f)) cf f = (c9, j) := hi
      refine lv_iload_n hx hb dM_rebuild_63 rfl (lv_at hl 0 rfl) ?_
      refine lv_iload_n hx hb dM_rebuild_64 rfl (lv_at hl 3 rfl) ?_
      refine lv_icmp_ge (tgt := 154) hx hb dM_rebuild_65 (by decide) (fun h65 => ?_) (fun h65 => ?_)
      · refine lv_aload_n hx hb dM_rebuild_154 rfl (lv_at hl 1 rfl) ?_
        refine va_get (D := D) (ci := 1) (v := .ref b) (C := R_M) (T := T_M) (N := 3) hx hb hg uM_in hown hK hP 0 rfl rfl 2 (by decide) (hg _ w_272) (fun _ h9 => h9) rfl dM_rebuild_155 ?_
        refine lv_iload_n hx hb dM_rebuild_158 rfl (lv_at hl 2 rfl) ?_
        refine aI hx hb hK hP 2 1 rfl rfl (by omega) (by decide) dM_rebuild_159 ?_
        refine tI upd_eq ?_
        exact W.iret (v := nI j) hx hb hr (fun t9 ht9 _ => ⟨⟨_, (), rfl, by show _ = _; rw [hi], by show va_P _ _ _ t9.heap; rw [ht9]; rw [hi]; exact hP⟩, hS.F ht9⟩) hS.2.2 dM_rebuild_160
      · have e7 : k < n9 := Nat.lt_of_not_le (fun z => h65 (nI_le z (by omega)))
        refine lv_aload_n hx hb dM_rebuild_68 rfl (lv_at hl 1 rfl) ?_
        refine va_get (D := D) (ci := 1) (v := .ref b) (C := R_M) (T := T_M) (N := 3) hx hb hg uM_in hown hK hP 0 rfl rfl 2 (by decide) (hg _ w_272) (fun _ h9 => h9) rfl dM_rebuild_69 ?_
        refine lv_iload_n hx hb dM_rebuild_72 rfl (lv_at hl 2 rfl) ?_
        refine aI hx hb hK hP 2 1 rfl rfl (by omega) (by decide) dM_rebuild_73 ?_
        refine tI upd_eq ?_
        refine lv_bipush (v := nI 100) hx hb dM_rebuild_74 (by decide +kernel) ?_
        refine lv_icmp_ge (tgt := 154) hx hb dM_rebuild_76 (by decide) (fun h76 => ?_) (fun h76 => absurd (nI_le (by omega) (by omega)) h76)
        refine lv_aload_n hx hb dM_rebuild_154 rfl (lv_at hl 1 rfl) ?_
        refine va_get (D := D) (ci := 1) (v := .ref b) (C := R_M) (T := T_M) (N := 3) hx hb hg uM_in hown hK hP 0 rfl rfl 2 (by decide) (hg _ w_272) (fun _ h9 => h9) rfl dM_rebuild_155 ?_
        refine lv_iload_n hx hb dM_rebuild_158 rfl (lv_at hl 2 rfl) ?_
        refine aI hx hb hK hP 2 1 rfl rfl (by omega) (by decide) dM_rebuild_159 ?_
        refine tI upd_eq ?_
        exact W.iret (v := nI j) hx hb hr (fun t9 ht9 _ => ⟨⟨_, (), rfl, by show _ = _; rw [hi], by show va_P _ _ _ t9.heap; rw [ht9]; rw [hi]; exact hP⟩, hS.F ht9⟩) hS.2.2 dM_rebuild_160
    | succ n ih =>
      intro j k c9 H locs ls hr9 hj hk hi hP hD hS hl
      refine lv_iload_n hx hb dM_rebuild_63 rfl (lv_at hl 0 rfl) ?_
      refine lv_iload_n hx hb dM_rebuild_64 rfl (lv_at hl 3 rfl) ?_
      refine lv_icmp_ge (tgt := 154) hx hb dM_rebuild_65 (by decide) (fun h65 => absurd h65 (nI_ge (by omega) (by omega))) (fun h65 => ?_)
      refine lv_aload_n hx hb dM_rebuild_68 rfl (lv_at hl 1 rfl) ?_
      refine va_get (D := D) (ci := 1) (v := .ref b) (C := R_M) (T := T_M) (N := 3) hx hb hg uM_in hown hK hP 0 rfl rfl 2 (by decide) (hg _ w_272) (fun _ h9 => h9) rfl dM_rebuild_69 ?_
      refine lv_iload_n hx hb dM_rebuild_72 rfl (lv_at hl 2 rfl) ?_
      refine aI hx hb hK hP 2 1 rfl rfl (by omega) (by decide) dM_rebuild_73 ?_
      refine tI upd_eq ?_
      refine lv_bipush (v := nI 100) hx hb dM_rebuild_74 (by decide +kernel) ?_
      refine lv_icmp_ge (tgt := 154) hx hb dM_rebuild_76 (by decide) (fun h76 => absurd h76 (nI_ge (by omega) (by omega))) (fun h76 => ?_)
      refine lv_aload_n hx hb dM_rebuild_79 rfl (lv_at hl 1 rfl) ?_
      refine lv_iload_n hx hb dM_rebuild_80 rfl (lv_at hl 2 rfl) ?_
      refine lv_aload_n hx hb dM_rebuild_81 rfl (lv_at hl 1 rfl) ?_
      refine va_get (D := D) (ci := 1) (v := .ref b) (C := R_M) (T := T_M) (N := 3) hx hb hg uM_in hown hK hP 0 rfl rfl 2 (by decide) (hg _ w_272) (fun _ h9 => h9) rfl dM_rebuild_82 ?_
      refine lv_iload_n hx hb dM_rebuild_85 rfl (lv_at hl 2 rfl) ?_
      refine aI hx hb hK hP 2 1 rfl rfl (by omega) (by decide) dM_rebuild_86 ?_
      refine tI upd_eq ?_
      refine kV (n := 2) (As := [.int (nI d), .int (nI j)]) (rest := []) ⟨hx, hb, hml, hown, hts⟩ (mM_gone l D o a b cA iA (nI 0) c9 (upd uf d (nI j)) d j (by omega) (by omega)) w_299 w_301 v_12 w_2 w_302 (by decide +kernel) ⟨rfl, rfl⟩ ⟨(Nat.le_of_ble_eq_true rfl), (Nat.le_of_ble_eq_true rfl)⟩ hP hK 1 0 rfl rfl rfl hl.1 rfl (Nat.le_of_ble_eq_true rfl) dM_rebuild_87 ⟨Nat.zero_le _, Nat.zero_le _⟩ ?_
      refine lv_if_ne (tgt := 154) hx hb dM_rebuild_90 (by decide) (fun h90 => ?_) (fun h90 => ?_)
      · have e9 : oc uf d j = false := by have z := bi_1 h90; rw [il_oc cu_upd_self, oc_upd] at z; exact nb_f z
        have hi := hi.trans (rbF_f e9)
        refine lv_aload_n hx hb dM_rebuild_154 rfl (lv_at hl 1 rfl) ?_
        refine va_get (D := D) (ci := 1) (v := .ref b) (C := R_M) (T := T_M) (N := 3) hx hb hg uM_in hown hK hP 0 rfl rfl 2 (by decide) (hg _ w_272) (fun _ h9 => h9) rfl dM_rebuild_155 ?_
        refine lv_iload_n hx hb dM_rebuild_158 rfl (lv_at hl 2 rfl) ?_
        refine aI hx hb hK hP 2 1 rfl rfl (by omega) (by decide) dM_rebuild_159 ?_
        refine tI upd_eq ?_
        exact W.iret (v := nI j) hx hb hr (fun t9 ht9 _ => ⟨⟨_, (), rfl, by show _ = _; rw [hi], by show va_P _ _ _ t9.heap; rw [ht9]; rw [hi]; exact hP⟩, hS.F ht9⟩) hS.2.2 dM_rebuild_160
      · have e9 : oc uf d j = true := by have z := bi_0 h90; rw [il_oc cu_upd_self, oc_upd] at z; exact nb_t z
        refine lv_iconst (v := nI 0) hx hb dM_rebuild_93 (by decide +kernel) ?_
        refine lv_istore hx hb dM_rebuild_94 hl (by decide) rfl (fun ls hl => ?_)
        have hl : lv_has ls 5 [(4, .int (nI 0)), (3, .int (nI k)), (0, .ref o), (1, .int (nI d)), (2, .int (nI n9))] := hl
        refine lv_iload hx hb dM_rebuild_96 (lv_at hl 0 rfl) ?_
        refine lv_iconst (v := nI 2) hx hb dM_rebuild_98 (by decide +kernel) ?_
        refine lv_icmp_ge (tgt := 138) hx hb dM_rebuild_99 (by decide) (fun h99 => absurd h99 (by decide +kernel)) (fun h99 => ?_)
        refine lv_aload_n hx hb dM_rebuild_102 rfl (lv_at hl 2 rfl) ?_
        refine va_get (D := D) (ci := 1) (v := .ref a) (C := R_M) (T := T_M) (N := 3) hx hb hg uM_in hown hK hP 0 rfl rfl 1 (by decide) (hg _ w_271) (fun _ h9 => h9) rfl dM_rebuild_103 ?_
        refine lv_iload_n hx hb dM_rebuild_106 rfl (lv_at hl 3 rfl) ?_
        refine lv_aload_n hx hb dM_rebuild_107 rfl (lv_at hl 2 rfl) ?_
        refine va_get (D := D) (ci := 1) (v := .ref b) (C := R_M) (T := T_M) (N := 3) hx hb hg uM_in hown hK hP 0 rfl rfl 2 (by decide) (hg _ w_272) (fun _ h9 => h9) rfl dM_rebuild_108 ?_
        refine lv_iload_n hx hb dM_rebuild_111 rfl (lv_at hl 3 rfl) ?_
        refine aI hx hb hK hP 2 1 rfl rfl (by omega) (by decide) dM_rebuild_112 ?_
        refine tI upd_eq ?_
        refine lv_iload hx hb dM_rebuild_113 (lv_at hl 0 rfl) ?_
        refine kS (n := 3) (As := [.int (nI d), .int (nI j), .int (nI 0)]) (rest := [.ref a]) ⟨hx, hb, hml, hown, hts⟩ (mM_at l d j 0) w_311 w_312 w_2 w_313 (by decide +kernel) ⟨rfl, rfl⟩ ⟨(Nat.le_of_ble_eq_true rfl), (Nat.le_of_ble_eq_true rfl)⟩ rfl hl.1 rfl (Nat.le_of_ble_eq_true rfl) dM_rebuild_115 ⟨Nat.zero_le _, Nat.zero_le _⟩ ?_
        refine lv_aload_n hx hb dM_rebuild_118 rfl (lv_at hl 2 rfl) ?_
        refine lv_iload_n hx hb dM_rebuild_119 rfl (lv_at hl 3 rfl) ?_
        refine lv_aload_n hx hb dM_rebuild_120 rfl (lv_at hl 2 rfl) ?_
        refine va_get (D := D) (ci := 1) (v := .ref b) (C := R_M) (T := T_M) (N := 3) hx hb hg uM_in hown hK hP 0 rfl rfl 2 (by decide) (hg _ w_272) (fun _ h9 => h9) rfl dM_rebuild_121 ?_
        refine lv_iload_n hx hb dM_rebuild_124 rfl (lv_at hl 3 rfl) ?_
        refine aI hx hb hK hP 2 1 rfl rfl (by omega) (by decide) dM_rebuild_125 ?_
        refine tI upd_eq ?_
        refine lv_iload hx hb dM_rebuild_126 (lv_at hl 0 rfl) ?_
        refine kV (n := 3) (As := [.int (nI d), .int (nI j), .int (nI 0)]) (rest := [.int (nI (ix d j 0)), .ref a]) ⟨hx, hb, hml, hown, hts⟩ (mM_others l D o a b cA iA (nI 0) c9 (upd uf d (nI j)) d j 0 (by omega) (by omega) (by omega)) w_314 w_316 v_15 w_2 w_317 (by decide +kernel) ⟨rfl, rfl⟩ ⟨(Nat.le_of_ble_eq_true rfl), (Nat.le_of_ble_eq_true rfl)⟩ hP hK 1 0 rfl rfl rfl hl.1 rfl (Nat.le_of_ble_eq_true rfl) dM_rebuild_128 ⟨Nat.zero_le _, Nat.zero_le _⟩ ?_
        refine sL hx hb hK hP hD hS 1 0 rfl rfl (ix_lt (by omega) (by omega) (by omega)) (by decide) dM_rebuild_131 (fun H locs hP hD hS => ?_)
        have hP : va_P D cls_ (wM o a b cA iA (nI 0) (vp_updL c9 (ix d j 0) (xo c9 d j 0)) (upd uf d (nI j))) H := hP
        have hD : va_D A (wM o a b cA iA (nI 0) (vp_updL c9 (ix d j 0) (xo c9 d j 0)) (upd uf d (nI j))) := hD
        refine lv_iinc (k := 0) (v := nI 1) hx hb dM_rebuild_132 hl rfl (by decide +kernel)  (by decide) rfl (fun ls hl => ?_)
        have hl : lv_has ls 5 [(4, .int (nI 1)), (3, .int (nI k)), (0, .ref o), (1, .int (nI d)), (2, .int (nI n9))] := hl
        refine lv_goto (tgt := 96) hx hb dM_rebuild_135 (by decide) ?_
        refine lv_iload hx hb dM_rebuild_96 (lv_at hl 0 rfl) ?_
        refine lv_iconst (v := nI 2) hx hb dM_rebuild_98 (by decide +kernel) ?_
        refine lv_icmp_ge (tgt := 138) hx hb dM_rebuild_99 (by decide) (fun h99 => absurd h99 (by decide +kernel)) (fun h99 => ?_)
        refine lv_aload_n hx hb dM_rebuild_102 rfl (lv_at hl 2 rfl) ?_
        refine va_get (D := D) (ci := 1) (v := .ref a) (C := R_M) (T := T_M) (N := 3) hx hb hg uM_in hown hK hP 0 rfl rfl 1 (by decide) (hg _ w_271) (fun _ h9 => h9) rfl dM_rebuild_103 ?_
        refine lv_iload_n hx hb dM_rebuild_106 rfl (lv_at hl 3 rfl) ?_
        refine lv_aload_n hx hb dM_rebuild_107 rfl (lv_at hl 2 rfl) ?_
        refine va_get (D := D) (ci := 1) (v := .ref b) (C := R_M) (T := T_M) (N := 3) hx hb hg uM_in hown hK hP 0 rfl rfl 2 (by decide) (hg _ w_272) (fun _ h9 => h9) rfl dM_rebuild_108 ?_
        refine lv_iload_n hx hb dM_rebuild_111 rfl (lv_at hl 3 rfl) ?_
        refine aI hx hb hK hP 2 1 rfl rfl (by omega) (by decide) dM_rebuild_112 ?_
        refine tI upd_eq ?_
        refine lv_iload hx hb dM_rebuild_113 (lv_at hl 0 rfl) ?_
        refine kS (n := 3) (As := [.int (nI d), .int (nI j), .int (nI 1)]) (rest := [.ref a]) ⟨hx, hb, hml, hown, hts⟩ (mM_at l d j 1) w_311 w_312 w_2 w_313 (by decide +kernel) ⟨rfl, rfl⟩ ⟨(Nat.le_of_ble_eq_true rfl), (Nat.le_of_ble_eq_true rfl)⟩ rfl hl.1 rfl (Nat.le_of_ble_eq_true rfl) dM_rebuild_115 ⟨Nat.zero_le _, Nat.zero_le _⟩ ?_
        refine lv_aload_n hx hb dM_rebuild_118 rfl (lv_at hl 2 rfl) ?_
        refine lv_iload_n hx hb dM_rebuild_119 rfl (lv_at hl 3 rfl) ?_
        refine lv_aload_n hx hb dM_rebuild_120 rfl (lv_at hl 2 rfl) ?_
        refine va_get (D := D) (ci := 1) (v := .ref b) (C := R_M) (T := T_M) (N := 3) hx hb hg uM_in hown hK hP 0 rfl rfl 2 (by decide) (hg _ w_272) (fun _ h9 => h9) rfl dM_rebuild_121 ?_
        refine lv_iload_n hx hb dM_rebuild_124 rfl (lv_at hl 3 rfl) ?_
        refine aI hx hb hK hP 2 1 rfl rfl (by omega) (by decide) dM_rebuild_125 ?_
        refine tI upd_eq ?_
        refine lv_iload hx hb dM_rebuild_126 (lv_at hl 0 rfl) ?_
        refine kV (n := 3) (As := [.int (nI d), .int (nI j), .int (nI 1)]) (rest := [.int (nI (ix d j 1)), .ref a]) ⟨hx, hb, hml, hown, hts⟩ (mM_others l D o a b cA iA (nI 0) (vp_updL c9 (ix d j 0) (xo c9 d j 0)) (upd uf d (nI j)) d j 1 (by omega) (by omega) (by omega)) w_314 w_316 v_15 w_2 w_317 (by decide +kernel) ⟨rfl, rfl⟩ ⟨(Nat.le_of_ble_eq_true rfl), (Nat.le_of_ble_eq_true rfl)⟩ hP hK 1 0 rfl rfl rfl hl.1 rfl (Nat.le_of_ble_eq_true rfl) dM_rebuild_128 ⟨Nat.zero_le _, Nat.zero_le _⟩ ?_
        refine sL hx hb hK hP hD hS 1 0 rfl rfl (ix_lt (by omega) (by omega) (by omega)) (by decide) dM_rebuild_131 (fun H locs hP hD hS => ?_)
        have hP : va_P D cls_ (wM o a b cA iA (nI 0) (vp_updL (vp_updL c9 (ix d j 0) (xo c9 d j 0)) (ix d j 1) (xo (vp_updL c9 (ix d j 0) (xo c9 d j 0)) d j 1)) (upd uf d (nI j))) H := hP
        have hD : va_D A (wM o a b cA iA (nI 0) (vp_updL (vp_updL c9 (ix d j 0) (xo c9 d j 0)) (ix d j 1) (xo (vp_updL c9 (ix d j 0) (xo c9 d j 0)) d j 1)) (upd uf d (nI j))) := hD
        refine lv_iinc (k := 0) (v := nI 2) hx hb dM_rebuild_132 hl rfl (by decide +kernel)  (by decide) rfl (fun ls hl => ?_)
        have hl : lv_has ls 5 [(4, .int (nI 2)), (3, .int (nI k)), (0, .ref o), (1, .int (nI d)), (2, .int (nI n9))] := hl
        refine lv_goto (tgt := 96) hx hb dM_rebuild_135 (by decide) ?_
        refine lv_iload hx hb dM_rebuild_96 (lv_at hl 0 rfl) ?_
        refine lv_iconst (v := nI 2) hx hb dM_rebuild_98 (by decide +kernel) ?_
        refine lv_icmp_ge (tgt := 138) hx hb dM_rebuild_99 (by decide) (fun h99 => ?_) (fun h99 => absurd (by decide +kernel) h99)
        refine lv_aload_n hx hb dM_rebuild_138 rfl (lv_at hl 2 rfl) ?_
        refine va_get (D := D) (ci := 1) (v := .ref b) (C := R_M) (T := T_M) (N := 3) hx hb hg uM_in hown hK hP 0 rfl rfl 2 (by decide) (hg _ w_272) (fun _ h9 => h9) rfl dM_rebuild_139 ?_
        refine lv_iload_n hx hb dM_rebuild_142 rfl (lv_at hl 3 rfl) ?_
        refine lv_dup2_11 hx hb dM_rebuild_143 rfl rfl ?_
        refine aI hx hb hK hP 2 1 rfl rfl (by omega) (by decide) dM_rebuild_144 ?_
        refine tI upd_eq ?_
        refine lv_iconst (v := nI 1) hx hb dM_rebuild_145 (by decide +kernel) ?_
        refine lv_iadd hx hb dM_rebuild_146 ?_
        refine tI (nI_add _ _) ?_
        refine sI hx hb hK hP hD hS 2 1 rfl rfl (by omega) (by decide) dM_rebuild_147 (fun H locs hP hD hS => ?_)
        have hP : va_P D cls_ (wM o a b cA iA (nI 0) (vp_updL (vp_updL c9 (ix d j 0) (xo c9 d j 0)) (ix d j 1) (xo (vp_updL c9 (ix d j 0) (xo c9 d j 0)) d j 1)) (upd (upd uf d (nI j)) d (nI (j + 1)))) H := hP
        have hD : va_D A (wM o a b cA iA (nI 0) (vp_updL (vp_updL c9 (ix d j 0) (xo c9 d j 0)) (ix d j 1) (xo (vp_updL c9 (ix d j 0) (xo c9 d j 0)) d j 1)) (upd (upd uf d (nI j)) d (nI (j + 1)))) := hD
        refine lv_iinc (k := 1) (v := nI (k + 1)) hx hb dM_rebuild_148 hl rfl (incI _)  (by decide) rfl (fun ls hl => ?_)
        have hl : lv_has ls 5 [(3, .int (nI (k + 1))), (4, .int (nI 2)), (0, .ref o), (1, .int (nI d)), (2, .int (nI n9))] := hl
        refine lv_goto (tgt := 63) hx hb dM_rebuild_151 (by decide) ?_
        rw [upd_upd] at hP hD
        have hl := lv_sub hl [0, 2, 3, 4] rfl
        exact ih (j + 1) (k + 1) _ _ _ _ (by omega) (by omega) (by omega) (hi.trans (rbF_t e9)) hP hD hS hl
  exact key (min n9 (100 - f)) f 0 cf _ _ _ (by rw [Nat.sub_zero]) (by omega) (Nat.zero_le _) rfl hP hD hS hl
set_option maxHeartbeats 4000000 in
set_option maxRecDepth 100000 in
theorem mM_lost (l : Launch) (D : va_G) (o a b : Nat) (cA iA : ClassId) (er : Int32) (cf : Nat → Int64) (uf : Nat → Int32) (sz : Nat)  : Met l yM_lost (.code yM_lost cM_lost 3 (some .int) :: gW) ({ frames := 2, cells := 0, slots := 0, locals := 45 }) (pWs D (wM o a b cA iA er cf uf) (kT cA iA) sz [.ref o]) (QI (nI (loF uf 400)) D (wM o a b cA iA (nI 0) cf uf) (va_A (wM o a b cA iA er cf uf) sz)) 0 0 (va_A (wM o a b cA iA er cf uf) sz) := by
  refine Met.ofW (cc := cM_lost) (maxL := 3) (ret := (some .int)) (by decide) rfl ?_
  intro p e s m args below meth c s₁ B hml hv
  obtain ⟨rfl, hsz, hP, hK, hD0⟩ := hv
  have hx := B.exec
  have hb := B.bytes
  have hr := B.returns
  have hts := atoms_spec (ws := (.code yM_lost cM_lost 3 (some .int) :: gW)) B.pre
  have hg : ∀ w ∈ gW, w.before ([.ref o]).toArray s = true := fun w h => hts w (List.mem_cons_of_mem _ h)
  have hown : s.vm.findClass R_M = some m.cls := findClass_of_methodNamed B.named
  have hlocks := B.notSynchronized
  subst hsz
  have hD := hD0.self (sz := s.heap.size)
  generalize hAe : va_A (wM o a b cA iA er cf uf) s.heap.size = A at hD ⊢
  have hA : ∀ q : Nat, s.heap.size ≤ q → A q := fun q h => by rw [← hAe]; exact Or.inr h
  have hS : va_S A s.heap s.heap [] := va_S.rf
  have hP : va_P D cls_ (wM o a b cA iA er cf uf) s.heap := hP
  have hl := lv_entry ([.ref o]) (n := 3) (Nat.le_of_ble_eq_true rfl)
  rw [lg_entry_eq]
  generalize (lg_sl ([.ref o]) ++ List.replicate (3 - (lg_sl ([.ref o])).length) Slot.unset).toArray = ls at hl ⊢
  have hl : lv_has ls 3 [(0, .ref o)] := hl
  refine lv_aload_n hx hb dM_lost_0 rfl (lv_at hl 0 rfl) ?_
  refine lv_iconst (v := nI 0) hx hb dM_lost_1 (by decide +kernel) ?_
  refine va_put (D := D) (ci := 1) (v := .int (nI 0)) (ty := .int) (C := R_M) (T := T_M) (N := 3) hx hb hg uM_in ty_M ty_M_ok nd_M hown hK hP hD hS 0 rfl rfl 0 (by decide) (hg _ w_270) (fun _ h9 => h9) rfl (by decide +kernel) rfl rfl (Nat.le_of_ble_eq_true rfl) dM_lost_2 (fun H locs hP hD hS => ?_)
  have hP : va_P D cls_ (wM o a b cA iA (nI 0) cf uf) H := hP
  have hD : va_D A (wM o a b cA iA (nI 0) cf uf) := hD
  refine lv_iconst (v := nI 0) hx hb dM_lost_5 (by decide +kernel) ?_
  refine lv_istore_n hx hb dM_lost_6 rfl hl (by decide) rfl (fun ls hl => ?_)
  have hl : lv_has ls 3 [(1, .int (nI 0)), (0, .ref o)] := hl
  refine lv_iconst (v := nI 0) hx hb dM_lost_7 (by decide +kernel) ?_
  refine lv_istore_n hx hb dM_lost_8 rfl hl (by decide) rfl (fun ls hl => ?_)
  have hl : lv_has ls 3 [(2, .int (nI 0)), (1, .int (nI 0)), (0, .ref o)] := hl
  have key : ∀ (n : Nat) (j : Nat) (H : Heap) (locs : List Loc) (ls : Array Slot), j + n = 400 →  va_P D cls_ (wM o a b cA iA (nI 0) cf uf) H → va_D A (wM o a b cA iA (nI 0) cf uf) → va_S A s.heap H locs → lv_has ls 3 [(2, .int (nI j)), (1, .int (nI (loF uf j))), (0, .ref o)] → W p l e (headSpec (.code yM_lost cM_lost 3 (some .int) :: gW) ({ frames := 2, cells := 0, slots := 0, locals := 45 })).room s m ([.ref o]).toArray below meth c H locs 0 0 (MQ below (QI (nI (loF uf 400)) D (wM o a b cA iA (nI 0) cf uf) A) ([.ref o]).toArray s 0 0 A) (F0 m 9 ls []) := by
    intro n
    induction n with
    | zero =>
      intro j H locs ls hj hP hD hS hl
      obtain rfl : j = 400 := by omega
      refine lv_iload_n hx hb dM_lost_9 rfl (lv_at hl 0 rfl) ?_
      refine lv_sipush (v := nI 400) hx hb dM_lost_10 (by decide +kernel) ?_
      refine lv_icmp_ge (tgt := 39) hx hb dM_lost_13 (by decide) (fun h13 => ?_) (fun h13 => absurd (nI_le (Nat.le_refl 400) (by decide)) h13)
      refine lv_iload_n hx hb dM_lost_39 rfl (lv_at hl 1 rfl) ?_
      exact W.iret (v := nI (loF uf 400)) hx hb hr (fun t9 ht9 _ => ⟨⟨_, (), rfl, by show _ = _; rfl, by show va_P _ _ _ t9.heap; rw [ht9]; exact hP⟩, hS.F ht9⟩) hS.2.2 dM_lost_40
    | succ n ih =>
      intro j H locs ls hj hP hD hS hl
      refine lv_iload_n hx hb dM_lost_9 rfl (lv_at hl 0 rfl) ?_
      refine lv_sipush (v := nI 400) hx hb dM_lost_10 (by decide +kernel) ?_
      refine lv_icmp_ge (tgt := 39) hx hb dM_lost_13 (by decide) (fun h13 => absurd h13 (nI_ge (by omega) (by decide))) (fun h13 => ?_)
      refine lv_aload_n hx hb dM_lost_16 rfl (lv_at hl 2 rfl) ?_
      refine lv_iload_n hx hb dM_lost_17 rfl (lv_at hl 0 rfl) ?_
      refine kS (n := 1) (As := [.int (nI j)]) (rest := [.ref o]) ⟨hx, hb, hml, hown, hts⟩ (mM_disk l j (by omega)) w_296 w_297 w_2 w_298 (by decide +kernel) ⟨rfl, rfl⟩ ⟨(Nat.le_of_ble_eq_true rfl), (Nat.le_of_ble_eq_true rfl)⟩ rfl hl.1 rfl (Nat.le_of_ble_eq_true rfl) dM_lost_18 ⟨Nat.zero_le _, Nat.zero_le _⟩ ?_
      refine lv_iload_n hx hb dM_lost_21 rfl (lv_at hl 0 rfl) ?_
      refine lv_iconst (v := nI 4) hx hb dM_lost_22 (by decide +kernel) ?_
      refine lv_idiv hx hb dM_lost_23 (by decide +kernel) ?_
      refine tI (pk_div (by omega) (by decide) (by decide)) ?_
      refine kV (n := 2) (As := [.int (nI (dk j)), .int (nI (j / 4))]) (rest := []) ⟨hx, hb, hml, hown, hts⟩ (mM_gone l D o a b cA iA (nI 0) cf uf (dk j) (j / 4) (dk_lt _) (by omega)) w_299 w_301 v_12 w_2 w_302 (by decide +kernel) ⟨rfl, rfl⟩ ⟨(Nat.le_of_ble_eq_true rfl), (Nat.le_of_ble_eq_true rfl)⟩ hP hK 1 0 rfl rfl rfl hl.1 rfl (Nat.le_of_ble_eq_true rfl) dM_lost_24 ⟨Nat.zero_le _, Nat.zero_le _⟩ ?_
      refine lv_if_eq (tgt := 33) hx hb dM_lost_27 (by decide) (fun h27 => ?_) (fun h27 => ?_)
      · have e9 := loF_f (bi_0 h27)
        refine lv_iinc (k := 0) (v := nI (j + 1)) hx hb dM_lost_33 hl rfl (incI _)  (by decide) rfl (fun ls hl => ?_)
        have hl : lv_has ls 3 [(2, .int (nI (j + 1))), (1, .int (nI (loF uf j))), (0, .ref o)] := hl
        refine lv_goto (tgt := 9) hx hb dM_lost_36 (by decide) ?_
        rw [← e9] at hl
        exact ih (j + 1) _ _ _ (by omega) hP hD hS hl
      · have e9 := loF_t (bi_1 h27)
        refine lv_iinc (k := 1) (v := nI (loF uf j + 1)) hx hb dM_lost_30 hl rfl (incI _)  (by decide) rfl (fun ls hl => ?_)
        have hl : lv_has ls 3 [(1, .int (nI (loF uf j + 1))), (2, .int (nI j)), (0, .ref o)] := hl
        refine lv_iinc (k := 1) (v := nI (j + 1)) hx hb dM_lost_33 hl rfl (incI _)  (by decide) rfl (fun ls hl => ?_)
        have hl : lv_has ls 3 [(2, .int (nI (j + 1))), (1, .int (nI (loF uf j + 1))), (0, .ref o)] := hl
        refine lv_goto (tgt := 9) hx hb dM_lost_36 (by decide) ?_
        rw [← e9] at hl
        exact ih (j + 1) _ _ _ (by omega) hP hD hS hl
  exact key 400 0 _ _ _ rfl hP hD hS hl
set_option maxHeartbeats 4000000 in
set_option maxRecDepth 100000 in
theorem mM_scrub (l : Launch) (D : va_G) (o a b : Nat) (cA iA : ClassId) (er : Int32) (cf : Nat → Int64) (uf : Nat → Int32) (sz : Nat)  : Met l yM_scrub (.code yM_scrub cM_scrub 6 (some .int) :: gW) ({ frames := 2, cells := 0, slots := 0, locals := 48 }) (pWs D (wM o a b cA iA er cf uf) (kT cA iA) sz [.ref o]) (QI (nI (scF cf uf 100).2) D (wM o a b cA iA (nI 0) ((scF cf uf 100).1) uf) (va_A (wM o a b cA iA er cf uf) sz)) 0 0 (va_A (wM o a b cA iA er cf uf) sz) := by
  refine Met.ofW (cc := cM_scrub) (maxL := 6) (ret := (some .int)) (by decide) rfl ?_
  intro p e s m args below meth c s₁ B hml hv
  obtain ⟨rfl, hsz, hP, hK, hD0⟩ := hv
  have hx := B.exec
  have hb := B.bytes
  have hr := B.returns
  have hts := atoms_spec (ws := (.code yM_scrub cM_scrub 6 (some .int) :: gW)) B.pre
  have hg : ∀ w ∈ gW, w.before ([.ref o]).toArray s = true := fun w h => hts w (List.mem_cons_of_mem _ h)
  have hown : s.vm.findClass R_M = some m.cls := findClass_of_methodNamed B.named
  have hlocks := B.notSynchronized
  subst hsz
  have hD := hD0.self (sz := s.heap.size)
  generalize hAe : va_A (wM o a b cA iA er cf uf) s.heap.size = A at hD ⊢
  have hA : ∀ q : Nat, s.heap.size ≤ q → A q := fun q h => by rw [← hAe]; exact Or.inr h
  have hS : va_S A s.heap s.heap [] := va_S.rf
  have hP : va_P D cls_ (wM o a b cA iA er cf uf) s.heap := hP
  have hl := lv_entry ([.ref o]) (n := 6) (Nat.le_of_ble_eq_true rfl)
  rw [lg_entry_eq]
  generalize (lg_sl ([.ref o]) ++ List.replicate (6 - (lg_sl ([.ref o])).length) Slot.unset).toArray = ls at hl ⊢
  have hl : lv_has ls 6 [(0, .ref o)] := hl
  refine lv_aload_n hx hb dM_scrub_0 rfl (lv_at hl 0 rfl) ?_
  refine lv_iconst (v := nI 0) hx hb dM_scrub_1 (by decide +kernel) ?_
  refine va_put (D := D) (ci := 1) (v := .int (nI 0)) (ty := .int) (C := R_M) (T := T_M) (N := 3) hx hb hg uM_in ty_M ty_M_ok nd_M hown hK hP hD hS 0 rfl rfl 0 (by decide) (hg _ w_270) (fun _ h9 => h9) rfl (by decide +kernel) rfl rfl (Nat.le_of_ble_eq_true rfl) dM_scrub_2 (fun H locs hP hD hS => ?_)
  have hP : va_P D cls_ (wM o a b cA iA (nI 0) cf uf) H := hP
  have hD : va_D A (wM o a b cA iA (nI 0) cf uf) := hD
  refine lv_iconst (v := nI 0) hx hb dM_scrub_5 (by decide +kernel) ?_
  refine lv_istore_n hx hb dM_scrub_6 rfl hl (by decide) rfl (fun ls hl => ?_)
  have hl : lv_has ls 6 [(1, .int (nI 0)), (0, .ref o)] := hl
  refine lv_iconst (v := nI 0) hx hb dM_scrub_7 (by decide +kernel) ?_
  refine lv_istore_n hx hb dM_scrub_8 rfl hl (by decide) rfl (fun ls hl => ?_)
  have hl : lv_has ls 6 [(2, .int (nI 0)), (1, .int (nI 0)), (0, .ref o)] := hl
  have key : ∀ (n : Nat) (j : Nat) (H : Heap) (locs : List Loc) (ls : Array Slot), j + n = 100 →  va_P D cls_ (wM o a b cA iA (nI 0) ((scF cf uf j).1) uf) H → va_D A (wM o a b cA iA (nI 0) ((scF cf uf j).1) uf) → va_S A s.heap H locs → lv_has ls 6 [(2, .int (nI j)), (1, .int (nI ((scF cf uf j).2))), (0, .ref o)] → W p l e (headSpec (.code yM_scrub cM_scrub 6 (some .int) :: gW) ({ frames := 2, cells := 0, slots := 0, locals := 48 })).room s m ([.ref o]).toArray below meth c H locs 0 0 (MQ below (QI (nI (scF cf uf 100).2) D (wM o a b cA iA (nI 0) ((scF cf uf 100).1) uf) A) ([.ref o]).toArray s 0 0 A) (F0 m 9 ls []) := by
    intro n
    induction n with
    | zero =>
      intro j H locs ls hj hP hD hS hl
      obtain rfl : j = 100 := by omega
      refine lv_iload_n hx hb dM_scrub_9 rfl (lv_at hl 0 rfl) ?_
      refine lv_bipush (v := nI 100) hx hb dM_scrub_10 (by decide +kernel) ?_
      refine lv_icmp_ge (tgt := 147) hx hb dM_scrub_12 (by decide) (fun h12 => ?_) (fun h12 => absurd (nI_le (Nat.le_refl 100) (by decide)) h12)
      refine lv_iload_n hx hb dM_scrub_147 rfl (lv_at hl 1 rfl) ?_
      exact W.iret (v := nI ((scF cf uf 100).2)) hx hb hr (fun t9 ht9 _ => ⟨⟨_, (), rfl, by show _ = _; rfl, by show va_P _ _ _ t9.heap; rw [ht9]; exact hP⟩, hS.F ht9⟩) hS.2.2 dM_scrub_148
    | succ n ih =>
      intro j H locs ls hj hP hD hS hl
      refine lv_iload_n hx hb dM_scrub_9 rfl (lv_at hl 0 rfl) ?_
      refine lv_bipush (v := nI 100) hx hb dM_scrub_10 (by decide +kernel) ?_
      refine lv_icmp_ge (tgt := 147) hx hb dM_scrub_12 (by decide) (fun h12 => absurd h12 (nI_ge (by omega) (by decide))) (fun h12 => ?_)
      refine lv_iload_n hx hb dM_scrub_15 rfl (lv_at hl 0 rfl) ?_
      refine lv_iconst (v := nI 5) hx hb dM_scrub_16 (by decide +kernel) ?_
      refine lv_irem hx hb dM_scrub_17 (by decide +kernel) ?_
      refine tI (pk_rem (by omega) (by decide) (by decide)) ?_
      refine lv_istore_n hx hb dM_scrub_18 rfl hl (by decide) rfl (fun ls hl => ?_)
      have hl : lv_has ls 6 [(3, .int (nI (j % 5))), (2, .int (nI j)), (1, .int (nI ((scF cf uf j).2))), (0, .ref o)] := hl
      refine lv_iconst (v := nI 1) hx hb dM_scrub_19 (by decide +kernel) ?_
      refine lv_istore hx hb dM_scrub_20 hl (by decide) rfl (fun ls hl => ?_)
      have hl : lv_has ls 6 [(4, .int (nI 1)), (3, .int (nI (j % 5))), (2, .int (nI j)), (1, .int (nI ((scF cf uf j).2))), (0, .ref o)] := hl
      refine lv_iconst (v := nI 0) hx hb dM_scrub_22 (by decide +kernel) ?_
      refine lv_istore hx hb dM_scrub_23 hl (by decide) rfl (fun ls hl => ?_)
      have hl : lv_has ls 6 [(5, .int (nI 0)), (4, .int (nI 1)), (3, .int (nI (j % 5))), (2, .int (nI j)), (1, .int (nI ((scF cf uf j).2))), (0, .ref o)] := hl
      have ky2 : ∀ n k : Nat, k + n = 5 → ∀ ls : Array Slot, lv_has ls 6 [(5, .int (nI k)), (4, .int (bi (auN uf j k))), (3, .int (nI (j % 5))), (2, .int (nI j)), (1, .int (nI ((scF cf uf j).2))), (0, .ref o)] → W p l e (headSpec (.code yM_scrub cM_scrub 6 (some .int) :: gW) ({ frames := 2, cells := 0, slots := 0, locals := 48 })).room s m ([.ref o]).toArray below meth c H locs 0 0 (MQ below (QI (nI (scF cf uf 100).2) D (wM o a b cA iA (nI 0) ((scF cf uf 100).1) uf) A) ([.ref o]).toArray s 0 0 A) (F0 m 25 ls []) := by
        intro n
        induction n with
        | zero =>
          intro k hk ls hl
          obtain rfl : k = 5 := by omega
          refine lv_iload hx hb dM_scrub_25 (lv_at hl 0 rfl) ?_
          refine lv_iconst (v := nI 5) hx hb dM_scrub_27 (by decide +kernel) ?_
          refine lv_icmp_ge (tgt := 50) hx hb dM_scrub_28 (by decide) (fun h28 => ?_) (fun h28 => absurd (nI_le (Nat.le_refl 5) (by decide)) h28)
          refine lv_iload hx hb dM_scrub_50 (lv_at hl 1 rfl) ?_
          refine lv_if_eq (tgt := 141) hx hb dM_scrub_52 (by decide) (fun h52 => ?_) (fun h52 => ?_)
          · have ea : allU uf j = false := by rw [← auN_5]; exact bi_0 h52
            refine lv_iinc (k := 3) (v := nI (j + 1)) hx hb dM_scrub_141 hl rfl (incI _)  (by decide) rfl (fun ls hl => ?_)
            have hl : lv_has ls 6 [(2, .int (nI (j + 1))), (5, .int (nI 5)), (4, .int (bi (auN uf j 5))), (3, .int (nI (j % 5))), (1, .int (nI ((scF cf uf j).2))), (0, .ref o)] := hl
            refine lv_goto (tgt := 9) hx hb dM_scrub_144 (by decide) ?_
            rw [← scF_n (cf := cf) ea] at hP hD hl
            have hl := lv_sub hl [0, 4, 5] rfl
            exact ih (j + 1) _ _ _ (by omega) hP hD hS hl
          · have ea : allU uf j = true := by rw [← auN_5]; exact bi_1 h52
            refine lv_aload_n hx hb dM_scrub_55 rfl (lv_at hl 5 rfl) ?_
            refine lv_iload_n hx hb dM_scrub_56 rfl (lv_at hl 2 rfl) ?_
            refine lv_iload_n hx hb dM_scrub_57 rfl (lv_at hl 3 rfl) ?_
            refine lv_iconst (v := nI 0) hx hb dM_scrub_58 (by decide +kernel) ?_
            refine kV (n := 3) (As := [.int (nI (j % 5)), .int (nI j), .int (nI 0)]) (rest := []) ⟨hx, hb, hml, hown, hts⟩ (mM_others l D o a b cA iA (nI 0) ((scF cf uf j).1) uf (j % 5) j 0 (by omega) (by omega) (by omega)) w_314 w_316 v_15 w_2 w_317 (by decide +kernel) ⟨rfl, rfl⟩ ⟨(Nat.le_of_ble_eq_true rfl), (Nat.le_of_ble_eq_true rfl)⟩ hP hK 1 0 rfl rfl rfl hl.1 rfl (Nat.le_of_ble_eq_true rfl) dM_scrub_59 ⟨Nat.zero_le _, Nat.zero_le _⟩ ?_
            refine lv_aload_n hx hb dM_scrub_62 rfl (lv_at hl 5 rfl) ?_
            refine va_get (D := D) (ci := 1) (v := .ref a) (C := R_M) (T := T_M) (N := 3) hx hb hg uM_in hown hK hP 0 rfl rfl 1 (by decide) (hg _ w_271) (fun _ h9 => h9) rfl dM_scrub_63 ?_
            refine lv_iload_n hx hb dM_scrub_66 rfl (lv_at hl 2 rfl) ?_
            refine lv_iload_n hx hb dM_scrub_67 rfl (lv_at hl 3 rfl) ?_
            refine lv_iconst (v := nI 0) hx hb dM_scrub_68 (by decide +kernel) ?_
            refine kS (n := 3) (As := [.int (nI (j % 5)), .int (nI j), .int (nI 0)]) (rest := [.ref a, .long (xo ((scF cf uf j).1) (j % 5) j 0)]) ⟨hx, hb, hml, hown, hts⟩ (mM_at l (j % 5) j 0) w_311 w_312 w_2 w_313 (by decide +kernel) ⟨rfl, rfl⟩ ⟨(Nat.le_of_ble_eq_true rfl), (Nat.le_of_ble_eq_true rfl)⟩ rfl hl.1 rfl (Nat.le_of_ble_eq_true rfl) dM_scrub_69 ⟨Nat.zero_le _, Nat.zero_le _⟩ ?_
            refine aL hx hb hK hP 1 0 rfl rfl (ix_lt (by omega) (by omega) (by omega)) (by decide) dM_scrub_72 ?_
            refine W.lcmp hx hb dM_scrub_73 ?_
            refine lv_if_ne (tgt := 102) hx hb dM_scrub_74 (by decide) (fun h74 => ?_) (fun h74 => ?_)
            · have eg := good_n0 (cf := (scF cf uf j).1) (s := j) (fun z => h74 ((lg_cmp_eq _ _).mpr z.symm))
              refine lv_iinc (k := 4) (v := nI ((scF cf uf j).2 + 1)) hx hb dM_scrub_102 hl rfl (incI _)  (by decide) rfl (fun ls hl => ?_)
              have hl : lv_has ls 6 [(1, .int (nI ((scF cf uf j).2 + 1))), (5, .int (nI 5)), (4, .int (bi (auN uf j 5))), (3, .int (nI (j % 5))), (2, .int (nI j)), (0, .ref o)] := hl
              refine lv_aload_n hx hb dM_scrub_105 rfl (lv_at hl 5 rfl) ?_
              refine va_get (D := D) (ci := 1) (v := .ref a) (C := R_M) (T := T_M) (N := 3) hx hb hg uM_in hown hK hP 0 rfl rfl 1 (by decide) (hg _ w_271) (fun _ h9 => h9) rfl dM_scrub_106 ?_
              refine lv_iload_n hx hb dM_scrub_109 rfl (lv_at hl 3 rfl) ?_
              refine lv_iload_n hx hb dM_scrub_110 rfl (lv_at hl 4 rfl) ?_
              refine lv_iconst (v := nI 0) hx hb dM_scrub_111 (by decide +kernel) ?_
              refine kS (n := 3) (As := [.int (nI (j % 5)), .int (nI j), .int (nI 0)]) (rest := [.ref a]) ⟨hx, hb, hml, hown, hts⟩ (mM_at l (j % 5) j 0) w_311 w_312 w_2 w_313 (by decide +kernel) ⟨rfl, rfl⟩ ⟨(Nat.le_of_ble_eq_true rfl), (Nat.le_of_ble_eq_true rfl)⟩ rfl hl.1 rfl (Nat.le_of_ble_eq_true rfl) dM_scrub_112 ⟨Nat.zero_le _, Nat.zero_le _⟩ ?_
              refine lv_aload_n hx hb dM_scrub_115 rfl (lv_at hl 5 rfl) ?_
              refine lv_iload_n hx hb dM_scrub_116 rfl (lv_at hl 3 rfl) ?_
              refine lv_iload_n hx hb dM_scrub_117 rfl (lv_at hl 4 rfl) ?_
              refine lv_iconst (v := nI 0) hx hb dM_scrub_118 (by decide +kernel) ?_
              refine kV (n := 3) (As := [.int (nI (j % 5)), .int (nI j), .int (nI 0)]) (rest := [.int (nI (ix (j % 5) j 0)), .ref a]) ⟨hx, hb, hml, hown, hts⟩ (mM_others l D o a b cA iA (nI 0) ((scF cf uf j).1) uf (j % 5) j 0 (by omega) (by omega) (by omega)) w_314 w_316 v_15 w_2 w_317 (by decide +kernel) ⟨rfl, rfl⟩ ⟨(Nat.le_of_ble_eq_true rfl), (Nat.le_of_ble_eq_true rfl)⟩ hP hK 1 0 rfl rfl rfl hl.1 rfl (Nat.le_of_ble_eq_true rfl) dM_scrub_119 ⟨Nat.zero_le _, Nat.zero_le _⟩ ?_
              refine sL hx hb hK hP hD hS 1 0 rfl rfl (ix_lt (by omega) (by omega) (by omega)) (by decide) dM_scrub_122 (fun H locs hP hD hS => ?_)
              have hP : va_P D cls_ (wM o a b cA iA (nI 0) (vp_updL ((scF cf uf j).1) (ix (j % 5) j 0) (xo ((scF cf uf j).1) (j % 5) j 0)) uf) H := hP
              have hD : va_D A (wM o a b cA iA (nI 0) (vp_updL ((scF cf uf j).1) (ix (j % 5) j 0) (xo ((scF cf uf j).1) (j % 5) j 0)) uf) := hD
              refine lv_aload_n hx hb dM_scrub_123 rfl (lv_at hl 5 rfl) ?_
              refine va_get (D := D) (ci := 1) (v := .ref a) (C := R_M) (T := T_M) (N := 3) hx hb hg uM_in hown hK hP 0 rfl rfl 1 (by decide) (hg _ w_271) (fun _ h9 => h9) rfl dM_scrub_124 ?_
              refine lv_iload_n hx hb dM_scrub_127 rfl (lv_at hl 3 rfl) ?_
              refine lv_iload_n hx hb dM_scrub_128 rfl (lv_at hl 4 rfl) ?_
              refine lv_iconst (v := nI 1) hx hb dM_scrub_129 (by decide +kernel) ?_
              refine kS (n := 3) (As := [.int (nI (j % 5)), .int (nI j), .int (nI 1)]) (rest := [.ref a]) ⟨hx, hb, hml, hown, hts⟩ (mM_at l (j % 5) j 1) w_311 w_312 w_2 w_313 (by decide +kernel) ⟨rfl, rfl⟩ ⟨(Nat.le_of_ble_eq_true rfl), (Nat.le_of_ble_eq_true rfl)⟩ rfl hl.1 rfl (Nat.le_of_ble_eq_true rfl) dM_scrub_130 ⟨Nat.zero_le _, Nat.zero_le _⟩ ?_
              refine lv_aload_n hx hb dM_scrub_133 rfl (lv_at hl 5 rfl) ?_
              refine lv_iload_n hx hb dM_scrub_134 rfl (lv_at hl 3 rfl) ?_
              refine lv_iload_n hx hb dM_scrub_135 rfl (lv_at hl 4 rfl) ?_
              refine lv_iconst (v := nI 1) hx hb dM_scrub_136 (by decide +kernel) ?_
              refine kV (n := 3) (As := [.int (nI (j % 5)), .int (nI j), .int (nI 1)]) (rest := [.int (nI (ix (j % 5) j 1)), .ref a]) ⟨hx, hb, hml, hown, hts⟩ (mM_others l D o a b cA iA (nI 0) (vp_updL ((scF cf uf j).1) (ix (j % 5) j 0) (xo ((scF cf uf j).1) (j % 5) j 0)) uf (j % 5) j 1 (by omega) (by omega) (by omega)) w_314 w_316 v_15 w_2 w_317 (by decide +kernel) ⟨rfl, rfl⟩ ⟨(Nat.le_of_ble_eq_true rfl), (Nat.le_of_ble_eq_true rfl)⟩ hP hK 1 0 rfl rfl rfl hl.1 rfl (Nat.le_of_ble_eq_true rfl) dM_scrub_137 ⟨Nat.zero_le _, Nat.zero_le _⟩ ?_
              refine sL hx hb hK hP hD hS 1 0 rfl rfl (ix_lt (by omega) (by omega) (by omega)) (by decide) dM_scrub_140 (fun H locs hP hD hS => ?_)
              have hP : va_P D cls_ (wM o a b cA iA (nI 0) (vp_updL (vp_updL ((scF cf uf j).1) (ix (j % 5) j 0) (xo ((scF cf uf j).1) (j % 5) j 0)) (ix (j % 5) j 1) (xo (vp_updL ((scF cf uf j).1) (ix (j % 5) j 0) (xo ((scF cf uf j).1) (j % 5) j 0)) (j % 5) j 1)) uf) H := hP
              have hD : va_D A (wM o a b cA iA (nI 0) (vp_updL (vp_updL ((scF cf uf j).1) (ix (j % 5) j 0) (xo ((scF cf uf j).1) (j % 5) j 0)) (ix (j % 5) j 1) (xo (vp_updL ((scF cf uf j).1) (ix (j % 5) j 0) (xo ((scF cf uf j).1) (j % 5) j 0)) (j % 5) j 1)) uf) := hD
              refine lv_iinc (k := 4) (v := nI (j + 1)) hx hb dM_scrub_141 hl rfl (incI _)  (by decide) rfl (fun ls hl => ?_)
              have hl : lv_has ls 6 [(2, .int (nI (j + 1))), (1, .int (nI ((scF cf uf j).2 + 1))), (5, .int (nI 5)), (4, .int (bi (auN uf j 5))), (3, .int (nI (j % 5))), (0, .ref o)] := hl
              refine lv_goto (tgt := 9) hx hb dM_scrub_144 (by decide) ?_
              have hP : va_P D cls_ (wM o a b cA iA (nI 0) (rbB (scF cf uf j).1 (j % 5) j) uf) H := hP
              have hD : va_D A (wM o a b cA iA (nI 0) (rbB (scF cf uf j).1 (j % 5) j) uf) := hD
              rw [← scF_2b ea eg] at hl
              rw [← scF_r ea] at hP hD
              have hl := lv_sub hl [0, 1, 5] rfl
              exact ih (j + 1) _ _ _ (by omega) hP hD hS hl
            · have e74 := (lg_cmp_eq _ _).mp h74
              refine lv_aload_n hx hb dM_scrub_77 rfl (lv_at hl 5 rfl) ?_
              refine lv_iload_n hx hb dM_scrub_78 rfl (lv_at hl 2 rfl) ?_
              refine lv_iload_n hx hb dM_scrub_79 rfl (lv_at hl 3 rfl) ?_
              refine lv_iconst (v := nI 1) hx hb dM_scrub_80 (by decide +kernel) ?_
              refine kV (n := 3) (As := [.int (nI (j % 5)), .int (nI j), .int (nI 1)]) (rest := []) ⟨hx, hb, hml, hown, hts⟩ (mM_others l D o a b cA iA (nI 0) ((scF cf uf j).1) uf (j % 5) j 1 (by omega) (by omega) (by omega)) w_314 w_316 v_15 w_2 w_317 (by decide +kernel) ⟨rfl, rfl⟩ ⟨(Nat.le_of_ble_eq_true rfl), (Nat.le_of_ble_eq_true rfl)⟩ hP hK 1 0 rfl rfl rfl hl.1 rfl (Nat.le_of_ble_eq_true rfl) dM_scrub_81 ⟨Nat.zero_le _, Nat.zero_le _⟩ ?_
              refine lv_aload_n hx hb dM_scrub_84 rfl (lv_at hl 5 rfl) ?_
              refine va_get (D := D) (ci := 1) (v := .ref a) (C := R_M) (T := T_M) (N := 3) hx hb hg uM_in hown hK hP 0 rfl rfl 1 (by decide) (hg _ w_271) (fun _ h9 => h9) rfl dM_scrub_85 ?_
              refine lv_iload_n hx hb dM_scrub_88 rfl (lv_at hl 2 rfl) ?_
              refine lv_iload_n hx hb dM_scrub_89 rfl (lv_at hl 3 rfl) ?_
              refine lv_iconst (v := nI 1) hx hb dM_scrub_90 (by decide +kernel) ?_
              refine kS (n := 3) (As := [.int (nI (j % 5)), .int (nI j), .int (nI 1)]) (rest := [.ref a, .long (xo ((scF cf uf j).1) (j % 5) j 1)]) ⟨hx, hb, hml, hown, hts⟩ (mM_at l (j % 5) j 1) w_311 w_312 w_2 w_313 (by decide +kernel) ⟨rfl, rfl⟩ ⟨(Nat.le_of_ble_eq_true rfl), (Nat.le_of_ble_eq_true rfl)⟩ rfl hl.1 rfl (Nat.le_of_ble_eq_true rfl) dM_scrub_91 ⟨Nat.zero_le _, Nat.zero_le _⟩ ?_
              refine aL hx hb hK hP 1 0 rfl rfl (ix_lt (by omega) (by omega) (by omega)) (by decide) dM_scrub_94 ?_
              refine W.lcmp hx hb dM_scrub_95 ?_
              refine lv_if_ne (tgt := 102) hx hb dM_scrub_96 (by decide) (fun h96 => ?_) (fun h96 => ?_)
              · have eg := good_n1 (cf := (scF cf uf j).1) (s := j) (fun z => h96 ((lg_cmp_eq _ _).mpr z.symm))
                refine lv_iinc (k := 4) (v := nI ((scF cf uf j).2 + 1)) hx hb dM_scrub_102 hl rfl (incI _)  (by decide) rfl (fun ls hl => ?_)
                have hl : lv_has ls 6 [(1, .int (nI ((scF cf uf j).2 + 1))), (5, .int (nI 5)), (4, .int (bi (auN uf j 5))), (3, .int (nI (j % 5))), (2, .int (nI j)), (0, .ref o)] := hl
                refine lv_aload_n hx hb dM_scrub_105 rfl (lv_at hl 5 rfl) ?_
                refine va_get (D := D) (ci := 1) (v := .ref a) (C := R_M) (T := T_M) (N := 3) hx hb hg uM_in hown hK hP 0 rfl rfl 1 (by decide) (hg _ w_271) (fun _ h9 => h9) rfl dM_scrub_106 ?_
                refine lv_iload_n hx hb dM_scrub_109 rfl (lv_at hl 3 rfl) ?_
                refine lv_iload_n hx hb dM_scrub_110 rfl (lv_at hl 4 rfl) ?_
                refine lv_iconst (v := nI 0) hx hb dM_scrub_111 (by decide +kernel) ?_
                refine kS (n := 3) (As := [.int (nI (j % 5)), .int (nI j), .int (nI 0)]) (rest := [.ref a]) ⟨hx, hb, hml, hown, hts⟩ (mM_at l (j % 5) j 0) w_311 w_312 w_2 w_313 (by decide +kernel) ⟨rfl, rfl⟩ ⟨(Nat.le_of_ble_eq_true rfl), (Nat.le_of_ble_eq_true rfl)⟩ rfl hl.1 rfl (Nat.le_of_ble_eq_true rfl) dM_scrub_112 ⟨Nat.zero_le _, Nat.zero_le _⟩ ?_
                refine lv_aload_n hx hb dM_scrub_115 rfl (lv_at hl 5 rfl) ?_
                refine lv_iload_n hx hb dM_scrub_116 rfl (lv_at hl 3 rfl) ?_
                refine lv_iload_n hx hb dM_scrub_117 rfl (lv_at hl 4 rfl) ?_
                refine lv_iconst (v := nI 0) hx hb dM_scrub_118 (by decide +kernel) ?_
                refine kV (n := 3) (As := [.int (nI (j % 5)), .int (nI j), .int (nI 0)]) (rest := [.int (nI (ix (j % 5) j 0)), .ref a]) ⟨hx, hb, hml, hown, hts⟩ (mM_others l D o a b cA iA (nI 0) ((scF cf uf j).1) uf (j % 5) j 0 (by omega) (by omega) (by omega)) w_314 w_316 v_15 w_2 w_317 (by decide +kernel) ⟨rfl, rfl⟩ ⟨(Nat.le_of_ble_eq_true rfl), (Nat.le_of_ble_eq_true rfl)⟩ hP hK 1 0 rfl rfl rfl hl.1 rfl (Nat.le_of_ble_eq_true rfl) dM_scrub_119 ⟨Nat.zero_le _, Nat.zero_le _⟩ ?_
                refine sL hx hb hK hP hD hS 1 0 rfl rfl (ix_lt (by omega) (by omega) (by omega)) (by decide) dM_scrub_122 (fun H locs hP hD hS => ?_)
                have hP : va_P D cls_ (wM o a b cA iA (nI 0) (vp_updL ((scF cf uf j).1) (ix (j % 5) j 0) (xo ((scF cf uf j).1) (j % 5) j 0)) uf) H := hP
                have hD : va_D A (wM o a b cA iA (nI 0) (vp_updL ((scF cf uf j).1) (ix (j % 5) j 0) (xo ((scF cf uf j).1) (j % 5) j 0)) uf) := hD
                refine lv_aload_n hx hb dM_scrub_123 rfl (lv_at hl 5 rfl) ?_
                refine va_get (D := D) (ci := 1) (v := .ref a) (C := R_M) (T := T_M) (N := 3) hx hb hg uM_in hown hK hP 0 rfl rfl 1 (by decide) (hg _ w_271) (fun _ h9 => h9) rfl dM_scrub_124 ?_
                refine lv_iload_n hx hb dM_scrub_127 rfl (lv_at hl 3 rfl) ?_
                refine lv_iload_n hx hb dM_scrub_128 rfl (lv_at hl 4 rfl) ?_
                refine lv_iconst (v := nI 1) hx hb dM_scrub_129 (by decide +kernel) ?_
                refine kS (n := 3) (As := [.int (nI (j % 5)), .int (nI j), .int (nI 1)]) (rest := [.ref a]) ⟨hx, hb, hml, hown, hts⟩ (mM_at l (j % 5) j 1) w_311 w_312 w_2 w_313 (by decide +kernel) ⟨rfl, rfl⟩ ⟨(Nat.le_of_ble_eq_true rfl), (Nat.le_of_ble_eq_true rfl)⟩ rfl hl.1 rfl (Nat.le_of_ble_eq_true rfl) dM_scrub_130 ⟨Nat.zero_le _, Nat.zero_le _⟩ ?_
                refine lv_aload_n hx hb dM_scrub_133 rfl (lv_at hl 5 rfl) ?_
                refine lv_iload_n hx hb dM_scrub_134 rfl (lv_at hl 3 rfl) ?_
                refine lv_iload_n hx hb dM_scrub_135 rfl (lv_at hl 4 rfl) ?_
                refine lv_iconst (v := nI 1) hx hb dM_scrub_136 (by decide +kernel) ?_
                refine kV (n := 3) (As := [.int (nI (j % 5)), .int (nI j), .int (nI 1)]) (rest := [.int (nI (ix (j % 5) j 1)), .ref a]) ⟨hx, hb, hml, hown, hts⟩ (mM_others l D o a b cA iA (nI 0) (vp_updL ((scF cf uf j).1) (ix (j % 5) j 0) (xo ((scF cf uf j).1) (j % 5) j 0)) uf (j % 5) j 1 (by omega) (by omega) (by omega)) w_314 w_316 v_15 w_2 w_317 (by decide +kernel) ⟨rfl, rfl⟩ ⟨(Nat.le_of_ble_eq_true rfl), (Nat.le_of_ble_eq_true rfl)⟩ hP hK 1 0 rfl rfl rfl hl.1 rfl (Nat.le_of_ble_eq_true rfl) dM_scrub_137 ⟨Nat.zero_le _, Nat.zero_le _⟩ ?_
                refine sL hx hb hK hP hD hS 1 0 rfl rfl (ix_lt (by omega) (by omega) (by omega)) (by decide) dM_scrub_140 (fun H locs hP hD hS => ?_)
                have hP : va_P D cls_ (wM o a b cA iA (nI 0) (vp_updL (vp_updL ((scF cf uf j).1) (ix (j % 5) j 0) (xo ((scF cf uf j).1) (j % 5) j 0)) (ix (j % 5) j 1) (xo (vp_updL ((scF cf uf j).1) (ix (j % 5) j 0) (xo ((scF cf uf j).1) (j % 5) j 0)) (j % 5) j 1)) uf) H := hP
                have hD : va_D A (wM o a b cA iA (nI 0) (vp_updL (vp_updL ((scF cf uf j).1) (ix (j % 5) j 0) (xo ((scF cf uf j).1) (j % 5) j 0)) (ix (j % 5) j 1) (xo (vp_updL ((scF cf uf j).1) (ix (j % 5) j 0) (xo ((scF cf uf j).1) (j % 5) j 0)) (j % 5) j 1)) uf) := hD
                refine lv_iinc (k := 4) (v := nI (j + 1)) hx hb dM_scrub_141 hl rfl (incI _)  (by decide) rfl (fun ls hl => ?_)
                have hl : lv_has ls 6 [(2, .int (nI (j + 1))), (1, .int (nI ((scF cf uf j).2 + 1))), (5, .int (nI 5)), (4, .int (bi (auN uf j 5))), (3, .int (nI (j % 5))), (0, .ref o)] := hl
                refine lv_goto (tgt := 9) hx hb dM_scrub_144 (by decide) ?_
                have hP : va_P D cls_ (wM o a b cA iA (nI 0) (rbB (scF cf uf j).1 (j % 5) j) uf) H := hP
                have hD : va_D A (wM o a b cA iA (nI 0) (rbB (scF cf uf j).1 (j % 5) j) uf) := hD
                rw [← scF_2b ea eg] at hl
                rw [← scF_r ea] at hP hD
                have hl := lv_sub hl [0, 1, 5] rfl
                exact ih (j + 1) _ _ _ (by omega) hP hD hS hl
              · have e96 := (lg_cmp_eq _ _).mp h96
                refine lv_goto (tgt := 141) hx hb dM_scrub_99 (by decide) ?_
                refine lv_iinc (k := 3) (v := nI (j + 1)) hx hb dM_scrub_141 hl rfl (incI _)  (by decide) rfl (fun ls hl => ?_)
                have hl : lv_has ls 6 [(2, .int (nI (j + 1))), (5, .int (nI 5)), (4, .int (bi (auN uf j 5))), (3, .int (nI (j % 5))), (1, .int (nI ((scF cf uf j).2))), (0, .ref o)] := hl
                refine lv_goto (tgt := 9) hx hb dM_scrub_144 (by decide) ?_
                have eg := good_i e74.symm e96.symm
                rw [← scF_2n ea eg] at hl
                rw [← scF_1g ea (by omega) eg] at hP hD
                have hl := lv_sub hl [0, 4, 5] rfl
                exact ih (j + 1) _ _ _ (by omega) hP hD hS hl
        | succ n ih2 =>
          intro k hk ls hl
          refine lv_iload hx hb dM_scrub_25 (lv_at hl 0 rfl) ?_
          refine lv_iconst (v := nI 5) hx hb dM_scrub_27 (by decide +kernel) ?_
          refine lv_icmp_ge (tgt := 50) hx hb dM_scrub_28 (by decide) (fun h28 => absurd h28 (nI_ge (by omega) (by decide))) (fun h28 => ?_)
          refine lv_aload_n hx hb dM_scrub_31 rfl (lv_at hl 5 rfl) ?_
          refine lv_iload hx hb dM_scrub_32 (lv_at hl 0 rfl) ?_
          refine lv_iload_n hx hb dM_scrub_34 rfl (lv_at hl 3 rfl) ?_
          refine kV (n := 2) (As := [.int (nI k), .int (nI j)]) (rest := []) ⟨hx, hb, hml, hown, hts⟩ (mM_usable l D o a b cA iA (nI 0) ((scF cf uf j).1) uf k j (by omega) (by omega)) w_303 w_305 v_13 w_2 w_306 (by decide +kernel) ⟨rfl, rfl⟩ ⟨(Nat.le_of_ble_eq_true rfl), (Nat.le_of_ble_eq_true rfl)⟩ hP hK 1 0 rfl rfl rfl hl.1 rfl (Nat.le_of_ble_eq_true rfl) dM_scrub_35 ⟨Nat.zero_le _, Nat.zero_le _⟩ ?_
          refine lv_if_ne (tgt := 44) hx hb dM_scrub_38 (by decide) (fun h38 => ?_) (fun h38 => ?_)
          · refine lv_iinc (k := 0) (v := nI (k + 1)) hx hb dM_scrub_44 hl rfl (incI _)  (by decide) rfl (fun ls hl => ?_)
            have hl : lv_has ls 6 [(5, .int (nI (k + 1))), (4, .int (bi (auN uf j k))), (3, .int (nI (j % 5))), (2, .int (nI j)), (1, .int (nI ((scF cf uf j).2))), (0, .ref o)] := hl
            refine lv_goto (tgt := 25) hx hb dM_scrub_47 (by decide) ?_
            rw [← auN_t (bi_1 h38)] at hl
            exact ih2 (k + 1) (by omega) ls hl
          · refine lv_iconst (v := nI 0) hx hb dM_scrub_41 (by decide +kernel) ?_
            refine lv_istore hx hb dM_scrub_42 hl (by decide) rfl (fun ls hl => ?_)
            have hl : lv_has ls 6 [(4, .int (nI 0)), (5, .int (nI k)), (3, .int (nI (j % 5))), (2, .int (nI j)), (1, .int (nI ((scF cf uf j).2))), (0, .ref o)] := hl
            refine lv_iinc (k := 1) (v := nI (k + 1)) hx hb dM_scrub_44 hl rfl (incI _)  (by decide) rfl (fun ls hl => ?_)
            have hl : lv_has ls 6 [(5, .int (nI (k + 1))), (4, .int (nI 0)), (3, .int (nI (j % 5))), (2, .int (nI j)), (1, .int (nI ((scF cf uf j).2))), (0, .ref o)] := hl
            refine lv_goto (tgt := 25) hx hb dM_scrub_47 (by decide) ?_
            have e8 : nI 0 = bi (auN uf j (k + 1)) := by rw [auN_f (bi_0 h38)]; rfl
            rw [e8] at hl
            exact ih2 (k + 1) (by omega) ls hl
      exact ky2 5 0 rfl ls hl
  exact key 100 0 _ _ _ rfl hP hD hS hl
