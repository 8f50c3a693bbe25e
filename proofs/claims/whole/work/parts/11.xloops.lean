set_option maxHeartbeats 4000000 in
set_option maxRecDepth 100000 in
theorem mX_replace_ok (l : Launch) (D : va_G) (o a b : Nat) (cA iA : ClassId) (cf : Nat → Int64) (uf : Nat → Int32) (sz : Nat) (d : Nat) (hd : d < 5) (hu : uf d = -1) : Met l yX_replace (.code yX_replace cX_replace 4 none :: gW) ({ frames := 7, cells := 0, slots := 0, locals := 116 }) (pWs D (wX o a b cA iA cf uf) (kT cA iA) sz [.ref o, .int (nI d)]) (QV D (wX o a b cA iA (zr cf d 100) (upd uf d (nI 0))) (va_A (wX o a b cA iA cf uf) sz)) 0 0 (va_A (wX o a b cA iA cf uf) sz) := by
  refine Met.ofW (cc := cX_replace) (maxL := 4) (ret := none) (by decide) rfl ?_
  intro p e s m args below meth c s₁ B hml hv
  obtain ⟨rfl, hsz, hP, hK, hD0⟩ := hv
  have hx := B.exec
  have hb := B.bytes
  have hr := B.returns
  have hts := atoms_spec (ws := (.code yX_replace cX_replace 4 none :: gW)) B.pre
  have hg : ∀ w ∈ gW, w.before ([.ref o, .int (nI d)]).toArray s = true := fun w h => hts w (List.mem_cons_of_mem _ h)
  have hown : s.vm.findClass R_X = some m.cls := findClass_of_methodNamed B.named
  have hlocks := B.notSynchronized
  subst hsz
  have hD := hD0.self (sz := s.heap.size)
  generalize hAe : va_A (wX o a b cA iA cf uf) s.heap.size = A at hD ⊢
  have hA : ∀ q : Nat, s.heap.size ≤ q → A q := fun q h => by rw [← hAe]; exact Or.inr h
  have hS : va_S A s.heap s.heap [] := va_S.rf
  have hP : va_P D cls_ (wX o a b cA iA cf uf) s.heap := hP
  have hl := lv_entry ([.ref o, .int (nI d)]) (n := 4) (Nat.le_of_ble_eq_true rfl)
  rw [lg_entry_eq]
  generalize (lg_sl ([.ref o, .int (nI d)]) ++ List.replicate (4 - (lg_sl ([.ref o, .int (nI d)])).length) Slot.unset).toArray = ls at hl ⊢
  have hl : lv_has ls 4 [(0, .ref o), (1, .int (nI d))] := hl
  refine lv_iload_n hx hb dX_replace_0 rfl (lv_at hl 1 rfl) ?_
  refine kSn (n := 1) (As := [.int (nI d)]) (rest := []) ⟨hx, hb, hml, hown, hts⟩ (mX_checkDisk_ok l d (by omega)) w_190 w_191 w_1 w_192 (by decide +kernel) ⟨rfl, rfl⟩ ⟨(Nat.le_of_ble_eq_true rfl), (Nat.le_of_ble_eq_true rfl)⟩ rfl hl.1 rfl (Nat.le_of_ble_eq_true rfl) dX_replace_1 ⟨Nat.zero_le _, Nat.zero_le _⟩ ?_
  refine lv_aload_n hx hb dX_replace_4 rfl (lv_at hl 0 rfl) ?_
  refine va_get (D := D) (ci := 0) (v := .ref b) (C := R_X) (T := T_X) (N := 2) hx hb hg uX_in hown hK hP 0 rfl rfl 1 (by decide) (hg _ w_19) (fun _ h9 => h9) rfl dX_replace_5 ?_
  refine lv_iload_n hx hb dX_replace_8 rfl (lv_at hl 1 rfl) ?_
  refine aI hx hb hK hP 2 1 rfl rfl (by omega) (by decide) dX_replace_9 ?_
  refine lv_iconst (v := -1) hx hb dX_replace_10 (by decide +kernel) ?_
  refine lv_icmp_eq (tgt := 24) hx hb dX_replace_11 (by decide) (fun h11 => ?_) (fun h11 => absurd hu h11)
  refine lv_iconst (v := nI 0) hx hb dX_replace_24 (by decide +kernel) ?_
  refine lv_istore_n hx hb dX_replace_25 rfl hl (by decide) rfl (fun ls hl => ?_)
  have hl : lv_has ls 4 [(2, .int (nI 0)), (0, .ref o), (1, .int (nI d))] := hl
  rw [← zr_0 cf d] at hP hD
  have key : ∀ (n : Nat) (j : Nat) (H : Heap) (locs : List Loc) (ls : Array Slot), j + n = 100 →  va_P D cls_ (wX o a b cA iA (zr cf d j) uf) H → va_D A (wX o a b cA iA (zr cf d j) uf) → va_S A s.heap H locs → lv_has ls 4 [(2, .int (nI j)), (0, .ref o), (1, .int (nI d))] → W p l e (headSpec (.code yX_replace cX_replace 4 none :: gW) ({ frames := 7, cells := 0, slots := 0, locals := 116 })).room s m ([.ref o, .int (nI d)]).toArray below meth c H locs 0 0 (MQ below (QV D (wX o a b cA iA (zr cf d 100) (upd uf d (nI 0))) A) ([.ref o, .int (nI d)]).toArray s 0 0 A) (F0 m 26 ls []) := by
    intro n
    induction n with
    | zero =>
      intro j H locs ls hj hP hD hS hl
      obtain rfl : j = 100 := by omega
      refine lv_iload_n hx hb dX_replace_26 rfl (lv_at hl 0 rfl) ?_
      refine lv_bipush (v := nI 100) hx hb dX_replace_27 (by decide +kernel) ?_
      refine lv_icmp_ge (tgt := 63) hx hb dX_replace_29 (by decide) (fun h29 => ?_) (fun h29 => absurd (nI_le (Nat.le_refl 100) (by decide)) h29)
      refine lv_aload_n hx hb dX_replace_63 rfl (lv_at hl 1 rfl) ?_
      refine va_get (D := D) (ci := 0) (v := .ref b) (C := R_X) (T := T_X) (N := 2) hx hb hg uX_in hown hK hP 0 rfl rfl 1 (by decide) (hg _ w_19) (fun _ h9 => h9) rfl dX_replace_64 ?_
      refine lv_iload_n hx hb dX_replace_67 rfl (lv_at hl 2 rfl) ?_
      refine lv_iconst (v := nI 0) hx hb dX_replace_68 (by decide +kernel) ?_
      refine sI hx hb hK hP hD hS 2 1 rfl rfl (by omega) (by decide) dX_replace_69 (fun H locs hP hD hS => ?_)
      have hP : va_P D cls_ (wX o a b cA iA (zr cf d 100) (upd uf d (nI 0))) H := hP
      have hD : va_D A (wX o a b cA iA (zr cf d 100) (upd uf d (nI 0))) := hD
      exact W.vret hx hb hr (fun t9 ht9 _ => ⟨⟨(), rfl, trivial, by show va_P _ _ _ t9.heap; rw [ht9]; exact hP⟩, hS.F ht9⟩) hS.2.2 dX_replace_70
    | succ n ih =>
      intro j H locs ls hj hP hD hS hl
      refine lv_iload_n hx hb dX_replace_26 rfl (lv_at hl 0 rfl) ?_
      refine lv_bipush (v := nI 100) hx hb dX_replace_27 (by decide +kernel) ?_
      refine lv_icmp_ge (tgt := 63) hx hb dX_replace_29 (by decide) (fun h29 => absurd h29 (nI_ge (by omega) (by decide))) (fun h29 => ?_)
      refine lv_iconst (v := nI 0) hx hb dX_replace_32 (by decide +kernel) ?_
      refine lv_istore_n hx hb dX_replace_33 rfl hl (by decide) rfl (fun ls hl => ?_)
      have hl : lv_has ls 4 [(3, .int (nI 0)), (2, .int (nI j)), (0, .ref o), (1, .int (nI d))] := hl
      refine lv_iload_n hx hb dX_replace_34 rfl (lv_at hl 0 rfl) ?_
      refine lv_iconst (v := nI 2) hx hb dX_replace_35 (by decide +kernel) ?_
      refine lv_icmp_ge (tgt := 57) hx hb dX_replace_36 (by decide) (fun h36 => absurd h36 (by decide +kernel)) (fun h36 => ?_)
      refine lv_aload_n hx hb dX_replace_39 rfl (lv_at hl 2 rfl) ?_
      refine va_get (D := D) (ci := 0) (v := .ref a) (C := R_X) (T := T_X) (N := 2) hx hb hg uX_in hown hK hP 0 rfl rfl 0 (by decide) (hg _ w_18) (fun _ h9 => h9) rfl dX_replace_40 ?_
      refine lv_iload_n hx hb dX_replace_43 rfl (lv_at hl 3 rfl) ?_
      refine lv_iload_n hx hb dX_replace_44 rfl (lv_at hl 1 rfl) ?_
      refine lv_iload_n hx hb dX_replace_45 rfl (lv_at hl 0 rfl) ?_
      refine kS (n := 3) (As := [.int (nI d), .int (nI j), .int (nI 0)]) (rest := [.ref a]) ⟨hx, hb, hml, hown, hts⟩ (mX_cellOf l d j 0) w_50 w_51 w_1 w_52 (by decide +kernel) ⟨rfl, rfl⟩ ⟨(Nat.le_of_ble_eq_true rfl), (Nat.le_of_ble_eq_true rfl)⟩ rfl hl.1 rfl (Nat.le_of_ble_eq_true rfl) dX_replace_46 ⟨Nat.zero_le _, Nat.zero_le _⟩ ?_
      refine lv_lconst (v := 0) hx hb dX_replace_49 (by decide +kernel) ?_
      refine sL hx hb hK hP hD hS 1 0 rfl rfl (ix_lt (by omega) (by omega) (by omega)) (by decide) dX_replace_50 (fun H locs hP hD hS => ?_)
      have hP : va_P D cls_ (wX o a b cA iA (vp_updL (zr cf d j) (ix d j 0) 0) uf) H := hP
      have hD : va_D A (wX o a b cA iA (vp_updL (zr cf d j) (ix d j 0) 0) uf) := hD
      refine lv_iinc (k := 0) (v := nI 1) hx hb dX_replace_51 hl rfl (by decide +kernel)  (by decide) rfl (fun ls hl => ?_)
      have hl : lv_has ls 4 [(3, .int (nI 1)), (2, .int (nI j)), (0, .ref o), (1, .int (nI d))] := hl
      refine lv_goto (tgt := 34) hx hb dX_replace_54 (by decide) ?_
      refine lv_iload_n hx hb dX_replace_34 rfl (lv_at hl 0 rfl) ?_
      refine lv_iconst (v := nI 2) hx hb dX_replace_35 (by decide +kernel) ?_
      refine lv_icmp_ge (tgt := 57) hx hb dX_replace_36 (by decide) (fun h36 => absurd h36 (by decide +kernel)) (fun h36 => ?_)
      refine lv_aload_n hx hb dX_replace_39 rfl (lv_at hl 2 rfl) ?_
      refine va_get (D := D) (ci := 0) (v := .ref a) (C := R_X) (T := T_X) (N := 2) hx hb hg uX_in hown hK hP 0 rfl rfl 0 (by decide) (hg _ w_18) (fun _ h9 => h9) rfl dX_replace_40 ?_
      refine lv_iload_n hx hb dX_replace_43 rfl (lv_at hl 3 rfl) ?_
      refine lv_iload_n hx hb dX_replace_44 rfl (lv_at hl 1 rfl) ?_
      refine lv_iload_n hx hb dX_replace_45 rfl (lv_at hl 0 rfl) ?_
      refine kS (n := 3) (As := [.int (nI d), .int (nI j), .int (nI 1)]) (rest := [.ref a]) ⟨hx, hb, hml, hown, hts⟩ (mX_cellOf l d j 1) w_50 w_51 w_1 w_52 (by decide +kernel) ⟨rfl, rfl⟩ ⟨(Nat.le_of_ble_eq_true rfl), (Nat.le_of_ble_eq_true rfl)⟩ rfl hl.1 rfl (Nat.le_of_ble_eq_true rfl) dX_replace_46 ⟨Nat.zero_le _, Nat.zero_le _⟩ ?_
      refine lv_lconst (v := 0) hx hb dX_replace_49 (by decide +kernel) ?_
      refine sL hx hb hK hP hD hS 1 0 rfl rfl (ix_lt (by omega) (by omega) (by omega)) (by decide) dX_replace_50 (fun H locs hP hD hS => ?_)
      have hP : va_P D cls_ (wX o a b cA iA (vp_updL (vp_updL (zr cf d j) (ix d j 0) 0) (ix d j 1) 0) uf) H := hP
      have hD : va_D A (wX o a b cA iA (vp_updL (vp_updL (zr cf d j) (ix d j 0) 0) (ix d j 1) 0) uf) := hD
      refine lv_iinc (k := 0) (v := nI 2) hx hb dX_replace_51 hl rfl (by decide +kernel)  (by decide) rfl (fun ls hl => ?_)
      have hl : lv_has ls 4 [(3, .int (nI 2)), (2, .int (nI j)), (0, .ref o), (1, .int (nI d))] := hl
      refine lv_goto (tgt := 34) hx hb dX_replace_54 (by decide) ?_
      refine lv_iload_n hx hb dX_replace_34 rfl (lv_at hl 0 rfl) ?_
      refine lv_iconst (v := nI 2) hx hb dX_replace_35 (by decide +kernel) ?_
      refine lv_icmp_ge (tgt := 57) hx hb dX_replace_36 (by decide) (fun h36 => ?_) (fun h36 => absurd (by decide +kernel) h36)
      refine lv_iinc (k := 1) (v := nI (j + 1)) hx hb dX_replace_57 hl rfl (incI _)  (by decide) rfl (fun ls hl => ?_)
      have hl : lv_has ls 4 [(2, .int (nI (j + 1))), (3, .int (nI 2)), (0, .ref o), (1, .int (nI d))] := hl
      refine lv_goto (tgt := 26) hx hb dX_replace_60 (by decide) ?_
      rw [zr_s] at hP hD
      have hl := lv_sub hl [0, 2, 3] rfl
      exact ih (j + 1) _ _ _ (by omega) hP hD hS hl
  exact key 100 0 _ _ _ rfl hP hD hS hl
set_option maxHeartbeats 4000000 in
set_option maxRecDepth 100000 in
theorem mX_rebuild_ok (l : Launch) (D : va_G) (o a b : Nat) (cA iA : ClassId) (cf : Nat → Int64) (uf : Nat → Int32) (sz : Nat) (d n9 f : Nat) (hd : d < 5) (hn : n9 < 2 ^ 31) (hf : f < 100) (hu : uf d = nI f) : Met l yX_rebuild (.code yX_rebuild cX_rebuild 6 (some .int) :: gW) ({ frames := 7, cells := 0, slots := 0, locals := 116 }) (pWs D (wX o a b cA iA cf uf) (kT cA iA) sz [.ref o, .int (nI d), .int (nI n9)]) (QI (nI (rbF uf d (min n9 (100 - f)) cf f).2) D (wX o a b cA iA ((rbF uf d (min n9 (100 - f)) cf f).1) (upd uf d (nI (rbF uf d (min n9 (100 - f)) cf f).2))) (va_A (wX o a b cA iA cf uf) sz)) 0 0 (va_A (wX o a b cA iA cf uf) sz) := by
  refine Met.ofW (cc := cX_rebuild) (maxL := 6) (ret := (some .int)) (by decide) rfl ?_
  intro p e s m args below meth c s₁ B hml hv
  obtain ⟨rfl, hsz, hP, hK, hD0⟩ := hv
  have hx := B.exec
  have hb := B.bytes
  have hr := B.returns
  have hts := atoms_spec (ws := (.code yX_rebuild cX_rebuild 6 (some .int) :: gW)) B.pre
  have hg : ∀ w ∈ gW, w.before ([.ref o, .int (nI d), .int (nI n9)]).toArray s = true := fun w h => hts w (List.mem_cons_of_mem _ h)
  have hown : s.vm.findClass R_X = some m.cls := findClass_of_methodNamed B.named
  have hlocks := B.notSynchronized
  subst hsz
  have hD := hD0.self (sz := s.heap.size)
  generalize hAe : va_A (wX o a b cA iA cf uf) s.heap.size = A at hD ⊢
  have hA : ∀ q : Nat, s.heap.size ≤ q → A q := fun q h => by rw [← hAe]; exact Or.inr h
  have hS : va_S A s.heap s.heap [] := va_S.rf
  have hP : va_P D cls_ (wX o a b cA iA cf uf) s.heap := hP
  have hl := lv_entry ([.ref o, .int (nI d), .int (nI n9)]) (n := 6) (Nat.le_of_ble_eq_true rfl)
  rw [lg_entry_eq]
  generalize (lg_sl ([.ref o, .int (nI d), .int (nI n9)]) ++ List.replicate (6 - (lg_sl ([.ref o, .int (nI d), .int (nI n9)])).length) Slot.unset).toArray = ls at hl ⊢
  have hl : lv_has ls 6 [(0, .ref o), (1, .int (nI d)), (2, .int (nI n9))] := hl
  refine lv_iload_n hx hb dX_rebuild_0 rfl (lv_at hl 1 rfl) ?_
  refine kSn (n := 1) (As := [.int (nI d)]) (rest := []) ⟨hx, hb, hml, hown, hts⟩ (mX_checkDisk_ok l d (by omega)) w_190 w_191 w_1 w_192 (by decide +kernel) ⟨rfl, rfl⟩ ⟨(Nat.le_of_ble_eq_true rfl), (Nat.le_of_ble_eq_true rfl)⟩ rfl hl.1 rfl (Nat.le_of_ble_eq_true rfl) dX_rebuild_1 ⟨Nat.zero_le _, Nat.zero_le _⟩ ?_
  refine lv_iload_n hx hb dX_rebuild_4 rfl (lv_at hl 2 rfl) ?_
  refine lv_if_ge (tgt := 18) hx hb dX_rebuild_5 (by decide) (fun h5 => ?_) (fun h5 => absurd (nI_pos' hn) h5)
  refine lv_aload_n hx hb dX_rebuild_18 rfl (lv_at hl 0 rfl) ?_
  refine va_get (D := D) (ci := 0) (v := .ref b) (C := R_X) (T := T_X) (N := 2) hx hb hg uX_in hown hK hP 0 rfl rfl 1 (by decide) (hg _ w_19) (fun _ h9 => h9) rfl dX_rebuild_19 ?_
  refine lv_iload_n hx hb dX_rebuild_22 rfl (lv_at hl 1 rfl) ?_
  refine aI hx hb hK hP 2 1 rfl rfl (by omega) (by decide) dX_rebuild_23 ?_
  refine tI hu ?_
  refine lv_istore_n hx hb dX_rebuild_24 rfl hl (by decide) rfl (fun ls hl => ?_)
  have hl : lv_has ls 6 [(3, .int (nI f)), (0, .ref o), (1, .int (nI d)), (2, .int (nI n9))] := hl
  refine lv_iload_n hx hb dX_rebuild_25 rfl (lv_at hl 0 rfl) ?_
  refine lv_bipush (v := nI 100) hx hb dX_rebuild_26 (by decide +kernel) ?_
  refine lv_icmp_eq (tgt := 36) hx hb dX_rebuild_28 (by decide) (fun h28 => absurd h28 (fun z => by have := (nI_eq (by omega) (by decide)).mp z; omega)) (fun h28 => ?_)
  refine lv_iload_n hx hb dX_rebuild_31 rfl (lv_at hl 0 rfl) ?_
  refine lv_iconst (v := -1) hx hb dX_rebuild_32 (by decide +kernel) ?_
  refine lv_icmp_ne (tgt := 46) hx hb dX_rebuild_33 (by decide) (fun h33 => ?_) (fun h33 => absurd h33 (nI_nm1 (by omega)))
  refine lv_iload_n hx hb dX_rebuild_46 rfl (lv_at hl 0 rfl) ?_
  refine lv_iload_n hx hb dX_rebuild_47 rfl (lv_at hl 3 rfl) ?_
  refine lv_bipush (v := nI 100) hx hb dX_rebuild_48 (by decide +kernel) ?_
  refine lv_iload_n hx hb dX_rebuild_50 rfl (lv_at hl 0 rfl) ?_
  refine lv_isub hx hb dX_rebuild_51 ?_
  refine tI (pk_sub (by omega)) ?_
  refine va_mmin hx hb (hml.trans hl.1.symm) hown (hg _ w_227) (hg _ w_228) (hg _ w_9) (hg _ w_229) (Nat.le_of_ble_eq_true rfl) (Nat.le_of_ble_eq_true rfl) (Nat.zero_le _) (Nat.zero_le _) dX_rebuild_52 ?_
  refine tI (min_n hn (by omega)) ?_
  refine lv_iadd hx hb dX_rebuild_55 ?_
  refine tI (nI_add _ _) ?_
  refine lv_istore hx hb dX_rebuild_56 hl (by decide) rfl (fun ls hl => ?_)
  have hl : lv_has ls 6 [(4, .int (nI (f + (min n9 (100 - f))))), (3, .int (nI f)), (0, .ref o), (1, .int (nI d)), (2, .int (nI n9))] := hl
  refine lv_iload_n hx hb dX_rebuild_58 rfl (lv_at hl 1 rfl) ?_
  refine lv_istore hx hb dX_rebuild_59 hl (by decide) rfl (fun ls hl => ?_)
  have hl : lv_has ls 6 [(5, .int (nI f)), (4, .int (nI (f + (min n9 (100 - f))))), (3, .int (nI f)), (0, .ref o), (1, .int (nI d)), (2, .int (nI n9))] := hl
  have key : ∀ (n : Nat) (j : Nat) (c9 : Nat → Int64) (H : Heap) (locs : List Loc) (ls : Array Slot), j + n = f + min n9 (100 - f) → f ≤ j → rbF uf d (min n9 (100 - f)) cf f = rbF uf d n c9 j →  va_P D cls_ (wX o a b cA iA c9 uf) H → va_D A (wX o a b cA iA c9 uf) → va_S A s.heap H locs → lv_has ls 6 [(5, .int (nI j)), (4, .int (nI (f + min n9 (100 - f)))), (3, .int (nI f)), (0, .ref o), (1, .int (nI d)), (2, .int (nI n9))] → W p l e (headSpec (.code yX_rebuild cX_rebuild 6 (some .int) :: gW) ({ frames := 7, cells := 0, slots := 0, locals := 116 })).room s m ([.ref o, .int (nI d), .int (nI n9)]).toArray below meth c H locs 0 0 (MQ below (QI (nI (rbF uf d (min n9 (100 - f)) cf f).2) D (wX o a b cA iA ((rbF uf d (min n9 (100 - f)) cf f).1) (upd uf d (nI (rbF uf d (min n9 (100 - f)) cf f).2))) A) ([.ref o, .int (nI d), .int (nI n9)]).toArray s 0 0 A) (F0 m 61 ls []) := by
    intro n
    induction n with
    | zero =>
      intro j c9 H locs ls hj hf2 hi hP hD hS hl
      have hi : rbF uf d (min n9 (100 - f)) cf f = (c9, j) := hi
      have e0 : j = f + min n9 (100 - f) := by omega
      refine lv_iload hx hb dX_rebuild_61 (lv_at hl 0 rfl) ?_
      refine lv_iload hx hb dX_rebuild_63 (lv_at hl 1 rfl) ?_
      refine lv_icmp_ge (tgt := 91) hx hb dX_rebuild_65 (by decide) (fun h65 => ?_) (fun h65 => absurd (by rw [e0]; exact nI_le (Nat.le_refl _) (by omega)) h65)
      refine lv_aload_n hx hb dX_rebuild_91 rfl (lv_at hl 3 rfl) ?_
      refine va_get (D := D) (ci := 0) (v := .ref b) (C := R_X) (T := T_X) (N := 2) hx hb hg uX_in hown hK hP 0 rfl rfl 1 (by decide) (hg _ w_19) (fun _ h9 => h9) rfl dX_rebuild_92 ?_
      refine lv_iload_n hx hb dX_rebuild_95 rfl (lv_at hl 4 rfl) ?_
      refine lv_iload hx hb dX_rebuild_96 (lv_at hl 0 rfl) ?_
      refine sI hx hb hK hP hD hS 2 1 rfl rfl (by omega) (by decide) dX_rebuild_98 (fun H locs hP hD hS => ?_)
      have hP : va_P D cls_ (wX o a b cA iA c9 (upd uf d (nI j))) H := hP
      have hD : va_D A (wX o a b cA iA c9 (upd uf d (nI j))) := hD
      refine lv_iload hx hb dX_rebuild_99 (lv_at hl 0 rfl) ?_
      exact W.iret (v := nI j) hx hb hr (fun t9 ht9 _ => ⟨⟨_, (), rfl, by show _ = _; rw [hi], by show va_P _ _ _ t9.heap; rw [ht9]; rw [hi]; exact hP⟩, hS.F ht9⟩) hS.2.2 dX_rebuild_101
    | succ n ih =>
      intro j c9 H locs ls hj hf2 hi hP hD hS hl
      refine lv_iload hx hb dX_rebuild_61 (lv_at hl 0 rfl) ?_
      refine lv_iload hx hb dX_rebuild_63 (lv_at hl 1 rfl) ?_
      refine lv_icmp_ge (tgt := 91) hx hb dX_rebuild_65 (by decide) (fun h65 => absurd h65 (nI_ge (by omega) (by omega))) (fun h65 => ?_)
      refine lv_aload_n hx hb dX_rebuild_68 rfl (lv_at hl 3 rfl) ?_
      refine lv_iload_n hx hb dX_rebuild_69 rfl (lv_at hl 4 rfl) ?_
      refine lv_iload hx hb dX_rebuild_70 (lv_at hl 0 rfl) ?_
      refine kV (n := 2) (As := [.int (nI d), .int (nI j)]) (rest := []) ⟨hx, hb, hml, hown, hts⟩ (mX_isLost l D o a b cA iA c9 uf d j (by omega) (by omega)) w_67 w_69 v_5 w_1 w_70 (by decide +kernel) ⟨rfl, rfl⟩ ⟨(Nat.le_of_ble_eq_true rfl), (Nat.le_of_ble_eq_true rfl)⟩ hP hK 0 0 rfl rfl rfl hl.1 rfl (Nat.le_of_ble_eq_true rfl) dX_rebuild_72 ⟨Nat.zero_le _, Nat.zero_le _⟩ ?_
      refine lv_if_ne (tgt := 91) hx hb dX_rebuild_75 (by decide) (fun h75 => ?_) (fun h75 => ?_)
      · have e8 : cu uf d j = false := cu_f (by rw [hu]; exact nI_le hf2 (by omega))
        have e9 : oc uf d j = false := by have z := bi_1 h75; rw [il_oc e8] at z; exact nb_f z
        have hi := hi.trans (rbF_f e9)
        refine lv_aload_n hx hb dX_rebuild_91 rfl (lv_at hl 3 rfl) ?_
        refine va_get (D := D) (ci := 0) (v := .ref b) (C := R_X) (T := T_X) (N := 2) hx hb hg uX_in hown hK hP 0 rfl rfl 1 (by decide) (hg _ w_19) (fun _ h9 => h9) rfl dX_rebuild_92 ?_
        refine lv_iload_n hx hb dX_rebuild_95 rfl (lv_at hl 4 rfl) ?_
        refine lv_iload hx hb dX_rebuild_96 (lv_at hl 0 rfl) ?_
        refine sI hx hb hK hP hD hS 2 1 rfl rfl (by omega) (by decide) dX_rebuild_98 (fun H locs hP hD hS => ?_)
        have hP : va_P D cls_ (wX o a b cA iA c9 (upd uf d (nI j))) H := hP
        have hD : va_D A (wX o a b cA iA c9 (upd uf d (nI j))) := hD
        refine lv_iload hx hb dX_rebuild_99 (lv_at hl 0 rfl) ?_
        exact W.iret (v := nI j) hx hb hr (fun t9 ht9 _ => ⟨⟨_, (), rfl, by show _ = _; rw [hi], by show va_P _ _ _ t9.heap; rw [ht9]; rw [hi]; exact hP⟩, hS.F ht9⟩) hS.2.2 dX_rebuild_101
      · have e8 : cu uf d j = false := cu_f (by rw [hu]; exact nI_le hf2 (by omega))
        have e9 : oc uf d j = true := by have z := bi_0 h75; rw [il_oc e8] at z; exact nb_t z
        refine lv_aload_n hx hb dX_rebuild_78 rfl (lv_at hl 3 rfl) ?_
        refine lv_iload_n hx hb dX_rebuild_79 rfl (lv_at hl 4 rfl) ?_
        refine lv_iload hx hb dX_rebuild_80 (lv_at hl 0 rfl) ?_
        refine kVv (n := 2) (As := [.int (nI d), .int (nI j)]) (rest := []) ⟨hx, hb, hml, hown, hts⟩ (mX_rebuildBlock l D o a b cA iA c9 uf H.size d j (by omega) (by omega)) w_230 w_232 v_8 w_1 w_233 (by decide +kernel) ⟨rfl, rfl⟩ ⟨(Nat.le_of_ble_eq_true rfl), (Nat.le_of_ble_eq_true rfl)⟩ hP hK hD hS hA rfl 0 0 rfl rfl rfl hl.1 rfl (Nat.le_of_ble_eq_true rfl) dX_rebuild_82 ⟨Nat.zero_le _, Nat.zero_le _⟩ (fun H locs hP hD hS => ?_)
        refine lv_iinc (k := 0) (v := nI (j + 1)) hx hb dX_rebuild_85 hl rfl (incI _)  (by decide) rfl (fun ls hl => ?_)
        have hl : lv_has ls 6 [(5, .int (nI (j + 1))), (4, .int (nI (f + min n9 (100 - f)))), (3, .int (nI f)), (0, .ref o), (1, .int (nI d)), (2, .int (nI n9))] := hl
        refine lv_goto (tgt := 61) hx hb dX_rebuild_88 (by decide) ?_
        exact ih (j + 1) _ _ _ _ (by omega) (by omega) (hi.trans (rbF_t e9)) hP hD hS hl
  exact key (min n9 (100 - f)) f cf _ _ _ rfl (Nat.le_refl _) rfl hP hD hS hl
set_option maxHeartbeats 4000000 in
set_option maxRecDepth 100000 in
theorem mX_scrub (l : Launch) (D : va_G) (o a b : Nat) (cA iA : ClassId) (cf : Nat → Int64) (uf : Nat → Int32) (sz : Nat)  : Met l yX_scrub (.code yX_scrub cX_scrub 3 (some .int) :: gW) ({ frames := 3, cells := 0, slots := 0, locals := 75 }) (pWs D (wX o a b cA iA cf uf) (kT cA iA) sz [.ref o]) (QI (nI (scF cf uf 100).2) D (wX o a b cA iA ((scF cf uf 100).1) uf) (va_A (wX o a b cA iA cf uf) sz)) 0 0 (va_A (wX o a b cA iA cf uf) sz) := by
  refine Met.ofW (cc := cX_scrub) (maxL := 3) (ret := (some .int)) (by decide) rfl ?_
  intro p e s m args below meth c s₁ B hml hv
  obtain ⟨rfl, hsz, hP, hK, hD0⟩ := hv
  have hx := B.exec
  have hb := B.bytes
  have hr := B.returns
  have hts := atoms_spec (ws := (.code yX_scrub cX_scrub 3 (some .int) :: gW)) B.pre
  have hg : ∀ w ∈ gW, w.before ([.ref o]).toArray s = true := fun w h => hts w (List.mem_cons_of_mem _ h)
  have hown : s.vm.findClass R_X = some m.cls := findClass_of_methodNamed B.named
  have hlocks := B.notSynchronized
  subst hsz
  have hD := hD0.self (sz := s.heap.size)
  generalize hAe : va_A (wX o a b cA iA cf uf) s.heap.size = A at hD ⊢
  have hA : ∀ q : Nat, s.heap.size ≤ q → A q := fun q h => by rw [← hAe]; exact Or.inr h
  have hS : va_S A s.heap s.heap [] := va_S.rf
  have hP : va_P D cls_ (wX o a b cA iA cf uf) s.heap := hP
  have hl := lv_entry ([.ref o]) (n := 3) (Nat.le_of_ble_eq_true rfl)
  rw [lg_entry_eq]
  generalize (lg_sl ([.ref o]) ++ List.replicate (3 - (lg_sl ([.ref o])).length) Slot.unset).toArray = ls at hl ⊢
  have hl : lv_has ls 3 [(0, .ref o)] := hl
  refine lv_iconst (v := nI 0) hx hb dX_scrub_0 (by decide +kernel) ?_
  refine lv_istore_n hx hb dX_scrub_1 rfl hl (by decide) rfl (fun ls hl => ?_)
  have hl : lv_has ls 3 [(1, .int (nI 0)), (0, .ref o)] := hl
  refine lv_iconst (v := nI 0) hx hb dX_scrub_2 (by decide +kernel) ?_
  refine lv_istore_n hx hb dX_scrub_3 rfl hl (by decide) rfl (fun ls hl => ?_)
  have hl : lv_has ls 3 [(2, .int (nI 0)), (1, .int (nI 0)), (0, .ref o)] := hl
  have key : ∀ (n : Nat) (j : Nat) (H : Heap) (locs : List Loc) (ls : Array Slot), j + n = 100 →  va_P D cls_ (wX o a b cA iA ((scF cf uf j).1) uf) H → va_D A (wX o a b cA iA ((scF cf uf j).1) uf) → va_S A s.heap H locs → lv_has ls 3 [(2, .int (nI j)), (1, .int (nI ((scF cf uf j).2))), (0, .ref o)] → W p l e (headSpec (.code yX_scrub cX_scrub 3 (some .int) :: gW) ({ frames := 3, cells := 0, slots := 0, locals := 75 })).room s m ([.ref o]).toArray below meth c H locs 0 0 (MQ below (QI (nI (scF cf uf 100).2) D (wX o a b cA iA ((scF cf uf 100).1) uf) A) ([.ref o]).toArray s 0 0 A) (F0 m 4 ls []) := by
    intro n
    induction n with
    | zero =>
      intro j H locs ls hj hP hD hS hl
      obtain rfl : j = 100 := by omega
      refine lv_iload_n hx hb dX_scrub_4 rfl (lv_at hl 0 rfl) ?_
      refine lv_bipush (v := nI 100) hx hb dX_scrub_5 (by decide +kernel) ?_
      refine lv_icmp_ge (tgt := 35) hx hb dX_scrub_7 (by decide) (fun h7 => ?_) (fun h7 => absurd (nI_le (Nat.le_refl 100) (by decide)) h7)
      refine lv_iload_n hx hb dX_scrub_35 rfl (lv_at hl 1 rfl) ?_
      exact W.iret (v := nI ((scF cf uf 100).2)) hx hb hr (fun t9 ht9 _ => ⟨⟨_, (), rfl, by show _ = _; rfl, by show va_P _ _ _ t9.heap; rw [ht9]; exact hP⟩, hS.F ht9⟩) hS.2.2 dX_scrub_36
    | succ n ih =>
      intro j H locs ls hj hP hD hS hl
      refine lv_iload_n hx hb dX_scrub_4 rfl (lv_at hl 0 rfl) ?_
      refine lv_bipush (v := nI 100) hx hb dX_scrub_5 (by decide +kernel) ?_
      refine lv_icmp_ge (tgt := 35) hx hb dX_scrub_7 (by decide) (fun h7 => absurd h7 (nI_ge (by omega) (by decide))) (fun h7 => ?_)
      refine lv_aload_n hx hb dX_scrub_10 rfl (lv_at hl 2 rfl) ?_
      refine lv_iload_n hx hb dX_scrub_11 rfl (lv_at hl 0 rfl) ?_
      refine kV (n := 1) (As := [.int (nI j)]) (rest := []) ⟨hx, hb, hml, hown, hts⟩ (mX_allCanBeUsed l D o a b cA iA ((scF cf uf j).1) uf j (by omega)) w_31 w_33 v_0 w_1 w_34 (by decide +kernel) ⟨rfl, rfl⟩ ⟨(Nat.le_of_ble_eq_true rfl), (Nat.le_of_ble_eq_true rfl)⟩ hP hK 0 0 rfl rfl rfl hl.1 rfl (Nat.le_of_ble_eq_true rfl) dX_scrub_12 ⟨Nat.zero_le _, Nat.zero_le _⟩ ?_
      refine lv_if_eq (tgt := 29) hx hb dX_scrub_15 (by decide) (fun h15 => ?_) (fun h15 => ?_)
      · refine lv_iinc (k := 0) (v := nI (j + 1)) hx hb dX_scrub_29 hl rfl (incI _)  (by decide) rfl (fun ls hl => ?_)
        have hl : lv_has ls 3 [(2, .int (nI (j + 1))), (1, .int (nI ((scF cf uf j).2))), (0, .ref o)] := hl
        refine lv_goto (tgt := 4) hx hb dX_scrub_32 (by decide) ?_
        rw [← scF_n (cf := cf) (bi_0 h15)] at hP hD hl
        exact ih (j + 1) _ _ _ (by omega) hP hD hS hl
      · refine lv_aload_n hx hb dX_scrub_18 rfl (lv_at hl 2 rfl) ?_
        refine lv_iload_n hx hb dX_scrub_19 rfl (lv_at hl 0 rfl) ?_
        refine kVi (n := 1) (As := [.int (nI j)]) (rest := []) ⟨hx, hb, hml, hown, hts⟩ (mX_mendParity l D o a b cA iA ((scF cf uf j).1) uf H.size j (by omega)) w_46 w_48 v_3 w_1 w_49 (by decide +kernel) ⟨rfl, rfl⟩ ⟨(Nat.le_of_ble_eq_true rfl), (Nat.le_of_ble_eq_true rfl)⟩ hP hK hD hS hA rfl 0 0 rfl rfl rfl hl.1 rfl (Nat.le_of_ble_eq_true rfl) dX_scrub_20 ⟨Nat.zero_le _, Nat.zero_le _⟩ (fun H locs hP hD hS => ?_)
        refine lv_if_eq (tgt := 29) hx hb dX_scrub_23 (by decide) (fun h23 => ?_) (fun h23 => ?_)
        · refine lv_iinc (k := 0) (v := nI (j + 1)) hx hb dX_scrub_29 hl rfl (incI _)  (by decide) rfl (fun ls hl => ?_)
          have hl : lv_has ls 3 [(2, .int (nI (j + 1))), (1, .int (nI ((scF cf uf j).2))), (0, .ref o)] := hl
          refine lv_goto (tgt := 4) hx hb dX_scrub_32 (by decide) ?_
          rw [← scF_r (bi_1 h15)] at hP hD
          rw [← scF_2n (bi_1 h15) (nb_t (bi_0 h23))] at hl
          exact ih (j + 1) _ _ _ (by omega) hP hD hS hl
        · refine lv_iinc (k := 1) (v := nI ((scF cf uf j).2 + 1)) hx hb dX_scrub_26 hl rfl (incI _)  (by decide) rfl (fun ls hl => ?_)
          have hl : lv_has ls 3 [(1, .int (nI ((scF cf uf j).2 + 1))), (2, .int (nI j)), (0, .ref o)] := hl
          refine lv_iinc (k := 1) (v := nI (j + 1)) hx hb dX_scrub_29 hl rfl (incI _)  (by decide) rfl (fun ls hl => ?_)
          have hl : lv_has ls 3 [(2, .int (nI (j + 1))), (1, .int (nI ((scF cf uf j).2 + 1))), (0, .ref o)] := hl
          refine lv_goto (tgt := 4) hx hb dX_scrub_32 (by decide) ?_
          rw [← scF_r (bi_1 h15)] at hP hD
          rw [← scF_2b (bi_1 h15) (nb_f (bi_1 h23))] at hl
          exact ih (j + 1) _ _ _ (by omega) hP hD hS hl
  exact key 100 0 _ _ _ rfl hP hD hS hl
