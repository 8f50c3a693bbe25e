set_option maxHeartbeats 4000000 in
set_option maxRecDepth 100000 in
theorem tn_rebuild (l : Launch) (hls : l.stackTraces = false) {p : Program} {e : Env} {s : State} {m : MethodId} {below : List Frame} {meth : Method} {c : Code} {b0 N : Nat} {xs : Nat → Int32} {D : va_G} {o a b o2 a2 b2 z : Nat} {cA iA cB iB oA : ClassId} (C : LC p s m meth c b0 N xs D cA iA cB iB oA) {Q : State → Prop} {H : Heap} {locs : List Loc} {ls : Array Slot} {er : Int32} {cf : Nat → Int64} {uf : Nat → Int32} {ou : Nat → Int64} {i k : Nat} (hi : i + 6 ≤ N) (hk : k ≤ 511) (hu9 : uOk uf) (hP : va_P D cls_ (w7 o a b o2 a2 b2 z cA iA cB iB oA er cf uf cf uf ou) H) (hD : va_D (fun q => s.heap.size ≤ q) (w7 o a b o2 a2 b2 z cA iA cB iB oA er cf uf cf uf ou)) (hS : va_S (fun q => s.heap.size ≤ q) s.heap H locs) (hl : lv_has ls 8 [(4, .int (nI i)), (3, .ref z), (2, .ref o2), (1, .ref o), (0, .ref b0)])
    (kk : ∀ (H : Heap) (locs : List Loc) (ls : Array Slot) (er : Int32) (cf : Nat → Int64) (uf : Nat → Int32) (ou : Nat → Int64), uOk uf → va_P D cls_ (w7 o a b o2 a2 b2 z cA iA cB iB oA er cf uf cf uf ou) H → va_D (fun q => s.heap.size ≤ q) (w7 o a b o2 a2 b2 z cA iA cB iB oA er cf uf cf uf ou) → va_S (fun q => s.heap.size ≤ q) s.heap H locs → lv_has ls 8 [(4, .int (nI i)), (3, .ref z), (2, .ref o2), (1, .ref o), (0, .ref b0)] → W p l e room_1 s m (#[Value.ref b0]) below meth c H locs (7 + (k + 1)) (2016 + 6 * (k + 1)) Q (F0 m 660 ls [])) : W p l e room_1 s m (#[Value.ref b0]) below meth c H locs (7 + k) (2016 + 6 * k) Q (F0 m 327 ls []) := by
  obtain ⟨hx, hb, hml, hown, hts, hX, hbl, hZ, hK, hN⟩ := C
  have hg : ∀ w ∈ gW, w.before (#[Value.ref b0]) s = true := fun w h => hts w (List.mem_cons_of_mem _ h)
  have hA : ∀ q : Nat, s.heap.size ≤ q → (fun q => s.heap.size ≤ q) q := fun q h => h
  by_cases c1 : (inR (xs (i + 1)) 5 && !decide (xs (i + 2) < 0)) = true
  · rw [Bool.and_eq_true] at c1
    obtain ⟨d, hd, e1⟩ := inR_nat (by decide) c1.1
    have c2 : ¬ xs (i + 2) < 0 := of_decide_eq_false (nb_f c1.2)
    by_cases hu : uf d = nI 100 ∨ uf d = -1
    · have hu2 : uf d = nI 100 ∨ uf d < 0 := hu.imp id (fun z => by rw [z]; decide)
      refine lv_aload_n hx hb dL_law_327 rfl (lv_at hl 3 rfl) ?_
      refine lv_aload_n hx hb dL_law_328 rfl (lv_at hl 4 rfl) ?_
      refine lv_iload hx hb dL_law_329 (lv_at hl 0 rfl) ?_
      refine lv_iconst (v := nI 1) hx hb dL_law_331 (by decide +kernel) ?_
      refine lv_iadd hx hb dL_law_332 ?_
      refine tI (nI_add _ _) ?_
      refine sldN hx hb hX hbl (Nat.not_le.mpr hbl) hS (by omega) (by omega) dL_law_333 ?_
      refine tI e1 ?_
      refine lv_aload_n hx hb dL_law_334 rfl (lv_at hl 4 rfl) ?_
      refine lv_iload hx hb dL_law_335 (lv_at hl 0 rfl) ?_
      refine lv_iconst (v := nI 2) hx hb dL_law_337 (by decide +kernel) ?_
      refine lv_iadd hx hb dL_law_338 ?_
      refine tI (nI_add _ _) ?_
      refine sldN hx hb hX hbl (Nat.not_le.mpr hbl) hS (by omega) (by omega) dL_law_339 ?_
      refine lv_aload_n hx hb dL_law_340 rfl (lv_at hl 1 rfl) ?_
      refine fSW (n := 4) (As := [.ref o, .int (nI d), .int (xs (i + 2)), .ref z]) (rest := []) (wr := [(o2, .inr (1, [.int (er), .ref a2, .ref b2])), (a2, .inl (cB, 1000, .inr (.inl (cf)))), (b2, .inl (iB, 5, .inl (uf)))]) ⟨hx, hb, hml, hown, hts⟩ (mL_rebuild_s l hls D o a b cA iA cf uf z oA ou H.size d (xs (i + 2)) hd (Int32.not_lt.mp c2) hu) w_218 w_219 w_0 w_220 (by decide +kernel) ⟨rfl, rfl⟩ ⟨(Nat.le_of_ble_eq_true rfl), (Nat.le_of_ble_eq_true rfl)⟩ (xZ_at hZ hS) hP hK hD hS hA [0, 1, 2, 6] [3, 4, 5] [0, 1, 4] rfl rfl rfl (by decide) (by decide) (by decide) rfl rfl rfl hl.1 rfl (Nat.le_of_ble_eq_true rfl) dL_law_341 ⟨(show 7 + k + 1 ≤ 1041 by omega), (show 2016 + 6 * k + 6 ≤ 10268 by omega)⟩ (fun H locs hP hD hS => ?_)
      have hP : va_P D cls_ (w7 o a b o2 a2 b2 z cA iA cB iB oA er cf uf cf uf ou) H := hP.sub [3, 4, 5, 0, 1, 2, 6] rfl
      have hD : va_D (fun q => s.heap.size ≤ q) (w7 o a b o2 a2 b2 z cA iA cB iB oA er cf uf cf uf ou) := hD.sub [3, 4, 5, 0, 1, 2, 6] (by decide) rfl
      refine lv_istore hx hb dL_law_344 hl (by decide) rfl (fun ls hl => ?_)
      have hl : lv_has ls 8 [(5, .int (nI 2)), (4, .int (nI i)), (3, .ref z), (2, .ref o2), (1, .ref o), (0, .ref b0)] := hl
      refine lv_aload_n hx hb dL_law_346 rfl (lv_at hl 3 rfl) ?_
      refine lv_aload_n hx hb dL_law_347 rfl (lv_at hl 5 rfl) ?_
      refine lv_iload hx hb dL_law_348 (lv_at hl 1 rfl) ?_
      refine lv_iconst (v := nI 1) hx hb dL_law_350 (by decide +kernel) ?_
      refine lv_iadd hx hb dL_law_351 ?_
      refine tI (nI_add _ _) ?_
      refine sldN hx hb hX hbl (Nat.not_le.mpr hbl) hS (by omega) (by omega) dL_law_352 ?_
      refine tI e1 ?_
      refine lv_aload_n hx hb dL_law_353 rfl (lv_at hl 5 rfl) ?_
      refine lv_iload hx hb dL_law_354 (lv_at hl 1 rfl) ?_
      refine lv_iconst (v := nI 2) hx hb dL_law_356 (by decide +kernel) ?_
      refine lv_iadd hx hb dL_law_357 ?_
      refine tI (nI_add _ _) ?_
      refine sldN hx hb hX hbl (Nat.not_le.mpr hbl) hS (by omega) (by omega) dL_law_358 ?_
      refine fVi (n := 2) (As := [.int (nI d), .int (xs (i + 2))]) (rest := []) (wr := [(o, .inr (0, [.ref a, .ref b])), (a, .inl (cA, 1000, .inr (.inl (cf)))), (b, .inl (iA, 5, .inl (uf))), (z, .inl (oA, 1, .inr (.inl (ou))))]) ⟨hx, hb, hml, hown, hts⟩ (mM_rebuild_s l D o2 a2 b2 cB iB er cf uf H.size d (xs (i + 2)) hd (Int32.not_lt.mp c2) hu2) w_333 w_334 w_335 w_2 w_336 (by decide +kernel) ⟨rfl, rfl⟩ ⟨(Nat.le_of_ble_eq_true rfl), (Nat.le_of_ble_eq_true rfl)⟩ hP hK hD hS hA [3, 4, 5] [0, 1, 2, 6] [2, 3] rfl rfl rfl (by decide) (by decide) (by decide) rfl rfl 1 0 rfl rfl rfl hl.1 rfl (Nat.le_of_ble_eq_true rfl) dL_law_359 ⟨(show 7 + k + 1 ≤ 1041 by omega), (show 2016 + 6 * k + 6 ≤ 10268 by omega)⟩ (fun H locs hP hD hS => ?_)
      have hP : va_P D cls_ (w7 o a b o2 a2 b2 z cA iA cB iB oA (nI 2) cf uf cf uf ou) H := hP.sub [0, 1, 2, 4, 5, 6, 3] rfl
      have hD : va_D (fun q => s.heap.size ≤ q) (w7 o a b o2 a2 b2 z cA iA cB iB oA (nI 2) cf uf cf uf ou) := hD.sub [0, 1, 2, 4, 5, 6, 3] (by decide) rfl
      refine lv_istore hx hb dL_law_362 hl (by decide) rfl (fun ls hl => ?_)
      have hl : lv_has ls 8 [(6, .int (nI 0)), (5, .int (nI 2)), (4, .int (nI i)), (3, .ref z), (2, .ref o2), (1, .ref o), (0, .ref b0)] := hl
      refine lv_aload_n hx hb dL_law_364 rfl (lv_at hl 4 rfl) ?_
      have hPc := hP.sub (ws' := wM o2 a2 b2 cB iB (nI 2) cf uf) [3, 4, 5] rfl
      have hKc := hK.sub (tys' := kT cB iB) [2, 3] rfl
      refine kV (n := 0) (As := []) (rest := []) ⟨hx, hb, hml, hown, hts⟩ (mM_thrown l D o2 a2 b2 cB iB (nI 2) cf uf) w_280 w_281 w_282 w_2 w_283 (by decide +kernel) ⟨rfl, rfl⟩ ⟨(Nat.le_of_ble_eq_true rfl), (Nat.le_of_ble_eq_true rfl)⟩ hPc hKc 1 0 rfl rfl rfl hl.1 rfl (Nat.le_of_ble_eq_true rfl) dL_law_365 ⟨(show 7 + k + 1 ≤ 1041 by omega), (show 2016 + 6 * k + 6 ≤ 10268 by omega)⟩ ?_
      refine lv_iload hx hb dL_law_368 (lv_at hl 1 rfl) ?_
      refine lv_icmp_eq (tgt := 375) hx hb dL_law_370 (by decide) (fun h370 => ?_) (fun h370 => absurd (by decide +kernel) h370)
      refine lv_iload hx hb dL_law_375 (lv_at hl 1 rfl) ?_
      refine lv_if_ne (tgt := 392) hx hb dL_law_377 (by decide) (fun h377 => ?_) (fun h377 => absurd h377 (by decide +kernel))
      refine lv_goto (tgt := 660) hx hb dL_law_392 (by decide) ?_
      have hl := lv_sub hl [2, 3, 4, 5, 6] rfl
      refine W.widen (k := 7 + (k + 1)) (n := 2016 + 6 * (k + 1)) (by omega) (by omega) ?_
      exact kk _ _ _ _ _ _ _ hu9 hP hD hS hl
    · obtain ⟨n9, hn, e2⟩ := nI_of c2
      obtain ⟨f, hf0, hf1⟩ := u_nn hu9 hd (fun z => hu (Or.inr z))
      have hf : f < 100 := Nat.lt_of_le_of_ne hf0 (fun z => hu (Or.inl (by rw [hf1, z])))
      have hok : uOk (upd uf d (nI (rbF uf d (min n9 (100 - f)) cf f).2)) := uOk_upd hu9 d (Or.inr ⟨_, by have := rbF_le (uf := uf) (d := d) (min n9 (100 - f)) cf f; omega, rfl⟩)
      refine lv_aload_n hx hb dL_law_327 rfl (lv_at hl 3 rfl) ?_
      refine lv_aload_n hx hb dL_law_328 rfl (lv_at hl 4 rfl) ?_
      refine lv_iload hx hb dL_law_329 (lv_at hl 0 rfl) ?_
      refine lv_iconst (v := nI 1) hx hb dL_law_331 (by decide +kernel) ?_
      refine lv_iadd hx hb dL_law_332 ?_
      refine tI (nI_add _ _) ?_
      refine sldN hx hb hX hbl (Nat.not_le.mpr hbl) hS (by omega) (by omega) dL_law_333 ?_
      refine tI e1 ?_
      refine lv_aload_n hx hb dL_law_334 rfl (lv_at hl 4 rfl) ?_
      refine lv_iload hx hb dL_law_335 (lv_at hl 0 rfl) ?_
      refine lv_iconst (v := nI 2) hx hb dL_law_337 (by decide +kernel) ?_
      refine lv_iadd hx hb dL_law_338 ?_
      refine tI (nI_add _ _) ?_
      refine sldN hx hb hX hbl (Nat.not_le.mpr hbl) hS (by omega) (by omega) dL_law_339 ?_
      refine tI e2 ?_
      refine lv_aload_n hx hb dL_law_340 rfl (lv_at hl 1 rfl) ?_
      refine fSW (n := 4) (As := [.ref o, .int (nI d), .int (nI n9), .ref z]) (rest := []) (wr := [(o2, .inr (1, [.int (er), .ref a2, .ref b2])), (a2, .inl (cB, 1000, .inr (.inl (cf)))), (b2, .inl (iB, 5, .inl (uf)))]) ⟨hx, hb, hml, hown, hts⟩ (mL_rebuild_ok l D o a b cA iA cf uf z oA ou H.size d n9 f hd hn hf hf1) w_218 w_219 w_0 w_220 (by decide +kernel) ⟨rfl, rfl⟩ ⟨(Nat.le_of_ble_eq_true rfl), (Nat.le_of_ble_eq_true rfl)⟩ (xZ_at hZ hS) hP hK hD hS hA [0, 1, 2, 6] [3, 4, 5] [0, 1, 4] rfl rfl rfl (by decide) (by decide) (by decide) rfl rfl rfl hl.1 rfl (Nat.le_of_ble_eq_true rfl) dL_law_341 ⟨(show 7 + k + 1 ≤ 1041 by omega), (show 2016 + 6 * k + 6 ≤ 10268 by omega)⟩ (fun H locs hP hD hS => ?_)
      have hP : va_P D cls_ (w7 o a b o2 a2 b2 z cA iA cB iB oA er ((rbF uf d (min n9 (100 - f)) cf f).1) (upd uf d (nI (rbF uf d (min n9 (100 - f)) cf f).2)) cf uf (vp_updL ou 0 ((nI (rbF uf d (min n9 (100 - f)) cf f).2).toInt64))) H := hP.sub [3, 4, 5, 0, 1, 2, 6] rfl
      have hD : va_D (fun q => s.heap.size ≤ q) (w7 o a b o2 a2 b2 z cA iA cB iB oA er ((rbF uf d (min n9 (100 - f)) cf f).1) (upd uf d (nI (rbF uf d (min n9 (100 - f)) cf f).2)) cf uf (vp_updL ou 0 ((nI (rbF uf d (min n9 (100 - f)) cf f).2).toInt64))) := hD.sub [3, 4, 5, 0, 1, 2, 6] (by decide) rfl
      refine lv_istore hx hb dL_law_344 hl (by decide) rfl (fun ls hl => ?_)
      have hl : lv_has ls 8 [(5, .int (nI 0)), (4, .int (nI i)), (3, .ref z), (2, .ref o2), (1, .ref o), (0, .ref b0)] := hl
      refine lv_aload_n hx hb dL_law_346 rfl (lv_at hl 3 rfl) ?_
      refine lv_aload_n hx hb dL_law_347 rfl (lv_at hl 5 rfl) ?_
      refine lv_iload hx hb dL_law_348 (lv_at hl 1 rfl) ?_
      refine lv_iconst (v := nI 1) hx hb dL_law_350 (by decide +kernel) ?_
      refine lv_iadd hx hb dL_law_351 ?_
      refine tI (nI_add _ _) ?_
      refine sldN hx hb hX hbl (Nat.not_le.mpr hbl) hS (by omega) (by omega) dL_law_352 ?_
      refine tI e1 ?_
      refine lv_aload_n hx hb dL_law_353 rfl (lv_at hl 5 rfl) ?_
      refine lv_iload hx hb dL_law_354 (lv_at hl 1 rfl) ?_
      refine lv_iconst (v := nI 2) hx hb dL_law_356 (by decide +kernel) ?_
      refine lv_iadd hx hb dL_law_357 ?_
      refine tI (nI_add _ _) ?_
      refine sldN hx hb hX hbl (Nat.not_le.mpr hbl) hS (by omega) (by omega) dL_law_358 ?_
      refine tI e2 ?_
      refine fVi (n := 2) (As := [.int (nI d), .int (nI n9)]) (rest := []) (wr := [(o, .inr (0, [.ref a, .ref b])), (a, .inl (cA, 1000, .inr (.inl ((rbF uf d (min n9 (100 - f)) cf f).1)))), (b, .inl (iA, 5, .inl (upd uf d (nI (rbF uf d (min n9 (100 - f)) cf f).2)))), (z, .inl (oA, 1, .inr (.inl (vp_updL ou 0 ((nI (rbF uf d (min n9 (100 - f)) cf f).2).toInt64)))))]) ⟨hx, hb, hml, hown, hts⟩ (mM_rebuild_ok l D o2 a2 b2 cB iB er cf uf H.size d n9 f hd hn hf hf1) w_333 w_334 w_335 w_2 w_336 (by decide +kernel) ⟨rfl, rfl⟩ ⟨(Nat.le_of_ble_eq_true rfl), (Nat.le_of_ble_eq_true rfl)⟩ hP hK hD hS hA [3, 4, 5] [0, 1, 2, 6] [2, 3] rfl rfl rfl (by decide) (by decide) (by decide) rfl rfl 1 0 rfl rfl rfl hl.1 rfl (Nat.le_of_ble_eq_true rfl) dL_law_359 ⟨(show 7 + k + 1 ≤ 1041 by omega), (show 2016 + 6 * k + 6 ≤ 10268 by omega)⟩ (fun H locs hP hD hS => ?_)
      have hP : va_P D cls_ (w7 o a b o2 a2 b2 z cA iA cB iB oA (nI 0) ((rbF uf d (min n9 (100 - f)) cf f).1) (upd uf d (nI (rbF uf d (min n9 (100 - f)) cf f).2)) ((rbF uf d (min n9 (100 - f)) cf f).1) (upd uf d (nI (rbF uf d (min n9 (100 - f)) cf f).2)) (vp_updL ou 0 ((nI (rbF uf d (min n9 (100 - f)) cf f).2).toInt64))) H := hP.sub [0, 1, 2, 4, 5, 6, 3] rfl
      have hD : va_D (fun q => s.heap.size ≤ q) (w7 o a b o2 a2 b2 z cA iA cB iB oA (nI 0) ((rbF uf d (min n9 (100 - f)) cf f).1) (upd uf d (nI (rbF uf d (min n9 (100 - f)) cf f).2)) ((rbF uf d (min n9 (100 - f)) cf f).1) (upd uf d (nI (rbF uf d (min n9 (100 - f)) cf f).2)) (vp_updL ou 0 ((nI (rbF uf d (min n9 (100 - f)) cf f).2).toInt64))) := hD.sub [0, 1, 2, 4, 5, 6, 3] (by decide) rfl
      refine lv_istore hx hb dL_law_362 hl (by decide) rfl (fun ls hl => ?_)
      have hl : lv_has ls 8 [(6, .int (nI (rbF uf d (min n9 (100 - f)) cf f).2)), (5, .int (nI 0)), (4, .int (nI i)), (3, .ref z), (2, .ref o2), (1, .ref o), (0, .ref b0)] := hl
      refine lv_aload_n hx hb dL_law_364 rfl (lv_at hl 4 rfl) ?_
      have hPc := hP.sub (ws' := wM o2 a2 b2 cB iB (nI 0) ((rbF uf d (min n9 (100 - f)) cf f).1) (upd uf d (nI (rbF uf d (min n9 (100 - f)) cf f).2))) [3, 4, 5] rfl
      have hKc := hK.sub (tys' := kT cB iB) [2, 3] rfl
      refine kV (n := 0) (As := []) (rest := []) ⟨hx, hb, hml, hown, hts⟩ (mM_thrown l D o2 a2 b2 cB iB (nI 0) ((rbF uf d (min n9 (100 - f)) cf f).1) (upd uf d (nI (rbF uf d (min n9 (100 - f)) cf f).2))) w_280 w_281 w_282 w_2 w_283 (by decide +kernel) ⟨rfl, rfl⟩ ⟨(Nat.le_of_ble_eq_true rfl), (Nat.le_of_ble_eq_true rfl)⟩ hPc hKc 1 0 rfl rfl rfl hl.1 rfl (Nat.le_of_ble_eq_true rfl) dL_law_365 ⟨(show 7 + k + 1 ≤ 1041 by omega), (show 2016 + 6 * k + 6 ≤ 10268 by omega)⟩ ?_
      refine lv_iload hx hb dL_law_368 (lv_at hl 1 rfl) ?_
      refine lv_icmp_eq (tgt := 375) hx hb dL_law_370 (by decide) (fun h370 => ?_) (fun h370 => absurd (by decide +kernel) h370)
      refine lv_iload hx hb dL_law_375 (lv_at hl 1 rfl) ?_
      refine lv_if_ne (tgt := 392) hx hb dL_law_377 (by decide) (fun h377 => absurd h377 (by decide +kernel)) (fun h377 => ?_)
      refine lv_aload_n hx hb dL_law_380 rfl (lv_at hl 3 rfl) ?_
      refine lv_iconst (v := nI 0) hx hb dL_law_381 (by decide +kernel) ?_
      refine aL hx hb hK hP 6 4 rfl rfl (by decide) (by decide) dL_law_382 ?_
      refine tL updL_eq ?_
      refine lv_iload hx hb dL_law_383 (lv_at hl 0 rfl) ?_
      refine lv_i2l (v := (nI (rbF uf d (min n9 (100 - f)) cf f).2).toInt64) hx hb dL_law_385 rfl ?_
      refine W.lcmp hx hb dL_law_386 ?_
      refine lv_if_eq (tgt := 392) hx hb dL_law_387 (by decide) (fun h387 => ?_) (fun h387 => absurd ((lg_cmp_eq _ _).mpr rfl) h387)
      refine lv_goto (tgt := 660) hx hb dL_law_392 (by decide) ?_
      have hl := lv_sub hl [2, 3, 4, 5, 6] rfl
      refine W.widen (k := 7 + (k + 1)) (n := 2016 + 6 * (k + 1)) (by omega) (by omega) ?_
      exact kk _ _ _ _ _ _ _ hok hP hD hS hl
  · have hbad := Bool.eq_false_iff.mpr c1
    refine lv_aload_n hx hb dL_law_327 rfl (lv_at hl 3 rfl) ?_
    refine lv_aload_n hx hb dL_law_328 rfl (lv_at hl 4 rfl) ?_
    refine lv_iload hx hb dL_law_329 (lv_at hl 0 rfl) ?_
    refine lv_iconst (v := nI 1) hx hb dL_law_331 (by decide +kernel) ?_
    refine lv_iadd hx hb dL_law_332 ?_
    refine tI (nI_add _ _) ?_
    refine sldN hx hb hX hbl (Nat.not_le.mpr hbl) hS (by omega) (by omega) dL_law_333 ?_
    refine lv_aload_n hx hb dL_law_334 rfl (lv_at hl 4 rfl) ?_
    refine lv_iload hx hb dL_law_335 (lv_at hl 0 rfl) ?_
    refine lv_iconst (v := nI 2) hx hb dL_law_337 (by decide +kernel) ?_
    refine lv_iadd hx hb dL_law_338 ?_
    refine tI (nI_add _ _) ?_
    refine sldN hx hb hX hbl (Nat.not_le.mpr hbl) hS (by omega) (by omega) dL_law_339 ?_
    refine lv_aload_n hx hb dL_law_340 rfl (lv_at hl 1 rfl) ?_
    refine fSW (n := 4) (As := [.ref o, .int (xs (i + 1)), .int (xs (i + 2)), .ref z]) (rest := []) (wr := [(o2, .inr (1, [.int (er), .ref a2, .ref b2])), (a2, .inl (cB, 1000, .inr (.inl (cf)))), (b2, .inl (iB, 5, .inl (uf)))]) ⟨hx, hb, hml, hown, hts⟩ (mL_rebuild_a l hls D o a b cA iA cf uf z oA ou H.size (xs (i + 1)) (xs (i + 2)) hbad) w_218 w_219 w_0 w_220 (by decide +kernel) ⟨rfl, rfl⟩ ⟨(Nat.le_of_ble_eq_true rfl), (Nat.le_of_ble_eq_true rfl)⟩ (xZ_at hZ hS) hP hK hD hS hA [0, 1, 2, 6] [3, 4, 5] [0, 1, 4] rfl rfl rfl (by decide) (by decide) (by decide) rfl rfl rfl hl.1 rfl (Nat.le_of_ble_eq_true rfl) dL_law_341 ⟨(show 7 + k + 1 ≤ 1041 by omega), (show 2016 + 6 * k + 6 ≤ 10268 by omega)⟩ (fun H locs hP hD hS => ?_)
    have hP : va_P D cls_ (w7 o a b o2 a2 b2 z cA iA cB iB oA er cf uf cf uf ou) H := hP.sub [3, 4, 5, 0, 1, 2, 6] rfl
    have hD : va_D (fun q => s.heap.size ≤ q) (w7 o a b o2 a2 b2 z cA iA cB iB oA er cf uf cf uf ou) := hD.sub [3, 4, 5, 0, 1, 2, 6] (by decide) rfl
    refine lv_istore hx hb dL_law_344 hl (by decide) rfl (fun ls hl => ?_)
    have hl : lv_has ls 8 [(5, .int (nI 1)), (4, .int (nI i)), (3, .ref z), (2, .ref o2), (1, .ref o), (0, .ref b0)] := hl
    refine lv_aload_n hx hb dL_law_346 rfl (lv_at hl 3 rfl) ?_
    refine lv_aload_n hx hb dL_law_347 rfl (lv_at hl 5 rfl) ?_
    refine lv_iload hx hb dL_law_348 (lv_at hl 1 rfl) ?_
    refine lv_iconst (v := nI 1) hx hb dL_law_350 (by decide +kernel) ?_
    refine lv_iadd hx hb dL_law_351 ?_
    refine tI (nI_add _ _) ?_
    refine sldN hx hb hX hbl (Nat.not_le.mpr hbl) hS (by omega) (by omega) dL_law_352 ?_
    refine lv_aload_n hx hb dL_law_353 rfl (lv_at hl 5 rfl) ?_
    refine lv_iload hx hb dL_law_354 (lv_at hl 1 rfl) ?_
    refine lv_iconst (v := nI 2) hx hb dL_law_356 (by decide +kernel) ?_
    refine lv_iadd hx hb dL_law_357 ?_
    refine tI (nI_add _ _) ?_
    refine sldN hx hb hX hbl (Nat.not_le.mpr hbl) hS (by omega) (by omega) dL_law_358 ?_
    refine fVi (n := 2) (As := [.int (xs (i + 1)), .int (xs (i + 2))]) (rest := []) (wr := [(o, .inr (0, [.ref a, .ref b])), (a, .inl (cA, 1000, .inr (.inl (cf)))), (b, .inl (iA, 5, .inl (uf))), (z, .inl (oA, 1, .inr (.inl (ou))))]) ⟨hx, hb, hml, hown, hts⟩ (mM_rebuild_a l D o2 a2 b2 cB iB er cf uf H.size (xs (i + 1)) (xs (i + 2)) hbad) w_333 w_334 w_335 w_2 w_336 (by decide +kernel) ⟨rfl, rfl⟩ ⟨(Nat.le_of_ble_eq_true rfl), (Nat.le_of_ble_eq_true rfl)⟩ hP hK hD hS hA [3, 4, 5] [0, 1, 2, 6] [2, 3] rfl rfl rfl (by decide) (by decide) (by decide) rfl rfl 1 0 rfl rfl rfl hl.1 rfl (Nat.le_of_ble_eq_true rfl) dL_law_359 ⟨(show 7 + k + 1 ≤ 1041 by omega), (show 2016 + 6 * k + 6 ≤ 10268 by omega)⟩ (fun H locs hP hD hS => ?_)
    have hP : va_P D cls_ (w7 o a b o2 a2 b2 z cA iA cB iB oA (nI 1) cf uf cf uf ou) H := hP.sub [0, 1, 2, 4, 5, 6, 3] rfl
    have hD : va_D (fun q => s.heap.size ≤ q) (w7 o a b o2 a2 b2 z cA iA cB iB oA (nI 1) cf uf cf uf ou) := hD.sub [0, 1, 2, 4, 5, 6, 3] (by decide) rfl
    refine lv_istore hx hb dL_law_362 hl (by decide) rfl (fun ls hl => ?_)
    have hl : lv_has ls 8 [(6, .int (nI 0)), (5, .int (nI 1)), (4, .int (nI i)), (3, .ref z), (2, .ref o2), (1, .ref o), (0, .ref b0)] := hl
    refine lv_aload_n hx hb dL_law_364 rfl (lv_at hl 4 rfl) ?_
    have hPc := hP.sub (ws' := wM o2 a2 b2 cB iB (nI 1) cf uf) [3, 4, 5] rfl
    have hKc := hK.sub (tys' := kT cB iB) [2, 3] rfl
    refine kV (n := 0) (As := []) (rest := []) ⟨hx, hb, hml, hown, hts⟩ (mM_thrown l D o2 a2 b2 cB iB (nI 1) cf uf) w_280 w_281 w_282 w_2 w_283 (by decide +kernel) ⟨rfl, rfl⟩ ⟨(Nat.le_of_ble_eq_true rfl), (Nat.le_of_ble_eq_true rfl)⟩ hPc hKc 1 0 rfl rfl rfl hl.1 rfl (Nat.le_of_ble_eq_true rfl) dL_law_365 ⟨(show 7 + k + 1 ≤ 1041 by omega), (show 2016 + 6 * k + 6 ≤ 10268 by omega)⟩ ?_
    refine lv_iload hx hb dL_law_368 (lv_at hl 1 rfl) ?_
    refine lv_icmp_eq (tgt := 375) hx hb dL_law_370 (by decide) (fun h370 => ?_) (fun h370 => absurd (by decide +kernel) h370)
    refine lv_iload hx hb dL_law_375 (lv_at hl 1 rfl) ?_
    refine lv_if_ne (tgt := 392) hx hb dL_law_377 (by decide) (fun h377 => ?_) (fun h377 => absurd h377 (by decide +kernel))
    refine lv_goto (tgt := 660) hx hb dL_law_392 (by decide) ?_
    have hl := lv_sub hl [2, 3, 4, 5, 6] rfl
    refine W.widen (k := 7 + (k + 1)) (n := 2016 + 6 * (k + 1)) (by omega) (by omega) ?_
    exact kk _ _ _ _ _ _ _ hu9 hP hD hS hl
set_option maxHeartbeats 4000000 in
set_option maxRecDepth 100000 in
theorem tn_flip (l : Launch) (hls : l.stackTraces = false) {p : Program} {e : Env} {s : State} {m : MethodId} {below : List Frame} {meth : Method} {c : Code} {b0 N : Nat} {xs : Nat → Int32} {D : va_G} {o a b o2 a2 b2 z : Nat} {cA iA cB iB oA : ClassId} (C : LC p s m meth c b0 N xs D cA iA cB iB oA) {Q : State → Prop} {H : Heap} {locs : List Loc} {ls : Array Slot} {er : Int32} {cf : Nat → Int64} {uf : Nat → Int32} {ou : Nat → Int64} {i k : Nat} (hi : i + 6 ≤ N) (hk : k ≤ 511) (hu9 : uOk uf) (hP : va_P D cls_ (w7 o a b o2 a2 b2 z cA iA cB iB oA er cf uf cf uf ou) H) (hD : va_D (fun q => s.heap.size ≤ q) (w7 o a b o2 a2 b2 z cA iA cB iB oA er cf uf cf uf ou)) (hS : va_S (fun q => s.heap.size ≤ q) s.heap H locs) (hl : lv_has ls 8 [(4, .int (nI i)), (3, .ref z), (2, .ref o2), (1, .ref o), (0, .ref b0)])
    (kk : ∀ (H : Heap) (locs : List Loc) (ls : Array Slot) (er : Int32) (cf : Nat → Int64) (uf : Nat → Int32) (ou : Nat → Int64), uOk uf → va_P D cls_ (w7 o a b o2 a2 b2 z cA iA cB iB oA er cf uf cf uf ou) H → va_D (fun q => s.heap.size ≤ q) (w7 o a b o2 a2 b2 z cA iA cB iB oA er cf uf cf uf ou) → va_S (fun q => s.heap.size ≤ q) s.heap H locs → lv_has ls 8 [(4, .int (nI i)), (3, .ref z), (2, .ref o2), (1, .ref o), (0, .ref b0)] → W p l e room_1 s m (#[Value.ref b0]) below meth c H locs (7 + (k + 1)) (2016 + 6 * (k + 1)) Q (F0 m 660 ls [])) : W p l e room_1 s m (#[Value.ref b0]) below meth c H locs (7 + k) (2016 + 6 * k) Q (F0 m 395 ls []) := by
  obtain ⟨hx, hb, hml, hown, hts, hX, hbl, hZ, hK, hN⟩ := C
  have hg : ∀ w ∈ gW, w.before (#[Value.ref b0]) s = true := fun w h => hts w (List.mem_cons_of_mem _ h)
  have hA : ∀ q : Nat, s.heap.size ≤ q → (fun q => s.heap.size ≤ q) q := fun q h => h
  by_cases c1 : (inR (xs (i + 1)) 5 && (inR (xs (i + 2)) 100 && inR (xs (i + 3)) 2)) = true
  · rw [Bool.and_eq_true, Bool.and_eq_true] at c1
    obtain ⟨d, hd, e1⟩ := inR_nat (by decide) c1.1
    obtain ⟨t, ht, e2⟩ := inR_nat (by decide) c1.2.1
    obtain ⟨h, hh, e3⟩ := inR_nat (by decide) c1.2.2
    by_cases hu : uf d = -1
    · refine lv_aload_n hx hb dL_law_395 rfl (lv_at hl 3 rfl) ?_
      refine lv_aload_n hx hb dL_law_396 rfl (lv_at hl 4 rfl) ?_
      refine lv_iload hx hb dL_law_397 (lv_at hl 0 rfl) ?_
      refine lv_iconst (v := nI 1) hx hb dL_law_399 (by decide +kernel) ?_
      refine lv_iadd hx hb dL_law_400 ?_
      refine tI (nI_add _ _) ?_
      refine sldN hx hb hX hbl (Nat.not_le.mpr hbl) hS (by omega) (by omega) dL_law_401 ?_
      refine tI e1 ?_
      refine lv_aload_n hx hb dL_law_402 rfl (lv_at hl 4 rfl) ?_
      refine lv_iload hx hb dL_law_403 (lv_at hl 0 rfl) ?_
      refine lv_iconst (v := nI 2) hx hb dL_law_405 (by decide +kernel) ?_
      refine lv_iadd hx hb dL_law_406 ?_
      refine tI (nI_add _ _) ?_
      refine sldN hx hb hX hbl (Nat.not_le.mpr hbl) hS (by omega) (by omega) dL_law_407 ?_
      refine tI e2 ?_
      refine lv_aload_n hx hb dL_law_408 rfl (lv_at hl 4 rfl) ?_
      refine lv_iload hx hb dL_law_409 (lv_at hl 0 rfl) ?_
      refine lv_iconst (v := nI 3) hx hb dL_law_411 (by decide +kernel) ?_
      refine lv_iadd hx hb dL_law_412 ?_
      refine tI (nI_add _ _) ?_
      refine sldN hx hb hX hbl (Nat.not_le.mpr hbl) hS (by omega) (by omega) dL_law_413 ?_
      refine tI e3 ?_
      refine lv_aload_n hx hb dL_law_414 rfl (lv_at hl 4 rfl) ?_
      refine lv_iload hx hb dL_law_415 (lv_at hl 0 rfl) ?_
      refine lv_iconst (v := nI 4) hx hb dL_law_417 (by decide +kernel) ?_
      refine lv_iadd hx hb dL_law_418 ?_
      refine tI (nI_add _ _) ?_
      refine sldN hx hb hX hbl (Nat.not_le.mpr hbl) hS (by omega) (by omega) dL_law_419 ?_
      refine lv_i2l (v := (xs (i + 4)).toInt64) hx hb dL_law_420 rfl ?_
      refine lv_bipush (v := nI 32) hx hb dL_law_421 (by decide +kernel) ?_
      refine lv_lshl (v := ((xs (i + 4)).toInt64) <<< ((nI 32).toInt64 &&& 63)) hx hb dL_law_423 rfl ?_
      refine lv_aload_n hx hb dL_law_424 rfl (lv_at hl 4 rfl) ?_
      refine lv_iload hx hb dL_law_425 (lv_at hl 0 rfl) ?_
      refine lv_iconst (v := nI 5) hx hb dL_law_427 (by decide +kernel) ?_
      refine lv_iadd hx hb dL_law_428 ?_
      refine tI (nI_add _ _) ?_
      refine sldN hx hb hX hbl (Nat.not_le.mpr hbl) hS (by omega) (by omega) dL_law_429 ?_
      refine lv_i2l (v := (xs (i + 5)).toInt64) hx hb dL_law_430 rfl ?_
      refine lv_ldc2 hx hb hown (hg _ w_361) dL_law_431 ?_
      refine lv_land hx hb dL_law_434 ?_
      refine lv_lor hx hb dL_law_435 ?_
      refine lv_topl (fun v9 ev => ?_)
      refine fSW (n := 5) (As := [.ref o, .int (nI d), .int (nI t), .int (nI h), .long v9]) (rest := []) (wr := [(o2, .inr (1, [.int (er), .ref a2, .ref b2])), (a2, .inl (cB, 1000, .inr (.inl (cf)))), (b2, .inl (iB, 5, .inl (uf))), (z, .inl (oA, 1, .inr (.inl (ou))))]) ⟨hx, hb, hml, hown, hts⟩ (mL_flip_s l hls D o a b cA iA cf uf H.size d t h hd ht hh v9 hu) w_234 w_235 w_0 w_236 (by decide +kernel) ⟨rfl, rfl⟩ ⟨(Nat.le_of_ble_eq_true rfl), (Nat.le_of_ble_eq_true rfl)⟩ (xZ_at hZ hS) hP hK hD hS hA [0, 1, 2] [3, 4, 5, 6] [0, 1] rfl rfl rfl (by decide) (by decide) (by decide) rfl rfl rfl hl.1 rfl (Nat.le_of_ble_eq_true rfl) dL_law_436 ⟨(show 7 + k + 1 ≤ 1041 by omega), (show 2016 + 6 * k + 6 ≤ 10268 by omega)⟩ (fun H locs hP hD hS => ?_)
      have hP : va_P D cls_ (w7 o a b o2 a2 b2 z cA iA cB iB oA er cf uf cf uf ou) H := hP.sub [4, 5, 6, 0, 1, 2, 3] rfl
      have hD : va_D (fun q => s.heap.size ≤ q) (w7 o a b o2 a2 b2 z cA iA cB iB oA er cf uf cf uf ou) := hD.sub [4, 5, 6, 0, 1, 2, 3] (by decide) rfl
      refine lv_istore hx hb dL_law_439 hl (by decide) rfl (fun ls hl => ?_)
      have hl : lv_has ls 8 [(5, .int (nI 2)), (4, .int (nI i)), (3, .ref z), (2, .ref o2), (1, .ref o), (0, .ref b0)] := hl
      refine lv_aload_n hx hb dL_law_441 rfl (lv_at hl 3 rfl) ?_
      refine lv_aload_n hx hb dL_law_442 rfl (lv_at hl 5 rfl) ?_
      refine lv_iload hx hb dL_law_443 (lv_at hl 1 rfl) ?_
      refine lv_iconst (v := nI 1) hx hb dL_law_445 (by decide +kernel) ?_
      refine lv_iadd hx hb dL_law_446 ?_
      refine tI (nI_add _ _) ?_
      refine sldN hx hb hX hbl (Nat.not_le.mpr hbl) hS (by omega) (by omega) dL_law_447 ?_
      refine tI e1 ?_
      refine lv_aload_n hx hb dL_law_448 rfl (lv_at hl 5 rfl) ?_
      refine lv_iload hx hb dL_law_449 (lv_at hl 1 rfl) ?_
      refine lv_iconst (v := nI 2) hx hb dL_law_451 (by decide +kernel) ?_
      refine lv_iadd hx hb dL_law_452 ?_
      refine tI (nI_add _ _) ?_
      refine sldN hx hb hX hbl (Nat.not_le.mpr hbl) hS (by omega) (by omega) dL_law_453 ?_
      refine tI e2 ?_
      refine lv_aload_n hx hb dL_law_454 rfl (lv_at hl 5 rfl) ?_
      refine lv_iload hx hb dL_law_455 (lv_at hl 1 rfl) ?_
      refine lv_iconst (v := nI 3) hx hb dL_law_457 (by decide +kernel) ?_
      refine lv_iadd hx hb dL_law_458 ?_
      refine tI (nI_add _ _) ?_
      refine sldN hx hb hX hbl (Nat.not_le.mpr hbl) hS (by omega) (by omega) dL_law_459 ?_
      refine tI e3 ?_
      refine lv_aload_n hx hb dL_law_460 rfl (lv_at hl 5 rfl) ?_
      refine lv_iload hx hb dL_law_461 (lv_at hl 1 rfl) ?_
      refine lv_iconst (v := nI 4) hx hb dL_law_463 (by decide +kernel) ?_
      refine lv_iadd hx hb dL_law_464 ?_
      refine tI (nI_add _ _) ?_
      refine sldN hx hb hX hbl (Nat.not_le.mpr hbl) hS (by omega) (by omega) dL_law_465 ?_
      refine lv_i2l (v := (xs (i + 4)).toInt64) hx hb dL_law_466 rfl ?_
      refine lv_bipush (v := nI 32) hx hb dL_law_467 (by decide +kernel) ?_
      refine lv_lshl (v := ((xs (i + 4)).toInt64) <<< ((nI 32).toInt64 &&& 63)) hx hb dL_law_469 rfl ?_
      refine lv_aload_n hx hb dL_law_470 rfl (lv_at hl 5 rfl) ?_
      refine lv_iload hx hb dL_law_471 (lv_at hl 1 rfl) ?_
      refine lv_iconst (v := nI 5) hx hb dL_law_473 (by decide +kernel) ?_
      refine lv_iadd hx hb dL_law_474 ?_
      refine tI (nI_add _ _) ?_
      refine sldN hx hb hX hbl (Nat.not_le.mpr hbl) hS (by omega) (by omega) dL_law_475 ?_
      refine lv_i2l (v := (xs (i + 5)).toInt64) hx hb dL_law_476 rfl ?_
      refine lv_ldc2 hx hb hown (hg _ w_361) dL_law_477 ?_
      refine lv_land hx hb dL_law_480 ?_
      refine lv_lor hx hb dL_law_481 ?_
      refine tL ev.symm ?_
      refine fVv (n := 4) (As := [.int (nI d), .int (nI t), .int (nI h), .long v9]) (rest := []) (wr := [(o, .inr (0, [.ref a, .ref b])), (a, .inl (cA, 1000, .inr (.inl (cf)))), (b, .inl (iA, 5, .inl (uf))), (z, .inl (oA, 1, .inr (.inl (ou))))]) ⟨hx, hb, hml, hown, hts⟩ (mM_flip_s l D o2 a2 b2 cB iB er cf uf H.size d t h hd ht hh v9 hu) w_337 w_338 w_339 w_2 w_340 (by decide +kernel) ⟨rfl, rfl⟩ ⟨(Nat.le_of_ble_eq_true rfl), (Nat.le_of_ble_eq_true rfl)⟩ hP hK hD hS hA [3, 4, 5] [0, 1, 2, 6] [2, 3] rfl rfl rfl (by decide) (by decide) (by decide) rfl rfl 1 0 rfl rfl rfl hl.1 rfl (Nat.le_of_ble_eq_true rfl) dL_law_482 ⟨(show 7 + k + 1 ≤ 1041 by omega), (show 2016 + 6 * k + 6 ≤ 10268 by omega)⟩ (fun H locs hP hD hS => ?_)
      have hP : va_P D cls_ (w7 o a b o2 a2 b2 z cA iA cB iB oA (nI 2) cf uf cf uf ou) H := hP.sub [0, 1, 2, 4, 5, 6, 3] rfl
      have hD : va_D (fun q => s.heap.size ≤ q) (w7 o a b o2 a2 b2 z cA iA cB iB oA (nI 2) cf uf cf uf ou) := hD.sub [0, 1, 2, 4, 5, 6, 3] (by decide) rfl
      refine lv_aload_n hx hb dL_law_485 rfl (lv_at hl 3 rfl) ?_
      have hPc := hP.sub (ws' := wM o2 a2 b2 cB iB (nI 2) cf uf) [3, 4, 5] rfl
      have hKc := hK.sub (tys' := kT cB iB) [2, 3] rfl
      refine kV (n := 0) (As := []) (rest := []) ⟨hx, hb, hml, hown, hts⟩ (mM_thrown l D o2 a2 b2 cB iB (nI 2) cf uf) w_280 w_281 w_282 w_2 w_283 (by decide +kernel) ⟨rfl, rfl⟩ ⟨(Nat.le_of_ble_eq_true rfl), (Nat.le_of_ble_eq_true rfl)⟩ hPc hKc 1 0 rfl rfl rfl hl.1 rfl (Nat.le_of_ble_eq_true rfl) dL_law_486 ⟨(show 7 + k + 1 ≤ 1041 by omega), (show 2016 + 6 * k + 6 ≤ 10268 by omega)⟩ ?_
      refine lv_iload hx hb dL_law_489 (lv_at hl 0 rfl) ?_
      refine lv_icmp_eq (tgt := 496) hx hb dL_law_491 (by decide) (fun h491 => ?_) (fun h491 => absurd (by decide +kernel) h491)
      refine lv_goto (tgt := 660) hx hb dL_law_496 (by decide) ?_
      have hl := lv_sub hl [1, 2, 3, 4, 5] rfl
      refine W.widen (k := 7 + (k + 1)) (n := 2016 + 6 * (k + 1)) (by omega) (by omega) ?_
      exact kk _ _ _ _ _ _ _ hu9 hP hD hS hl
    · refine lv_aload_n hx hb dL_law_395 rfl (lv_at hl 3 rfl) ?_
      refine lv_aload_n hx hb dL_law_396 rfl (lv_at hl 4 rfl) ?_
      refine lv_iload hx hb dL_law_397 (lv_at hl 0 rfl) ?_
      refine lv_iconst (v := nI 1) hx hb dL_law_399 (by decide +kernel) ?_
      refine lv_iadd hx hb dL_law_400 ?_
      refine tI (nI_add _ _) ?_
      refine sldN hx hb hX hbl (Nat.not_le.mpr hbl) hS (by omega) (by omega) dL_law_401 ?_
      refine tI e1 ?_
      refine lv_aload_n hx hb dL_law_402 rfl (lv_at hl 4 rfl) ?_
      refine lv_iload hx hb dL_law_403 (lv_at hl 0 rfl) ?_
      refine lv_iconst (v := nI 2) hx hb dL_law_405 (by decide +kernel) ?_
      refine lv_iadd hx hb dL_law_406 ?_
      refine tI (nI_add _ _) ?_
      refine sldN hx hb hX hbl (Nat.not_le.mpr hbl) hS (by omega) (by omega) dL_law_407 ?_
      refine tI e2 ?_
      refine lv_aload_n hx hb dL_law_408 rfl (lv_at hl 4 rfl) ?_
      refine lv_iload hx hb dL_law_409 (lv_at hl 0 rfl) ?_
      refine lv_iconst (v := nI 3) hx hb dL_law_411 (by decide +kernel) ?_
      refine lv_iadd hx hb dL_law_412 ?_
      refine tI (nI_add _ _) ?_
      refine sldN hx hb hX hbl (Nat.not_le.mpr hbl) hS (by omega) (by omega) dL_law_413 ?_
      refine tI e3 ?_
      refine lv_aload_n hx hb dL_law_414 rfl (lv_at hl 4 rfl) ?_
      refine lv_iload hx hb dL_law_415 (lv_at hl 0 rfl) ?_
      refine lv_iconst (v := nI 4) hx hb dL_law_417 (by decide +kernel) ?_
      refine lv_iadd hx hb dL_law_418 ?_
      refine tI (nI_add _ _) ?_
      refine sldN hx hb hX hbl (Nat.not_le.mpr hbl) hS (by omega) (by omega) dL_law_419 ?_
      refine lv_i2l (v := (xs (i + 4)).toInt64) hx hb dL_law_420 rfl ?_
      refine lv_bipush (v := nI 32) hx hb dL_law_421 (by decide +kernel) ?_
      refine lv_lshl (v := ((xs (i + 4)).toInt64) <<< ((nI 32).toInt64 &&& 63)) hx hb dL_law_423 rfl ?_
      refine lv_aload_n hx hb dL_law_424 rfl (lv_at hl 4 rfl) ?_
      refine lv_iload hx hb dL_law_425 (lv_at hl 0 rfl) ?_
      refine lv_iconst (v := nI 5) hx hb dL_law_427 (by decide +kernel) ?_
      refine lv_iadd hx hb dL_law_428 ?_
      refine tI (nI_add _ _) ?_
      refine sldN hx hb hX hbl (Nat.not_le.mpr hbl) hS (by omega) (by omega) dL_law_429 ?_
      refine lv_i2l (v := (xs (i + 5)).toInt64) hx hb dL_law_430 rfl ?_
      refine lv_ldc2 hx hb hown (hg _ w_361) dL_law_431 ?_
      refine lv_land hx hb dL_law_434 ?_
      refine lv_lor hx hb dL_law_435 ?_
      refine lv_topl (fun v9 ev => ?_)
      refine fSW (n := 5) (As := [.ref o, .int (nI d), .int (nI t), .int (nI h), .long v9]) (rest := []) (wr := [(o2, .inr (1, [.int (er), .ref a2, .ref b2])), (a2, .inl (cB, 1000, .inr (.inl (cf)))), (b2, .inl (iB, 5, .inl (uf))), (z, .inl (oA, 1, .inr (.inl (ou))))]) ⟨hx, hb, hml, hown, hts⟩ (mL_flip_ok l D o a b cA iA cf uf H.size d t h hd ht hh v9 hu) w_234 w_235 w_0 w_236 (by decide +kernel) ⟨rfl, rfl⟩ ⟨(Nat.le_of_ble_eq_true rfl), (Nat.le_of_ble_eq_true rfl)⟩ (xZ_at hZ hS) hP hK hD hS hA [0, 1, 2] [3, 4, 5, 6] [0, 1] rfl rfl rfl (by decide) (by decide) (by decide) rfl rfl rfl hl.1 rfl (Nat.le_of_ble_eq_true rfl) dL_law_436 ⟨(show 7 + k + 1 ≤ 1041 by omega), (show 2016 + 6 * k + 6 ≤ 10268 by omega)⟩ (fun H locs hP hD hS => ?_)
      have hP : va_P D cls_ (w7 o a b o2 a2 b2 z cA iA cB iB oA er (vp_updL cf (ix d t h) (cf (ix d t h) ^^^ v9)) uf cf uf ou) H := hP.sub [4, 5, 6, 0, 1, 2, 3] rfl
      have hD : va_D (fun q => s.heap.size ≤ q) (w7 o a b o2 a2 b2 z cA iA cB iB oA er (vp_updL cf (ix d t h) (cf (ix d t h) ^^^ v9)) uf cf uf ou) := hD.sub [4, 5, 6, 0, 1, 2, 3] (by decide) rfl
      refine lv_istore hx hb dL_law_439 hl (by decide) rfl (fun ls hl => ?_)
      have hl : lv_has ls 8 [(5, .int (nI 0)), (4, .int (nI i)), (3, .ref z), (2, .ref o2), (1, .ref o), (0, .ref b0)] := hl
      refine lv_aload_n hx hb dL_law_441 rfl (lv_at hl 3 rfl) ?_
      refine lv_aload_n hx hb dL_law_442 rfl (lv_at hl 5 rfl) ?_
      refine lv_iload hx hb dL_law_443 (lv_at hl 1 rfl) ?_
      refine lv_iconst (v := nI 1) hx hb dL_law_445 (by decide +kernel) ?_
      refine lv_iadd hx hb dL_law_446 ?_
      refine tI (nI_add _ _) ?_
      refine sldN hx hb hX hbl (Nat.not_le.mpr hbl) hS (by omega) (by omega) dL_law_447 ?_
      refine tI e1 ?_
      refine lv_aload_n hx hb dL_law_448 rfl (lv_at hl 5 rfl) ?_
      refine lv_iload hx hb dL_law_449 (lv_at hl 1 rfl) ?_
      refine lv_iconst (v := nI 2) hx hb dL_law_451 (by decide +kernel) ?_
      refine lv_iadd hx hb dL_law_452 ?_
      refine tI (nI_add _ _) ?_
      refine sldN hx hb hX hbl (Nat.not_le.mpr hbl) hS (by omega) (by omega) dL_law_453 ?_
      refine tI e2 ?_
      refine lv_aload_n hx hb dL_law_454 rfl (lv_at hl 5 rfl) ?_
      refine lv_iload hx hb dL_law_455 (lv_at hl 1 rfl) ?_
      refine lv_iconst (v := nI 3) hx hb dL_law_457 (by decide +kernel) ?_
      refine lv_iadd hx hb dL_law_458 ?_
      refine tI (nI_add _ _) ?_
      refine sldN hx hb hX hbl (Nat.not_le.mpr hbl) hS (by omega) (by omega) dL_law_459 ?_
      refine tI e3 ?_
      refine lv_aload_n hx hb dL_law_460 rfl (lv_at hl 5 rfl) ?_
      refine lv_iload hx hb dL_law_461 (lv_at hl 1 rfl) ?_
      refine lv_iconst (v := nI 4) hx hb dL_law_463 (by decide +kernel) ?_
      refine lv_iadd hx hb dL_law_464 ?_
      refine tI (nI_add _ _) ?_
      refine sldN hx hb hX hbl (Nat.not_le.mpr hbl) hS (by omega) (by omega) dL_law_465 ?_
      refine lv_i2l (v := (xs (i + 4)).toInt64) hx hb dL_law_466 rfl ?_
      refine lv_bipush (v := nI 32) hx hb dL_law_467 (by decide +kernel) ?_
      refine lv_lshl (v := ((xs (i + 4)).toInt64) <<< ((nI 32).toInt64 &&& 63)) hx hb dL_law_469 rfl ?_
      refine lv_aload_n hx hb dL_law_470 rfl (lv_at hl 5 rfl) ?_
      refine lv_iload hx hb dL_law_471 (lv_at hl 1 rfl) ?_
      refine lv_iconst (v := nI 5) hx hb dL_law_473 (by decide +kernel) ?_
      refine lv_iadd hx hb dL_law_474 ?_
      refine tI (nI_add _ _) ?_
      refine sldN hx hb hX hbl (Nat.not_le.mpr hbl) hS (by omega) (by omega) dL_law_475 ?_
      refine lv_i2l (v := (xs (i + 5)).toInt64) hx hb dL_law_476 rfl ?_
      refine lv_ldc2 hx hb hown (hg _ w_361) dL_law_477 ?_
      refine lv_land hx hb dL_law_480 ?_
      refine lv_lor hx hb dL_law_481 ?_
      refine tL ev.symm ?_
      refine fVv (n := 4) (As := [.int (nI d), .int (nI t), .int (nI h), .long v9]) (rest := []) (wr := [(o, .inr (0, [.ref a, .ref b])), (a, .inl (cA, 1000, .inr (.inl (vp_updL cf (ix d t h) (cf (ix d t h) ^^^ v9))))), (b, .inl (iA, 5, .inl (uf))), (z, .inl (oA, 1, .inr (.inl (ou))))]) ⟨hx, hb, hml, hown, hts⟩ (mM_flip_ok l D o2 a2 b2 cB iB er cf uf H.size d t h hd ht hh v9 (u_ge hu9 hd hu)) w_337 w_338 w_339 w_2 w_340 (by decide +kernel) ⟨rfl, rfl⟩ ⟨(Nat.le_of_ble_eq_true rfl), (Nat.le_of_ble_eq_true rfl)⟩ hP hK hD hS hA [3, 4, 5] [0, 1, 2, 6] [2, 3] rfl rfl rfl (by decide) (by decide) (by decide) rfl rfl 1 0 rfl rfl rfl hl.1 rfl (Nat.le_of_ble_eq_true rfl) dL_law_482 ⟨(show 7 + k + 1 ≤ 1041 by omega), (show 2016 + 6 * k + 6 ≤ 10268 by omega)⟩ (fun H locs hP hD hS => ?_)
      have hP : va_P D cls_ (w7 o a b o2 a2 b2 z cA iA cB iB oA (nI 0) (vp_updL cf (ix d t h) (cf (ix d t h) ^^^ v9)) uf (vp_updL cf (ix d t h) (cf (ix d t h) ^^^ v9)) uf ou) H := hP.sub [0, 1, 2, 4, 5, 6, 3] rfl
      have hD : va_D (fun q => s.heap.size ≤ q) (w7 o a b o2 a2 b2 z cA iA cB iB oA (nI 0) (vp_updL cf (ix d t h) (cf (ix d t h) ^^^ v9)) uf (vp_updL cf (ix d t h) (cf (ix d t h) ^^^ v9)) uf ou) := hD.sub [0, 1, 2, 4, 5, 6, 3] (by decide) rfl
      refine lv_aload_n hx hb dL_law_485 rfl (lv_at hl 3 rfl) ?_
      have hPc := hP.sub (ws' := wM o2 a2 b2 cB iB (nI 0) (vp_updL cf (ix d t h) (cf (ix d t h) ^^^ v9)) uf) [3, 4, 5] rfl
      have hKc := hK.sub (tys' := kT cB iB) [2, 3] rfl
      refine kV (n := 0) (As := []) (rest := []) ⟨hx, hb, hml, hown, hts⟩ (mM_thrown l D o2 a2 b2 cB iB (nI 0) (vp_updL cf (ix d t h) (cf (ix d t h) ^^^ v9)) uf) w_280 w_281 w_282 w_2 w_283 (by decide +kernel) ⟨rfl, rfl⟩ ⟨(Nat.le_of_ble_eq_true rfl), (Nat.le_of_ble_eq_true rfl)⟩ hPc hKc 1 0 rfl rfl rfl hl.1 rfl (Nat.le_of_ble_eq_true rfl) dL_law_486 ⟨(show 7 + k + 1 ≤ 1041 by omega), (show 2016 + 6 * k + 6 ≤ 10268 by omega)⟩ ?_
      refine lv_iload hx hb dL_law_489 (lv_at hl 0 rfl) ?_
      refine lv_icmp_eq (tgt := 496) hx hb dL_law_491 (by decide) (fun h491 => ?_) (fun h491 => absurd (by decide +kernel) h491)
      refine lv_goto (tgt := 660) hx hb dL_law_496 (by decide) ?_
      have hl := lv_sub hl [1, 2, 3, 4, 5] rfl
      refine W.widen (k := 7 + (k + 1)) (n := 2016 + 6 * (k + 1)) (by omega) (by omega) ?_
      exact kk _ _ _ _ _ _ _ hu9 hP hD hS hl
  · have hbad := Bool.eq_false_iff.mpr c1
    refine lv_aload_n hx hb dL_law_395 rfl (lv_at hl 3 rfl) ?_
    refine lv_aload_n hx hb dL_law_396 rfl (lv_at hl 4 rfl) ?_
    refine lv_iload hx hb dL_law_397 (lv_at hl 0 rfl) ?_
    refine lv_iconst (v := nI 1) hx hb dL_law_399 (by decide +kernel) ?_
    refine lv_iadd hx hb dL_law_400 ?_
    refine tI (nI_add _ _) ?_
    refine sldN hx hb hX hbl (Nat.not_le.mpr hbl) hS (by omega) (by omega) dL_law_401 ?_
    refine lv_aload_n hx hb dL_law_402 rfl (lv_at hl 4 rfl) ?_
    refine lv_iload hx hb dL_law_403 (lv_at hl 0 rfl) ?_
    refine lv_iconst (v := nI 2) hx hb dL_law_405 (by decide +kernel) ?_
    refine lv_iadd hx hb dL_law_406 ?_
    refine tI (nI_add _ _) ?_
    refine sldN hx hb hX hbl (Nat.not_le.mpr hbl) hS (by omega) (by omega) dL_law_407 ?_
    refine lv_aload_n hx hb dL_law_408 rfl (lv_at hl 4 rfl) ?_
    refine lv_iload hx hb dL_law_409 (lv_at hl 0 rfl) ?_
    refine lv_iconst (v := nI 3) hx hb dL_law_411 (by decide +kernel) ?_
    refine lv_iadd hx hb dL_law_412 ?_
    refine tI (nI_add _ _) ?_
    refine sldN hx hb hX hbl (Nat.not_le.mpr hbl) hS (by omega) (by omega) dL_law_413 ?_
    refine lv_aload_n hx hb dL_law_414 rfl (lv_at hl 4 rfl) ?_
    refine lv_iload hx hb dL_law_415 (lv_at hl 0 rfl) ?_
    refine lv_iconst (v := nI 4) hx hb dL_law_417 (by decide +kernel) ?_
    refine lv_iadd hx hb dL_law_418 ?_
    refine tI (nI_add _ _) ?_
    refine sldN hx hb hX hbl (Nat.not_le.mpr hbl) hS (by omega) (by omega) dL_law_419 ?_
    refine lv_i2l (v := (xs (i + 4)).toInt64) hx hb dL_law_420 rfl ?_
    refine lv_bipush (v := nI 32) hx hb dL_law_421 (by decide +kernel) ?_
    refine lv_lshl (v := ((xs (i + 4)).toInt64) <<< ((nI 32).toInt64 &&& 63)) hx hb dL_law_423 rfl ?_
    refine lv_aload_n hx hb dL_law_424 rfl (lv_at hl 4 rfl) ?_
    refine lv_iload hx hb dL_law_425 (lv_at hl 0 rfl) ?_
    refine lv_iconst (v := nI 5) hx hb dL_law_427 (by decide +kernel) ?_
    refine lv_iadd hx hb dL_law_428 ?_
    refine tI (nI_add _ _) ?_
    refine sldN hx hb hX hbl (Nat.not_le.mpr hbl) hS (by omega) (by omega) dL_law_429 ?_
    refine lv_i2l (v := (xs (i + 5)).toInt64) hx hb dL_law_430 rfl ?_
    refine lv_ldc2 hx hb hown (hg _ w_361) dL_law_431 ?_
    refine lv_land hx hb dL_law_434 ?_
    refine lv_lor hx hb dL_law_435 ?_
    refine lv_topl (fun v9 ev => ?_)
    refine fSW (n := 5) (As := [.ref o, .int (xs (i + 1)), .int (xs (i + 2)), .int (xs (i + 3)), .long v9]) (rest := []) (wr := [(o2, .inr (1, [.int (er), .ref a2, .ref b2])), (a2, .inl (cB, 1000, .inr (.inl (cf)))), (b2, .inl (iB, 5, .inl (uf))), (z, .inl (oA, 1, .inr (.inl (ou))))]) ⟨hx, hb, hml, hown, hts⟩ (mL_flip_a l hls D o a b cA iA cf uf H.size (xs (i + 1)) (xs (i + 2)) (xs (i + 3)) v9 hbad) w_234 w_235 w_0 w_236 (by decide +kernel) ⟨rfl, rfl⟩ ⟨(Nat.le_of_ble_eq_true rfl), (Nat.le_of_ble_eq_true rfl)⟩ (xZ_at hZ hS) hP hK hD hS hA [0, 1, 2] [3, 4, 5, 6] [0, 1] rfl rfl rfl (by decide) (by decide) (by decide) rfl rfl rfl hl.1 rfl (Nat.le_of_ble_eq_true rfl) dL_law_436 ⟨(show 7 + k + 1 ≤ 1041 by omega), (show 2016 + 6 * k + 6 ≤ 10268 by omega)⟩ (fun H locs hP hD hS => ?_)
    have hP : va_P D cls_ (w7 o a b o2 a2 b2 z cA iA cB iB oA er cf uf cf uf ou) H := hP.sub [4, 5, 6, 0, 1, 2, 3] rfl
    have hD : va_D (fun q => s.heap.size ≤ q) (w7 o a b o2 a2 b2 z cA iA cB iB oA er cf uf cf uf ou) := hD.sub [4, 5, 6, 0, 1, 2, 3] (by decide) rfl
    refine lv_istore hx hb dL_law_439 hl (by decide) rfl (fun ls hl => ?_)
    have hl : lv_has ls 8 [(5, .int (nI 1)), (4, .int (nI i)), (3, .ref z), (2, .ref o2), (1, .ref o), (0, .ref b0)] := hl
    refine lv_aload_n hx hb dL_law_441 rfl (lv_at hl 3 rfl) ?_
    refine lv_aload_n hx hb dL_law_442 rfl (lv_at hl 5 rfl) ?_
    refine lv_iload hx hb dL_law_443 (lv_at hl 1 rfl) ?_
    refine lv_iconst (v := nI 1) hx hb dL_law_445 (by decide +kernel) ?_
    refine lv_iadd hx hb dL_law_446 ?_
    refine tI (nI_add _ _) ?_
    refine sldN hx hb hX hbl (Nat.not_le.mpr hbl) hS (by omega) (by omega) dL_law_447 ?_
    refine lv_aload_n hx hb dL_law_448 rfl (lv_at hl 5 rfl) ?_
    refine lv_iload hx hb dL_law_449 (lv_at hl 1 rfl) ?_
    refine lv_iconst (v := nI 2) hx hb dL_law_451 (by decide +kernel) ?_
    refine lv_iadd hx hb dL_law_452 ?_
    refine tI (nI_add _ _) ?_
    refine sldN hx hb hX hbl (Nat.not_le.mpr hbl) hS (by omega) (by omega) dL_law_453 ?_
    refine lv_aload_n hx hb dL_law_454 rfl (lv_at hl 5 rfl) ?_
    refine lv_iload hx hb dL_law_455 (lv_at hl 1 rfl) ?_
    refine lv_iconst (v := nI 3) hx hb dL_law_457 (by decide +kernel) ?_
    refine lv_iadd hx hb dL_law_458 ?_
    refine tI (nI_add _ _) ?_
    refine sldN hx hb hX hbl (Nat.not_le.mpr hbl) hS (by omega) (by omega) dL_law_459 ?_
    refine lv_aload_n hx hb dL_law_460 rfl (lv_at hl 5 rfl) ?_
    refine lv_iload hx hb dL_law_461 (lv_at hl 1 rfl) ?_
    refine lv_iconst (v := nI 4) hx hb dL_law_463 (by decide +kernel) ?_
    refine lv_iadd hx hb dL_law_464 ?_
    refine tI (nI_add _ _) ?_
    refine sldN hx hb hX hbl (Nat.not_le.mpr hbl) hS (by omega) (by omega) dL_law_465 ?_
    refine lv_i2l (v := (xs (i + 4)).toInt64) hx hb dL_law_466 rfl ?_
    refine lv_bipush (v := nI 32) hx hb dL_law_467 (by decide +kernel) ?_
    refine lv_lshl (v := ((xs (i + 4)).toInt64) <<< ((nI 32).toInt64 &&& 63)) hx hb dL_law_469 rfl ?_
    refine lv_aload_n hx hb dL_law_470 rfl (lv_at hl 5 rfl) ?_
    refine lv_iload hx hb dL_law_471 (lv_at hl 1 rfl) ?_
    refine lv_iconst (v := nI 5) hx hb dL_law_473 (by decide +kernel) ?_
    refine lv_iadd hx hb dL_law_474 ?_
    refine tI (nI_add _ _) ?_
    refine sldN hx hb hX hbl (Nat.not_le.mpr hbl) hS (by omega) (by omega) dL_law_475 ?_
    refine lv_i2l (v := (xs (i + 5)).toInt64) hx hb dL_law_476 rfl ?_
    refine lv_ldc2 hx hb hown (hg _ w_361) dL_law_477 ?_
    refine lv_land hx hb dL_law_480 ?_
    refine lv_lor hx hb dL_law_481 ?_
    refine tL ev.symm ?_
    refine fVv (n := 4) (As := [.int (xs (i + 1)), .int (xs (i + 2)), .int (xs (i + 3)), .long v9]) (rest := []) (wr := [(o, .inr (0, [.ref a, .ref b])), (a, .inl (cA, 1000, .inr (.inl (cf)))), (b, .inl (iA, 5, .inl (uf))), (z, .inl (oA, 1, .inr (.inl (ou))))]) ⟨hx, hb, hml, hown, hts⟩ (mM_flip_a l D o2 a2 b2 cB iB er cf uf H.size (xs (i + 1)) (xs (i + 2)) (xs (i + 3)) v9 hbad) w_337 w_338 w_339 w_2 w_340 (by decide +kernel) ⟨rfl, rfl⟩ ⟨(Nat.le_of_ble_eq_true rfl), (Nat.le_of_ble_eq_true rfl)⟩ hP hK hD hS hA [3, 4, 5] [0, 1, 2, 6] [2, 3] rfl rfl rfl (by decide) (by decide) (by decide) rfl rfl 1 0 rfl rfl rfl hl.1 rfl (Nat.le_of_ble_eq_true rfl) dL_law_482 ⟨(show 7 + k + 1 ≤ 1041 by omega), (show 2016 + 6 * k + 6 ≤ 10268 by omega)⟩ (fun H locs hP hD hS => ?_)
    have hP : va_P D cls_ (w7 o a b o2 a2 b2 z cA iA cB iB oA (nI 1) cf uf cf uf ou) H := hP.sub [0, 1, 2, 4, 5, 6, 3] rfl
    have hD : va_D (fun q => s.heap.size ≤ q) (w7 o a b o2 a2 b2 z cA iA cB iB oA (nI 1) cf uf cf uf ou) := hD.sub [0, 1, 2, 4, 5, 6, 3] (by decide) rfl
    refine lv_aload_n hx hb dL_law_485 rfl (lv_at hl 3 rfl) ?_
    have hPc := hP.sub (ws' := wM o2 a2 b2 cB iB (nI 1) cf uf) [3, 4, 5] rfl
    have hKc := hK.sub (tys' := kT cB iB) [2, 3] rfl
    refine kV (n := 0) (As := []) (rest := []) ⟨hx, hb, hml, hown, hts⟩ (mM_thrown l D o2 a2 b2 cB iB (nI 1) cf uf) w_280 w_281 w_282 w_2 w_283 (by decide +kernel) ⟨rfl, rfl⟩ ⟨(Nat.le_of_ble_eq_true rfl), (Nat.le_of_ble_eq_true rfl)⟩ hPc hKc 1 0 rfl rfl rfl hl.1 rfl (Nat.le_of_ble_eq_true rfl) dL_law_486 ⟨(show 7 + k + 1 ≤ 1041 by omega), (show 2016 + 6 * k + 6 ≤ 10268 by omega)⟩ ?_
    refine lv_iload hx hb dL_law_489 (lv_at hl 0 rfl) ?_
    refine lv_icmp_eq (tgt := 496) hx hb dL_law_491 (by decide) (fun h491 => ?_) (fun h491 => absurd (by decide +kernel) h491)
    refine lv_goto (tgt := 660) hx hb dL_law_496 (by decide) ?_
    have hl := lv_sub hl [1, 2, 3, 4, 5] rfl
    refine W.widen (k := 7 + (k + 1)) (n := 2016 + 6 * (k + 1)) (by omega) (by omega) ?_
    exact kk _ _ _ _ _ _ _ hu9 hP hD hS hl
