set_option maxHeartbeats 4000000 in
set_option maxRecDepth 100000 in
theorem tn_block (l : Launch) (hls : l.stackTraces = false) {p : Program} {e : Env} {s : State} {m : MethodId} {below : List Frame} {meth : Method} {c : Code} {b0 N : Nat} {xs : Nat → Int32} {D : va_G} {o a b o2 a2 b2 z : Nat} {cA iA cB iB oA : ClassId} (C : LC p s m meth c b0 N xs D cA iA cB iB oA) {Q : State → Prop} {H : Heap} {locs : List Loc} {ls : Array Slot} {er : Int32} {cf : Nat → Int64} {uf : Nat → Int32} {ou : Nat → Int64} {i k : Nat} (hi : i + 6 ≤ N) (hk : k ≤ 511) (hu9 : uOk uf) (hP : va_P D cls_ (w7 o a b o2 a2 b2 z cA iA cB iB oA er cf uf cf uf ou) H) (hD : va_D (fun q => s.heap.size ≤ q) (w7 o a b o2 a2 b2 z cA iA cB iB oA er cf uf cf uf ou)) (hS : va_S (fun q => s.heap.size ≤ q) s.heap H locs) (hl : lv_has ls 8 [(4, .int (nI i)), (3, .ref z), (2, .ref o2), (1, .ref o), (0, .ref b0)])
    (kk : ∀ (H : Heap) (locs : List Loc) (ls : Array Slot) (er : Int32) (cf : Nat → Int64) (uf : Nat → Int32) (ou : Nat → Int64), uOk uf → va_P D cls_ (w7 o a b o2 a2 b2 z cA iA cB iB oA er cf uf cf uf ou) H → va_D (fun q => s.heap.size ≤ q) (w7 o a b o2 a2 b2 z cA iA cB iB oA er cf uf cf uf ou) → va_S (fun q => s.heap.size ≤ q) s.heap H locs → lv_has ls 8 [(4, .int (nI i)), (3, .ref z), (2, .ref o2), (1, .ref o), (0, .ref b0)] → W p l e room_1 s m (#[Value.ref b0]) below meth c H locs (7 + (k + 1)) (2016 + 6 * (k + 1)) Q (F0 m 660 ls [])) : W p l e room_1 s m (#[Value.ref b0]) below meth c H locs (7 + k) (2016 + 6 * k) Q (F0 m 499 ls []) := by
  obtain ⟨hx, hb, hml, hown, hts, hX, hbl, hZ, hK, hN⟩ := C
  have hg : ∀ w ∈ gW, w.before (#[Value.ref b0]) s = true := fun w h => hts w (List.mem_cons_of_mem _ h)
  have hA : ∀ q : Nat, s.heap.size ≤ q → (fun q => s.heap.size ≤ q) q := fun q h => h
  by_cases c1 : (inR (xs (i + 1)) 5 && (inR (xs (i + 2)) 100 && inR (xs (i + 3)) 2)) = true
  · rw [Bool.and_eq_true, Bool.and_eq_true] at c1
    obtain ⟨d, hd, e1⟩ := inR_nat (by decide) c1.1
    obtain ⟨t, ht, e2⟩ := inR_nat (by decide) c1.2.1
    obtain ⟨h, hh, e3⟩ := inR_nat (by decide) c1.2.2
    by_cases hu : uf d = -1
    · refine lv_aload_n hx hb dL_law_499 rfl (lv_at hl 3 rfl) ?_
      refine lv_aload_n hx hb dL_law_500 rfl (lv_at hl 4 rfl) ?_
      refine lv_iload hx hb dL_law_501 (lv_at hl 0 rfl) ?_
      refine lv_iconst (v := nI 1) hx hb dL_law_503 (by decide +kernel) ?_
      refine lv_iadd hx hb dL_law_504 ?_
      refine tI (nI_add _ _) ?_
      refine sldN hx hb hX hbl (Nat.not_le.mpr hbl) hS (by omega) (by omega) dL_law_505 ?_
      refine tI e1 ?_
      refine lv_aload_n hx hb dL_law_506 rfl (lv_at hl 4 rfl) ?_
      refine lv_iload hx hb dL_law_507 (lv_at hl 0 rfl) ?_
      refine lv_iconst (v := nI 2) hx hb dL_law_509 (by decide +kernel) ?_
      refine lv_iadd hx hb dL_law_510 ?_
      refine tI (nI_add _ _) ?_
      refine sldN hx hb hX hbl (Nat.not_le.mpr hbl) hS (by omega) (by omega) dL_law_511 ?_
      refine tI e2 ?_
      refine lv_aload_n hx hb dL_law_512 rfl (lv_at hl 4 rfl) ?_
      refine lv_iload hx hb dL_law_513 (lv_at hl 0 rfl) ?_
      refine lv_iconst (v := nI 3) hx hb dL_law_515 (by decide +kernel) ?_
      refine lv_iadd hx hb dL_law_516 ?_
      refine tI (nI_add _ _) ?_
      refine sldN hx hb hX hbl (Nat.not_le.mpr hbl) hS (by omega) (by omega) dL_law_517 ?_
      refine tI e3 ?_
      refine lv_aload_n hx hb dL_law_518 rfl (lv_at hl 1 rfl) ?_
      refine fSW (n := 5) (As := [.ref o, .int (nI d), .int (nI t), .int (nI h), .ref z]) (rest := []) (wr := [(o2, .inr (1, [.int (er), .ref a2, .ref b2])), (a2, .inl (cB, 1000, .inr (.inl (cf)))), (b2, .inl (iB, 5, .inl (uf)))]) ⟨hx, hb, hml, hown, hts⟩ (mL_block_s l hls D o a b cA iA cf uf z oA ou H.size d t h hd ht hh hu) w_250 w_251 w_0 w_252 (by decide +kernel) ⟨rfl, rfl⟩ ⟨(Nat.le_of_ble_eq_true rfl), (Nat.le_of_ble_eq_true rfl)⟩ (xZ_at hZ hS) hP hK hD hS hA [0, 1, 2, 6] [3, 4, 5] [0, 1, 4] rfl rfl rfl (by decide) (by decide) (by decide) rfl rfl rfl hl.1 rfl (Nat.le_of_ble_eq_true rfl) dL_law_519 ⟨(show 7 + k + 1 ≤ 1041 by omega), (show 2016 + 6 * k + 6 ≤ 10268 by omega)⟩ (fun H locs hP hD hS => ?_)
      have hP : va_P D cls_ (w7 o a b o2 a2 b2 z cA iA cB iB oA er cf uf cf uf ou) H := hP.sub [3, 4, 5, 0, 1, 2, 6] rfl
      have hD : va_D (fun q => s.heap.size ≤ q) (w7 o a b o2 a2 b2 z cA iA cB iB oA er cf uf cf uf ou) := hD.sub [3, 4, 5, 0, 1, 2, 6] (by decide) rfl
      refine lv_istore hx hb dL_law_522 hl (by decide) rfl (fun ls hl => ?_)
      have hl : lv_has ls 8 [(5, .int (nI 2)), (4, .int (nI i)), (3, .ref z), (2, .ref o2), (1, .ref o), (0, .ref b0)] := hl
      refine lv_aload_n hx hb dL_law_524 rfl (lv_at hl 3 rfl) ?_
      refine lv_aload_n hx hb dL_law_525 rfl (lv_at hl 5 rfl) ?_
      refine lv_iload hx hb dL_law_526 (lv_at hl 1 rfl) ?_
      refine lv_iconst (v := nI 1) hx hb dL_law_528 (by decide +kernel) ?_
      refine lv_iadd hx hb dL_law_529 ?_
      refine tI (nI_add _ _) ?_
      refine sldN hx hb hX hbl (Nat.not_le.mpr hbl) hS (by omega) (by omega) dL_law_530 ?_
      refine tI e1 ?_
      refine lv_aload_n hx hb dL_law_531 rfl (lv_at hl 5 rfl) ?_
      refine lv_iload hx hb dL_law_532 (lv_at hl 1 rfl) ?_
      refine lv_iconst (v := nI 2) hx hb dL_law_534 (by decide +kernel) ?_
      refine lv_iadd hx hb dL_law_535 ?_
      refine tI (nI_add _ _) ?_
      refine sldN hx hb hX hbl (Nat.not_le.mpr hbl) hS (by omega) (by omega) dL_law_536 ?_
      refine tI e2 ?_
      refine lv_aload_n hx hb dL_law_537 rfl (lv_at hl 5 rfl) ?_
      refine lv_iload hx hb dL_law_538 (lv_at hl 1 rfl) ?_
      refine lv_iconst (v := nI 3) hx hb dL_law_540 (by decide +kernel) ?_
      refine lv_iadd hx hb dL_law_541 ?_
      refine tI (nI_add _ _) ?_
      refine sldN hx hb hX hbl (Nat.not_le.mpr hbl) hS (by omega) (by omega) dL_law_542 ?_
      refine tI e3 ?_
      refine fVl (n := 3) (As := [.int (nI d), .int (nI t), .int (nI h)]) (rest := []) (wr := [(o, .inr (0, [.ref a, .ref b])), (a, .inl (cA, 1000, .inr (.inl (cf)))), (b, .inl (iA, 5, .inl (uf))), (z, .inl (oA, 1, .inr (.inl (ou))))]) ⟨hx, hb, hml, hown, hts⟩ (mM_block_s l D o2 a2 b2 cB iB er cf uf H.size d t h hd ht hh hu) w_345 w_346 w_347 w_2 w_348 (by decide +kernel) ⟨rfl, rfl⟩ ⟨(Nat.le_of_ble_eq_true rfl), (Nat.le_of_ble_eq_true rfl)⟩ hP hK hD hS hA [3, 4, 5] [0, 1, 2, 6] [2, 3] rfl rfl rfl (by decide) (by decide) (by decide) rfl rfl 1 0 rfl rfl rfl hl.1 rfl (Nat.le_of_ble_eq_true rfl) dL_law_543 ⟨(show 7 + k + 1 ≤ 1041 by omega), (show 2016 + 6 * k + 6 ≤ 10268 by omega)⟩ (fun H locs hP hD hS => ?_)
      have hP : va_P D cls_ (w7 o a b o2 a2 b2 z cA iA cB iB oA (nI 2) cf uf cf uf ou) H := hP.sub [0, 1, 2, 4, 5, 6, 3] rfl
      have hD : va_D (fun q => s.heap.size ≤ q) (w7 o a b o2 a2 b2 z cA iA cB iB oA (nI 2) cf uf cf uf ou) := hD.sub [0, 1, 2, 4, 5, 6, 3] (by decide) rfl
      refine lv_lstore hx hb dL_law_546 hl (by decide) rfl (fun ls hl => ?_)
      have hl : lv_has ls 8 [(6, .long 0), (5, .int (nI 2)), (4, .int (nI i)), (3, .ref z), (2, .ref o2), (1, .ref o), (0, .ref b0)] := hl
      refine lv_aload_n hx hb dL_law_548 rfl (lv_at hl 4 rfl) ?_
      have hPc := hP.sub (ws' := wM o2 a2 b2 cB iB (nI 2) cf uf) [3, 4, 5] rfl
      have hKc := hK.sub (tys' := kT cB iB) [2, 3] rfl
      refine kV (n := 0) (As := []) (rest := []) ⟨hx, hb, hml, hown, hts⟩ (mM_thrown l D o2 a2 b2 cB iB (nI 2) cf uf) w_280 w_281 w_282 w_2 w_283 (by decide +kernel) ⟨rfl, rfl⟩ ⟨(Nat.le_of_ble_eq_true rfl), (Nat.le_of_ble_eq_true rfl)⟩ hPc hKc 1 0 rfl rfl rfl hl.1 rfl (Nat.le_of_ble_eq_true rfl) dL_law_549 ⟨(show 7 + k + 1 ≤ 1041 by omega), (show 2016 + 6 * k + 6 ≤ 10268 by omega)⟩ ?_
      refine lv_iload hx hb dL_law_552 (lv_at hl 1 rfl) ?_
      refine lv_icmp_eq (tgt := 559) hx hb dL_law_554 (by decide) (fun h554 => ?_) (fun h554 => absurd (by decide +kernel) h554)
      refine lv_iload hx hb dL_law_559 (lv_at hl 1 rfl) ?_
      refine lv_if_ne (tgt := 575) hx hb dL_law_561 (by decide) (fun h561 => ?_) (fun h561 => absurd h561 (by decide +kernel))
      refine lv_goto (tgt := 660) hx hb dL_law_575 (by decide) ?_
      have hl := lv_sub hl [2, 3, 4, 5, 6] rfl
      refine W.widen (k := 7 + (k + 1)) (n := 2016 + 6 * (k + 1)) (by omega) (by omega) ?_
      exact kk _ _ _ _ _ _ _ hu9 hP hD hS hl
    · refine lv_aload_n hx hb dL_law_499 rfl (lv_at hl 3 rfl) ?_
      refine lv_aload_n hx hb dL_law_500 rfl (lv_at hl 4 rfl) ?_
      refine lv_iload hx hb dL_law_501 (lv_at hl 0 rfl) ?_
      refine lv_iconst (v := nI 1) hx hb dL_law_503 (by decide +kernel) ?_
      refine lv_iadd hx hb dL_law_504 ?_
      refine tI (nI_add _ _) ?_
      refine sldN hx hb hX hbl (Nat.not_le.mpr hbl) hS (by omega) (by omega) dL_law_505 ?_
      refine tI e1 ?_
      refine lv_aload_n hx hb dL_law_506 rfl (lv_at hl 4 rfl) ?_
      refine lv_iload hx hb dL_law_507 (lv_at hl 0 rfl) ?_
      refine lv_iconst (v := nI 2) hx hb dL_law_509 (by decide +kernel) ?_
      refine lv_iadd hx hb dL_law_510 ?_
      refine tI (nI_add _ _) ?_
      refine sldN hx hb hX hbl (Nat.not_le.mpr hbl) hS (by omega) (by omega) dL_law_511 ?_
      refine tI e2 ?_
      refine lv_aload_n hx hb dL_law_512 rfl (lv_at hl 4 rfl) ?_
      refine lv_iload hx hb dL_law_513 (lv_at hl 0 rfl) ?_
      refine lv_iconst (v := nI 3) hx hb dL_law_515 (by decide +kernel) ?_
      refine lv_iadd hx hb dL_law_516 ?_
      refine tI (nI_add _ _) ?_
      refine sldN hx hb hX hbl (Nat.not_le.mpr hbl) hS (by omega) (by omega) dL_law_517 ?_
      refine tI e3 ?_
      refine lv_aload_n hx hb dL_law_518 rfl (lv_at hl 1 rfl) ?_
      refine fSW (n := 5) (As := [.ref o, .int (nI d), .int (nI t), .int (nI h), .ref z]) (rest := []) (wr := [(o2, .inr (1, [.int (er), .ref a2, .ref b2])), (a2, .inl (cB, 1000, .inr (.inl (cf)))), (b2, .inl (iB, 5, .inl (uf)))]) ⟨hx, hb, hml, hown, hts⟩ (mL_block_ok l D o a b cA iA cf uf z oA ou H.size d t h hd ht hh hu) w_250 w_251 w_0 w_252 (by decide +kernel) ⟨rfl, rfl⟩ ⟨(Nat.le_of_ble_eq_true rfl), (Nat.le_of_ble_eq_true rfl)⟩ (xZ_at hZ hS) hP hK hD hS hA [0, 1, 2, 6] [3, 4, 5] [0, 1, 4] rfl rfl rfl (by decide) (by decide) (by decide) rfl rfl rfl hl.1 rfl (Nat.le_of_ble_eq_true rfl) dL_law_519 ⟨(show 7 + k + 1 ≤ 1041 by omega), (show 2016 + 6 * k + 6 ≤ 10268 by omega)⟩ (fun H locs hP hD hS => ?_)
      have hP : va_P D cls_ (w7 o a b o2 a2 b2 z cA iA cB iB oA er cf uf cf uf (vp_updL ou 0 (cf (ix d t h)))) H := hP.sub [3, 4, 5, 0, 1, 2, 6] rfl
      have hD : va_D (fun q => s.heap.size ≤ q) (w7 o a b o2 a2 b2 z cA iA cB iB oA er cf uf cf uf (vp_updL ou 0 (cf (ix d t h)))) := hD.sub [3, 4, 5, 0, 1, 2, 6] (by decide) rfl
      refine lv_istore hx hb dL_law_522 hl (by decide) rfl (fun ls hl => ?_)
      have hl : lv_has ls 8 [(5, .int (nI 0)), (4, .int (nI i)), (3, .ref z), (2, .ref o2), (1, .ref o), (0, .ref b0)] := hl
      refine lv_aload_n hx hb dL_law_524 rfl (lv_at hl 3 rfl) ?_
      refine lv_aload_n hx hb dL_law_525 rfl (lv_at hl 5 rfl) ?_
      refine lv_iload hx hb dL_law_526 (lv_at hl 1 rfl) ?_
      refine lv_iconst (v := nI 1) hx hb dL_law_528 (by decide +kernel) ?_
      refine lv_iadd hx hb dL_law_529 ?_
      refine tI (nI_add _ _) ?_
      refine sldN hx hb hX hbl (Nat.not_le.mpr hbl) hS (by omega) (by omega) dL_law_530 ?_
      refine tI e1 ?_
      refine lv_aload_n hx hb dL_law_531 rfl (lv_at hl 5 rfl) ?_
      refine lv_iload hx hb dL_law_532 (lv_at hl 1 rfl) ?_
      refine lv_iconst (v := nI 2) hx hb dL_law_534 (by decide +kernel) ?_
      refine lv_iadd hx hb dL_law_535 ?_
      refine tI (nI_add _ _) ?_
      refine sldN hx hb hX hbl (Nat.not_le.mpr hbl) hS (by omega) (by omega) dL_law_536 ?_
      refine tI e2 ?_
      refine lv_aload_n hx hb dL_law_537 rfl (lv_at hl 5 rfl) ?_
      refine lv_iload hx hb dL_law_538 (lv_at hl 1 rfl) ?_
      refine lv_iconst (v := nI 3) hx hb dL_law_540 (by decide +kernel) ?_
      refine lv_iadd hx hb dL_law_541 ?_
      refine tI (nI_add _ _) ?_
      refine sldN hx hb hX hbl (Nat.not_le.mpr hbl) hS (by omega) (by omega) dL_law_542 ?_
      refine tI e3 ?_
      refine fVl (n := 3) (As := [.int (nI d), .int (nI t), .int (nI h)]) (rest := []) (wr := [(o, .inr (0, [.ref a, .ref b])), (a, .inl (cA, 1000, .inr (.inl (cf)))), (b, .inl (iA, 5, .inl (uf))), (z, .inl (oA, 1, .inr (.inl (vp_updL ou 0 (cf (ix d t h))))))]) ⟨hx, hb, hml, hown, hts⟩ (mM_block_ok l D o2 a2 b2 cB iB er cf uf H.size d t h hd ht hh (u_ge hu9 hd hu)) w_345 w_346 w_347 w_2 w_348 (by decide +kernel) ⟨rfl, rfl⟩ ⟨(Nat.le_of_ble_eq_true rfl), (Nat.le_of_ble_eq_true rfl)⟩ hP hK hD hS hA [3, 4, 5] [0, 1, 2, 6] [2, 3] rfl rfl rfl (by decide) (by decide) (by decide) rfl rfl 1 0 rfl rfl rfl hl.1 rfl (Nat.le_of_ble_eq_true rfl) dL_law_543 ⟨(show 7 + k + 1 ≤ 1041 by omega), (show 2016 + 6 * k + 6 ≤ 10268 by omega)⟩ (fun H locs hP hD hS => ?_)
      have hP : va_P D cls_ (w7 o a b o2 a2 b2 z cA iA cB iB oA (nI 0) cf uf cf uf (vp_updL ou 0 (cf (ix d t h)))) H := hP.sub [0, 1, 2, 4, 5, 6, 3] rfl
      have hD : va_D (fun q => s.heap.size ≤ q) (w7 o a b o2 a2 b2 z cA iA cB iB oA (nI 0) cf uf cf uf (vp_updL ou 0 (cf (ix d t h)))) := hD.sub [0, 1, 2, 4, 5, 6, 3] (by decide) rfl
      refine lv_lstore hx hb dL_law_546 hl (by decide) rfl (fun ls hl => ?_)
      have hl : lv_has ls 8 [(6, .long (cf (ix d t h))), (5, .int (nI 0)), (4, .int (nI i)), (3, .ref z), (2, .ref o2), (1, .ref o), (0, .ref b0)] := hl
      refine lv_aload_n hx hb dL_law_548 rfl (lv_at hl 4 rfl) ?_
      have hPc := hP.sub (ws' := wM o2 a2 b2 cB iB (nI 0) cf uf) [3, 4, 5] rfl
      have hKc := hK.sub (tys' := kT cB iB) [2, 3] rfl
      refine kV (n := 0) (As := []) (rest := []) ⟨hx, hb, hml, hown, hts⟩ (mM_thrown l D o2 a2 b2 cB iB (nI 0) cf uf) w_280 w_281 w_282 w_2 w_283 (by decide +kernel) ⟨rfl, rfl⟩ ⟨(Nat.le_of_ble_eq_true rfl), (Nat.le_of_ble_eq_true rfl)⟩ hPc hKc 1 0 rfl rfl rfl hl.1 rfl (Nat.le_of_ble_eq_true rfl) dL_law_549 ⟨(show 7 + k + 1 ≤ 1041 by omega), (show 2016 + 6 * k + 6 ≤ 10268 by omega)⟩ ?_
      refine lv_iload hx hb dL_law_552 (lv_at hl 1 rfl) ?_
      refine lv_icmp_eq (tgt := 559) hx hb dL_law_554 (by decide) (fun h554 => ?_) (fun h554 => absurd (by decide +kernel) h554)
      refine lv_iload hx hb dL_law_559 (lv_at hl 1 rfl) ?_
      refine lv_if_ne (tgt := 575) hx hb dL_law_561 (by decide) (fun h561 => absurd h561 (by decide +kernel)) (fun h561 => ?_)
      refine lv_aload_n hx hb dL_law_564 rfl (lv_at hl 3 rfl) ?_
      refine lv_iconst (v := nI 0) hx hb dL_law_565 (by decide +kernel) ?_
      refine aL hx hb hK hP 6 4 rfl rfl (by decide) (by decide) dL_law_566 ?_
      refine tL updL_eq ?_
      refine lv_lload hx hb dL_law_567 (lv_at hl 0 rfl) ?_
      refine W.lcmp hx hb dL_law_569 ?_
      refine lv_if_eq (tgt := 575) hx hb dL_law_570 (by decide) (fun h570 => ?_) (fun h570 => absurd ((lg_cmp_eq _ _).mpr rfl) h570)
      refine lv_goto (tgt := 660) hx hb dL_law_575 (by decide) ?_
      have hl := lv_sub hl [2, 3, 4, 5, 6] rfl
      refine W.widen (k := 7 + (k + 1)) (n := 2016 + 6 * (k + 1)) (by omega) (by omega) ?_
      exact kk _ _ _ _ _ _ _ hu9 hP hD hS hl
  · have hbad := Bool.eq_false_iff.mpr c1
    refine lv_aload_n hx hb dL_law_499 rfl (lv_at hl 3 rfl) ?_
    refine lv_aload_n hx hb dL_law_500 rfl (lv_at hl 4 rfl) ?_
    refine lv_iload hx hb dL_law_501 (lv_at hl 0 rfl) ?_
    refine lv_iconst (v := nI 1) hx hb dL_law_503 (by decide +kernel) ?_
    refine lv_iadd hx hb dL_law_504 ?_
    refine tI (nI_add _ _) ?_
    refine sldN hx hb hX hbl (Nat.not_le.mpr hbl) hS (by omega) (by omega) dL_law_505 ?_
    refine lv_aload_n hx hb dL_law_506 rfl (lv_at hl 4 rfl) ?_
    refine lv_iload hx hb dL_law_507 (lv_at hl 0 rfl) ?_
    refine lv_iconst (v := nI 2) hx hb dL_law_509 (by decide +kernel) ?_
    refine lv_iadd hx hb dL_law_510 ?_
    refine tI (nI_add _ _) ?_
    refine sldN hx hb hX hbl (Nat.not_le.mpr hbl) hS (by omega) (by omega) dL_law_511 ?_
    refine lv_aload_n hx hb dL_law_512 rfl (lv_at hl 4 rfl) ?_
    refine lv_iload hx hb dL_law_513 (lv_at hl 0 rfl) ?_
    refine lv_iconst (v := nI 3) hx hb dL_law_515 (by decide +kernel) ?_
    refine lv_iadd hx hb dL_law_516 ?_
    refine tI (nI_add _ _) ?_
    refine sldN hx hb hX hbl (Nat.not_le.mpr hbl) hS (by omega) (by omega) dL_law_517 ?_
    refine lv_aload_n hx hb dL_law_518 rfl (lv_at hl 1 rfl) ?_
    refine fSW (n := 5) (As := [.ref o, .int (xs (i + 1)), .int (xs (i + 2)), .int (xs (i + 3)), .ref z]) (rest := []) (wr := [(o2, .inr (1, [.int (er), .ref a2, .ref b2])), (a2, .inl (cB, 1000, .inr (.inl (cf)))), (b2, .inl (iB, 5, .inl (uf)))]) ⟨hx, hb, hml, hown, hts⟩ (mL_block_a l hls D o a b cA iA cf uf z oA ou H.size (xs (i + 1)) (xs (i + 2)) (xs (i + 3)) hbad) w_250 w_251 w_0 w_252 (by decide +kernel) ⟨rfl, rfl⟩ ⟨(Nat.le_of_ble_eq_true rfl), (Nat.le_of_ble_eq_true rfl)⟩ (xZ_at hZ hS) hP hK hD hS hA [0, 1, 2, 6] [3, 4, 5] [0, 1, 4] rfl rfl rfl (by decide) (by decide) (by decide) rfl rfl rfl hl.1 rfl (Nat.le_of_ble_eq_true rfl) dL_law_519 ⟨(show 7 + k + 1 ≤ 1041 by omega), (show 2016 + 6 * k + 6 ≤ 10268 by omega)⟩ (fun H locs hP hD hS => ?_)
    have hP : va_P D cls_ (w7 o a b o2 a2 b2 z cA iA cB iB oA er cf uf cf uf ou) H := hP.sub [3, 4, 5, 0, 1, 2, 6] rfl
    have hD : va_D (fun q => s.heap.size ≤ q) (w7 o a b o2 a2 b2 z cA iA cB iB oA er cf uf cf uf ou) := hD.sub [3, 4, 5, 0, 1, 2, 6] (by decide) rfl
    refine lv_istore hx hb dL_law_522 hl (by decide) rfl (fun ls hl => ?_)
    have hl : lv_has ls 8 [(5, .int (nI 1)), (4, .int (nI i)), (3, .ref z), (2, .ref o2), (1, .ref o), (0, .ref b0)] := hl
    refine lv_aload_n hx hb dL_law_524 rfl (lv_at hl 3 rfl) ?_
    refine lv_aload_n hx hb dL_law_525 rfl (lv_at hl 5 rfl) ?_
    refine lv_iload hx hb dL_law_526 (lv_at hl 1 rfl) ?_
    refine lv_iconst (v := nI 1) hx hb dL_law_528 (by decide +kernel) ?_
    refine lv_iadd hx hb dL_law_529 ?_
    refine tI (nI_add _ _) ?_
    refine sldN hx hb hX hbl (Nat.not_le.mpr hbl) hS (by omega) (by omega) dL_law_530 ?_
    refine lv_aload_n hx hb dL_law_531 rfl (lv_at hl 5 rfl) ?_
    refine lv_iload hx hb dL_law_532 (lv_at hl 1 rfl) ?_
    refine lv_iconst (v := nI 2) hx hb dL_law_534 (by decide +kernel) ?_
    refine lv_iadd hx hb dL_law_535 ?_
    refine tI (nI_add _ _) ?_
    refine sldN hx hb hX hbl (Nat.not_le.mpr hbl) hS (by omega) (by omega) dL_law_536 ?_
    refine lv_aload_n hx hb dL_law_537 rfl (lv_at hl 5 rfl) ?_
    refine lv_iload hx hb dL_law_538 (lv_at hl 1 rfl) ?_
    refine lv_iconst (v := nI 3) hx hb dL_law_540 (by decide +kernel) ?_
    refine lv_iadd hx hb dL_law_541 ?_
    refine tI (nI_add _ _) ?_
    refine sldN hx hb hX hbl (Nat.not_le.mpr hbl) hS (by omega) (by omega) dL_law_542 ?_
    refine fVl (n := 3) (As := [.int (xs (i + 1)), .int (xs (i + 2)), .int (xs (i + 3))]) (rest := []) (wr := [(o, .inr (0, [.ref a, .ref b])), (a, .inl (cA, 1000, .inr (.inl (cf)))), (b, .inl (iA, 5, .inl (uf))), (z, .inl (oA, 1, .inr (.inl (ou))))]) ⟨hx, hb, hml, hown, hts⟩ (mM_block_a l D o2 a2 b2 cB iB er cf uf H.size (xs (i + 1)) (xs (i + 2)) (xs (i + 3)) hbad) w_345 w_346 w_347 w_2 w_348 (by decide +kernel) ⟨rfl, rfl⟩ ⟨(Nat.le_of_ble_eq_true rfl), (Nat.le_of_ble_eq_true rfl)⟩ hP hK hD hS hA [3, 4, 5] [0, 1, 2, 6] [2, 3] rfl rfl rfl (by decide) (by decide) (by decide) rfl rfl 1 0 rfl rfl rfl hl.1 rfl (Nat.le_of_ble_eq_true rfl) dL_law_543 ⟨(show 7 + k + 1 ≤ 1041 by omega), (show 2016 + 6 * k + 6 ≤ 10268 by omega)⟩ (fun H locs hP hD hS => ?_)
    have hP : va_P D cls_ (w7 o a b o2 a2 b2 z cA iA cB iB oA (nI 1) cf uf cf uf ou) H := hP.sub [0, 1, 2, 4, 5, 6, 3] rfl
    have hD : va_D (fun q => s.heap.size ≤ q) (w7 o a b o2 a2 b2 z cA iA cB iB oA (nI 1) cf uf cf uf ou) := hD.sub [0, 1, 2, 4, 5, 6, 3] (by decide) rfl
    refine lv_lstore hx hb dL_law_546 hl (by decide) rfl (fun ls hl => ?_)
    have hl : lv_has ls 8 [(6, .long 0), (5, .int (nI 1)), (4, .int (nI i)), (3, .ref z), (2, .ref o2), (1, .ref o), (0, .ref b0)] := hl
    refine lv_aload_n hx hb dL_law_548 rfl (lv_at hl 4 rfl) ?_
    have hPc := hP.sub (ws' := wM o2 a2 b2 cB iB (nI 1) cf uf) [3, 4, 5] rfl
    have hKc := hK.sub (tys' := kT cB iB) [2, 3] rfl
    refine kV (n := 0) (As := []) (rest := []) ⟨hx, hb, hml, hown, hts⟩ (mM_thrown l D o2 a2 b2 cB iB (nI 1) cf uf) w_280 w_281 w_282 w_2 w_283 (by decide +kernel) ⟨rfl, rfl⟩ ⟨(Nat.le_of_ble_eq_true rfl), (Nat.le_of_ble_eq_true rfl)⟩ hPc hKc 1 0 rfl rfl rfl hl.1 rfl (Nat.le_of_ble_eq_true rfl) dL_law_549 ⟨(show 7 + k + 1 ≤ 1041 by omega), (show 2016 + 6 * k + 6 ≤ 10268 by omega)⟩ ?_
    refine lv_iload hx hb dL_law_552 (lv_at hl 1 rfl) ?_
    refine lv_icmp_eq (tgt := 559) hx hb dL_law_554 (by decide) (fun h554 => ?_) (fun h554 => absurd (by decide +kernel) h554)
    refine lv_iload hx hb dL_law_559 (lv_at hl 1 rfl) ?_
    refine lv_if_ne (tgt := 575) hx hb dL_law_561 (by decide) (fun h561 => ?_) (fun h561 => absurd h561 (by decide +kernel))
    refine lv_goto (tgt := 660) hx hb dL_law_575 (by decide) ?_
    have hl := lv_sub hl [2, 3, 4, 5, 6] rfl
    refine W.widen (k := 7 + (k + 1)) (n := 2016 + 6 * (k + 1)) (by omega) (by omega) ?_
    exact kk _ _ _ _ _ _ _ hu9 hP hD hS hl
set_option maxHeartbeats 4000000 in
set_option maxRecDepth 100000 in
theorem tn_scrub (l : Launch) (hls : l.stackTraces = false) {p : Program} {e : Env} {s : State} {m : MethodId} {below : List Frame} {meth : Method} {c : Code} {b0 N : Nat} {xs : Nat → Int32} {D : va_G} {o a b o2 a2 b2 z : Nat} {cA iA cB iB oA : ClassId} (C : LC p s m meth c b0 N xs D cA iA cB iB oA) {Q : State → Prop} {H : Heap} {locs : List Loc} {ls : Array Slot} {er : Int32} {cf : Nat → Int64} {uf : Nat → Int32} {ou : Nat → Int64} {i k : Nat} (hi : i + 6 ≤ N) (hk : k ≤ 511) (hu9 : uOk uf) (hP : va_P D cls_ (w7 o a b o2 a2 b2 z cA iA cB iB oA er cf uf cf uf ou) H) (hD : va_D (fun q => s.heap.size ≤ q) (w7 o a b o2 a2 b2 z cA iA cB iB oA er cf uf cf uf ou)) (hS : va_S (fun q => s.heap.size ≤ q) s.heap H locs) (hl : lv_has ls 8 [(4, .int (nI i)), (3, .ref z), (2, .ref o2), (1, .ref o), (0, .ref b0)])
    (kk : ∀ (H : Heap) (locs : List Loc) (ls : Array Slot) (er : Int32) (cf : Nat → Int64) (uf : Nat → Int32) (ou : Nat → Int64), uOk uf → va_P D cls_ (w7 o a b o2 a2 b2 z cA iA cB iB oA er cf uf cf uf ou) H → va_D (fun q => s.heap.size ≤ q) (w7 o a b o2 a2 b2 z cA iA cB iB oA er cf uf cf uf ou) → va_S (fun q => s.heap.size ≤ q) s.heap H locs → lv_has ls 8 [(4, .int (nI i)), (3, .ref z), (2, .ref o2), (1, .ref o), (0, .ref b0)] → W p l e room_1 s m (#[Value.ref b0]) below meth c H locs (7 + (k + 1)) (2016 + 6 * (k + 1)) Q (F0 m 660 ls [])) : W p l e room_1 s m (#[Value.ref b0]) below meth c H locs (7 + k) (2016 + 6 * k) Q (F0 m 578 ls []) := by
  obtain ⟨hx, hb, hml, hown, hts, hX, hbl, hZ, hK, hN⟩ := C
  have hg : ∀ w ∈ gW, w.before (#[Value.ref b0]) s = true := fun w h => hts w (List.mem_cons_of_mem _ h)
  have hA : ∀ q : Nat, s.heap.size ≤ q → (fun q => s.heap.size ≤ q) q := fun q h => h
  refine lv_aload_n hx hb dL_law_578 rfl (lv_at hl 3 rfl) ?_
  refine fVi (n := 0) (As := []) (rest := []) (wr := [(o2, .inr (1, [.int (er), .ref a2, .ref b2])), (a2, .inl (cB, 1000, .inr (.inl (cf)))), (b2, .inl (iB, 5, .inl (uf))), (z, .inl (oA, 1, .inr (.inl (ou))))]) ⟨hx, hb, hml, hown, hts⟩ (mX_scrub l D o a b cA iA cf uf H.size) w_27 w_28 w_29 w_1 w_30 (by decide +kernel) ⟨rfl, rfl⟩ ⟨(Nat.le_of_ble_eq_true rfl), (Nat.le_of_ble_eq_true rfl)⟩ hP hK hD hS hA [0, 1, 2] [3, 4, 5, 6] [0, 1] rfl rfl rfl (by decide) (by decide) (by decide) rfl rfl 0 0 rfl rfl rfl hl.1 rfl (Nat.le_of_ble_eq_true rfl) dL_law_579 ⟨(show 7 + k ≤ 1041 by omega), (show 2016 + 6 * k ≤ 10268 by omega)⟩ (fun H locs hP hD hS => ?_)
  have hP : va_P D cls_ (w7 o a b o2 a2 b2 z cA iA cB iB oA er ((scF cf uf 100).1) uf cf uf ou) H := hP.sub [4, 5, 6, 0, 1, 2, 3] rfl
  have hD : va_D (fun q => s.heap.size ≤ q) (w7 o a b o2 a2 b2 z cA iA cB iB oA er ((scF cf uf 100).1) uf cf uf ou) := hD.sub [4, 5, 6, 0, 1, 2, 3] (by decide) rfl
  refine lv_aload_n hx hb dL_law_582 rfl (lv_at hl 2 rfl) ?_
  refine fVi (n := 0) (As := []) (rest := [.int (nI (scF cf uf 100).2)]) (wr := [(o, .inr (0, [.ref a, .ref b])), (a, .inl (cA, 1000, .inr (.inl ((scF cf uf 100).1)))), (b, .inl (iA, 5, .inl (uf))), (z, .inl (oA, 1, .inr (.inl (ou))))]) ⟨hx, hb, hml, hown, hts⟩ (mM_scrub l D o2 a2 b2 cB iB er cf uf H.size) w_349 w_350 w_351 w_2 w_352 (by decide +kernel) ⟨rfl, rfl⟩ ⟨(Nat.le_of_ble_eq_true rfl), (Nat.le_of_ble_eq_true rfl)⟩ hP hK hD hS hA [3, 4, 5] [0, 1, 2, 6] [2, 3] rfl rfl rfl (by decide) (by decide) (by decide) rfl rfl 1 0 rfl rfl rfl hl.1 rfl (Nat.le_of_ble_eq_true rfl) dL_law_583 ⟨(show 7 + k ≤ 1041 by omega), (show 2016 + 6 * k ≤ 10268 by omega)⟩ (fun H locs hP hD hS => ?_)
  have hP : va_P D cls_ (w7 o a b o2 a2 b2 z cA iA cB iB oA (nI 0) ((scF cf uf 100).1) uf ((scF cf uf 100).1) uf ou) H := hP.sub [0, 1, 2, 4, 5, 6, 3] rfl
  have hD : va_D (fun q => s.heap.size ≤ q) (w7 o a b o2 a2 b2 z cA iA cB iB oA (nI 0) ((scF cf uf 100).1) uf ((scF cf uf 100).1) uf ou) := hD.sub [0, 1, 2, 4, 5, 6, 3] (by decide) rfl
  refine lv_icmp_eq (tgt := 660) hx hb dL_law_586 (by decide) (fun h586 => ?_) (fun h586 => absurd rfl h586)
  have hl := lv_sub hl [0, 1, 2, 3, 4] rfl
  refine W.widen (k := 7 + (k + 1)) (n := 2016 + 6 * (k + 1)) (by omega) (by omega) ?_
  exact kk _ _ _ _ _ _ _ hu9 hP hD hS hl
set_option maxHeartbeats 4000000 in
set_option maxRecDepth 100000 in
theorem tn_lost (l : Launch) (hls : l.stackTraces = false) {p : Program} {e : Env} {s : State} {m : MethodId} {below : List Frame} {meth : Method} {c : Code} {b0 N : Nat} {xs : Nat → Int32} {D : va_G} {o a b o2 a2 b2 z : Nat} {cA iA cB iB oA : ClassId} (C : LC p s m meth c b0 N xs D cA iA cB iB oA) {Q : State → Prop} {H : Heap} {locs : List Loc} {ls : Array Slot} {er : Int32} {cf : Nat → Int64} {uf : Nat → Int32} {ou : Nat → Int64} {i k : Nat} (hi : i + 6 ≤ N) (hk : k ≤ 511) (hu9 : uOk uf) (hP : va_P D cls_ (w7 o a b o2 a2 b2 z cA iA cB iB oA er cf uf cf uf ou) H) (hD : va_D (fun q => s.heap.size ≤ q) (w7 o a b o2 a2 b2 z cA iA cB iB oA er cf uf cf uf ou)) (hS : va_S (fun q => s.heap.size ≤ q) s.heap H locs) (hl : lv_has ls 8 [(4, .int (nI i)), (3, .ref z), (2, .ref o2), (1, .ref o), (0, .ref b0)])
    (kk : ∀ (H : Heap) (locs : List Loc) (ls : Array Slot) (er : Int32) (cf : Nat → Int64) (uf : Nat → Int32) (ou : Nat → Int64), uOk uf → va_P D cls_ (w7 o a b o2 a2 b2 z cA iA cB iB oA er cf uf cf uf ou) H → va_D (fun q => s.heap.size ≤ q) (w7 o a b o2 a2 b2 z cA iA cB iB oA er cf uf cf uf ou) → va_S (fun q => s.heap.size ≤ q) s.heap H locs → lv_has ls 8 [(4, .int (nI i)), (3, .ref z), (2, .ref o2), (1, .ref o), (0, .ref b0)] → W p l e room_1 s m (#[Value.ref b0]) below meth c H locs (7 + (k + 1)) (2016 + 6 * (k + 1)) Q (F0 m 660 ls [])) : W p l e room_1 s m (#[Value.ref b0]) below meth c H locs (7 + k) (2016 + 6 * k) Q (F0 m 647 ls []) := by
  obtain ⟨hx, hb, hml, hown, hts, hX, hbl, hZ, hK, hN⟩ := C
  have hg : ∀ w ∈ gW, w.before (#[Value.ref b0]) s = true := fun w h => hts w (List.mem_cons_of_mem _ h)
  have hA : ∀ q : Nat, s.heap.size ≤ q → (fun q => s.heap.size ≤ q) q := fun q h => h
  refine lv_aload_n hx hb dL_law_647 rfl (lv_at hl 3 rfl) ?_
  have hPc := hP.sub (ws' := wX o a b cA iA cf uf) [0, 1, 2] rfl
  have hKc := hK.sub (tys' := kT cA iA) [0, 1] rfl
  refine kV (n := 0) (As := []) (rest := []) ⟨hx, hb, hml, hown, hts⟩ (mX_lost l D o a b cA iA cf uf) w_57 w_58 w_59 w_1 w_60 (by decide +kernel) ⟨rfl, rfl⟩ ⟨(Nat.le_of_ble_eq_true rfl), (Nat.le_of_ble_eq_true rfl)⟩ hPc hKc 0 0 rfl rfl rfl hl.1 rfl (Nat.le_of_ble_eq_true rfl) dL_law_648 ⟨(show 7 + k ≤ 1041 by omega), (show 2016 + 6 * k ≤ 10268 by omega)⟩ ?_
  refine lv_aload_n hx hb dL_law_651 rfl (lv_at hl 2 rfl) ?_
  refine fVi (n := 0) (As := []) (rest := [.int (nI (loF uf 400))]) (wr := [(o, .inr (0, [.ref a, .ref b])), (a, .inl (cA, 1000, .inr (.inl (cf)))), (b, .inl (iA, 5, .inl (uf))), (z, .inl (oA, 1, .inr (.inl (ou))))]) ⟨hx, hb, hml, hown, hts⟩ (mM_lost l D o2 a2 b2 cB iB er cf uf H.size) w_357 w_358 w_359 w_2 w_360 (by decide +kernel) ⟨rfl, rfl⟩ ⟨(Nat.le_of_ble_eq_true rfl), (Nat.le_of_ble_eq_true rfl)⟩ hP hK hD hS hA [3, 4, 5] [0, 1, 2, 6] [2, 3] rfl rfl rfl (by decide) (by decide) (by decide) rfl rfl 1 0 rfl rfl rfl hl.1 rfl (Nat.le_of_ble_eq_true rfl) dL_law_652 ⟨(show 7 + k ≤ 1041 by omega), (show 2016 + 6 * k ≤ 10268 by omega)⟩ (fun H locs hP hD hS => ?_)
  have hP : va_P D cls_ (w7 o a b o2 a2 b2 z cA iA cB iB oA (nI 0) cf uf cf uf ou) H := hP.sub [0, 1, 2, 4, 5, 6, 3] rfl
  have hD : va_D (fun q => s.heap.size ≤ q) (w7 o a b o2 a2 b2 z cA iA cB iB oA (nI 0) cf uf cf uf ou) := hD.sub [0, 1, 2, 4, 5, 6, 3] (by decide) rfl
  refine lv_icmp_eq (tgt := 660) hx hb dL_law_655 (by decide) (fun h655 => ?_) (fun h655 => absurd rfl h655)
  have hl := lv_sub hl [0, 1, 2, 3, 4] rfl
  refine W.widen (k := 7 + (k + 1)) (n := 2016 + 6 * (k + 1)) (by omega) (by omega) ?_
  exact kk _ _ _ _ _ _ _ hu9 hP hD hS hl
