set_option maxHeartbeats 4000000 in
set_option maxRecDepth 100000 in
theorem tn_fail (l : Launch) (hls : l.stackTraces = false) {p : Program} {e : Env} {s : State} {m : MethodId} {below : List Frame} {meth : Method} {c : Code} {b0 N : Nat} {xs : Nat → Int32} {D : va_G} {o a b o2 a2 b2 z : Nat} {cA iA cB iB oA : ClassId} (C : LC p s m meth c b0 N xs D cA iA cB iB oA) {Q : State → Prop} {H : Heap} {locs : List Loc} {ls : Array Slot} {er : Int32} {cf : Nat → Int64} {uf : Nat → Int32} {ou : Nat → Int64} {i k : Nat} (hi : i + 6 ≤ N) (hk : k ≤ 511) (hu9 : uOk uf) (hP : va_P D cls_ (w7 o a b o2 a2 b2 z cA iA cB iB oA er cf uf cf uf ou) H) (hD : va_D (fun q => s.heap.size ≤ q) (w7 o a b o2 a2 b2 z cA iA cB iB oA er cf uf cf uf ou)) (hS : va_S (fun q => s.heap.size ≤ q) s.heap H locs) (hl : lv_has ls 8 [(4, .int (nI i)), (3, .ref z), (2, .ref o2), (1, .ref o), (0, .ref b0)])
    (kk : ∀ (H : Heap) (locs : List Loc) (ls : Array Slot) (er : Int32) (cf : Nat → Int64) (uf : Nat → Int32) (ou : Nat → Int64), uOk uf → va_P D cls_ (w7 o a b o2 a2 b2 z cA iA cB iB oA er cf uf cf uf ou) H → va_D (fun q => s.heap.size ≤ q) (w7 o a b o2 a2 b2 z cA iA cB iB oA er cf uf cf uf ou) → va_S (fun q => s.heap.size ≤ q) s.heap H locs → lv_has ls 8 [(4, .int (nI i)), (3, .ref z), (2, .ref o2), (1, .ref o), (0, .ref b0)] → W p l e room_1 s m (#[Value.ref b0]) below meth c H locs (7 + (k + 1)) (2016 + 6 * (k + 1)) Q (F0 m 660 ls [])) : W p l e room_1 s m (#[Value.ref b0]) below meth c H locs (7 + k) (2016 + 6 * k) Q (F0 m 255 ls []) := by
  obtain ⟨hx, hb, hml, hown, hts, hX, hbl, hZ, hK, hN⟩ := C
  have hg : ∀ w ∈ gW, w.before (#[Value.ref b0]) s = true := fun w h => hts w (List.mem_cons_of_mem _ h)
  have hA : ∀ q : Nat, s.heap.size ≤ q → (fun q => s.heap.size ≤ q) q := fun q h => h
  by_cases c1 : inR (xs (i + 1)) 5 = true
  · obtain ⟨d, hd, e1⟩ := inR_nat (by decide) c1
    refine lv_aload_n hx hb dL_law_255 rfl (lv_at hl 3 rfl) ?_
    refine lv_aload_n hx hb dL_law_256 rfl (lv_at hl 4 rfl) ?_
    refine lv_iload hx hb dL_law_257 (lv_at hl 0 rfl) ?_
    refine lv_iconst (v := nI 1) hx hb dL_law_259 (by decide +kernel) ?_
    refine lv_iadd hx hb dL_law_260 ?_
    refine tI (nI_add _ _) ?_
    refine sldN hx hb hX hbl (Nat.not_le.mpr hbl) hS (by omega) (by omega) dL_law_261 ?_
    refine tI e1 ?_
    refine fSW (n := 2) (As := [.ref o, .int (nI d)]) (rest := []) (wr := [(o2, .inr (1, [.int (er), .ref a2, .ref b2])), (a2, .inl (cB, 1000, .inr (.inl (cf)))), (b2, .inl (iB, 5, .inl (uf))), (z, .inl (oA, 1, .inr (.inl (ou))))]) ⟨hx, hb, hml, hown, hts⟩ (mL_fail_ok l D o a b cA iA cf uf H.size d hd) w_183 w_184 w_0 w_185 (by decide +kernel) ⟨rfl, rfl⟩ ⟨(Nat.le_of_ble_eq_true rfl), (Nat.le_of_ble_eq_true rfl)⟩ (xZ_at hZ hS) hP hK hD hS hA [0, 1, 2] [3, 4, 5, 6] [0, 1] rfl rfl rfl (by decide) (by decide) (by decide) rfl rfl rfl hl.1 rfl (Nat.le_of_ble_eq_true rfl) dL_law_262 ⟨(show 7 + k + 1 ≤ 1041 by omega), (show 2016 + 6 * k + 6 ≤ 10268 by omega)⟩ (fun H locs hP hD hS => ?_)
    have hP : va_P D cls_ (w7 o a b o2 a2 b2 z cA iA cB iB oA er cf (upd uf d (-1)) cf uf ou) H := hP.sub [4, 5, 6, 0, 1, 2, 3] rfl
    have hD : va_D (fun q => s.heap.size ≤ q) (w7 o a b o2 a2 b2 z cA iA cB iB oA er cf (upd uf d (-1)) cf uf ou) := hD.sub [4, 5, 6, 0, 1, 2, 3] (by decide) rfl
    refine lv_istore hx hb dL_law_265 hl (by decide) rfl (fun ls hl => ?_)
    have hl : lv_has ls 8 [(5, .int (nI 0)), (4, .int (nI i)), (3, .ref z), (2, .ref o2), (1, .ref o), (0, .ref b0)] := hl
    refine lv_aload_n hx hb dL_law_267 rfl (lv_at hl 3 rfl) ?_
    refine lv_aload_n hx hb dL_law_268 rfl (lv_at hl 5 rfl) ?_
    refine lv_iload hx hb dL_law_269 (lv_at hl 1 rfl) ?_
    refine lv_iconst (v := nI 1) hx hb dL_law_271 (by decide +kernel) ?_
    refine lv_iadd hx hb dL_law_272 ?_
    refine tI (nI_add _ _) ?_
    refine sldN hx hb hX hbl (Nat.not_le.mpr hbl) hS (by omega) (by omega) dL_law_273 ?_
    refine tI e1 ?_
    refine fVv (n := 1) (As := [.int (nI d)]) (rest := []) (wr := [(o, .inr (0, [.ref a, .ref b])), (a, .inl (cA, 1000, .inr (.inl (cf)))), (b, .inl (iA, 5, .inl (upd uf d (-1)))), (z, .inl (oA, 1, .inr (.inl (ou))))]) ⟨hx, hb, hml, hown, hts⟩ (mM_fail_ok l D o2 a2 b2 cB iB er cf uf H.size d hd) w_322 w_323 w_324 w_2 w_325 (by decide +kernel) ⟨rfl, rfl⟩ ⟨(Nat.le_of_ble_eq_true rfl), (Nat.le_of_ble_eq_true rfl)⟩ hP hK hD hS hA [3, 4, 5] [0, 1, 2, 6] [2, 3] rfl rfl rfl (by decide) (by decide) (by decide) rfl rfl 1 0 rfl rfl rfl hl.1 rfl (Nat.le_of_ble_eq_true rfl) dL_law_274 ⟨(show 7 + k + 1 ≤ 1041 by omega), (show 2016 + 6 * k + 6 ≤ 10268 by omega)⟩ (fun H locs hP hD hS => ?_)
    have hP : va_P D cls_ (w7 o a b o2 a2 b2 z cA iA cB iB oA (nI 0) cf (upd uf d (-1)) cf (upd uf d (-1)) ou) H := hP.sub [0, 1, 2, 4, 5, 6, 3] rfl
    have hD : va_D (fun q => s.heap.size ≤ q) (w7 o a b o2 a2 b2 z cA iA cB iB oA (nI 0) cf (upd uf d (-1)) cf (upd uf d (-1)) ou) := hD.sub [0, 1, 2, 4, 5, 6, 3] (by decide) rfl
    refine lv_aload_n hx hb dL_law_277 rfl (lv_at hl 3 rfl) ?_
    have hPc := hP.sub (ws' := wM o2 a2 b2 cB iB (nI 0) cf (upd uf d (-1))) [3, 4, 5] rfl
    have hKc := hK.sub (tys' := kT cB iB) [2, 3] rfl
    refine kV (n := 0) (As := []) (rest := []) ⟨hx, hb, hml, hown, hts⟩ (mM_thrown l D o2 a2 b2 cB iB (nI 0) cf (upd uf d (-1))) w_280 w_281 w_282 w_2 w_283 (by decide +kernel) ⟨rfl, rfl⟩ ⟨(Nat.le_of_ble_eq_true rfl), (Nat.le_of_ble_eq_true rfl)⟩ hPc hKc 1 0 rfl rfl rfl hl.1 rfl (Nat.le_of_ble_eq_true rfl) dL_law_278 ⟨(show 7 + k + 1 ≤ 1041 by omega), (show 2016 + 6 * k + 6 ≤ 10268 by omega)⟩ ?_
    refine lv_iload hx hb dL_law_281 (lv_at hl 0 rfl) ?_
    refine lv_icmp_eq (tgt := 288) hx hb dL_law_283 (by decide) (fun h283 => ?_) (fun h283 => absurd (by decide +kernel) h283)
    refine lv_goto (tgt := 660) hx hb dL_law_288 (by decide) ?_
    have hl := lv_sub hl [1, 2, 3, 4, 5] rfl
    refine W.widen (k := 7 + (k + 1)) (n := 2016 + 6 * (k + 1)) (by omega) (by omega) ?_
    exact kk _ _ _ _ _ _ _ (uOk_upd hu9 d (Or.inl rfl)) hP hD hS hl
  · have hbad := Bool.eq_false_iff.mpr c1
    refine lv_aload_n hx hb dL_law_255 rfl (lv_at hl 3 rfl) ?_
    refine lv_aload_n hx hb dL_law_256 rfl (lv_at hl 4 rfl) ?_
    refine lv_iload hx hb dL_law_257 (lv_at hl 0 rfl) ?_
    refine lv_iconst (v := nI 1) hx hb dL_law_259 (by decide +kernel) ?_
    refine lv_iadd hx hb dL_law_260 ?_
    refine tI (nI_add _ _) ?_
    refine sldN hx hb hX hbl (Nat.not_le.mpr hbl) hS (by omega) (by omega) dL_law_261 ?_
    refine fSW (n := 2) (As := [.ref o, .int (xs (i + 1))]) (rest := []) (wr := [(o2, .inr (1, [.int (er), .ref a2, .ref b2])), (a2, .inl (cB, 1000, .inr (.inl (cf)))), (b2, .inl (iB, 5, .inl (uf))), (z, .inl (oA, 1, .inr (.inl (ou))))]) ⟨hx, hb, hml, hown, hts⟩ (mL_fail_a l hls D o a b cA iA cf uf H.size (xs (i + 1)) hbad) w_183 w_184 w_0 w_185 (by decide +kernel) ⟨rfl, rfl⟩ ⟨(Nat.le_of_ble_eq_true rfl), (Nat.le_of_ble_eq_true rfl)⟩ (xZ_at hZ hS) hP hK hD hS hA [0, 1, 2] [3, 4, 5, 6] [0, 1] rfl rfl rfl (by decide) (by decide) (by decide) rfl rfl rfl hl.1 rfl (Nat.le_of_ble_eq_true rfl) dL_law_262 ⟨(show 7 + k + 1 ≤ 1041 by omega), (show 2016 + 6 * k + 6 ≤ 10268 by omega)⟩ (fun H locs hP hD hS => ?_)
    have hP : va_P D cls_ (w7 o a b o2 a2 b2 z cA iA cB iB oA er cf uf cf uf ou) H := hP.sub [4, 5, 6, 0, 1, 2, 3] rfl
    have hD : va_D (fun q => s.heap.size ≤ q) (w7 o a b o2 a2 b2 z cA iA cB iB oA er cf uf cf uf ou) := hD.sub [4, 5, 6, 0, 1, 2, 3] (by decide) rfl
    refine lv_istore hx hb dL_law_265 hl (by decide) rfl (fun ls hl => ?_)
    have hl : lv_has ls 8 [(5, .int (nI 1)), (4, .int (nI i)), (3, .ref z), (2, .ref o2), (1, .ref o), (0, .ref b0)] := hl
    refine lv_aload_n hx hb dL_law_267 rfl (lv_at hl 3 rfl) ?_
    refine lv_aload_n hx hb dL_law_268 rfl (lv_at hl 5 rfl) ?_
    refine lv_iload hx hb dL_law_269 (lv_at hl 1 rfl) ?_
    refine lv_iconst (v := nI 1) hx hb dL_law_271 (by decide +kernel) ?_
    refine lv_iadd hx hb dL_law_272 ?_
    refine tI (nI_add _ _) ?_
    refine sldN hx hb hX hbl (Nat.not_le.mpr hbl) hS (by omega) (by omega) dL_law_273 ?_
    refine fVv (n := 1) (As := [.int (xs (i + 1))]) (rest := []) (wr := [(o, .inr (0, [.ref a, .ref b])), (a, .inl (cA, 1000, .inr (.inl (cf)))), (b, .inl (iA, 5, .inl (uf))), (z, .inl (oA, 1, .inr (.inl (ou))))]) ⟨hx, hb, hml, hown, hts⟩ (mM_fail_a l D o2 a2 b2 cB iB er cf uf H.size (xs (i + 1)) hbad) w_322 w_323 w_324 w_2 w_325 (by decide +kernel) ⟨rfl, rfl⟩ ⟨(Nat.le_of_ble_eq_true rfl), (Nat.le_of_ble_eq_true rfl)⟩ hP hK hD hS hA [3, 4, 5] [0, 1, 2, 6] [2, 3] rfl rfl rfl (by decide) (by decide) (by decide) rfl rfl 1 0 rfl rfl rfl hl.1 rfl (Nat.le_of_ble_eq_true rfl) dL_law_274 ⟨(show 7 + k + 1 ≤ 1041 by omega), (show 2016 + 6 * k + 6 ≤ 10268 by omega)⟩ (fun H locs hP hD hS => ?_)
    have hP : va_P D cls_ (w7 o a b o2 a2 b2 z cA iA cB iB oA (nI 1) cf uf cf uf ou) H := hP.sub [0, 1, 2, 4, 5, 6, 3] rfl
    have hD : va_D (fun q => s.heap.size ≤ q) (w7 o a b o2 a2 b2 z cA iA cB iB oA (nI 1) cf uf cf uf ou) := hD.sub [0, 1, 2, 4, 5, 6, 3] (by decide) rfl
    refine lv_aload_n hx hb dL_law_277 rfl (lv_at hl 3 rfl) ?_
    have hPc := hP.sub (ws' := wM o2 a2 b2 cB iB (nI 1) cf uf) [3, 4, 5] rfl
    have hKc := hK.sub (tys' := kT cB iB) [2, 3] rfl
    refine kV (n := 0) (As := []) (rest := []) ⟨hx, hb, hml, hown, hts⟩ (mM_thrown l D o2 a2 b2 cB iB (nI 1) cf uf) w_280 w_281 w_282 w_2 w_283 (by decide +kernel) ⟨rfl, rfl⟩ ⟨(Nat.le_of_ble_eq_true rfl), (Nat.le_of_ble_eq_true rfl)⟩ hPc hKc 1 0 rfl rfl rfl hl.1 rfl (Nat.le_of_ble_eq_true rfl) dL_law_278 ⟨(show 7 + k + 1 ≤ 1041 by omega), (show 2016 + 6 * k + 6 ≤ 10268 by omega)⟩ ?_
    refine lv_iload hx hb dL_law_281 (lv_at hl 0 rfl) ?_
    refine lv_icmp_eq (tgt := 288) hx hb dL_law_283 (by decide) (fun h283 => ?_) (fun h283 => absurd (by decide +kernel) h283)
    refine lv_goto (tgt := 660) hx hb dL_law_288 (by decide) ?_
    have hl := lv_sub hl [1, 2, 3, 4, 5] rfl
    refine W.widen (k := 7 + (k + 1)) (n := 2016 + 6 * (k + 1)) (by omega) (by omega) ?_
    exact kk _ _ _ _ _ _ _ hu9 hP hD hS hl
set_option maxHeartbeats 4000000 in
set_option maxRecDepth 100000 in
theorem tn_replace (l : Launch) (hls : l.stackTraces = false) {p : Program} {e : Env} {s : State} {m : MethodId} {below : List Frame} {meth : Method} {c : Code} {b0 N : Nat} {xs : Nat → Int32} {D : va_G} {o a b o2 a2 b2 z : Nat} {cA iA cB iB oA : ClassId} (C : LC p s m meth c b0 N xs D cA iA cB iB oA) {Q : State → Prop} {H : Heap} {locs : List Loc} {ls : Array Slot} {er : Int32} {cf : Nat → Int64} {uf : Nat → Int32} {ou : Nat → Int64} {i k : Nat} (hi : i + 6 ≤ N) (hk : k ≤ 511) (hu9 : uOk uf) (hP : va_P D cls_ (w7 o a b o2 a2 b2 z cA iA cB iB oA er cf uf cf uf ou) H) (hD : va_D (fun q => s.heap.size ≤ q) (w7 o a b o2 a2 b2 z cA iA cB iB oA er cf uf cf uf ou)) (hS : va_S (fun q => s.heap.size ≤ q) s.heap H locs) (hl : lv_has ls 8 [(4, .int (nI i)), (3, .ref z), (2, .ref o2), (1, .ref o), (0, .ref b0)])
    (kk : ∀ (H : Heap) (locs : List Loc) (ls : Array Slot) (er : Int32) (cf : Nat → Int64) (uf : Nat → Int32) (ou : Nat → Int64), uOk uf → va_P D cls_ (w7 o a b o2 a2 b2 z cA iA cB iB oA er cf uf cf uf ou) H → va_D (fun q => s.heap.size ≤ q) (w7 o a b o2 a2 b2 z cA iA cB iB oA er cf uf cf uf ou) → va_S (fun q => s.heap.size ≤ q) s.heap H locs → lv_has ls 8 [(4, .int (nI i)), (3, .ref z), (2, .ref o2), (1, .ref o), (0, .ref b0)] → W p l e room_1 s m (#[Value.ref b0]) below meth c H locs (7 + (k + 1)) (2016 + 6 * (k + 1)) Q (F0 m 660 ls [])) : W p l e room_1 s m (#[Value.ref b0]) below meth c H locs (7 + k) (2016 + 6 * k) Q (F0 m 291 ls []) := by
  obtain ⟨hx, hb, hml, hown, hts, hX, hbl, hZ, hK, hN⟩ := C
  have hg : ∀ w ∈ gW, w.before (#[Value.ref b0]) s = true := fun w h => hts w (List.mem_cons_of_mem _ h)
  have hA : ∀ q : Nat, s.heap.size ≤ q → (fun q => s.heap.size ≤ q) q := fun q h => h
  by_cases c1 : inR (xs (i + 1)) 5 = true
  · obtain ⟨d, hd, e1⟩ := inR_nat (by decide) c1
    by_cases hu : uf d = -1
    · refine lv_aload_n hx hb dL_law_291 rfl (lv_at hl 3 rfl) ?_
      refine lv_aload_n hx hb dL_law_292 rfl (lv_at hl 4 rfl) ?_
      refine lv_iload hx hb dL_law_293 (lv_at hl 0 rfl) ?_
      refine lv_iconst (v := nI 1) hx hb dL_law_295 (by decide +kernel) ?_
      refine lv_iadd hx hb dL_law_296 ?_
      refine tI (nI_add _ _) ?_
      refine sldN hx hb hX hbl (Nat.not_le.mpr hbl) hS (by omega) (by omega) dL_law_297 ?_
      refine tI e1 ?_
      refine fSW (n := 2) (As := [.ref o, .int (nI d)]) (rest := []) (wr := [(o2, .inr (1, [.int (er), .ref a2, .ref b2])), (a2, .inl (cB, 1000, .inr (.inl (cf)))), (b2, .inl (iB, 5, .inl (uf))), (z, .inl (oA, 1, .inr (.inl (ou))))]) ⟨hx, hb, hml, hown, hts⟩ (mL_replace_ok l D o a b cA iA cf uf H.size d hd hu) w_194 w_195 w_0 w_196 (by decide +kernel) ⟨rfl, rfl⟩ ⟨(Nat.le_of_ble_eq_true rfl), (Nat.le_of_ble_eq_true rfl)⟩ (xZ_at hZ hS) hP hK hD hS hA [0, 1, 2] [3, 4, 5, 6] [0, 1] rfl rfl rfl (by decide) (by decide) (by decide) rfl rfl rfl hl.1 rfl (Nat.le_of_ble_eq_true rfl) dL_law_298 ⟨(show 7 + k + 1 ≤ 1041 by omega), (show 2016 + 6 * k + 6 ≤ 10268 by omega)⟩ (fun H locs hP hD hS => ?_)
      have hP : va_P D cls_ (w7 o a b o2 a2 b2 z cA iA cB iB oA er (zr cf d 100) (upd uf d (nI 0)) cf uf ou) H := hP.sub [4, 5, 6, 0, 1, 2, 3] rfl
      have hD : va_D (fun q => s.heap.size ≤ q) (w7 o a b o2 a2 b2 z cA iA cB iB oA er (zr cf d 100) (upd uf d (nI 0)) cf uf ou) := hD.sub [4, 5, 6, 0, 1, 2, 3] (by decide) rfl
      refine lv_istore hx hb dL_law_301 hl (by decide) rfl (fun ls hl => ?_)
      have hl : lv_has ls 8 [(5, .int (nI 0)), (4, .int (nI i)), (3, .ref z), (2, .ref o2), (1, .ref o), (0, .ref b0)] := hl
      refine lv_aload_n hx hb dL_law_303 rfl (lv_at hl 3 rfl) ?_
      refine lv_aload_n hx hb dL_law_304 rfl (lv_at hl 5 rfl) ?_
      refine lv_iload hx hb dL_law_305 (lv_at hl 1 rfl) ?_
      refine lv_iconst (v := nI 1) hx hb dL_law_307 (by decide +kernel) ?_
      refine lv_iadd hx hb dL_law_308 ?_
      refine tI (nI_add _ _) ?_
      refine sldN hx hb hX hbl (Nat.not_le.mpr hbl) hS (by omega) (by omega) dL_law_309 ?_
      refine tI e1 ?_
      refine fVv (n := 1) (As := [.int (nI d)]) (rest := []) (wr := [(o, .inr (0, [.ref a, .ref b])), (a, .inl (cA, 1000, .inr (.inl (zr cf d 100)))), (b, .inl (iA, 5, .inl (upd uf d (nI 0)))), (z, .inl (oA, 1, .inr (.inl (ou))))]) ⟨hx, hb, hml, hown, hts⟩ (mM_replace_ok l D o2 a2 b2 cB iB er cf uf H.size d hd hu) w_329 w_330 w_331 w_2 w_332 (by decide +kernel) ⟨rfl, rfl⟩ ⟨(Nat.le_of_ble_eq_true rfl), (Nat.le_of_ble_eq_true rfl)⟩ hP hK hD hS hA [3, 4, 5] [0, 1, 2, 6] [2, 3] rfl rfl rfl (by decide) (by decide) (by decide) rfl rfl 1 0 rfl rfl rfl hl.1 rfl (Nat.le_of_ble_eq_true rfl) dL_law_310 ⟨(show 7 + k + 1 ≤ 1041 by omega), (show 2016 + 6 * k + 6 ≤ 10268 by omega)⟩ (fun H locs hP hD hS => ?_)
      have hP : va_P D cls_ (w7 o a b o2 a2 b2 z cA iA cB iB oA (nI 0) (zr cf d 100) (upd uf d (nI 0)) (zr cf d 100) (upd uf d (nI 0)) ou) H := hP.sub [0, 1, 2, 4, 5, 6, 3] rfl
      have hD : va_D (fun q => s.heap.size ≤ q) (w7 o a b o2 a2 b2 z cA iA cB iB oA (nI 0) (zr cf d 100) (upd uf d (nI 0)) (zr cf d 100) (upd uf d (nI 0)) ou) := hD.sub [0, 1, 2, 4, 5, 6, 3] (by decide) rfl
      refine lv_aload_n hx hb dL_law_313 rfl (lv_at hl 3 rfl) ?_
      have hPc := hP.sub (ws' := wM o2 a2 b2 cB iB (nI 0) (zr cf d 100) (upd uf d (nI 0))) [3, 4, 5] rfl
      have hKc := hK.sub (tys' := kT cB iB) [2, 3] rfl
      refine kV (n := 0) (As := []) (rest := []) ⟨hx, hb, hml, hown, hts⟩ (mM_thrown l D o2 a2 b2 cB iB (nI 0) (zr cf d 100) (upd uf d (nI 0))) w_280 w_281 w_282 w_2 w_283 (by decide +kernel) ⟨rfl, rfl⟩ ⟨(Nat.le_of_ble_eq_true rfl), (Nat.le_of_ble_eq_true rfl)⟩ hPc hKc 1 0 rfl rfl rfl hl.1 rfl (Nat.le_of_ble_eq_true rfl) dL_law_314 ⟨(show 7 + k + 1 ≤ 1041 by omega), (show 2016 + 6 * k + 6 ≤ 10268 by omega)⟩ ?_
      refine lv_iload hx hb dL_law_317 (lv_at hl 0 rfl) ?_
      refine lv_icmp_eq (tgt := 324) hx hb dL_law_319 (by decide) (fun h319 => ?_) (fun h319 => absurd (by decide +kernel) h319)
      refine lv_goto (tgt := 660) hx hb dL_law_324 (by decide) ?_
      have hl := lv_sub hl [1, 2, 3, 4, 5] rfl
      refine W.widen (k := 7 + (k + 1)) (n := 2016 + 6 * (k + 1)) (by omega) (by omega) ?_
      exact kk _ _ _ _ _ _ _ (uOk_upd hu9 d (Or.inr ⟨0, by omega, rfl⟩)) hP hD hS hl
    · refine lv_aload_n hx hb dL_law_291 rfl (lv_at hl 3 rfl) ?_
      refine lv_aload_n hx hb dL_law_292 rfl (lv_at hl 4 rfl) ?_
      refine lv_iload hx hb dL_law_293 (lv_at hl 0 rfl) ?_
      refine lv_iconst (v := nI 1) hx hb dL_law_295 (by decide +kernel) ?_
      refine lv_iadd hx hb dL_law_296 ?_
      refine tI (nI_add _ _) ?_
      refine sldN hx hb hX hbl (Nat.not_le.mpr hbl) hS (by omega) (by omega) dL_law_297 ?_
      refine tI e1 ?_
      refine fSW (n := 2) (As := [.ref o, .int (nI d)]) (rest := []) (wr := [(o2, .inr (1, [.int (er), .ref a2, .ref b2])), (a2, .inl (cB, 1000, .inr (.inl (cf)))), (b2, .inl (iB, 5, .inl (uf))), (z, .inl (oA, 1, .inr (.inl (ou))))]) ⟨hx, hb, hml, hown, hts⟩ (mL_replace_s l hls D o a b cA iA cf uf H.size d hd hu) w_194 w_195 w_0 w_196 (by decide +kernel) ⟨rfl, rfl⟩ ⟨(Nat.le_of_ble_eq_true rfl), (Nat.le_of_ble_eq_true rfl)⟩ (xZ_at hZ hS) hP hK hD hS hA [0, 1, 2] [3, 4, 5, 6] [0, 1] rfl rfl rfl (by decide) (by decide) (by decide) rfl rfl rfl hl.1 rfl (Nat.le_of_ble_eq_true rfl) dL_law_298 ⟨(show 7 + k + 1 ≤ 1041 by omega), (show 2016 + 6 * k + 6 ≤ 10268 by omega)⟩ (fun H locs hP hD hS => ?_)
      have hP : va_P D cls_ (w7 o a b o2 a2 b2 z cA iA cB iB oA er cf uf cf uf ou) H := hP.sub [4, 5, 6, 0, 1, 2, 3] rfl
      have hD : va_D (fun q => s.heap.size ≤ q) (w7 o a b o2 a2 b2 z cA iA cB iB oA er cf uf cf uf ou) := hD.sub [4, 5, 6, 0, 1, 2, 3] (by decide) rfl
      refine lv_istore hx hb dL_law_301 hl (by decide) rfl (fun ls hl => ?_)
      have hl : lv_has ls 8 [(5, .int (nI 2)), (4, .int (nI i)), (3, .ref z), (2, .ref o2), (1, .ref o), (0, .ref b0)] := hl
      refine lv_aload_n hx hb dL_law_303 rfl (lv_at hl 3 rfl) ?_
      refine lv_aload_n hx hb dL_law_304 rfl (lv_at hl 5 rfl) ?_
      refine lv_iload hx hb dL_law_305 (lv_at hl 1 rfl) ?_
      refine lv_iconst (v := nI 1) hx hb dL_law_307 (by decide +kernel) ?_
      refine lv_iadd hx hb dL_law_308 ?_
      refine tI (nI_add _ _) ?_
      refine sldN hx hb hX hbl (Nat.not_le.mpr hbl) hS (by omega) (by omega) dL_law_309 ?_
      refine tI e1 ?_
      refine fVv (n := 1) (As := [.int (nI d)]) (rest := []) (wr := [(o, .inr (0, [.ref a, .ref b])), (a, .inl (cA, 1000, .inr (.inl (cf)))), (b, .inl (iA, 5, .inl (uf))), (z, .inl (oA, 1, .inr (.inl (ou))))]) ⟨hx, hb, hml, hown, hts⟩ (mM_replace_s l D o2 a2 b2 cB iB er cf uf H.size d hd (u_ge hu9 hd hu)) w_329 w_330 w_331 w_2 w_332 (by decide +kernel) ⟨rfl, rfl⟩ ⟨(Nat.le_of_ble_eq_true rfl), (Nat.le_of_ble_eq_true rfl)⟩ hP hK hD hS hA [3, 4, 5] [0, 1, 2, 6] [2, 3] rfl rfl rfl (by decide) (by decide) (by decide) rfl rfl 1 0 rfl rfl rfl hl.1 rfl (Nat.le_of_ble_eq_true rfl) dL_law_310 ⟨(show 7 + k + 1 ≤ 1041 by omega), (show 2016 + 6 * k + 6 ≤ 10268 by omega)⟩ (fun H locs hP hD hS => ?_)
      have hP : va_P D cls_ (w7 o a b o2 a2 b2 z cA iA cB iB oA (nI 2) cf uf cf uf ou) H := hP.sub [0, 1, 2, 4, 5, 6, 3] rfl
      have hD : va_D (fun q => s.heap.size ≤ q) (w7 o a b o2 a2 b2 z cA iA cB iB oA (nI 2) cf uf cf uf ou) := hD.sub [0, 1, 2, 4, 5, 6, 3] (by decide) rfl
      refine lv_aload_n hx hb dL_law_313 rfl (lv_at hl 3 rfl) ?_
      have hPc := hP.sub (ws' := wM o2 a2 b2 cB iB (nI 2) cf uf) [3, 4, 5] rfl
      have hKc := hK.sub (tys' := kT cB iB) [2, 3] rfl
      refine kV (n := 0) (As := []) (rest := []) ⟨hx, hb, hml, hown, hts⟩ (mM_thrown l D o2 a2 b2 cB iB (nI 2) cf uf) w_280 w_281 w_282 w_2 w_283 (by decide +kernel) ⟨rfl, rfl⟩ ⟨(Nat.le_of_ble_eq_true rfl), (Nat.le_of_ble_eq_true rfl)⟩ hPc hKc 1 0 rfl rfl rfl hl.1 rfl (Nat.le_of_ble_eq_true rfl) dL_law_314 ⟨(show 7 + k + 1 ≤ 1041 by omega), (show 2016 + 6 * k + 6 ≤ 10268 by omega)⟩ ?_
      refine lv_iload hx hb dL_law_317 (lv_at hl 0 rfl) ?_
      refine lv_icmp_eq (tgt := 324) hx hb dL_law_319 (by decide) (fun h319 => ?_) (fun h319 => absurd (by decide +kernel) h319)
      refine lv_goto (tgt := 660) hx hb dL_law_324 (by decide) ?_
      have hl := lv_sub hl [1, 2, 3, 4, 5] rfl
      refine W.widen (k := 7 + (k + 1)) (n := 2016 + 6 * (k + 1)) (by omega) (by omega) ?_
      exact kk _ _ _ _ _ _ _ hu9 hP hD hS hl
  · have hbad := Bool.eq_false_iff.mpr c1
    refine lv_aload_n hx hb dL_law_291 rfl (lv_at hl 3 rfl) ?_
    refine lv_aload_n hx hb dL_law_292 rfl (lv_at hl 4 rfl) ?_
    refine lv_iload hx hb dL_law_293 (lv_at hl 0 rfl) ?_
    refine lv_iconst (v := nI 1) hx hb dL_law_295 (by decide +kernel) ?_
    refine lv_iadd hx hb dL_law_296 ?_
    refine tI (nI_add _ _) ?_
    refine sldN hx hb hX hbl (Nat.not_le.mpr hbl) hS (by omega) (by omega) dL_law_297 ?_
    refine fSW (n := 2) (As := [.ref o, .int (xs (i + 1))]) (rest := []) (wr := [(o2, .inr (1, [.int (er), .ref a2, .ref b2])), (a2, .inl (cB, 1000, .inr (.inl (cf)))), (b2, .inl (iB, 5, .inl (uf))), (z, .inl (oA, 1, .inr (.inl (ou))))]) ⟨hx, hb, hml, hown, hts⟩ (mL_replace_a l hls D o a b cA iA cf uf H.size (xs (i + 1)) hbad) w_194 w_195 w_0 w_196 (by decide +kernel) ⟨rfl, rfl⟩ ⟨(Nat.le_of_ble_eq_true rfl), (Nat.le_of_ble_eq_true rfl)⟩ (xZ_at hZ hS) hP hK hD hS hA [0, 1, 2] [3, 4, 5, 6] [0, 1] rfl rfl rfl (by decide) (by decide) (by decide) rfl rfl rfl hl.1 rfl (Nat.le_of_ble_eq_true rfl) dL_law_298 ⟨(show 7 + k + 1 ≤ 1041 by omega), (show 2016 + 6 * k + 6 ≤ 10268 by omega)⟩ (fun H locs hP hD hS => ?_)
    have hP : va_P D cls_ (w7 o a b o2 a2 b2 z cA iA cB iB oA er cf uf cf uf ou) H := hP.sub [4, 5, 6, 0, 1, 2, 3] rfl
    have hD : va_D (fun q => s.heap.size ≤ q) (w7 o a b o2 a2 b2 z cA iA cB iB oA er cf uf cf uf ou) := hD.sub [4, 5, 6, 0, 1, 2, 3] (by decide) rfl
    refine lv_istore hx hb dL_law_301 hl (by decide) rfl (fun ls hl => ?_)
    have hl : lv_has ls 8 [(5, .int (nI 1)), (4, .int (nI i)), (3, .ref z), (2, .ref o2), (1, .ref o), (0, .ref b0)] := hl
    refine lv_aload_n hx hb dL_law_303 rfl (lv_at hl 3 rfl) ?_
    refine lv_aload_n hx hb dL_law_304 rfl (lv_at hl 5 rfl) ?_
    refine lv_iload hx hb dL_law_305 (lv_at hl 1 rfl) ?_
    refine lv_iconst (v := nI 1) hx hb dL_law_307 (by decide +kernel) ?_
    refine lv_iadd hx hb dL_law_308 ?_
    refine tI (nI_add _ _) ?_
    refine sldN hx hb hX hbl (Nat.not_le.mpr hbl) hS (by omega) (by omega) dL_law_309 ?_
    refine fVv (n := 1) (As := [.int (xs (i + 1))]) (rest := []) (wr := [(o, .inr (0, [.ref a, .ref b])), (a, .inl (cA, 1000, .inr (.inl (cf)))), (b, .inl (iA, 5, .inl (uf))), (z, .inl (oA, 1, .inr (.inl (ou))))]) ⟨hx, hb, hml, hown, hts⟩ (mM_replace_a l D o2 a2 b2 cB iB er cf uf H.size (xs (i + 1)) hbad) w_329 w_330 w_331 w_2 w_332 (by decide +kernel) ⟨rfl, rfl⟩ ⟨(Nat.le_of_ble_eq_true rfl), (Nat.le_of_ble_eq_true rfl)⟩ hP hK hD hS hA [3, 4, 5] [0, 1, 2, 6] [2, 3] rfl rfl rfl (by decide) (by decide) (by decide) rfl rfl 1 0 rfl rfl rfl hl.1 rfl (Nat.le_of_ble_eq_true rfl) dL_law_310 ⟨(show 7 + k + 1 ≤ 1041 by omega), (show 2016 + 6 * k + 6 ≤ 10268 by omega)⟩ (fun H locs hP hD hS => ?_)
    have hP : va_P D cls_ (w7 o a b o2 a2 b2 z cA iA cB iB oA (nI 1) cf uf cf uf ou) H := hP.sub [0, 1, 2, 4, 5, 6, 3] rfl
    have hD : va_D (fun q => s.heap.size ≤ q) (w7 o a b o2 a2 b2 z cA iA cB iB oA (nI 1) cf uf cf uf ou) := hD.sub [0, 1, 2, 4, 5, 6, 3] (by decide) rfl
    refine lv_aload_n hx hb dL_law_313 rfl (lv_at hl 3 rfl) ?_
    have hPc := hP.sub (ws' := wM o2 a2 b2 cB iB (nI 1) cf uf) [3, 4, 5] rfl
    have hKc := hK.sub (tys' := kT cB iB) [2, 3] rfl
    refine kV (n := 0) (As := []) (rest := []) ⟨hx, hb, hml, hown, hts⟩ (mM_thrown l D o2 a2 b2 cB iB (nI 1) cf uf) w_280 w_281 w_282 w_2 w_283 (by decide +kernel) ⟨rfl, rfl⟩ ⟨(Nat.le_of_ble_eq_true rfl), (Nat.le_of_ble_eq_true rfl)⟩ hPc hKc 1 0 rfl rfl rfl hl.1 rfl (Nat.le_of_ble_eq_true rfl) dL_law_314 ⟨(show 7 + k + 1 ≤ 1041 by omega), (show 2016 + 6 * k + 6 ≤ 10268 by omega)⟩ ?_
    refine lv_iload hx hb dL_law_317 (lv_at hl 0 rfl) ?_
    refine lv_icmp_eq (tgt := 324) hx hb dL_law_319 (by decide) (fun h319 => ?_) (fun h319 => absurd (by decide +kernel) h319)
    refine lv_goto (tgt := 660) hx hb dL_law_324 (by decide) ?_
    have hl := lv_sub hl [1, 2, 3, 4, 5] rfl
    refine W.widen (k := 7 + (k + 1)) (n := 2016 + 6 * (k + 1)) (by omega) (by omega) ?_
    exact kk _ _ _ _ _ _ _ hu9 hP hD hS hl
set_option maxHeartbeats 4000000 in
set_option maxRecDepth 100000 in
theorem tn_state (l : Launch) (hls : l.stackTraces = false) {p : Program} {e : Env} {s : State} {m : MethodId} {below : List Frame} {meth : Method} {c : Code} {b0 N : Nat} {xs : Nat → Int32} {D : va_G} {o a b o2 a2 b2 z : Nat} {cA iA cB iB oA : ClassId} (C : LC p s m meth c b0 N xs D cA iA cB iB oA) {Q : State → Prop} {H : Heap} {locs : List Loc} {ls : Array Slot} {er : Int32} {cf : Nat → Int64} {uf : Nat → Int32} {ou : Nat → Int64} {i k : Nat} (hi : i + 6 ≤ N) (hk : k ≤ 511) (hu9 : uOk uf) (hP : va_P D cls_ (w7 o a b o2 a2 b2 z cA iA cB iB oA er cf uf cf uf ou) H) (hD : va_D (fun q => s.heap.size ≤ q) (w7 o a b o2 a2 b2 z cA iA cB iB oA er cf uf cf uf ou)) (hS : va_S (fun q => s.heap.size ≤ q) s.heap H locs) (hl : lv_has ls 8 [(4, .int (nI i)), (3, .ref z), (2, .ref o2), (1, .ref o), (0, .ref b0)])
    (kk : ∀ (H : Heap) (locs : List Loc) (ls : Array Slot) (er : Int32) (cf : Nat → Int64) (uf : Nat → Int32) (ou : Nat → Int64), uOk uf → va_P D cls_ (w7 o a b o2 a2 b2 z cA iA cB iB oA er cf uf cf uf ou) H → va_D (fun q => s.heap.size ≤ q) (w7 o a b o2 a2 b2 z cA iA cB iB oA er cf uf cf uf ou) → va_S (fun q => s.heap.size ≤ q) s.heap H locs → lv_has ls 8 [(4, .int (nI i)), (3, .ref z), (2, .ref o2), (1, .ref o), (0, .ref b0)] → W p l e room_1 s m (#[Value.ref b0]) below meth c H locs (7 + (k + 1)) (2016 + 6 * (k + 1)) Q (F0 m 660 ls [])) : W p l e room_1 s m (#[Value.ref b0]) below meth c H locs (7 + k) (2016 + 6 * k) Q (F0 m 591 ls []) := by
  obtain ⟨hx, hb, hml, hown, hts, hX, hbl, hZ, hK, hN⟩ := C
  have hg : ∀ w ∈ gW, w.before (#[Value.ref b0]) s = true := fun w h => hts w (List.mem_cons_of_mem _ h)
  have hA : ∀ q : Nat, s.heap.size ≤ q → (fun q => s.heap.size ≤ q) q := fun q h => h
  by_cases c1 : inR (xs (i + 1)) 5 = true
  · obtain ⟨d, hd, e1⟩ := inR_nat (by decide) c1
    refine lv_aload_n hx hb dL_law_591 rfl (lv_at hl 3 rfl) ?_
    refine lv_aload_n hx hb dL_law_592 rfl (lv_at hl 4 rfl) ?_
    refine lv_iload hx hb dL_law_593 (lv_at hl 0 rfl) ?_
    refine lv_iconst (v := nI 1) hx hb dL_law_595 (by decide +kernel) ?_
    refine lv_iadd hx hb dL_law_596 ?_
    refine tI (nI_add _ _) ?_
    refine sldN hx hb hX hbl (Nat.not_le.mpr hbl) hS (by omega) (by omega) dL_law_597 ?_
    refine tI e1 ?_
    refine lv_aload_n hx hb dL_law_598 rfl (lv_at hl 1 rfl) ?_
    refine fSW (n := 3) (As := [.ref o, .int (nI d), .ref z]) (rest := []) (wr := [(o2, .inr (1, [.int (er), .ref a2, .ref b2])), (a2, .inl (cB, 1000, .inr (.inl (cf)))), (b2, .inl (iB, 5, .inl (uf)))]) ⟨hx, hb, hml, hown, hts⟩ (mL_state_ok l D o a b cA iA cf uf z oA ou H.size d hd) w_257 w_258 w_0 w_259 (by decide +kernel) ⟨rfl, rfl⟩ ⟨(Nat.le_of_ble_eq_true rfl), (Nat.le_of_ble_eq_true rfl)⟩ (xZ_at hZ hS) hP hK hD hS hA [0, 1, 2, 6] [3, 4, 5] [0, 1, 4] rfl rfl rfl (by decide) (by decide) (by decide) rfl rfl rfl hl.1 rfl (Nat.le_of_ble_eq_true rfl) dL_law_599 ⟨(show 7 + k + 1 ≤ 1041 by omega), (show 2016 + 6 * k + 6 ≤ 10268 by omega)⟩ (fun H locs hP hD hS => ?_)
    have hP : va_P D cls_ (w7 o a b o2 a2 b2 z cA iA cB iB oA er cf uf cf uf (vp_updL ou 0 ((sv (uf d)).toInt64))) H := hP.sub [3, 4, 5, 0, 1, 2, 6] rfl
    have hD : va_D (fun q => s.heap.size ≤ q) (w7 o a b o2 a2 b2 z cA iA cB iB oA er cf uf cf uf (vp_updL ou 0 ((sv (uf d)).toInt64))) := hD.sub [3, 4, 5, 0, 1, 2, 6] (by decide) rfl
    refine lv_istore hx hb dL_law_602 hl (by decide) rfl (fun ls hl => ?_)
    have hl : lv_has ls 8 [(5, .int (nI 0)), (4, .int (nI i)), (3, .ref z), (2, .ref o2), (1, .ref o), (0, .ref b0)] := hl
    refine lv_aload_n hx hb dL_law_604 rfl (lv_at hl 3 rfl) ?_
    refine lv_aload_n hx hb dL_law_605 rfl (lv_at hl 5 rfl) ?_
    refine lv_iload hx hb dL_law_606 (lv_at hl 1 rfl) ?_
    refine lv_iconst (v := nI 1) hx hb dL_law_608 (by decide +kernel) ?_
    refine lv_iadd hx hb dL_law_609 ?_
    refine tI (nI_add _ _) ?_
    refine sldN hx hb hX hbl (Nat.not_le.mpr hbl) hS (by omega) (by omega) dL_law_610 ?_
    refine tI e1 ?_
    refine fVi (n := 1) (As := [.int (nI d)]) (rest := []) (wr := [(o, .inr (0, [.ref a, .ref b])), (a, .inl (cA, 1000, .inr (.inl (cf)))), (b, .inl (iA, 5, .inl (uf))), (z, .inl (oA, 1, .inr (.inl (vp_updL ou 0 ((sv (uf d)).toInt64)))))]) ⟨hx, hb, hml, hown, hts⟩ (mM_state_ok l D o2 a2 b2 cB iB er cf uf H.size d hd (u_or hu9 hd)) w_353 w_354 w_355 w_2 w_356 (by decide +kernel) ⟨rfl, rfl⟩ ⟨(Nat.le_of_ble_eq_true rfl), (Nat.le_of_ble_eq_true rfl)⟩ hP hK hD hS hA [3, 4, 5] [0, 1, 2, 6] [2, 3] rfl rfl rfl (by decide) (by decide) (by decide) rfl rfl 1 0 rfl rfl rfl hl.1 rfl (Nat.le_of_ble_eq_true rfl) dL_law_611 ⟨(show 7 + k + 1 ≤ 1041 by omega), (show 2016 + 6 * k + 6 ≤ 10268 by omega)⟩ (fun H locs hP hD hS => ?_)
    have hP : va_P D cls_ (w7 o a b o2 a2 b2 z cA iA cB iB oA (nI 0) cf uf cf uf (vp_updL ou 0 ((sv (uf d)).toInt64))) H := hP.sub [0, 1, 2, 4, 5, 6, 3] rfl
    have hD : va_D (fun q => s.heap.size ≤ q) (w7 o a b o2 a2 b2 z cA iA cB iB oA (nI 0) cf uf cf uf (vp_updL ou 0 ((sv (uf d)).toInt64))) := hD.sub [0, 1, 2, 4, 5, 6, 3] (by decide) rfl
    refine lv_istore hx hb dL_law_614 hl (by decide) rfl (fun ls hl => ?_)
    have hl : lv_has ls 8 [(6, .int (sv (uf d))), (5, .int (nI 0)), (4, .int (nI i)), (3, .ref z), (2, .ref o2), (1, .ref o), (0, .ref b0)] := hl
    refine lv_aload_n hx hb dL_law_616 rfl (lv_at hl 4 rfl) ?_
    have hPc := hP.sub (ws' := wM o2 a2 b2 cB iB (nI 0) cf uf) [3, 4, 5] rfl
    have hKc := hK.sub (tys' := kT cB iB) [2, 3] rfl
    refine kV (n := 0) (As := []) (rest := []) ⟨hx, hb, hml, hown, hts⟩ (mM_thrown l D o2 a2 b2 cB iB (nI 0) cf uf) w_280 w_281 w_282 w_2 w_283 (by decide +kernel) ⟨rfl, rfl⟩ ⟨(Nat.le_of_ble_eq_true rfl), (Nat.le_of_ble_eq_true rfl)⟩ hPc hKc 1 0 rfl rfl rfl hl.1 rfl (Nat.le_of_ble_eq_true rfl) dL_law_617 ⟨(show 7 + k + 1 ≤ 1041 by omega), (show 2016 + 6 * k + 6 ≤ 10268 by omega)⟩ ?_
    refine lv_iload hx hb dL_law_620 (lv_at hl 1 rfl) ?_
    refine lv_icmp_eq (tgt := 627) hx hb dL_law_622 (by decide) (fun h622 => ?_) (fun h622 => absurd (by decide +kernel) h622)
    refine lv_iload hx hb dL_law_627 (lv_at hl 1 rfl) ?_
    refine lv_if_ne (tgt := 644) hx hb dL_law_629 (by decide) (fun h629 => absurd h629 (by decide +kernel)) (fun h629 => ?_)
    refine lv_aload_n hx hb dL_law_632 rfl (lv_at hl 3 rfl) ?_
    refine lv_iconst (v := nI 0) hx hb dL_law_633 (by decide +kernel) ?_
    refine aL hx hb hK hP 6 4 rfl rfl (by decide) (by decide) dL_law_634 ?_
    refine tL updL_eq ?_
    refine lv_iload hx hb dL_law_635 (lv_at hl 0 rfl) ?_
    refine lv_i2l (v := (sv (uf d)).toInt64) hx hb dL_law_637 rfl ?_
    refine W.lcmp hx hb dL_law_638 ?_
    refine lv_if_eq (tgt := 644) hx hb dL_law_639 (by decide) (fun h639 => ?_) (fun h639 => absurd ((lg_cmp_eq _ _).mpr rfl) h639)
    refine lv_goto (tgt := 660) hx hb dL_law_644 (by decide) ?_
    have hl := lv_sub hl [2, 3, 4, 5, 6] rfl
    refine W.widen (k := 7 + (k + 1)) (n := 2016 + 6 * (k + 1)) (by omega) (by omega) ?_
    exact kk _ _ _ _ _ _ _ hu9 hP hD hS hl
  · have hbad := Bool.eq_false_iff.mpr c1
    refine lv_aload_n hx hb dL_law_591 rfl (lv_at hl 3 rfl) ?_
    refine lv_aload_n hx hb dL_law_592 rfl (lv_at hl 4 rfl) ?_
    refine lv_iload hx hb dL_law_593 (lv_at hl 0 rfl) ?_
    refine lv_iconst (v := nI 1) hx hb dL_law_595 (by decide +kernel) ?_
    refine lv_iadd hx hb dL_law_596 ?_
    refine tI (nI_add _ _) ?_
    refine sldN hx hb hX hbl (Nat.not_le.mpr hbl) hS (by omega) (by omega) dL_law_597 ?_
    refine lv_aload_n hx hb dL_law_598 rfl (lv_at hl 1 rfl) ?_
    refine fSW (n := 3) (As := [.ref o, .int (xs (i + 1)), .ref z]) (rest := []) (wr := [(o2, .inr (1, [.int (er), .ref a2, .ref b2])), (a2, .inl (cB, 1000, .inr (.inl (cf)))), (b2, .inl (iB, 5, .inl (uf)))]) ⟨hx, hb, hml, hown, hts⟩ (mL_state_a l hls D o a b cA iA cf uf z oA ou H.size (xs (i + 1)) hbad) w_257 w_258 w_0 w_259 (by decide +kernel) ⟨rfl, rfl⟩ ⟨(Nat.le_of_ble_eq_true rfl), (Nat.le_of_ble_eq_true rfl)⟩ (xZ_at hZ hS) hP hK hD hS hA [0, 1, 2, 6] [3, 4, 5] [0, 1, 4] rfl rfl rfl (by decide) (by decide) (by decide) rfl rfl rfl hl.1 rfl (Nat.le_of_ble_eq_true rfl) dL_law_599 ⟨(show 7 + k + 1 ≤ 1041 by omega), (show 2016 + 6 * k + 6 ≤ 10268 by omega)⟩ (fun H locs hP hD hS => ?_)
    have hP : va_P D cls_ (w7 o a b o2 a2 b2 z cA iA cB iB oA er cf uf cf uf ou) H := hP.sub [3, 4, 5, 0, 1, 2, 6] rfl
    have hD : va_D (fun q => s.heap.size ≤ q) (w7 o a b o2 a2 b2 z cA iA cB iB oA er cf uf cf uf ou) := hD.sub [3, 4, 5, 0, 1, 2, 6] (by decide) rfl
    refine lv_istore hx hb dL_law_602 hl (by decide) rfl (fun ls hl => ?_)
    have hl : lv_has ls 8 [(5, .int (nI 1)), (4, .int (nI i)), (3, .ref z), (2, .ref o2), (1, .ref o), (0, .ref b0)] := hl
    refine lv_aload_n hx hb dL_law_604 rfl (lv_at hl 3 rfl) ?_
    refine lv_aload_n hx hb dL_law_605 rfl (lv_at hl 5 rfl) ?_
    refine lv_iload hx hb dL_law_606 (lv_at hl 1 rfl) ?_
    refine lv_iconst (v := nI 1) hx hb dL_law_608 (by decide +kernel) ?_
    refine lv_iadd hx hb dL_law_609 ?_
    refine tI (nI_add _ _) ?_
    refine sldN hx hb hX hbl (Nat.not_le.mpr hbl) hS (by omega) (by omega) dL_law_610 ?_
    refine fVi (n := 1) (As := [.int (xs (i + 1))]) (rest := []) (wr := [(o, .inr (0, [.ref a, .ref b])), (a, .inl (cA, 1000, .inr (.inl (cf)))), (b, .inl (iA, 5, .inl (uf))), (z, .inl (oA, 1, .inr (.inl (ou))))]) ⟨hx, hb, hml, hown, hts⟩ (mM_state_a l D o2 a2 b2 cB iB er cf uf H.size (xs (i + 1)) hbad) w_353 w_354 w_355 w_2 w_356 (by decide +kernel) ⟨rfl, rfl⟩ ⟨(Nat.le_of_ble_eq_true rfl), (Nat.le_of_ble_eq_true rfl)⟩ hP hK hD hS hA [3, 4, 5] [0, 1, 2, 6] [2, 3] rfl rfl rfl (by decide) (by decide) (by decide) rfl rfl 1 0 rfl rfl rfl hl.1 rfl (Nat.le_of_ble_eq_true rfl) dL_law_611 ⟨(show 7 + k + 1 ≤ 1041 by omega), (show 2016 + 6 * k + 6 ≤ 10268 by omega)⟩ (fun H locs hP hD hS => ?_)
    have hP : va_P D cls_ (w7 o a b o2 a2 b2 z cA iA cB iB oA (nI 1) cf uf cf uf ou) H := hP.sub [0, 1, 2, 4, 5, 6, 3] rfl
    have hD : va_D (fun q => s.heap.size ≤ q) (w7 o a b o2 a2 b2 z cA iA cB iB oA (nI 1) cf uf cf uf ou) := hD.sub [0, 1, 2, 4, 5, 6, 3] (by decide) rfl
    refine lv_istore hx hb dL_law_614 hl (by decide) rfl (fun ls hl => ?_)
    have hl : lv_has ls 8 [(6, .int (nI 0)), (5, .int (nI 1)), (4, .int (nI i)), (3, .ref z), (2, .ref o2), (1, .ref o), (0, .ref b0)] := hl
    refine lv_aload_n hx hb dL_law_616 rfl (lv_at hl 4 rfl) ?_
    have hPc := hP.sub (ws' := wM o2 a2 b2 cB iB (nI 1) cf uf) [3, 4, 5] rfl
    have hKc := hK.sub (tys' := kT cB iB) [2, 3] rfl
    refine kV (n := 0) (As := []) (rest := []) ⟨hx, hb, hml, hown, hts⟩ (mM_thrown l D o2 a2 b2 cB iB (nI 1) cf uf) w_280 w_281 w_282 w_2 w_283 (by decide +kernel) ⟨rfl, rfl⟩ ⟨(Nat.le_of_ble_eq_true rfl), (Nat.le_of_ble_eq_true rfl)⟩ hPc hKc 1 0 rfl rfl rfl hl.1 rfl (Nat.le_of_ble_eq_true rfl) dL_law_617 ⟨(show 7 + k + 1 ≤ 1041 by omega), (show 2016 + 6 * k + 6 ≤ 10268 by omega)⟩ ?_
    refine lv_iload hx hb dL_law_620 (lv_at hl 1 rfl) ?_
    refine lv_icmp_eq (tgt := 627) hx hb dL_law_622 (by decide) (fun h622 => ?_) (fun h622 => absurd (by decide +kernel) h622)
    refine lv_iload hx hb dL_law_627 (lv_at hl 1 rfl) ?_
    refine lv_if_ne (tgt := 644) hx hb dL_law_629 (by decide) (fun h629 => ?_) (fun h629 => absurd h629 (by decide +kernel))
    refine lv_goto (tgt := 660) hx hb dL_law_644 (by decide) ?_
    have hl := lv_sub hl [2, 3, 4, 5, 6] rfl
    refine W.widen (k := 7 + (k + 1)) (n := 2016 + 6 * (k + 1)) (by omega) (by omega) ?_
    exact kk _ _ _ _ _ _ _ hu9 hP hD hS hl
