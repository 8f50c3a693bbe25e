set_option maxHeartbeats 4000000 in
set_option maxRecDepth 100000 in
theorem tn_read (l : Launch) (hls : l.stackTraces = false) {p : Program} {e : Env} {s : State} {m : MethodId} {below : List Frame} {meth : Method} {c : Code} {b0 N : Nat} {xs : Nat → Int32} {D : va_G} {o a b o2 a2 b2 z : Nat} {cA iA cB iB oA : ClassId} (C : LC p s m meth c b0 N xs D cA iA cB iB oA) {Q : State → Prop} {H : Heap} {locs : List Loc} {ls : Array Slot} {er : Int32} {cf : Nat → Int64} {uf : Nat → Int32} {ou : Nat → Int64} {i k : Nat} (hi : i + 6 ≤ N) (hk : k ≤ 511) (hu9 : uOk uf) (hP : va_P D cls_ (w7 o a b o2 a2 b2 z cA iA cB iB oA er cf uf cf uf ou) H) (hD : va_D (fun q => s.heap.size ≤ q) (w7 o a b o2 a2 b2 z cA iA cB iB oA er cf uf cf uf ou)) (hS : va_S (fun q => s.heap.size ≤ q) s.heap H locs) (hl : lv_has ls 8 [(4, .int (nI i)), (3, .ref z), (2, .ref o2), (1, .ref o), (0, .ref b0)])
    (kk : ∀ (H : Heap) (locs : List Loc) (ls : Array Slot) (er : Int32) (cf : Nat → Int64) (uf : Nat → Int32) (ou : Nat → Int64), uOk uf → va_P D cls_ (w7 o a b o2 a2 b2 z cA iA cB iB oA er cf uf cf uf ou) H → va_D (fun q => s.heap.size ≤ q) (w7 o a b o2 a2 b2 z cA iA cB iB oA er cf uf cf uf ou) → va_S (fun q => s.heap.size ≤ q) s.heap H locs → lv_has ls 8 [(4, .int (nI i)), (3, .ref z), (2, .ref o2), (1, .ref o), (0, .ref b0)] → W p l e room_1 s m (#[Value.ref b0]) below meth c H locs (7 + (k + 1)) (2016 + 6 * (k + 1)) Q (F0 m 660 ls [])) : W p l e room_1 s m (#[Value.ref b0]) below meth c H locs (7 + k) (2016 + 6 * k) Q (F0 m 96 ls []) := by
  obtain ⟨hx, hb, hml, hown, hts, hX, hbl, hZ, hK, hN⟩ := C
  have hg : ∀ w ∈ gW, w.before (#[Value.ref b0]) s = true := fun w h => hts w (List.mem_cons_of_mem _ h)
  have hA : ∀ q : Nat, s.heap.size ≤ q → (fun q => s.heap.size ≤ q) q := fun q h => h
  by_cases c1 : (inR (xs (i + 1)) 400 && inR (xs (i + 2)) 2) = true
  · rw [Bool.and_eq_true] at c1
    obtain ⟨q, hq, e1⟩ := inR_nat (by decide) c1.1
    obtain ⟨h, hh, e2⟩ := inR_nat (by decide) c1.2
    cases hil : il uf (dk q) (q / 4) with
    | true =>
      refine lv_aload_n hx hb dL_law_96 rfl (lv_at hl 3 rfl) ?_
      refine lv_aload_n hx hb dL_law_97 rfl (lv_at hl 4 rfl) ?_
      refine lv_iload hx hb dL_law_98 (lv_at hl 0 rfl) ?_
      refine lv_iconst (v := nI 1) hx hb dL_law_100 (by decide +kernel) ?_
      refine lv_iadd hx hb dL_law_101 ?_
      refine tI (nI_add _ _) ?_
      refine sldN hx hb hX hbl (Nat.not_le.mpr hbl) hS (by omega) (by omega) dL_law_102 ?_
      refine tI e1 ?_
      refine lv_aload_n hx hb dL_law_103 rfl (lv_at hl 4 rfl) ?_
      refine lv_iload hx hb dL_law_104 (lv_at hl 0 rfl) ?_
      refine lv_iconst (v := nI 2) hx hb dL_law_106 (by decide +kernel) ?_
      refine lv_iadd hx hb dL_law_107 ?_
      refine tI (nI_add _ _) ?_
      refine sldN hx hb hX hbl (Nat.not_le.mpr hbl) hS (by omega) (by omega) dL_law_108 ?_
      refine tI e2 ?_
      refine lv_aload_n hx hb dL_law_109 rfl (lv_at hl 1 rfl) ?_
      refine fSW (n := 4) (As := [.ref o, .int (nI q), .int (nI h), .ref z]) (rest := []) (wr := [(o2, .inr (1, [.int (er), .ref a2, .ref b2])), (a2, .inl (cB, 1000, .inr (.inl (cf)))), (b2, .inl (iB, 5, .inl (uf)))]) ⟨hx, hb, hml, hown, hts⟩ (mL_read_u l hls D o a b cA iA cf uf z oA ou H.size q h hq hh hil) w_71 w_72 w_0 w_73 (by decide +kernel) ⟨rfl, rfl⟩ ⟨(Nat.le_of_ble_eq_true rfl), (Nat.le_of_ble_eq_true rfl)⟩ (xZ_at hZ hS) hP hK hD hS hA [0, 1, 2, 6] [3, 4, 5] [0, 1, 4] rfl rfl rfl (by decide) (by decide) (by decide) rfl rfl rfl hl.1 rfl (Nat.le_of_ble_eq_true rfl) dL_law_110 ⟨(show 7 + k + 1 ≤ 1041 by omega), (show 2016 + 6 * k + 6 ≤ 10268 by omega)⟩ (fun H locs hP hD hS => ?_)
      have hP : va_P D cls_ (w7 o a b o2 a2 b2 z cA iA cB iB oA er cf uf cf uf ou) H := hP.sub [3, 4, 5, 0, 1, 2, 6] rfl
      have hD : va_D (fun q => s.heap.size ≤ q) (w7 o a b o2 a2 b2 z cA iA cB iB oA er cf uf cf uf ou) := hD.sub [3, 4, 5, 0, 1, 2, 6] (by decide) rfl
      refine lv_istore hx hb dL_law_113 hl (by decide) rfl (fun ls hl => ?_)
      have hl : lv_has ls 8 [(5, .int (nI 2)), (4, .int (nI i)), (3, .ref z), (2, .ref o2), (1, .ref o), (0, .ref b0)] := hl
      refine lv_aload_n hx hb dL_law_115 rfl (lv_at hl 3 rfl) ?_
      refine lv_aload_n hx hb dL_law_116 rfl (lv_at hl 5 rfl) ?_
      refine lv_iload hx hb dL_law_117 (lv_at hl 1 rfl) ?_
      refine lv_iconst (v := nI 1) hx hb dL_law_119 (by decide +kernel) ?_
      refine lv_iadd hx hb dL_law_120 ?_
      refine tI (nI_add _ _) ?_
      refine sldN hx hb hX hbl (Nat.not_le.mpr hbl) hS (by omega) (by omega) dL_law_121 ?_
      refine tI e1 ?_
      refine lv_aload_n hx hb dL_law_122 rfl (lv_at hl 5 rfl) ?_
      refine lv_iload hx hb dL_law_123 (lv_at hl 1 rfl) ?_
      refine lv_iconst (v := nI 2) hx hb dL_law_125 (by decide +kernel) ?_
      refine lv_iadd hx hb dL_law_126 ?_
      refine tI (nI_add _ _) ?_
      refine sldN hx hb hX hbl (Nat.not_le.mpr hbl) hS (by omega) (by omega) dL_law_127 ?_
      refine tI e2 ?_
      refine fVl (n := 2) (As := [.int (nI q), .int (nI h)]) (rest := []) (wr := [(o, .inr (0, [.ref a, .ref b])), (a, .inl (cA, 1000, .inr (.inl (cf)))), (b, .inl (iA, 5, .inl (uf))), (z, .inl (oA, 1, .inr (.inl (ou))))]) ⟨hx, hb, hml, hown, hts⟩ (mM_read_u l D o2 a2 b2 cB iB er cf uf H.size q h hq hh hil) w_284 w_285 w_286 w_2 w_287 (by decide +kernel) ⟨rfl, rfl⟩ ⟨(Nat.le_of_ble_eq_true rfl), (Nat.le_of_ble_eq_true rfl)⟩ hP hK hD hS hA [3, 4, 5] [0, 1, 2, 6] [2, 3] rfl rfl rfl (by decide) (by decide) (by decide) rfl rfl 1 0 rfl rfl rfl hl.1 rfl (Nat.le_of_ble_eq_true rfl) dL_law_128 ⟨(show 7 + k + 1 ≤ 1041 by omega), (show 2016 + 6 * k + 6 ≤ 10268 by omega)⟩ (fun H locs hP hD hS => ?_)
      have hP : va_P D cls_ (w7 o a b o2 a2 b2 z cA iA cB iB oA (nI 2) cf uf cf uf ou) H := hP.sub [0, 1, 2, 4, 5, 6, 3] rfl
      have hD : va_D (fun q => s.heap.size ≤ q) (w7 o a b o2 a2 b2 z cA iA cB iB oA (nI 2) cf uf cf uf ou) := hD.sub [0, 1, 2, 4, 5, 6, 3] (by decide) rfl
      refine lv_lstore hx hb dL_law_131 hl (by decide) rfl (fun ls hl => ?_)
      have hl : lv_has ls 8 [(6, .long 0), (5, .int (nI 2)), (4, .int (nI i)), (3, .ref z), (2, .ref o2), (1, .ref o), (0, .ref b0)] := hl
      refine lv_aload_n hx hb dL_law_133 rfl (lv_at hl 4 rfl) ?_
      have hPc := hP.sub (ws' := wM o2 a2 b2 cB iB (nI 2) cf uf) [3, 4, 5] rfl
      have hKc := hK.sub (tys' := kT cB iB) [2, 3] rfl
      refine kV (n := 0) (As := []) (rest := []) ⟨hx, hb, hml, hown, hts⟩ (mM_thrown l D o2 a2 b2 cB iB (nI 2) cf uf) w_280 w_281 w_282 w_2 w_283 (by decide +kernel) ⟨rfl, rfl⟩ ⟨(Nat.le_of_ble_eq_true rfl), (Nat.le_of_ble_eq_true rfl)⟩ hPc hKc 1 0 rfl rfl rfl hl.1 rfl (Nat.le_of_ble_eq_true rfl) dL_law_134 ⟨(show 7 + k + 1 ≤ 1041 by omega), (show 2016 + 6 * k + 6 ≤ 10268 by omega)⟩ ?_
      refine lv_iload hx hb dL_law_137 (lv_at hl 1 rfl) ?_
      refine lv_icmp_eq (tgt := 144) hx hb dL_law_139 (by decide) (fun h139 => ?_) (fun h139 => absurd (by decide +kernel) h139)
      refine lv_iload hx hb dL_law_144 (lv_at hl 1 rfl) ?_
      refine lv_if_ne (tgt := 160) hx hb dL_law_146 (by decide) (fun h146 => ?_) (fun h146 => absurd h146 (by decide +kernel))
      refine lv_goto (tgt := 660) hx hb dL_law_160 (by decide) ?_
      have hl := lv_sub hl [2, 3, 4, 5, 6] rfl
      refine W.widen (k := 7 + (k + 1)) (n := 2016 + 6 * (k + 1)) (by omega) (by omega) ?_
      exact kk _ _ _ _ _ _ _ hu9 hP hD hS hl
    | false =>
      refine lv_aload_n hx hb dL_law_96 rfl (lv_at hl 3 rfl) ?_
      refine lv_aload_n hx hb dL_law_97 rfl (lv_at hl 4 rfl) ?_
      refine lv_iload hx hb dL_law_98 (lv_at hl 0 rfl) ?_
      refine lv_iconst (v := nI 1) hx hb dL_law_100 (by decide +kernel) ?_
      refine lv_iadd hx hb dL_law_101 ?_
      refine tI (nI_add _ _) ?_
      refine sldN hx hb hX hbl (Nat.not_le.mpr hbl) hS (by omega) (by omega) dL_law_102 ?_
      refine tI e1 ?_
      refine lv_aload_n hx hb dL_law_103 rfl (lv_at hl 4 rfl) ?_
      refine lv_iload hx hb dL_law_104 (lv_at hl 0 rfl) ?_
      refine lv_iconst (v := nI 2) hx hb dL_law_106 (by decide +kernel) ?_
      refine lv_iadd hx hb dL_law_107 ?_
      refine tI (nI_add _ _) ?_
      refine sldN hx hb hX hbl (Nat.not_le.mpr hbl) hS (by omega) (by omega) dL_law_108 ?_
      refine tI e2 ?_
      refine lv_aload_n hx hb dL_law_109 rfl (lv_at hl 1 rfl) ?_
      refine fSW (n := 4) (As := [.ref o, .int (nI q), .int (nI h), .ref z]) (rest := []) (wr := [(o2, .inr (1, [.int (er), .ref a2, .ref b2])), (a2, .inl (cB, 1000, .inr (.inl (cf)))), (b2, .inl (iB, 5, .inl (uf)))]) ⟨hx, hb, hml, hown, hts⟩ (mL_read_ok l D o a b cA iA cf uf z oA ou H.size q h hq hh hil) w_71 w_72 w_0 w_73 (by decide +kernel) ⟨rfl, rfl⟩ ⟨(Nat.le_of_ble_eq_true rfl), (Nat.le_of_ble_eq_true rfl)⟩ (xZ_at hZ hS) hP hK hD hS hA [0, 1, 2, 6] [3, 4, 5] [0, 1, 4] rfl rfl rfl (by decide) (by decide) (by decide) rfl rfl rfl hl.1 rfl (Nat.le_of_ble_eq_true rfl) dL_law_110 ⟨(show 7 + k + 1 ≤ 1041 by omega), (show 2016 + 6 * k + 6 ≤ 10268 by omega)⟩ (fun H locs hP hD hS => ?_)
      have hP : va_P D cls_ (w7 o a b o2 a2 b2 z cA iA cB iB oA er cf uf cf uf (vp_updL ou 0 (wh cf uf (dk q) (q / 4) h))) H := hP.sub [3, 4, 5, 0, 1, 2, 6] rfl
      have hD : va_D (fun q => s.heap.size ≤ q) (w7 o a b o2 a2 b2 z cA iA cB iB oA er cf uf cf uf (vp_updL ou 0 (wh cf uf (dk q) (q / 4) h))) := hD.sub [3, 4, 5, 0, 1, 2, 6] (by decide) rfl
      refine lv_istore hx hb dL_law_113 hl (by decide) rfl (fun ls hl => ?_)
      have hl : lv_has ls 8 [(5, .int (nI 0)), (4, .int (nI i)), (3, .ref z), (2, .ref o2), (1, .ref o), (0, .ref b0)] := hl
      refine lv_aload_n hx hb dL_law_115 rfl (lv_at hl 3 rfl) ?_
      refine lv_aload_n hx hb dL_law_116 rfl (lv_at hl 5 rfl) ?_
      refine lv_iload hx hb dL_law_117 (lv_at hl 1 rfl) ?_
      refine lv_iconst (v := nI 1) hx hb dL_law_119 (by decide +kernel) ?_
      refine lv_iadd hx hb dL_law_120 ?_
      refine tI (nI_add _ _) ?_
      refine sldN hx hb hX hbl (Nat.not_le.mpr hbl) hS (by omega) (by omega) dL_law_121 ?_
      refine tI e1 ?_
      refine lv_aload_n hx hb dL_law_122 rfl (lv_at hl 5 rfl) ?_
      refine lv_iload hx hb dL_law_123 (lv_at hl 1 rfl) ?_
      refine lv_iconst (v := nI 2) hx hb dL_law_125 (by decide +kernel) ?_
      refine lv_iadd hx hb dL_law_126 ?_
      refine tI (nI_add _ _) ?_
      refine sldN hx hb hX hbl (Nat.not_le.mpr hbl) hS (by omega) (by omega) dL_law_127 ?_
      refine tI e2 ?_
      refine fVl (n := 2) (As := [.int (nI q), .int (nI h)]) (rest := []) (wr := [(o, .inr (0, [.ref a, .ref b])), (a, .inl (cA, 1000, .inr (.inl (cf)))), (b, .inl (iA, 5, .inl (uf))), (z, .inl (oA, 1, .inr (.inl (vp_updL ou 0 (wh cf uf (dk q) (q / 4) h)))))]) ⟨hx, hb, hml, hown, hts⟩ (mM_read_ok l D o2 a2 b2 cB iB er cf uf H.size q h hq hh hil) w_284 w_285 w_286 w_2 w_287 (by decide +kernel) ⟨rfl, rfl⟩ ⟨(Nat.le_of_ble_eq_true rfl), (Nat.le_of_ble_eq_true rfl)⟩ hP hK hD hS hA [3, 4, 5] [0, 1, 2, 6] [2, 3] rfl rfl rfl (by decide) (by decide) (by decide) rfl rfl 1 0 rfl rfl rfl hl.1 rfl (Nat.le_of_ble_eq_true rfl) dL_law_128 ⟨(show 7 + k + 1 ≤ 1041 by omega), (show 2016 + 6 * k + 6 ≤ 10268 by omega)⟩ (fun H locs hP hD hS => ?_)
      have hP : va_P D cls_ (w7 o a b o2 a2 b2 z cA iA cB iB oA (nI 0) cf uf cf uf (vp_updL ou 0 (wh cf uf (dk q) (q / 4) h))) H := hP.sub [0, 1, 2, 4, 5, 6, 3] rfl
      have hD : va_D (fun q => s.heap.size ≤ q) (w7 o a b o2 a2 b2 z cA iA cB iB oA (nI 0) cf uf cf uf (vp_updL ou 0 (wh cf uf (dk q) (q / 4) h))) := hD.sub [0, 1, 2, 4, 5, 6, 3] (by decide) rfl
      refine lv_lstore hx hb dL_law_131 hl (by decide) rfl (fun ls hl => ?_)
      have hl : lv_has ls 8 [(6, .long (wh cf uf (dk q) (q / 4) h)), (5, .int (nI 0)), (4, .int (nI i)), (3, .ref z), (2, .ref o2), (1, .ref o), (0, .ref b0)] := hl
      refine lv_aload_n hx hb dL_law_133 rfl (lv_at hl 4 rfl) ?_
      have hPc := hP.sub (ws' := wM o2 a2 b2 cB iB (nI 0) cf uf) [3, 4, 5] rfl
      have hKc := hK.sub (tys' := kT cB iB) [2, 3] rfl
      refine kV (n := 0) (As := []) (rest := []) ⟨hx, hb, hml, hown, hts⟩ (mM_thrown l D o2 a2 b2 cB iB (nI 0) cf uf) w_280 w_281 w_282 w_2 w_283 (by decide +kernel) ⟨rfl, rfl⟩ ⟨(Nat.le_of_ble_eq_true rfl), (Nat.le_of_ble_eq_true rfl)⟩ hPc hKc 1 0 rfl rfl rfl hl.1 rfl (Nat.le_of_ble_eq_true rfl) dL_law_134 ⟨(show 7 + k + 1 ≤ 1041 by omega), (show 2016 + 6 * k + 6 ≤ 10268 by omega)⟩ ?_
      refine lv_iload hx hb dL_law_137 (lv_at hl 1 rfl) ?_
      refine lv_icmp_eq (tgt := 144) hx hb dL_law_139 (by decide) (fun h139 => ?_) (fun h139 => absurd (by decide +kernel) h139)
      refine lv_iload hx hb dL_law_144 (lv_at hl 1 rfl) ?_
      refine lv_if_ne (tgt := 160) hx hb dL_law_146 (by decide) (fun h146 => absurd h146 (by decide +kernel)) (fun h146 => ?_)
      refine lv_aload_n hx hb dL_law_149 rfl (lv_at hl 3 rfl) ?_
      refine lv_iconst (v := nI 0) hx hb dL_law_150 (by decide +kernel) ?_
      refine aL hx hb hK hP 6 4 rfl rfl (by decide) (by decide) dL_law_151 ?_
      refine tL updL_eq ?_
      refine lv_lload hx hb dL_law_152 (lv_at hl 0 rfl) ?_
      refine W.lcmp hx hb dL_law_154 ?_
      refine lv_if_eq (tgt := 160) hx hb dL_law_155 (by decide) (fun h155 => ?_) (fun h155 => absurd ((lg_cmp_eq _ _).mpr rfl) h155)
      refine lv_goto (tgt := 660) hx hb dL_law_160 (by decide) ?_
      have hl := lv_sub hl [2, 3, 4, 5, 6] rfl
      refine W.widen (k := 7 + (k + 1)) (n := 2016 + 6 * (k + 1)) (by omega) (by omega) ?_
      exact kk _ _ _ _ _ _ _ hu9 hP hD hS hl
  · have hbad := Bool.eq_false_iff.mpr c1
    refine lv_aload_n hx hb dL_law_96 rfl (lv_at hl 3 rfl) ?_
    refine lv_aload_n hx hb dL_law_97 rfl (lv_at hl 4 rfl) ?_
    refine lv_iload hx hb dL_law_98 (lv_at hl 0 rfl) ?_
    refine lv_iconst (v := nI 1) hx hb dL_law_100 (by decide +kernel) ?_
    refine lv_iadd hx hb dL_law_101 ?_
    refine tI (nI_add _ _) ?_
    refine sldN hx hb hX hbl (Nat.not_le.mpr hbl) hS (by omega) (by omega) dL_law_102 ?_
    refine lv_aload_n hx hb dL_law_103 rfl (lv_at hl 4 rfl) ?_
    refine lv_iload hx hb dL_law_104 (lv_at hl 0 rfl) ?_
    refine lv_iconst (v := nI 2) hx hb dL_law_106 (by decide +kernel) ?_
    refine lv_iadd hx hb dL_law_107 ?_
    refine tI (nI_add _ _) ?_
    refine sldN hx hb hX hbl (Nat.not_le.mpr hbl) hS (by omega) (by omega) dL_law_108 ?_
    refine lv_aload_n hx hb dL_law_109 rfl (lv_at hl 1 rfl) ?_
    refine fSW (n := 4) (As := [.ref o, .int (xs (i + 1)), .int (xs (i + 2)), .ref z]) (rest := []) (wr := [(o2, .inr (1, [.int (er), .ref a2, .ref b2])), (a2, .inl (cB, 1000, .inr (.inl (cf)))), (b2, .inl (iB, 5, .inl (uf)))]) ⟨hx, hb, hml, hown, hts⟩ (mL_read_a l hls D o a b cA iA cf uf z oA ou H.size (xs (i + 1)) (xs (i + 2)) hbad) w_71 w_72 w_0 w_73 (by decide +kernel) ⟨rfl, rfl⟩ ⟨(Nat.le_of_ble_eq_true rfl), (Nat.le_of_ble_eq_true rfl)⟩ (xZ_at hZ hS) hP hK hD hS hA [0, 1, 2, 6] [3, 4, 5] [0, 1, 4] rfl rfl rfl (by decide) (by decide) (by decide) rfl rfl rfl hl.1 rfl (Nat.le_of_ble_eq_true rfl) dL_law_110 ⟨(show 7 + k + 1 ≤ 1041 by omega), (show 2016 + 6 * k + 6 ≤ 10268 by omega)⟩ (fun H locs hP hD hS => ?_)
    have hP : va_P D cls_ (w7 o a b o2 a2 b2 z cA iA cB iB oA er cf uf cf uf ou) H := hP.sub [3, 4, 5, 0, 1, 2, 6] rfl
    have hD : va_D (fun q => s.heap.size ≤ q) (w7 o a b o2 a2 b2 z cA iA cB iB oA er cf uf cf uf ou) := hD.sub [3, 4, 5, 0, 1, 2, 6] (by decide) rfl
    refine lv_istore hx hb dL_law_113 hl (by decide) rfl (fun ls hl => ?_)
    have hl : lv_has ls 8 [(5, .int (nI 1)), (4, .int (nI i)), (3, .ref z), (2, .ref o2), (1, .ref o), (0, .ref b0)] := hl
    refine lv_aload_n hx hb dL_law_115 rfl (lv_at hl 3 rfl) ?_
    refine lv_aload_n hx hb dL_law_116 rfl (lv_at hl 5 rfl) ?_
    refine lv_iload hx hb dL_law_117 (lv_at hl 1 rfl) ?_
    refine lv_iconst (v := nI 1) hx hb dL_law_119 (by decide +kernel) ?_
    refine lv_iadd hx hb dL_law_120 ?_
    refine tI (nI_add _ _) ?_
    refine sldN hx hb hX hbl (Nat.not_le.mpr hbl) hS (by omega) (by omega) dL_law_121 ?_
    refine lv_aload_n hx hb dL_law_122 rfl (lv_at hl 5 rfl) ?_
    refine lv_iload hx hb dL_law_123 (lv_at hl 1 rfl) ?_
    refine lv_iconst (v := nI 2) hx hb dL_law_125 (by decide +kernel) ?_
    refine lv_iadd hx hb dL_law_126 ?_
    refine tI (nI_add _ _) ?_
    refine sldN hx hb hX hbl (Nat.not_le.mpr hbl) hS (by omega) (by omega) dL_law_127 ?_
    refine fVl (n := 2) (As := [.int (xs (i + 1)), .int (xs (i + 2))]) (rest := []) (wr := [(o, .inr (0, [.ref a, .ref b])), (a, .inl (cA, 1000, .inr (.inl (cf)))), (b, .inl (iA, 5, .inl (uf))), (z, .inl (oA, 1, .inr (.inl (ou))))]) ⟨hx, hb, hml, hown, hts⟩ (mM_read_a l D o2 a2 b2 cB iB er cf uf H.size (xs (i + 1)) (xs (i + 2)) hbad) w_284 w_285 w_286 w_2 w_287 (by decide +kernel) ⟨rfl, rfl⟩ ⟨(Nat.le_of_ble_eq_true rfl), (Nat.le_of_ble_eq_true rfl)⟩ hP hK hD hS hA [3, 4, 5] [0, 1, 2, 6] [2, 3] rfl rfl rfl (by decide) (by decide) (by decide) rfl rfl 1 0 rfl rfl rfl hl.1 rfl (Nat.le_of_ble_eq_true rfl) dL_law_128 ⟨(show 7 + k + 1 ≤ 1041 by omega), (show 2016 + 6 * k + 6 ≤ 10268 by omega)⟩ (fun H locs hP hD hS => ?_)
    have hP : va_P D cls_ (w7 o a b o2 a2 b2 z cA iA cB iB oA (nI 1) cf uf cf uf ou) H := hP.sub [0, 1, 2, 4, 5, 6, 3] rfl
    have hD : va_D (fun q => s.heap.size ≤ q) (w7 o a b o2 a2 b2 z cA iA cB iB oA (nI 1) cf uf cf uf ou) := hD.sub [0, 1, 2, 4, 5, 6, 3] (by decide) rfl
    refine lv_lstore hx hb dL_law_131 hl (by decide) rfl (fun ls hl => ?_)
    have hl : lv_has ls 8 [(6, .long 0), (5, .int (nI 1)), (4, .int (nI i)), (3, .ref z), (2, .ref o2), (1, .ref o), (0, .ref b0)] := hl
    refine lv_aload_n hx hb dL_law_133 rfl (lv_at hl 4 rfl) ?_
    have hPc := hP.sub (ws' := wM o2 a2 b2 cB iB (nI 1) cf uf) [3, 4, 5] rfl
    have hKc := hK.sub (tys' := kT cB iB) [2, 3] rfl
    refine kV (n := 0) (As := []) (rest := []) ⟨hx, hb, hml, hown, hts⟩ (mM_thrown l D o2 a2 b2 cB iB (nI 1) cf uf) w_280 w_281 w_282 w_2 w_283 (by decide +kernel) ⟨rfl, rfl⟩ ⟨(Nat.le_of_ble_eq_true rfl), (Nat.le_of_ble_eq_true rfl)⟩ hPc hKc 1 0 rfl rfl rfl hl.1 rfl (Nat.le_of_ble_eq_true rfl) dL_law_134 ⟨(show 7 + k + 1 ≤ 1041 by omega), (show 2016 + 6 * k + 6 ≤ 10268 by omega)⟩ ?_
    refine lv_iload hx hb dL_law_137 (lv_at hl 1 rfl) ?_
    refine lv_icmp_eq (tgt := 144) hx hb dL_law_139 (by decide) (fun h139 => ?_) (fun h139 => absurd (by decide +kernel) h139)
    refine lv_iload hx hb dL_law_144 (lv_at hl 1 rfl) ?_
    refine lv_if_ne (tgt := 160) hx hb dL_law_146 (by decide) (fun h146 => ?_) (fun h146 => absurd h146 (by decide +kernel))
    refine lv_goto (tgt := 660) hx hb dL_law_160 (by decide) ?_
    have hl := lv_sub hl [2, 3, 4, 5, 6] rfl
    refine W.widen (k := 7 + (k + 1)) (n := 2016 + 6 * (k + 1)) (by omega) (by omega) ?_
    exact kk _ _ _ _ _ _ _ hu9 hP hD hS hl
set_option maxHeartbeats 4000000 in
set_option maxRecDepth 100000 in
theorem tn_write (l : Launch) (hls : l.stackTraces = false) {p : Program} {e : Env} {s : State} {m : MethodId} {below : List Frame} {meth : Method} {c : Code} {b0 N : Nat} {xs : Nat → Int32} {D : va_G} {o a b o2 a2 b2 z : Nat} {cA iA cB iB oA : ClassId} (C : LC p s m meth c b0 N xs D cA iA cB iB oA) {Q : State → Prop} {H : Heap} {locs : List Loc} {ls : Array Slot} {er : Int32} {cf : Nat → Int64} {uf : Nat → Int32} {ou : Nat → Int64} {i k : Nat} (hi : i + 6 ≤ N) (hk : k ≤ 511) (hu9 : uOk uf) (hP : va_P D cls_ (w7 o a b o2 a2 b2 z cA iA cB iB oA er cf uf cf uf ou) H) (hD : va_D (fun q => s.heap.size ≤ q) (w7 o a b o2 a2 b2 z cA iA cB iB oA er cf uf cf uf ou)) (hS : va_S (fun q => s.heap.size ≤ q) s.heap H locs) (hl : lv_has ls 8 [(4, .int (nI i)), (3, .ref z), (2, .ref o2), (1, .ref o), (0, .ref b0)])
    (kk : ∀ (H : Heap) (locs : List Loc) (ls : Array Slot) (er : Int32) (cf : Nat → Int64) (uf : Nat → Int32) (ou : Nat → Int64), uOk uf → va_P D cls_ (w7 o a b o2 a2 b2 z cA iA cB iB oA er cf uf cf uf ou) H → va_D (fun q => s.heap.size ≤ q) (w7 o a b o2 a2 b2 z cA iA cB iB oA er cf uf cf uf ou) → va_S (fun q => s.heap.size ≤ q) s.heap H locs → lv_has ls 8 [(4, .int (nI i)), (3, .ref z), (2, .ref o2), (1, .ref o), (0, .ref b0)] → W p l e room_1 s m (#[Value.ref b0]) below meth c H locs (7 + (k + 1)) (2016 + 6 * (k + 1)) Q (F0 m 660 ls [])) : W p l e room_1 s m (#[Value.ref b0]) below meth c H locs (7 + k) (2016 + 6 * k) Q (F0 m 163 ls []) := by
  obtain ⟨hx, hb, hml, hown, hts, hX, hbl, hZ, hK, hN⟩ := C
  have hg : ∀ w ∈ gW, w.before (#[Value.ref b0]) s = true := fun w h => hts w (List.mem_cons_of_mem _ h)
  have hA : ∀ q : Nat, s.heap.size ≤ q → (fun q => s.heap.size ≤ q) q := fun q h => h
  by_cases c1 : (inR (xs (i + 1)) 400 && inR (xs (i + 2)) 2) = true
  · rw [Bool.and_eq_true] at c1
    obtain ⟨q, hq, e1⟩ := inR_nat (by decide) c1.1
    obtain ⟨h, hh, e2⟩ := inR_nat (by decide) c1.2
    cases hil : il uf (dk q) (q / 4) with
    | true =>
      refine lv_aload_n hx hb dL_law_163 rfl (lv_at hl 3 rfl) ?_
      refine lv_aload_n hx hb dL_law_164 rfl (lv_at hl 4 rfl) ?_
      refine lv_iload hx hb dL_law_165 (lv_at hl 0 rfl) ?_
      refine lv_iconst (v := nI 1) hx hb dL_law_167 (by decide +kernel) ?_
      refine lv_iadd hx hb dL_law_168 ?_
      refine tI (nI_add _ _) ?_
      refine sldN hx hb hX hbl (Nat.not_le.mpr hbl) hS (by omega) (by omega) dL_law_169 ?_
      refine tI e1 ?_
      refine lv_aload_n hx hb dL_law_170 rfl (lv_at hl 4 rfl) ?_
      refine lv_iload hx hb dL_law_171 (lv_at hl 0 rfl) ?_
      refine lv_iconst (v := nI 2) hx hb dL_law_173 (by decide +kernel) ?_
      refine lv_iadd hx hb dL_law_174 ?_
      refine tI (nI_add _ _) ?_
      refine sldN hx hb hX hbl (Nat.not_le.mpr hbl) hS (by omega) (by omega) dL_law_175 ?_
      refine tI e2 ?_
      refine lv_aload_n hx hb dL_law_176 rfl (lv_at hl 4 rfl) ?_
      refine lv_iload hx hb dL_law_177 (lv_at hl 0 rfl) ?_
      refine lv_iconst (v := nI 3) hx hb dL_law_179 (by decide +kernel) ?_
      refine lv_iadd hx hb dL_law_180 ?_
      refine tI (nI_add _ _) ?_
      refine sldN hx hb hX hbl (Nat.not_le.mpr hbl) hS (by omega) (by omega) dL_law_181 ?_
      refine lv_i2l (v := (xs (i + 3)).toInt64) hx hb dL_law_182 rfl ?_
      refine lv_bipush (v := nI 32) hx hb dL_law_183 (by decide +kernel) ?_
      refine lv_lshl (v := ((xs (i + 3)).toInt64) <<< ((nI 32).toInt64 &&& 63)) hx hb dL_law_185 rfl ?_
      refine lv_aload_n hx hb dL_law_186 rfl (lv_at hl 4 rfl) ?_
      refine lv_iload hx hb dL_law_187 (lv_at hl 0 rfl) ?_
      refine lv_iconst (v := nI 4) hx hb dL_law_189 (by decide +kernel) ?_
      refine lv_iadd hx hb dL_law_190 ?_
      refine tI (nI_add _ _) ?_
      refine sldN hx hb hX hbl (Nat.not_le.mpr hbl) hS (by omega) (by omega) dL_law_191 ?_
      refine lv_i2l (v := (xs (i + 4)).toInt64) hx hb dL_law_192 rfl ?_
      refine lv_ldc2 hx hb hown (hg _ w_361) dL_law_193 ?_
      refine lv_land hx hb dL_law_196 ?_
      refine lv_lor hx hb dL_law_197 ?_
      refine lv_topl (fun v9 ev => ?_)
      refine fSW (n := 4) (As := [.ref o, .int (nI q), .int (nI h), .long v9]) (rest := []) (wr := [(o2, .inr (1, [.int (er), .ref a2, .ref b2])), (a2, .inl (cB, 1000, .inr (.inl (cf)))), (b2, .inl (iB, 5, .inl (uf))), (z, .inl (oA, 1, .inr (.inl (ou))))]) ⟨hx, hb, hml, hown, hts⟩ (mL_write_u l hls D o a b cA iA cf uf H.size q h hq hh v9 hil) w_175 w_176 w_0 w_177 (by decide +kernel) ⟨rfl, rfl⟩ ⟨(Nat.le_of_ble_eq_true rfl), (Nat.le_of_ble_eq_true rfl)⟩ (xZ_at hZ hS) hP hK hD hS hA [0, 1, 2] [3, 4, 5, 6] [0, 1] rfl rfl rfl (by decide) (by decide) (by decide) rfl rfl rfl hl.1 rfl (Nat.le_of_ble_eq_true rfl) dL_law_198 ⟨(show 7 + k + 1 ≤ 1041 by omega), (show 2016 + 6 * k + 6 ≤ 10268 by omega)⟩ (fun H locs hP hD hS => ?_)
      have hP : va_P D cls_ (w7 o a b o2 a2 b2 z cA iA cB iB oA er cf uf cf uf ou) H := hP.sub [4, 5, 6, 0, 1, 2, 3] rfl
      have hD : va_D (fun q => s.heap.size ≤ q) (w7 o a b o2 a2 b2 z cA iA cB iB oA er cf uf cf uf ou) := hD.sub [4, 5, 6, 0, 1, 2, 3] (by decide) rfl
      refine lv_istore hx hb dL_law_201 hl (by decide) rfl (fun ls hl => ?_)
      have hl : lv_has ls 8 [(5, .int (nI 2)), (4, .int (nI i)), (3, .ref z), (2, .ref o2), (1, .ref o), (0, .ref b0)] := hl
      refine lv_aload_n hx hb dL_law_203 rfl (lv_at hl 3 rfl) ?_
      refine lv_aload_n hx hb dL_law_204 rfl (lv_at hl 5 rfl) ?_
      refine lv_iload hx hb dL_law_205 (lv_at hl 1 rfl) ?_
      refine lv_iconst (v := nI 1) hx hb dL_law_207 (by decide +kernel) ?_
      refine lv_iadd hx hb dL_law_208 ?_
      refine tI (nI_add _ _) ?_
      refine sldN hx hb hX hbl (Nat.not_le.mpr hbl) hS (by omega) (by omega) dL_law_209 ?_
      refine tI e1 ?_
      refine lv_aload_n hx hb dL_law_210 rfl (lv_at hl 5 rfl) ?_
      refine lv_iload hx hb dL_law_211 (lv_at hl 1 rfl) ?_
      refine lv_iconst (v := nI 2) hx hb dL_law_213 (by decide +kernel) ?_
      refine lv_iadd hx hb dL_law_214 ?_
      refine tI (nI_add _ _) ?_
      refine sldN hx hb hX hbl (Nat.not_le.mpr hbl) hS (by omega) (by omega) dL_law_215 ?_
      refine tI e2 ?_
      refine lv_aload_n hx hb dL_law_216 rfl (lv_at hl 5 rfl) ?_
      refine lv_iload hx hb dL_law_217 (lv_at hl 1 rfl) ?_
      refine lv_iconst (v := nI 3) hx hb dL_law_219 (by decide +kernel) ?_
      refine lv_iadd hx hb dL_law_220 ?_
      refine tI (nI_add _ _) ?_
      refine sldN hx hb hX hbl (Nat.not_le.mpr hbl) hS (by omega) (by omega) dL_law_221 ?_
      refine lv_i2l (v := (xs (i + 3)).toInt64) hx hb dL_law_222 rfl ?_
      refine lv_bipush (v := nI 32) hx hb dL_law_223 (by decide +kernel) ?_
      refine lv_lshl (v := ((xs (i + 3)).toInt64) <<< ((nI 32).toInt64 &&& 63)) hx hb dL_law_225 rfl ?_
      refine lv_aload_n hx hb dL_law_226 rfl (lv_at hl 5 rfl) ?_
      refine lv_iload hx hb dL_law_227 (lv_at hl 1 rfl) ?_
      refine lv_iconst (v := nI 4) hx hb dL_law_229 (by decide +kernel) ?_
      refine lv_iadd hx hb dL_law_230 ?_
      refine tI (nI_add _ _) ?_
      refine sldN hx hb hX hbl (Nat.not_le.mpr hbl) hS (by omega) (by omega) dL_law_231 ?_
      refine lv_i2l (v := (xs (i + 4)).toInt64) hx hb dL_law_232 rfl ?_
      refine lv_ldc2 hx hb hown (hg _ w_361) dL_law_233 ?_
      refine lv_land hx hb dL_law_236 ?_
      refine lv_lor hx hb dL_law_237 ?_
      refine tL ev.symm ?_
      refine fVv (n := 3) (As := [.int (nI q), .int (nI h), .long v9]) (rest := []) (wr := [(o, .inr (0, [.ref a, .ref b])), (a, .inl (cA, 1000, .inr (.inl (cf)))), (b, .inl (iA, 5, .inl (uf))), (z, .inl (oA, 1, .inr (.inl (ou))))]) ⟨hx, hb, hml, hown, hts⟩ (mM_write_u l D o2 a2 b2 cB iB er cf uf H.size q h hq hh v9 hil) w_318 w_319 w_320 w_2 w_321 (by decide +kernel) ⟨rfl, rfl⟩ ⟨(Nat.le_of_ble_eq_true rfl), (Nat.le_of_ble_eq_true rfl)⟩ hP hK hD hS hA [3, 4, 5] [0, 1, 2, 6] [2, 3] rfl rfl rfl (by decide) (by decide) (by decide) rfl rfl 1 0 rfl rfl rfl hl.1 rfl (Nat.le_of_ble_eq_true rfl) dL_law_238 ⟨(show 7 + k + 1 ≤ 1041 by omega), (show 2016 + 6 * k + 6 ≤ 10268 by omega)⟩ (fun H locs hP hD hS => ?_)
      have hP : va_P D cls_ (w7 o a b o2 a2 b2 z cA iA cB iB oA (nI 2) cf uf cf uf ou) H := hP.sub [0, 1, 2, 4, 5, 6, 3] rfl
      have hD : va_D (fun q => s.heap.size ≤ q) (w7 o a b o2 a2 b2 z cA iA cB iB oA (nI 2) cf uf cf uf ou) := hD.sub [0, 1, 2, 4, 5, 6, 3] (by decide) rfl
      refine lv_aload_n hx hb dL_law_241 rfl (lv_at hl 3 rfl) ?_
      have hPc := hP.sub (ws' := wM o2 a2 b2 cB iB (nI 2) cf uf) [3, 4, 5] rfl
      have hKc := hK.sub (tys' := kT cB iB) [2, 3] rfl
      refine kV (n := 0) (As := []) (rest := []) ⟨hx, hb, hml, hown, hts⟩ (mM_thrown l D o2 a2 b2 cB iB (nI 2) cf uf) w_280 w_281 w_282 w_2 w_283 (by decide +kernel) ⟨rfl, rfl⟩ ⟨(Nat.le_of_ble_eq_true rfl), (Nat.le_of_ble_eq_true rfl)⟩ hPc hKc 1 0 rfl rfl rfl hl.1 rfl (Nat.le_of_ble_eq_true rfl) dL_law_242 ⟨(show 7 + k + 1 ≤ 1041 by omega), (show 2016 + 6 * k + 6 ≤ 10268 by omega)⟩ ?_
      refine lv_iload hx hb dL_law_245 (lv_at hl 0 rfl) ?_
      refine lv_icmp_eq (tgt := 252) hx hb dL_law_247 (by decide) (fun h247 => ?_) (fun h247 => absurd (by decide +kernel) h247)
      refine lv_goto (tgt := 660) hx hb dL_law_252 (by decide) ?_
      have hl := lv_sub hl [1, 2, 3, 4, 5] rfl
      refine W.widen (k := 7 + (k + 1)) (n := 2016 + 6 * (k + 1)) (by omega) (by omega) ?_
      exact kk _ _ _ _ _ _ _ hu9 hP hD hS hl
    | false =>
      refine lv_aload_n hx hb dL_law_163 rfl (lv_at hl 3 rfl) ?_
      refine lv_aload_n hx hb dL_law_164 rfl (lv_at hl 4 rfl) ?_
      refine lv_iload hx hb dL_law_165 (lv_at hl 0 rfl) ?_
      refine lv_iconst (v := nI 1) hx hb dL_law_167 (by decide +kernel) ?_
      refine lv_iadd hx hb dL_law_168 ?_
      refine tI (nI_add _ _) ?_
      refine sldN hx hb hX hbl (Nat.not_le.mpr hbl) hS (by omega) (by omega) dL_law_169 ?_
      refine tI e1 ?_
      refine lv_aload_n hx hb dL_law_170 rfl (lv_at hl 4 rfl) ?_
      refine lv_iload hx hb dL_law_171 (lv_at hl 0 rfl) ?_
      refine lv_iconst (v := nI 2) hx hb dL_law_173 (by decide +kernel) ?_
      refine lv_iadd hx hb dL_law_174 ?_
      refine tI (nI_add _ _) ?_
      refine sldN hx hb hX hbl (Nat.not_le.mpr hbl) hS (by omega) (by omega) dL_law_175 ?_
      refine tI e2 ?_
      refine lv_aload_n hx hb dL_law_176 rfl (lv_at hl 4 rfl) ?_
      refine lv_iload hx hb dL_law_177 (lv_at hl 0 rfl) ?_
      refine lv_iconst (v := nI 3) hx hb dL_law_179 (by decide +kernel) ?_
      refine lv_iadd hx hb dL_law_180 ?_
      refine tI (nI_add _ _) ?_
      refine sldN hx hb hX hbl (Nat.not_le.mpr hbl) hS (by omega) (by omega) dL_law_181 ?_
      refine lv_i2l (v := (xs (i + 3)).toInt64) hx hb dL_law_182 rfl ?_
      refine lv_bipush (v := nI 32) hx hb dL_law_183 (by decide +kernel) ?_
      refine lv_lshl (v := ((xs (i + 3)).toInt64) <<< ((nI 32).toInt64 &&& 63)) hx hb dL_law_185 rfl ?_
      refine lv_aload_n hx hb dL_law_186 rfl (lv_at hl 4 rfl) ?_
      refine lv_iload hx hb dL_law_187 (lv_at hl 0 rfl) ?_
      refine lv_iconst (v := nI 4) hx hb dL_law_189 (by decide +kernel) ?_
      refine lv_iadd hx hb dL_law_190 ?_
      refine tI (nI_add _ _) ?_
      refine sldN hx hb hX hbl (Nat.not_le.mpr hbl) hS (by omega) (by omega) dL_law_191 ?_
      refine lv_i2l (v := (xs (i + 4)).toInt64) hx hb dL_law_192 rfl ?_
      refine lv_ldc2 hx hb hown (hg _ w_361) dL_law_193 ?_
      refine lv_land hx hb dL_law_196 ?_
      refine lv_lor hx hb dL_law_197 ?_
      refine lv_topl (fun v9 ev => ?_)
      refine fSW (n := 4) (As := [.ref o, .int (nI q), .int (nI h), .long v9]) (rest := []) (wr := [(o2, .inr (1, [.int (er), .ref a2, .ref b2])), (a2, .inl (cB, 1000, .inr (.inl (cf)))), (b2, .inl (iB, 5, .inl (uf))), (z, .inl (oA, 1, .inr (.inl (ou))))]) ⟨hx, hb, hml, hown, hts⟩ (mL_write_ok l D o a b cA iA cf uf H.size q h hq hh v9 hil) w_175 w_176 w_0 w_177 (by decide +kernel) ⟨rfl, rfl⟩ ⟨(Nat.le_of_ble_eq_true rfl), (Nat.le_of_ble_eq_true rfl)⟩ (xZ_at hZ hS) hP hK hD hS hA [0, 1, 2] [3, 4, 5, 6] [0, 1] rfl rfl rfl (by decide) (by decide) (by decide) rfl rfl rfl hl.1 rfl (Nat.le_of_ble_eq_true rfl) dL_law_198 ⟨(show 7 + k + 1 ≤ 1041 by omega), (show 2016 + 6 * k + 6 ≤ 10268 by omega)⟩ (fun H locs hP hD hS => ?_)
      have hP : va_P D cls_ (w7 o a b o2 a2 b2 z cA iA cB iB oA er (wN cf uf q h v9) uf cf uf ou) H := hP.sub [4, 5, 6, 0, 1, 2, 3] rfl
      have hD : va_D (fun q => s.heap.size ≤ q) (w7 o a b o2 a2 b2 z cA iA cB iB oA er (wN cf uf q h v9) uf cf uf ou) := hD.sub [4, 5, 6, 0, 1, 2, 3] (by decide) rfl
      refine lv_istore hx hb dL_law_201 hl (by decide) rfl (fun ls hl => ?_)
      have hl : lv_has ls 8 [(5, .int (nI 0)), (4, .int (nI i)), (3, .ref z), (2, .ref o2), (1, .ref o), (0, .ref b0)] := hl
      refine lv_aload_n hx hb dL_law_203 rfl (lv_at hl 3 rfl) ?_
      refine lv_aload_n hx hb dL_law_204 rfl (lv_at hl 5 rfl) ?_
      refine lv_iload hx hb dL_law_205 (lv_at hl 1 rfl) ?_
      refine lv_iconst (v := nI 1) hx hb dL_law_207 (by decide +kernel) ?_
      refine lv_iadd hx hb dL_law_208 ?_
      refine tI (nI_add _ _) ?_
      refine sldN hx hb hX hbl (Nat.not_le.mpr hbl) hS (by omega) (by omega) dL_law_209 ?_
      refine tI e1 ?_
      refine lv_aload_n hx hb dL_law_210 rfl (lv_at hl 5 rfl) ?_
      refine lv_iload hx hb dL_law_211 (lv_at hl 1 rfl) ?_
      refine lv_iconst (v := nI 2) hx hb dL_law_213 (by decide +kernel) ?_
      refine lv_iadd hx hb dL_law_214 ?_
      refine tI (nI_add _ _) ?_
      refine sldN hx hb hX hbl (Nat.not_le.mpr hbl) hS (by omega) (by omega) dL_law_215 ?_
      refine tI e2 ?_
      refine lv_aload_n hx hb dL_law_216 rfl (lv_at hl 5 rfl) ?_
      refine lv_iload hx hb dL_law_217 (lv_at hl 1 rfl) ?_
      refine lv_iconst (v := nI 3) hx hb dL_law_219 (by decide +kernel) ?_
      refine lv_iadd hx hb dL_law_220 ?_
      refine tI (nI_add _ _) ?_
      refine sldN hx hb hX hbl (Nat.not_le.mpr hbl) hS (by omega) (by omega) dL_law_221 ?_
      refine lv_i2l (v := (xs (i + 3)).toInt64) hx hb dL_law_222 rfl ?_
      refine lv_bipush (v := nI 32) hx hb dL_law_223 (by decide +kernel) ?_
      refine lv_lshl (v := ((xs (i + 3)).toInt64) <<< ((nI 32).toInt64 &&& 63)) hx hb dL_law_225 rfl ?_
      refine lv_aload_n hx hb dL_law_226 rfl (lv_at hl 5 rfl) ?_
      refine lv_iload hx hb dL_law_227 (lv_at hl 1 rfl) ?_
      refine lv_iconst (v := nI 4) hx hb dL_law_229 (by decide +kernel) ?_
      refine lv_iadd hx hb dL_law_230 ?_
      refine tI (nI_add _ _) ?_
      refine sldN hx hb hX hbl (Nat.not_le.mpr hbl) hS (by omega) (by omega) dL_law_231 ?_
      refine lv_i2l (v := (xs (i + 4)).toInt64) hx hb dL_law_232 rfl ?_
      refine lv_ldc2 hx hb hown (hg _ w_361) dL_law_233 ?_
      refine lv_land hx hb dL_law_236 ?_
      refine lv_lor hx hb dL_law_237 ?_
      refine tL ev.symm ?_
      refine fVv (n := 3) (As := [.int (nI q), .int (nI h), .long v9]) (rest := []) (wr := [(o, .inr (0, [.ref a, .ref b])), (a, .inl (cA, 1000, .inr (.inl (wN cf uf q h v9)))), (b, .inl (iA, 5, .inl (uf))), (z, .inl (oA, 1, .inr (.inl (ou))))]) ⟨hx, hb, hml, hown, hts⟩ (mM_write_ok l D o2 a2 b2 cB iB er cf uf H.size q h hq hh v9 hil) w_318 w_319 w_320 w_2 w_321 (by decide +kernel) ⟨rfl, rfl⟩ ⟨(Nat.le_of_ble_eq_true rfl), (Nat.le_of_ble_eq_true rfl)⟩ hP hK hD hS hA [3, 4, 5] [0, 1, 2, 6] [2, 3] rfl rfl rfl (by decide) (by decide) (by decide) rfl rfl 1 0 rfl rfl rfl hl.1 rfl (Nat.le_of_ble_eq_true rfl) dL_law_238 ⟨(show 7 + k + 1 ≤ 1041 by omega), (show 2016 + 6 * k + 6 ≤ 10268 by omega)⟩ (fun H locs hP hD hS => ?_)
      have hP : va_P D cls_ (w7 o a b o2 a2 b2 z cA iA cB iB oA (nI 0) (wN cf uf q h v9) uf (wN cf uf q h v9) uf ou) H := hP.sub [0, 1, 2, 4, 5, 6, 3] rfl
      have hD : va_D (fun q => s.heap.size ≤ q) (w7 o a b o2 a2 b2 z cA iA cB iB oA (nI 0) (wN cf uf q h v9) uf (wN cf uf q h v9) uf ou) := hD.sub [0, 1, 2, 4, 5, 6, 3] (by decide) rfl
      refine lv_aload_n hx hb dL_law_241 rfl (lv_at hl 3 rfl) ?_
      have hPc := hP.sub (ws' := wM o2 a2 b2 cB iB (nI 0) (wN cf uf q h v9) uf) [3, 4, 5] rfl
      have hKc := hK.sub (tys' := kT cB iB) [2, 3] rfl
      refine kV (n := 0) (As := []) (rest := []) ⟨hx, hb, hml, hown, hts⟩ (mM_thrown l D o2 a2 b2 cB iB (nI 0) (wN cf uf q h v9) uf) w_280 w_281 w_282 w_2 w_283 (by decide +kernel) ⟨rfl, rfl⟩ ⟨(Nat.le_of_ble_eq_true rfl), (Nat.le_of_ble_eq_true rfl)⟩ hPc hKc 1 0 rfl rfl rfl hl.1 rfl (Nat.le_of_ble_eq_true rfl) dL_law_242 ⟨(show 7 + k + 1 ≤ 1041 by omega), (show 2016 + 6 * k + 6 ≤ 10268 by omega)⟩ ?_
      refine lv_iload hx hb dL_law_245 (lv_at hl 0 rfl) ?_
      refine lv_icmp_eq (tgt := 252) hx hb dL_law_247 (by decide) (fun h247 => ?_) (fun h247 => absurd (by decide +kernel) h247)
      refine lv_goto (tgt := 660) hx hb dL_law_252 (by decide) ?_
      have hl := lv_sub hl [1, 2, 3, 4, 5] rfl
      refine W.widen (k := 7 + (k + 1)) (n := 2016 + 6 * (k + 1)) (by omega) (by omega) ?_
      exact kk _ _ _ _ _ _ _ hu9 hP hD hS hl
  · have hbad := Bool.eq_false_iff.mpr c1
    refine lv_aload_n hx hb dL_law_163 rfl (lv_at hl 3 rfl) ?_
    refine lv_aload_n hx hb dL_law_164 rfl (lv_at hl 4 rfl) ?_
    refine lv_iload hx hb dL_law_165 (lv_at hl 0 rfl) ?_
    refine lv_iconst (v := nI 1) hx hb dL_law_167 (by decide +kernel) ?_
    refine lv_iadd hx hb dL_law_168 ?_
    refine tI (nI_add _ _) ?_
    refine sldN hx hb hX hbl (Nat.not_le.mpr hbl) hS (by omega) (by omega) dL_law_169 ?_
    refine lv_aload_n hx hb dL_law_170 rfl (lv_at hl 4 rfl) ?_
    refine lv_iload hx hb dL_law_171 (lv_at hl 0 rfl) ?_
    refine lv_iconst (v := nI 2) hx hb dL_law_173 (by decide +kernel) ?_
    refine lv_iadd hx hb dL_law_174 ?_
    refine tI (nI_add _ _) ?_
    refine sldN hx hb hX hbl (Nat.not_le.mpr hbl) hS (by omega) (by omega) dL_law_175 ?_
    refine lv_aload_n hx hb dL_law_176 rfl (lv_at hl 4 rfl) ?_
    refine lv_iload hx hb dL_law_177 (lv_at hl 0 rfl) ?_
    refine lv_iconst (v := nI 3) hx hb dL_law_179 (by decide +kernel) ?_
    refine lv_iadd hx hb dL_law_180 ?_
    refine tI (nI_add _ _) ?_
    refine sldN hx hb hX hbl (Nat.not_le.mpr hbl) hS (by omega) (by omega) dL_law_181 ?_
    refine lv_i2l (v := (xs (i + 3)).toInt64) hx hb dL_law_182 rfl ?_
    refine lv_bipush (v := nI 32) hx hb dL_law_183 (by decide +kernel) ?_
    refine lv_lshl (v := ((xs (i + 3)).toInt64) <<< ((nI 32).toInt64 &&& 63)) hx hb dL_law_185 rfl ?_
    refine lv_aload_n hx hb dL_law_186 rfl (lv_at hl 4 rfl) ?_
    refine lv_iload hx hb dL_law_187 (lv_at hl 0 rfl) ?_
    refine lv_iconst (v := nI 4) hx hb dL_law_189 (by decide +kernel) ?_
    refine lv_iadd hx hb dL_law_190 ?_
    refine tI (nI_add _ _) ?_
    refine sldN hx hb hX hbl (Nat.not_le.mpr hbl) hS (by omega) (by omega) dL_law_191 ?_
    refine lv_i2l (v := (xs (i + 4)).toInt64) hx hb dL_law_192 rfl ?_
    refine lv_ldc2 hx hb hown (hg _ w_361) dL_law_193 ?_
    refine lv_land hx hb dL_law_196 ?_
    refine lv_lor hx hb dL_law_197 ?_
    refine lv_topl (fun v9 ev => ?_)
    refine fSW (n := 4) (As := [.ref o, .int (xs (i + 1)), .int (xs (i + 2)), .long v9]) (rest := []) (wr := [(o2, .inr (1, [.int (er), .ref a2, .ref b2])), (a2, .inl (cB, 1000, .inr (.inl (cf)))), (b2, .inl (iB, 5, .inl (uf))), (z, .inl (oA, 1, .inr (.inl (ou))))]) ⟨hx, hb, hml, hown, hts⟩ (mL_write_a l hls D o a b cA iA cf uf H.size (xs (i + 1)) (xs (i + 2)) v9 hbad) w_175 w_176 w_0 w_177 (by decide +kernel) ⟨rfl, rfl⟩ ⟨(Nat.le_of_ble_eq_true rfl), (Nat.le_of_ble_eq_true rfl)⟩ (xZ_at hZ hS) hP hK hD hS hA [0, 1, 2] [3, 4, 5, 6] [0, 1] rfl rfl rfl (by decide) (by decide) (by decide) rfl rfl rfl hl.1 rfl (Nat.le_of_ble_eq_true rfl) dL_law_198 ⟨(show 7 + k + 1 ≤ 1041 by omega), (show 2016 + 6 * k + 6 ≤ 10268 by omega)⟩ (fun H locs hP hD hS => ?_)
    have hP : va_P D cls_ (w7 o a b o2 a2 b2 z cA iA cB iB oA er cf uf cf uf ou) H := hP.sub [4, 5, 6, 0, 1, 2, 3] rfl
    have hD : va_D (fun q => s.heap.size ≤ q) (w7 o a b o2 a2 b2 z cA iA cB iB oA er cf uf cf uf ou) := hD.sub [4, 5, 6, 0, 1, 2, 3] (by decide) rfl
    refine lv_istore hx hb dL_law_201 hl (by decide) rfl (fun ls hl => ?_)
    have hl : lv_has ls 8 [(5, .int (nI 1)), (4, .int (nI i)), (3, .ref z), (2, .ref o2), (1, .ref o), (0, .ref b0)] := hl
    refine lv_aload_n hx hb dL_law_203 rfl (lv_at hl 3 rfl) ?_
    refine lv_aload_n hx hb dL_law_204 rfl (lv_at hl 5 rfl) ?_
    refine lv_iload hx hb dL_law_205 (lv_at hl 1 rfl) ?_
    refine lv_iconst (v := nI 1) hx hb dL_law_207 (by decide +kernel) ?_
    refine lv_iadd hx hb dL_law_208 ?_
    refine tI (nI_add _ _) ?_
    refine sldN hx hb hX hbl (Nat.not_le.mpr hbl) hS (by omega) (by omega) dL_law_209 ?_
    refine lv_aload_n hx hb dL_law_210 rfl (lv_at hl 5 rfl) ?_
    refine lv_iload hx hb dL_law_211 (lv_at hl 1 rfl) ?_
    refine lv_iconst (v := nI 2) hx hb dL_law_213 (by decide +kernel) ?_
    refine lv_iadd hx hb dL_law_214 ?_
    refine tI (nI_add _ _) ?_
    refine sldN hx hb hX hbl (Nat.not_le.mpr hbl) hS (by omega) (by omega) dL_law_215 ?_
    refine lv_aload_n hx hb dL_law_216 rfl (lv_at hl 5 rfl) ?_
    refine lv_iload hx hb dL_law_217 (lv_at hl 1 rfl) ?_
    refine lv_iconst (v := nI 3) hx hb dL_law_219 (by decide +kernel) ?_
    refine lv_iadd hx hb dL_law_220 ?_
    refine tI (nI_add _ _) ?_
    refine sldN hx hb hX hbl (Nat.not_le.mpr hbl) hS (by omega) (by omega) dL_law_221 ?_
    refine lv_i2l (v := (xs (i + 3)).toInt64) hx hb dL_law_222 rfl ?_
    refine lv_bipush (v := nI 32) hx hb dL_law_223 (by decide +kernel) ?_
    refine lv_lshl (v := ((xs (i + 3)).toInt64) <<< ((nI 32).toInt64 &&& 63)) hx hb dL_law_225 rfl ?_
    refine lv_aload_n hx hb dL_law_226 rfl (lv_at hl 5 rfl) ?_
    refine lv_iload hx hb dL_law_227 (lv_at hl 1 rfl) ?_
    refine lv_iconst (v := nI 4) hx hb dL_law_229 (by decide +kernel) ?_
    refine lv_iadd hx hb dL_law_230 ?_
    refine tI (nI_add _ _) ?_
    refine sldN hx hb hX hbl (Nat.not_le.mpr hbl) hS (by omega) (by omega) dL_law_231 ?_
    refine lv_i2l (v := (xs (i + 4)).toInt64) hx hb dL_law_232 rfl ?_
    refine lv_ldc2 hx hb hown (hg _ w_361) dL_law_233 ?_
    refine lv_land hx hb dL_law_236 ?_
    refine lv_lor hx hb dL_law_237 ?_
    refine tL ev.symm ?_
    refine fVv (n := 3) (As := [.int (xs (i + 1)), .int (xs (i + 2)), .long v9]) (rest := []) (wr := [(o, .inr (0, [.ref a, .ref b])), (a, .inl (cA, 1000, .inr (.inl (cf)))), (b, .inl (iA, 5, .inl (uf))), (z, .inl (oA, 1, .inr (.inl (ou))))]) ⟨hx, hb, hml, hown, hts⟩ (mM_write_a l D o2 a2 b2 cB iB er cf uf H.size (xs (i + 1)) (xs (i + 2)) v9 hbad) w_318 w_319 w_320 w_2 w_321 (by decide +kernel) ⟨rfl, rfl⟩ ⟨(Nat.le_of_ble_eq_true rfl), (Nat.le_of_ble_eq_true rfl)⟩ hP hK hD hS hA [3, 4, 5] [0, 1, 2, 6] [2, 3] rfl rfl rfl (by decide) (by decide) (by decide) rfl rfl 1 0 rfl rfl rfl hl.1 rfl (Nat.le_of_ble_eq_true rfl) dL_law_238 ⟨(show 7 + k + 1 ≤ 1041 by omega), (show 2016 + 6 * k + 6 ≤ 10268 by omega)⟩ (fun H locs hP hD hS => ?_)
    have hP : va_P D cls_ (w7 o a b o2 a2 b2 z cA iA cB iB oA (nI 1) cf uf cf uf ou) H := hP.sub [0, 1, 2, 4, 5, 6, 3] rfl
    have hD : va_D (fun q => s.heap.size ≤ q) (w7 o a b o2 a2 b2 z cA iA cB iB oA (nI 1) cf uf cf uf ou) := hD.sub [0, 1, 2, 4, 5, 6, 3] (by decide) rfl
    refine lv_aload_n hx hb dL_law_241 rfl (lv_at hl 3 rfl) ?_
    have hPc := hP.sub (ws' := wM o2 a2 b2 cB iB (nI 1) cf uf) [3, 4, 5] rfl
    have hKc := hK.sub (tys' := kT cB iB) [2, 3] rfl
    refine kV (n := 0) (As := []) (rest := []) ⟨hx, hb, hml, hown, hts⟩ (mM_thrown l D o2 a2 b2 cB iB (nI 1) cf uf) w_280 w_281 w_282 w_2 w_283 (by decide +kernel) ⟨rfl, rfl⟩ ⟨(Nat.le_of_ble_eq_true rfl), (Nat.le_of_ble_eq_true rfl)⟩ hPc hKc 1 0 rfl rfl rfl hl.1 rfl (Nat.le_of_ble_eq_true rfl) dL_law_242 ⟨(show 7 + k + 1 ≤ 1041 by omega), (show 2016 + 6 * k + 6 ≤ 10268 by omega)⟩ ?_
    refine lv_iload hx hb dL_law_245 (lv_at hl 0 rfl) ?_
    refine lv_icmp_eq (tgt := 252) hx hb dL_law_247 (by decide) (fun h247 => ?_) (fun h247 => absurd (by decide +kernel) h247)
    refine lv_goto (tgt := 660) hx hb dL_law_252 (by decide) ?_
    have hl := lv_sub hl [1, 2, 3, 4, 5] rfl
    refine W.widen (k := 7 + (k + 1)) (n := 2016 + 6 * (k + 1)) (by omega) (by omega) ?_
    exact kk _ _ _ _ _ _ _ hu9 hP hD hS hl
