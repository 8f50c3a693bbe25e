/-! the law's loop, and its way from the entry to the loop -/
theorem str_of {args : Array Value} {s : State} {own tx : String} {k : Nat} (w : (Cond.stringRef own k tx).before args s = true) : ∃ a, vk_R own k tx a s := by
  cases hc : s.vm.findClass own with
  | none => simp [Cond.before, Cond.holds, Cond.value, hc] at w
  | some cc =>
    obtain ⟨k1, cf, i, a, hk, hcf, hp, -, hr, -⟩ := Cond.stringRef_spec hc w
    exact ⟨a, w, by simp [Term.eval, hc, hk, hr]⟩
theorem xz_mem : ∀ E ∈ [IAE, UOE, ISE], ∀ w ∈ eBad E, w ∈ lw_tbl := by decide +kernel
theorem xz_str : ∀ q ∈ strs, Cond.stringRef R_X q.1 q.2 ∈ lw_tbl := by decide +kernel
theorem law_xZ {b : Nat} {s : State} (hts0 : ∀ w ∈ lw_tbl, w.before (#[Value.ref b]) s = true) (hgv : (Jvm.Cond.and given_1 narrow_1).before (#[Value.ref b]) s = true) : xZ (fun q => s.heap.size ≤ q) s :=
  have hs := flat_of_before _ hgv
  ⟨⟨fun E hE w hw => va_Nw.of (eBad_ot E w hw) (hts0 w (xz_mem E hE w hw)),
    vx_Zqof (hts0 _ (by decide +kernel)) (hts0 _ (by decide +kernel)) (hs _ (by decide +kernel)) (fun a h => Nat.not_le.mpr h),
    vx_Zqof (hts0 _ (by decide +kernel)) (hts0 _ (by decide +kernel)) (hs _ (by decide +kernel)) (fun a h => Nat.not_le.mpr h),
    fun q hq => str_of (hts0 _ (xz_str q hq))⟩, va_Nc.of (hs _ (by decide +kernel)), va_Nc.of (hs _ (by decide +kernel))⟩
set_option maxHeartbeats 4000000 in
set_option maxRecDepth 100000 in
theorem law_loop (l : Launch) (hls : l.stackTraces = false) {p : Program} {e : Env} {s : State} {m : MethodId} {below : List Frame} {meth : Method} {c : Code} {b0 N : Nat} {xs : Nat → Int32} {D : va_G} {o a b o2 a2 b2 z : Nat} {cA iA cB iB oA : ClassId} (C : LC p s m meth c b0 N xs D cA iA cB iB oA) {Q : State → Prop}
    (kx : ∀ (H : Heap) (locs : List Loc) (ls : Array Slot) (k : Nat), k ≤ 512 → va_S (fun q => s.heap.size ≤ q) s.heap H locs → W p l e room_1 s m (#[Value.ref b0]) below meth c H locs (7 + k) (2016 + 6 * k) Q (F0 m 666 ls [])) :
    ∀ (n k : Nat) (H : Heap) (locs : List Loc) (ls : Array Slot) (er : Int32) (cf : Nat → Int64) (uf : Nat → Int32) (ou : Nat → Int64), N ≤ 6 * (k + n) + 5 → k ≤ 512 → uOk uf → va_P D cls_ (w7 o a b o2 a2 b2 z cA iA cB iB oA er cf uf cf uf ou) H → va_D (fun q => s.heap.size ≤ q) (w7 o a b o2 a2 b2 z cA iA cB iB oA er cf uf cf uf ou) → va_S (fun q => s.heap.size ≤ q) s.heap H locs → lv_has ls 8 [(4, .int (nI (6 * k))), (3, .ref z), (2, .ref o2), (1, .ref o), (0, .ref b0)] →
      W p l e room_1 s m (#[Value.ref b0]) below meth c H locs (7 + k) (2016 + 6 * k) Q (F0 m 23 ls []) := by
  have C' := C
  obtain ⟨hx, hb, hml, hown, hts, hX, hbl, hZ, hK, hN⟩ := C'
  have head : ∀ (k : Nat) (H : Heap) (locs : List Loc) (ls : Array Slot), k ≤ 512 → va_S (fun q => s.heap.size ≤ q) s.heap H locs → lv_has ls 8 [(4, .int (nI (6 * k))), (3, .ref z), (2, .ref o2), (1, .ref o), (0, .ref b0)] → (6 * k + 6 ≤ N → W p l e room_1 s m (#[Value.ref b0]) below meth c H locs (7 + k) (2016 + 6 * k) Q (F0 m 33 ls [])) → W p l e room_1 s m (#[Value.ref b0]) below meth c H locs (7 + k) (2016 + 6 * k) Q (F0 m 23 ls []) := by
    intro k H locs ls hk hS hl kb
    refine lv_iload hx hb dL_law_23 (lv_at hl 0 rfl) ?_
    refine lv_aload_n hx hb dL_law_25 rfl (lv_at hl 4 rfl) ?_
    refine va_slen hx hb hX hbl (Nat.not_le.mpr hbl) hS dL_law_26 ?_
    refine lv_bipush (v := nI 6) hx hb dL_law_27 (by decide +kernel) ?_
    refine lv_isub hx hb dL_law_29 ?_
    refine lv_icmp_gt (tgt := 666) hx hb dL_law_30 (by decide) (fun h30 => ?_) (fun h30 => ?_)
    · exact kx H locs ls k hk hS
    · exact kb (fits6 hN (by omega) h30)
  intro n
  induction n with
  | zero =>
    intro k H locs ls er cf uf ou hn hk hu9 hP hD hS hl
    exact head k H locs ls hk hS hl (fun h => absurd h (by omega))
  | succ n ih =>
    intro k H locs ls er cf uf ou hn hk hu9 hP hD hS hl
    refine head k H locs ls hk hS hl (fun h6 => ?_)
    have hk1 : k ≤ 511 := by omega
    have back : ∀ (H : Heap) (locs : List Loc) (ls : Array Slot) (er : Int32) (cf : Nat → Int64) (uf : Nat → Int32) (ou : Nat → Int64), uOk uf → va_P D cls_ (w7 o a b o2 a2 b2 z cA iA cB iB oA er cf uf cf uf ou) H → va_D (fun q => s.heap.size ≤ q) (w7 o a b o2 a2 b2 z cA iA cB iB oA er cf uf cf uf ou) → va_S (fun q => s.heap.size ≤ q) s.heap H locs → lv_has ls 8 [(4, .int (nI (6 * k))), (3, .ref z), (2, .ref o2), (1, .ref o), (0, .ref b0)] → W p l e room_1 s m (#[Value.ref b0]) below meth c H locs (7 + (k + 1)) (2016 + 6 * (k + 1)) Q (F0 m 660 ls []) := by
      intro H locs ls er cf uf ou hu9 hP hD hS hl
      refine lv_iinc (k := 0) (v := nI (6 * (k + 1))) hx hb dL_law_660 hl rfl (inc6 k) (by decide) rfl (fun ls hl => ?_)
      have hl : lv_has ls 8 [(4, .int (nI (6 * (k + 1)))), (3, .ref z), (2, .ref o2), (1, .ref o), (0, .ref b0)] := hl
      refine lv_goto (tgt := 23) hx hb dL_law_663 (by decide) ?_
      exact ih (k + 1) H locs ls er cf uf ou (by omega) (by omega) hu9 hP hD hS hl
    refine lv_aload_n hx hb dL_law_33 rfl (lv_at hl 4 rfl) ?_
    refine lv_iload hx hb dL_law_34 (lv_at hl 0 rfl) ?_
    refine sldN hx hb hX hbl (Nat.not_le.mpr hbl) hS (by omega) (by omega) dL_law_36 ?_
    refine lv_bipush (v := nI 15) hx hb dL_law_37 (by decide +kernel) ?_
    refine lv_iand hx hb dL_law_39 ?_
    obtain ⟨j, hj, ej⟩ := pk_andE (xs (6 * k)) (m := nI 15) 4 (by decide +kernel)
    refine tI ej ?_
    have hc : j = 0 ∨ j = 1 ∨ j = 2 ∨ j = 3 ∨ j = 4 ∨ j = 5 ∨ j = 6 ∨ j = 7 ∨ j = 8 ∨ j = 9 ∨ 10 ≤ j := by omega
    rcases hc with rfl | rfl | rfl | rfl | rfl | rfl | rfl | rfl | rfl | rfl | h10
    · exact lv_tableIn (off := 56) (tgt := 96) hx hb dL_law_40 (by decide +kernel) (by decide +kernel) (by decide +kernel) (by decide) (tn_read l hls C h6 hk1 hu9 hP hD hS hl back)
    · exact lv_tableIn (off := 123) (tgt := 163) hx hb dL_law_40 (by decide +kernel) (by decide +kernel) (by decide +kernel) (by decide) (tn_write l hls C h6 hk1 hu9 hP hD hS hl back)
    · exact lv_tableIn (off := 215) (tgt := 255) hx hb dL_law_40 (by decide +kernel) (by decide +kernel) (by decide +kernel) (by decide) (tn_fail l hls C h6 hk1 hu9 hP hD hS hl back)
    · exact lv_tableIn (off := 251) (tgt := 291) hx hb dL_law_40 (by decide +kernel) (by decide +kernel) (by decide +kernel) (by decide) (tn_replace l hls C h6 hk1 hu9 hP hD hS hl back)
    · exact lv_tableIn (off := 287) (tgt := 327) hx hb dL_law_40 (by decide +kernel) (by decide +kernel) (by decide +kernel) (by decide) (tn_rebuild l hls C h6 hk1 hu9 hP hD hS hl back)
    · exact lv_tableIn (off := 355) (tgt := 395) hx hb dL_law_40 (by decide +kernel) (by decide +kernel) (by decide +kernel) (by decide) (tn_flip l hls C h6 hk1 hu9 hP hD hS hl back)
    · exact lv_tableIn (off := 459) (tgt := 499) hx hb dL_law_40 (by decide +kernel) (by decide +kernel) (by decide +kernel) (by decide) (tn_block l hls C h6 hk1 hu9 hP hD hS hl back)
    · exact lv_tableIn (off := 538) (tgt := 578) hx hb dL_law_40 (by decide +kernel) (by decide +kernel) (by decide +kernel) (by decide) (tn_scrub l hls C h6 hk1 hu9 hP hD hS hl back)
    · exact lv_tableIn (off := 551) (tgt := 591) hx hb dL_law_40 (by decide +kernel) (by decide +kernel) (by decide +kernel) (by decide) (tn_state l hls C h6 hk1 hu9 hP hD hS hl back)
    · exact lv_tableIn (off := 607) (tgt := 647) hx hb dL_law_40 (by decide +kernel) (by decide +kernel) (by decide +kernel) (by decide) (tn_lost l hls C h6 hk1 hu9 hP hD hS hl back)
    · refine lv_tableOut (tgt := 660) hx hb dL_law_40 (Or.inr (by rw [nI_toInt (by omega)]; omega)) (by decide) ?_
      refine W.widen (k := 7 + (k + 1)) (n := 2016 + 6 * (k + 1)) (by omega) (by omega) ?_
      exact back _ _ _ _ _ _ _ hu9 hP hD hS hl
