def cf0 : Nat → Int64 := fun _ => 0
theorem cell_l (n : Nat) (cA : ClassId) : vp_cell cA (n, .inr (.inl cf0)) = arrV cA n (fun _ => defaultValue .long) := rfl
theorem cell_i (n : Nat) (cA : ClassId) : vp_cell cA (n, .inl (fun _ => 0)) = arrV cA n (fun _ => defaultValue .int) := rfl
def uf0 : Nat → Int32 := upd (upd (upd (upd (upd (fun _ => 0) 0 (nI 100)) 1 (nI 100)) 2 (nI 100)) 3 (nI 100)) 4 (nI 100)
set_option maxHeartbeats 400000 in
set_option maxRecDepth 100000 in
theorem mX_init (l : Launch) (D : va_G) (o sz : Nat) : Met l yX_init (.code yX_init cX_init 2 none :: gW) ({ frames := 1, cells := 2, slots := 1005, locals := 12 }) (pWs D [(o, .inr (0, [.null, .null]))] [] sz [.ref o]) (va_Qv (fun (_ : Unit) => True) (fun _ t => ∃ (a b : Nat) (cA iA : ClassId), va_P D cls_ (wX o a b cA iA cf0 uf0) t.heap ∧ va_K D cls_ (kT cA iA) t ∧ va_D (va_A [(o, .inr (0, [.null, .null]))] sz) (wX o a b cA iA cf0 uf0)) (va_A [(o, .inr (0, [.null, .null]))] sz)) 2 1005 (va_A [(o, .inr (0, [.null, .null]))] sz) := by
  refine Met.ofW (cc := cX_init) (maxL := 2) (ret := none) (by decide) rfl ?_
  intro p e s m args below meth c s₁ B hml hv
  obtain ⟨rfl, hsz, hP, hK, hD0⟩ := hv
  have hx := B.exec
  have hb := B.bytes
  have hr := B.returns
  have hts := atoms_spec (ws := (.code yX_init cX_init 2 none :: gW)) B.pre
  have hg : ∀ w ∈ gW, w.before ([.ref o]).toArray s = true := fun w h => hts w (List.mem_cons_of_mem _ h)
  have hown : s.vm.findClass R_X = some m.cls := findClass_of_methodNamed B.named
  have hlocks := B.notSynchronized
  have hin : meth.name = "<init>" := (name_of_methodNamed B.named B.method).1
  subst hsz
  have hD := hD0.self (sz := s.heap.size)
  generalize hAe : va_A [(o, .inr (0, [.null, .null]))] s.heap.size = A at hD ⊢
  have hA : ∀ q : Nat, s.heap.size ≤ q → A q := fun q h => by rw [← hAe]; exact Or.inr h
  have hS : va_S A s.heap s.heap [] := va_S.rf
  have hP : va_P D cls_ [(o, .inr (0, [.null, .null]))] s.heap := hP
  have hl := lv_entry ([.ref o]) (n := 2) (Nat.le_of_ble_eq_true rfl)
  rw [lg_entry_eq]
  generalize (lg_sl ([.ref o]) ++ List.replicate (2 - (lg_sl ([.ref o])).length) Slot.unset).toArray = ls at hl ⊢
  have hl : lv_has ls 2 [(0, .ref o)] := hl
  refine lv_aload_n hx hb dX_init_0 rfl (lv_at hl 0 rfl) ?_
  refine W.objInit hx hb hown (hg _ w_15) (hg _ w_16) (hg _ w_17) rfl (by rw [hml]; exact hl.1) rfl dX_init_1 (Nat.le_of_ble_eq_true rfl) (Nat.le_of_ble_eq_true rfl) ?_
  refine W.eq (g2 := F0 m 4 ls []) rfl ?_
  refine lv_aload_n hx hb dX_init_4 rfl (lv_at hl 0 rfl) ?_
  refine lv_sipush (v := nI 1000) hx hb dX_init_5 (by decide +kernel) ?_
  refine va_newa (atype := .long) (ty := .long) (N' := 1000) (a0 := (1000, .inr (.inl cf0))) hx hb (hg _ w_25) rfl hK hP hD hS hA (cell_l 1000) (by decide +kernel) (by decide +kernel) (by decide +kernel) (Nat.le_of_ble_eq_true rfl) (Nat.le_of_ble_eq_true rfl) dX_init_8 (fun a cA H hK hP hD hS => ?_)
  refine W.widen (k := 1) (n := 1000) (by omega) (by omega) ?_
  have hP : va_P D cls_ [(o, .inr (0, [.null, .null])), (a, .inl (cA, 1000, .inr (.inl cf0)))] H := hP
  have hD : va_D A [(o, .inr (0, [.null, .null])), (a, .inl (cA, 1000, .inr (.inl cf0)))] := hD
  have hK : va_K D cls_ [(cA, .long)] s := hK
  refine va_putF (D := D) (ci := 0) (v := .ref a) (ty := .array .long) (C := R_X) (T := T_X) (N := 2) hx hb hg uX_in ty_X ty_X_ok nd_X hown hK hP hD hS 0 rfl rfl 0 (by decide) (hg _ w_18) (fun _ h9 => h9) rfl hin rfl (by decide +kernel) rfl rfl (Nat.le_of_ble_eq_true rfl) dX_init_10 (fun H locs hP hD hS => ?_)
  have hP : va_P D cls_ [(o, .inr (0, [.ref a, .null])), (a, .inl (cA, 1000, .inr (.inl cf0)))] H := hP
  have hD : va_D A [(o, .inr (0, [.ref a, .null])), (a, .inl (cA, 1000, .inr (.inl cf0)))] := hD
  refine lv_aload_n hx hb dX_init_13 rfl (lv_at hl 0 rfl) ?_
  refine lv_iconst (v := nI 5) hx hb dX_init_14 (by decide +kernel) ?_
  refine va_newa (atype := .int) (ty := .int) (N' := 5) (a0 := (5, .inl (fun _ => 0))) hx hb (hg _ w_26) rfl hK hP hD hS hA (cell_i 5) (by decide +kernel) (by decide +kernel) (by decide +kernel) (Nat.le_of_ble_eq_true rfl) (Nat.le_of_ble_eq_true rfl) dX_init_15 (fun b iA H hK hP hD hS => ?_)
  refine W.widen (k := 2) (n := 1005) (by omega) (by omega) ?_
  have hK : va_K D cls_ (kT cA iA) s := hK
  refine va_putF (D := D) (ci := 0) (v := .ref b) (ty := .array .int) (C := R_X) (T := T_X) (N := 2) hx hb hg uX_in ty_X ty_X_ok nd_X hown hK hP hD hS 0 rfl rfl 1 (by decide) (hg _ w_19) (fun _ h9 => h9) rfl hin rfl (by decide +kernel) rfl rfl (Nat.le_of_ble_eq_true rfl) dX_init_17 (fun H locs hP hD hS => ?_)
  have hP : va_P D cls_ (wX o a b cA iA cf0 (fun _ => 0)) H := hP
  have hD : va_D A (wX o a b cA iA cf0 (fun _ => 0)) := hD
  refine lv_iconst (v := nI 0) hx hb dX_init_20 (by decide +kernel) ?_
  refine lv_istore_n hx hb dX_init_21 rfl hl (by decide) rfl (fun ls hl => ?_)
  have hl : lv_has ls 2 [(1, .int (nI 0)), (0, .ref o)] := hl
  refine lv_iload_n hx hb dX_init_22 rfl (lv_at hl 0 rfl) ?_
  refine lv_iconst (v := nI 5) hx hb dX_init_23 (by decide +kernel) ?_
  refine lv_icmp_ge (tgt := 41) hx hb dX_init_24 (by decide) (fun h24 => absurd h24 (by decide +kernel)) (fun h24 => ?_)
  refine lv_aload_n hx hb dX_init_27 rfl (lv_at hl 1 rfl) ?_
  refine va_get (D := D) (ci := 0) (v := .ref b) (C := R_X) (T := T_X) (N := 2) hx hb hg uX_in hown hK hP 0 rfl rfl 1 (by decide) (hg _ w_19) (fun _ h9 => h9) rfl dX_init_28 ?_
  refine lv_iload_n hx hb dX_init_31 rfl (lv_at hl 0 rfl) ?_
  refine lv_bipush (v := nI 100) hx hb dX_init_32 (by decide +kernel) ?_
  refine sI hx hb hK hP hD hS 2 1 rfl rfl (by omega) (by decide) dX_init_34 (fun H locs hP hD hS => ?_)
  have hP : va_P D cls_ (wX o a b cA iA cf0 (upd (fun _ => 0) 0 (nI 100))) H := hP
  have hD : va_D A (wX o a b cA iA cf0 (upd (fun _ => 0) 0 (nI 100))) := hD
  refine lv_iinc (k := 0) (v := nI 1) hx hb dX_init_35 hl rfl (by decide +kernel)  (by decide) rfl (fun ls hl => ?_)
  have hl : lv_has ls 2 [(1, .int (nI 1)), (0, .ref o)] := hl
  refine lv_goto (tgt := 22) hx hb dX_init_38 (by decide) ?_
  refine lv_iload_n hx hb dX_init_22 rfl (lv_at hl 0 rfl) ?_
  refine lv_iconst (v := nI 5) hx hb dX_init_23 (by decide +kernel) ?_
  refine lv_icmp_ge (tgt := 41) hx hb dX_init_24 (by decide) (fun h24 => absurd h24 (by decide +kernel)) (fun h24 => ?_)
  refine lv_aload_n hx hb dX_init_27 rfl (lv_at hl 1 rfl) ?_
  refine va_get (D := D) (ci := 0) (v := .ref b) (C := R_X) (T := T_X) (N := 2) hx hb hg uX_in hown hK hP 0 rfl rfl 1 (by decide) (hg _ w_19) (fun _ h9 => h9) rfl dX_init_28 ?_
  refine lv_iload_n hx hb dX_init_31 rfl (lv_at hl 0 rfl) ?_
  refine lv_bipush (v := nI 100) hx hb dX_init_32 (by decide +kernel) ?_
  refine sI hx hb hK hP hD hS 2 1 rfl rfl (by omega) (by decide) dX_init_34 (fun H locs hP hD hS => ?_)
  have hP : va_P D cls_ (wX o a b cA iA cf0 (upd (upd (fun _ => 0) 0 (nI 100)) 1 (nI 100))) H := hP
  have hD : va_D A (wX o a b cA iA cf0 (upd (upd (fun _ => 0) 0 (nI 100)) 1 (nI 100))) := hD
  refine lv_iinc (k := 0) (v := nI 2) hx hb dX_init_35 hl rfl (by decide +kernel)  (by decide) rfl (fun ls hl => ?_)
  have hl : lv_has ls 2 [(1, .int (nI 2)), (0, .ref o)] := hl
  refine lv_goto (tgt := 22) hx hb dX_init_38 (by decide) ?_
  refine lv_iload_n hx hb dX_init_22 rfl (lv_at hl 0 rfl) ?_
  refine lv_iconst (v := nI 5) hx hb dX_init_23 (by decide +kernel) ?_
  refine lv_icmp_ge (tgt := 41) hx hb dX_init_24 (by decide) (fun h24 => absurd h24 (by decide +kernel)) (fun h24 => ?_)
  refine lv_aload_n hx hb dX_init_27 rfl (lv_at hl 1 rfl) ?_
  refine va_get (D := D) (ci := 0) (v := .ref b) (C := R_X) (T := T_X) (N := 2) hx hb hg uX_in hown hK hP 0 rfl rfl 1 (by decide) (hg _ w_19) (fun _ h9 => h9) rfl dX_init_28 ?_
  refine lv_iload_n hx hb dX_init_31 rfl (lv_at hl 0 rfl) ?_
  refine lv_bipush (v := nI 100) hx hb dX_init_32 (by decide +kernel) ?_
  refine sI hx hb hK hP hD hS 2 1 rfl rfl (by omega) (by decide) dX_init_34 (fun H locs hP hD hS => ?_)
  have hP : va_P D cls_ (wX o a b cA iA cf0 (upd (upd (upd (fun _ => 0) 0 (nI 100)) 1 (nI 100)) 2 (nI 100))) H := hP
  have hD : va_D A (wX o a b cA iA cf0 (upd (upd (upd (fun _ => 0) 0 (nI 100)) 1 (nI 100)) 2 (nI 100))) := hD
  refine lv_iinc (k := 0) (v := nI 3) hx hb dX_init_35 hl rfl (by decide +kernel)  (by decide) rfl (fun ls hl => ?_)
  have hl : lv_has ls 2 [(1, .int (nI 3)), (0, .ref o)] := hl
  refine lv_goto (tgt := 22) hx hb dX_init_38 (by decide) ?_
  refine lv_iload_n hx hb dX_init_22 rfl (lv_at hl 0 rfl) ?_
  refine lv_iconst (v := nI 5) hx hb dX_init_23 (by decide +kernel) ?_
  refine lv_icmp_ge (tgt := 41) hx hb dX_init_24 (by decide) (fun h24 => absurd h24 (by decide +kernel)) (fun h24 => ?_)
  refine lv_aload_n hx hb dX_init_27 rfl (lv_at hl 1 rfl) ?_
  refine va_get (D := D) (ci := 0) (v := .ref b) (C := R_X) (T := T_X) (N := 2) hx hb hg uX_in hown hK hP 0 rfl rfl 1 (by decide) (hg _ w_19) (fun _ h9 => h9) rfl dX_init_28 ?_
  refine lv_iload_n hx hb dX_init_31 rfl (lv_at hl 0 rfl) ?_
  refine lv_bipush (v := nI 100) hx hb dX_init_32 (by decide +kernel) ?_
  refine sI hx hb hK hP hD hS 2 1 rfl rfl (by omega) (by decide) dX_init_34 (fun H locs hP hD hS => ?_)
  have hP : va_P D cls_ (wX o a b cA iA cf0 (upd (upd (upd (upd (fun _ => 0) 0 (nI 100)) 1 (nI 100)) 2 (nI 100)) 3 (nI 100))) H := hP
  have hD : va_D A (wX o a b cA iA cf0 (upd (upd (upd (upd (fun _ => 0) 0 (nI 100)) 1 (nI 100)) 2 (nI 100)) 3 (nI 100))) := hD
  refine lv_iinc (k := 0) (v := nI 4) hx hb dX_init_35 hl rfl (by decide +kernel)  (by decide) rfl (fun ls hl => ?_)
  have hl : lv_has ls 2 [(1, .int (nI 4)), (0, .ref o)] := hl
  refine lv_goto (tgt := 22) hx hb dX_init_38 (by decide) ?_
  refine lv_iload_n hx hb dX_init_22 rfl (lv_at hl 0 rfl) ?_
  refine lv_iconst (v := nI 5) hx hb dX_init_23 (by decide +kernel) ?_
  refine lv_icmp_ge (tgt := 41) hx hb dX_init_24 (by decide) (fun h24 => absurd h24 (by decide +kernel)) (fun h24 => ?_)
  refine lv_aload_n hx hb dX_init_27 rfl (lv_at hl 1 rfl) ?_
  refine va_get (D := D) (ci := 0) (v := .ref b) (C := R_X) (T := T_X) (N := 2) hx hb hg uX_in hown hK hP 0 rfl rfl 1 (by decide) (hg _ w_19) (fun _ h9 => h9) rfl dX_init_28 ?_
  refine lv_iload_n hx hb dX_init_31 rfl (lv_at hl 0 rfl) ?_
  refine lv_bipush (v := nI 100) hx hb dX_init_32 (by decide +kernel) ?_
  refine sI hx hb hK hP hD hS 2 1 rfl rfl (by omega) (by decide) dX_init_34 (fun H locs hP hD hS => ?_)
  have hP : va_P D cls_ (wX o a b cA iA cf0 (upd (upd (upd (upd (upd (fun _ => 0) 0 (nI 100)) 1 (nI 100)) 2 (nI 100)) 3 (nI 100)) 4 (nI 100))) H := hP
  have hD : va_D A (wX o a b cA iA cf0 (upd (upd (upd (upd (upd (fun _ => 0) 0 (nI 100)) 1 (nI 100)) 2 (nI 100)) 3 (nI 100)) 4 (nI 100))) := hD
  refine lv_iinc (k := 0) (v := nI 5) hx hb dX_init_35 hl rfl (by decide +kernel)  (by decide) rfl (fun ls hl => ?_)
  have hl : lv_has ls 2 [(1, .int (nI 5)), (0, .ref o)] := hl
  refine lv_goto (tgt := 22) hx hb dX_init_38 (by decide) ?_
  refine lv_iload_n hx hb dX_init_22 rfl (lv_at hl 0 rfl) ?_
  refine lv_iconst (v := nI 5) hx hb dX_init_23 (by decide +kernel) ?_
  refine lv_icmp_ge (tgt := 41) hx hb dX_init_24 (by decide) (fun h24 => ?_) (fun h24 => absurd (by decide +kernel) h24)
  exact W.vret hx hb hr (fun t9 ht9 hW9 => ⟨⟨(), rfl, trivial, a, b, cA, iA, by rw [ht9]; exact hP, va_K.moved hW9.alike hK, hD⟩, hS.F ht9⟩) hS.2.2 dX_init_41
set_option maxHeartbeats 400000 in
set_option maxRecDepth 100000 in
theorem mM_init (l : Launch) (D : va_G) (o sz : Nat) : Met l yM_init (.code yM_init cM_init 2 none :: gW) ({ frames := 1, cells := 2, slots := 1005, locals := 12 }) (pWs D [(o, .inr (1, [.int 0, .null, .null]))] [] sz [.ref o]) (va_Qv (fun (_ : Unit) => True) (fun _ t => ∃ (a b : Nat) (cA iA : ClassId), va_P D cls_ (wM o a b cA iA 0 cf0 uf0) t.heap ∧ va_K D cls_ (kT cA iA) t ∧ va_D (va_A [(o, .inr (1, [.int 0, .null, .null]))] sz) (wM o a b cA iA 0 cf0 uf0)) (va_A [(o, .inr (1, [.int 0, .null, .null]))] sz)) 2 1005 (va_A [(o, .inr (1, [.int 0, .null, .null]))] sz) := by
  refine Met.ofW (cc := cM_init) (maxL := 2) (ret := none) (by decide) rfl ?_
  intro p e s m args below meth c s₁ B hml hv
  obtain ⟨rfl, hsz, hP, hK, hD0⟩ := hv
  have hx := B.exec
  have hb := B.bytes
  have hr := B.returns
  have hts := atoms_spec (ws := (.code yM_init cM_init 2 none :: gW)) B.pre
  have hg : ∀ w ∈ gW, w.before ([.ref o]).toArray s = true := fun w h => hts w (List.mem_cons_of_mem _ h)
  have hown : s.vm.findClass R_M = some m.cls := findClass_of_methodNamed B.named
  have hlocks := B.notSynchronized
  have hin : meth.name = "<init>" := (name_of_methodNamed B.named B.method).1
  subst hsz
  have hD := hD0.self (sz := s.heap.size)
  generalize hAe : va_A [(o, .inr (1, [.int 0, .null, .null]))] s.heap.size = A at hD ⊢
  have hA : ∀ q : Nat, s.heap.size ≤ q → A q := fun q h => by rw [← hAe]; exact Or.inr h
  have hS : va_S A s.heap s.heap [] := va_S.rf
  have hP : va_P D cls_ [(o, .inr (1, [.int 0, .null, .null]))] s.heap := hP
  have hl := lv_entry ([.ref o]) (n := 2) (Nat.le_of_ble_eq_true rfl)
  rw [lg_entry_eq]
  generalize (lg_sl ([.ref o]) ++ List.replicate (2 - (lg_sl ([.ref o])).length) Slot.unset).toArray = ls at hl ⊢
  have hl : lv_has ls 2 [(0, .ref o)] := hl
  refine lv_aload_n hx hb dM_init_0 rfl (lv_at hl 0 rfl) ?_
  refine W.objInit hx hb hown (hg _ w_269) (hg _ w_16) (hg _ w_17) rfl (by rw [hml]; exact hl.1) rfl dM_init_1 (Nat.le_of_ble_eq_true rfl) (Nat.le_of_ble_eq_true rfl) ?_
  refine W.eq (g2 := F0 m 4 ls []) rfl ?_
  refine lv_aload_n hx hb dM_init_4 rfl (lv_at hl 0 rfl) ?_
  refine lv_sipush (v := nI 1000) hx hb dM_init_5 (by decide +kernel) ?_
  refine va_newa (atype := .long) (ty := .long) (N' := 1000) (a0 := (1000, .inr (.inl cf0))) hx hb (hg _ w_25) rfl hK hP hD hS hA (cell_l 1000) (by decide +kernel) (by decide +kernel) (by decide +kernel) (Nat.le_of_ble_eq_true rfl) (Nat.le_of_ble_eq_true rfl) dM_init_8 (fun a cA H hK hP hD hS => ?_)
  refine W.widen (k := 1) (n := 1000) (by omega) (by omega) ?_
  have hP : va_P D cls_ [(o, .inr (1, [.int 0, .null, .null])), (a, .inl (cA, 1000, .inr (.inl cf0)))] H := hP
  have hD : va_D A [(o, .inr (1, [.int 0, .null, .null])), (a, .inl (cA, 1000, .inr (.inl cf0)))] := hD
  have hK : va_K D cls_ [(cA, .long)] s := hK
  refine va_putF (D := D) (ci := 1) (v := .ref a) (ty := .array .long) (C := R_M) (T := T_M) (N := 3) hx hb hg uM_in ty_M ty_M_ok nd_M hown hK hP hD hS 0 rfl rfl 1 (by decide) (hg _ w_271) (fun _ h9 => h9) rfl hin rfl (by decide +kernel) rfl rfl (Nat.le_of_ble_eq_true rfl) dM_init_10 (fun H locs hP hD hS => ?_)
  have hP : va_P D cls_ [(o, .inr (1, [.int 0, .ref a, .null])), (a, .inl (cA, 1000, .inr (.inl cf0)))] H := hP
  have hD : va_D A [(o, .inr (1, [.int 0, .ref a, .null])), (a, .inl (cA, 1000, .inr (.inl cf0)))] := hD
  refine lv_aload_n hx hb dM_init_13 rfl (lv_at hl 0 rfl) ?_
  refine lv_iconst (v := nI 5) hx hb dM_init_14 (by decide +kernel) ?_
  refine va_newa (atype := .int) (ty := .int) (N' := 5) (a0 := (5, .inl (fun _ => 0))) hx hb (hg _ w_26) rfl hK hP hD hS hA (cell_i 5) (by decide +kernel) (by decide +kernel) (by decide +kernel) (Nat.le_of_ble_eq_true rfl) (Nat.le_of_ble_eq_true rfl) dM_init_15 (fun b iA H hK hP hD hS => ?_)
  refine W.widen (k := 2) (n := 1005) (by omega) (by omega) ?_
  have hK : va_K D cls_ (kT cA iA) s := hK
  refine va_putF (D := D) (ci := 1) (v := .ref b) (ty := .array .int) (C := R_M) (T := T_M) (N := 3) hx hb hg uM_in ty_M ty_M_ok nd_M hown hK hP hD hS 0 rfl rfl 2 (by decide) (hg _ w_272) (fun _ h9 => h9) rfl hin rfl (by decide +kernel) rfl rfl (Nat.le_of_ble_eq_true rfl) dM_init_17 (fun H locs hP hD hS => ?_)
  have hP : va_P D cls_ (wM o a b cA iA 0 cf0 (fun _ => 0)) H := hP
  have hD : va_D A (wM o a b cA iA 0 cf0 (fun _ => 0)) := hD
  refine lv_iconst (v := nI 0) hx hb dM_init_20 (by decide +kernel) ?_
  refine lv_istore_n hx hb dM_init_21 rfl hl (by decide) rfl (fun ls hl => ?_)
  have hl : lv_has ls 2 [(1, .int (nI 0)), (0, .ref o)] := hl
  refine lv_iload_n hx hb dM_init_22 rfl (lv_at hl 0 rfl) ?_
  refine lv_iconst (v := nI 5) hx hb dM_init_23 (by decide +kernel) ?_
  refine lv_icmp_ge (tgt := 41) hx hb dM_init_24 (by decide) (fun h24 => absurd h24 (by decide +kernel)) (fun h24 => ?_)
  refine lv_aload_n hx hb dM_init_27 rfl (lv_at hl 1 rfl) ?_
  refine va_get (D := D) (ci := 1) (v := .ref b) (C := R_M) (T := T_M) (N := 3) hx hb hg uM_in hown hK hP 0 rfl rfl 2 (by decide) (hg _ w_272) (fun _ h9 => h9) rfl dM_init_28 ?_
  refine lv_iload_n hx hb dM_init_31 rfl (lv_at hl 0 rfl) ?_
  refine lv_bipush (v := nI 100) hx hb dM_init_32 (by decide +kernel) ?_
  refine sI hx hb hK hP hD hS 2 1 rfl rfl (by omega) (by decide) dM_init_34 (fun H locs hP hD hS => ?_)
  have hP : va_P D cls_ (wM o a b cA iA 0 cf0 (upd (fun _ => 0) 0 (nI 100))) H := hP
  have hD : va_D A (wM o a b cA iA 0 cf0 (upd (fun _ => 0) 0 (nI 100))) := hD
  refine lv_iinc (k := 0) (v := nI 1) hx hb dM_init_35 hl rfl (by decide +kernel)  (by decide) rfl (fun ls hl => ?_)
  have hl : lv_has ls 2 [(1, .int (nI 1)), (0, .ref o)] := hl
  refine lv_goto (tgt := 22) hx hb dM_init_38 (by decide) ?_
  refine lv_iload_n hx hb dM_init_22 rfl (lv_at hl 0 rfl) ?_
  refine lv_iconst (v := nI 5) hx hb dM_init_23 (by decide +kernel) ?_
  refine lv_icmp_ge (tgt := 41) hx hb dM_init_24 (by decide) (fun h24 => absurd h24 (by decide +kernel)) (fun h24 => ?_)
  refine lv_aload_n hx hb dM_init_27 rfl (lv_at hl 1 rfl) ?_
  refine va_get (D := D) (ci := 1) (v := .ref b) (C := R_M) (T := T_M) (N := 3) hx hb hg uM_in hown hK hP 0 rfl rfl 2 (by decide) (hg _ w_272) (fun _ h9 => h9) rfl dM_init_28 ?_
  refine lv_iload_n hx hb dM_init_31 rfl (lv_at hl 0 rfl) ?_
  refine lv_bipush (v := nI 100) hx hb dM_init_32 (by decide +kernel) ?_
  refine sI hx hb hK hP hD hS 2 1 rfl rfl (by omega) (by decide) dM_init_34 (fun H locs hP hD hS => ?_)
  have hP : va_P D cls_ (wM o a b cA iA 0 cf0 (upd (upd (fun _ => 0) 0 (nI 100)) 1 (nI 100))) H := hP
  have hD : va_D A (wM o a b cA iA 0 cf0 (upd (upd (fun _ => 0) 0 (nI 100)) 1 (nI 100))) := hD
  refine lv_iinc (k := 0) (v := nI 2) hx hb dM_init_35 hl rfl (by decide +kernel)  (by decide) rfl (fun ls hl => ?_)
  have hl : lv_has ls 2 [(1, .int (nI 2)), (0, .ref o)] := hl
  refine lv_goto (tgt := 22) hx hb dM_init_38 (by decide) ?_
  refine lv_iload_n hx hb dM_init_22 rfl (lv_at hl 0 rfl) ?_
  refine lv_iconst (v := nI 5) hx hb dM_init_23 (by decide +kernel) ?_
  refine lv_icmp_ge (tgt := 41) hx hb dM_init_24 (by decide) (fun h24 => absurd h24 (by decide +kernel)) (fun h24 => ?_)
  refine lv_aload_n hx hb dM_init_27 rfl (lv_at hl 1 rfl) ?_
  refine va_get (D := D) (ci := 1) (v := .ref b) (C := R_M) (T := T_M) (N := 3) hx hb hg uM_in hown hK hP 0 rfl rfl 2 (by decide) (hg _ w_272) (fun _ h9 => h9) rfl dM_init_28 ?_
  refine lv_iload_n hx hb dM_init_31 rfl (lv_at hl 0 rfl) ?_
  refine lv_bipush (v := nI 100) hx hb dM_init_32 (by decide +kernel) ?_
  refine sI hx hb hK hP hD hS 2 1 rfl rfl (by omega) (by decide) dM_init_34 (fun H locs hP hD hS => ?_)
  have hP : va_P D cls_ (wM o a b cA iA 0 cf0 (upd (upd (upd (fun _ => 0) 0 (nI 100)) 1 (nI 100)) 2 (nI 100))) H := hP
  have hD : va_D A (wM o a b cA iA 0 cf0 (upd (upd (upd (fun _ => 0) 0 (nI 100)) 1 (nI 100)) 2 (nI 100))) := hD
  refine lv_iinc (k := 0) (v := nI 3) hx hb dM_init_35 hl rfl (by decide +kernel)  (by decide) rfl (fun ls hl => ?_)
  have hl : lv_has ls 2 [(1, .int (nI 3)), (0, .ref o)] := hl
  refine lv_goto (tgt := 22) hx hb dM_init_38 (by decide) ?_
  refine lv_iload_n hx hb dM_init_22 rfl (lv_at hl 0 rfl) ?_
  refine lv_iconst (v := nI 5) hx hb dM_init_23 (by decide +kernel) ?_
  refine lv_icmp_ge (tgt := 41) hx hb dM_init_24 (by decide) (fun h24 => absurd h24 (by decide +kernel)) (fun h24 => ?_)
  refine lv_aload_n hx hb dM_init_27 rfl (lv_at hl 1 rfl) ?_
  refine va_get (D := D) (ci := 1) (v := .ref b) (C := R_M) (T := T_M) (N := 3) hx hb hg uM_in hown hK hP 0 rfl rfl 2 (by decide) (hg _ w_272) (fun _ h9 => h9) rfl dM_init_28 ?_
  refine lv_iload_n hx hb dM_init_31 rfl (lv_at hl 0 rfl) ?_
  refine lv_bipush (v := nI 100) hx hb dM_init_32 (by decide +kernel) ?_
  refine sI hx hb hK hP hD hS 2 1 rfl rfl (by omega) (by decide) dM_init_34 (fun H locs hP hD hS => ?_)
  have hP : va_P D cls_ (wM o a b cA iA 0 cf0 (upd (upd (upd (upd (fun _ => 0) 0 (nI 100)) 1 (nI 100)) 2 (nI 100)) 3 (nI 100))) H := hP
  have hD : va_D A (wM o a b cA iA 0 cf0 (upd (upd (upd (upd (fun _ => 0) 0 (nI 100)) 1 (nI 100)) 2 (nI 100)) 3 (nI 100))) := hD
  refine lv_iinc (k := 0) (v := nI 4) hx hb dM_init_35 hl rfl (by decide +kernel)  (by decide) rfl (fun ls hl => ?_)
  have hl : lv_has ls 2 [(1, .int (nI 4)), (0, .ref o)] := hl
  refine lv_goto (tgt := 22) hx hb dM_init_38 (by decide) ?_
  refine lv_iload_n hx hb dM_init_22 rfl (lv_at hl 0 rfl) ?_
  refine lv_iconst (v := nI 5) hx hb dM_init_23 (by decide +kernel) ?_
  refine lv_icmp_ge (tgt := 41) hx hb dM_init_24 (by decide) (fun h24 => absurd h24 (by decide +kernel)) (fun h24 => ?_)
  refine lv_aload_n hx hb dM_init_27 rfl (lv_at hl 1 rfl) ?_
  refine va_get (D := D) (ci := 1) (v := .ref b) (C := R_M) (T := T_M) (N := 3) hx hb hg uM_in hown hK hP 0 rfl rfl 2 (by decide) (hg _ w_272) (fun _ h9 => h9) rfl dM_init_28 ?_
  refine lv_iload_n hx hb dM_init_31 rfl (lv_at hl 0 rfl) ?_
  refine lv_bipush (v := nI 100) hx hb dM_init_32 (by decide +kernel) ?_
  refine sI hx hb hK hP hD hS 2 1 rfl rfl (by omega) (by decide) dM_init_34 (fun H locs hP hD hS => ?_)
  have hP : va_P D cls_ (wM o a b cA iA 0 cf0 (upd (upd (upd (upd (upd (fun _ => 0) 0 (nI 100)) 1 (nI 100)) 2 (nI 100)) 3 (nI 100)) 4 (nI 100))) H := hP
  have hD : va_D A (wM o a b cA iA 0 cf0 (upd (upd (upd (upd (upd (fun _ => 0) 0 (nI 100)) 1 (nI 100)) 2 (nI 100)) 3 (nI 100)) 4 (nI 100))) := hD
  refine lv_iinc (k := 0) (v := nI 5) hx hb dM_init_35 hl rfl (by decide +kernel)  (by decide) rfl (fun ls hl => ?_)
  have hl : lv_has ls 2 [(1, .int (nI 5)), (0, .ref o)] := hl
  refine lv_goto (tgt := 22) hx hb dM_init_38 (by decide) ?_
  refine lv_iload_n hx hb dM_init_22 rfl (lv_at hl 0 rfl) ?_
  refine lv_iconst (v := nI 5) hx hb dM_init_23 (by decide +kernel) ?_
  refine lv_icmp_ge (tgt := 41) hx hb dM_init_24 (by decide) (fun h24 => ?_) (fun h24 => absurd (by decide +kernel) h24)
  exact W.vret hx hb hr (fun t9 ht9 hW9 => ⟨⟨(), rfl, trivial, a, b, cA, iA, by rw [ht9]; exact hP, va_K.moved hW9.alike hK, hD⟩, hS.F ht9⟩) hS.2.2 dM_init_41
