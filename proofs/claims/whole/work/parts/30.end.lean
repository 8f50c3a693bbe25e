/-! THE CLAIM OUT OF ONE WALK OF THE LAW'S BODY. Your part is whole_start (and what it stands on); all else here is the same for every law, but numbers. -/
def R_law : String := "ParityDisksLaw"
def lw_P (b : Addr) (xs : List Int32) (args : Array Value) (s : State) : Prop := args = #[.ref b] ∧ s.IntsAt b xs ∧ xs.length ≤ 3072 ∧ (Jvm.Cond.and given_1 narrow_1).before args s = true
def lw_Q (_ : Array Value) (s : State) (o : Outcome) (t : State) : Prop := o = .returned (some (.int 1)) ∧ Framed s o t [] 1041 10268
def lw_Z (below : List Frame) (a : Array Value) (s : State) : State → Prop := fun t => ∃ o, t.status = .running ∧ Ended t below o ∧ lw_Q a s o t
/-- the law's own end, with 1 on the stack, nothing written that was there before, its room as the claim has it -/
theorem lw_ret {p : Program} {l : Launch} {e : Env} {s : State} {m : MethodId} {below : List Frame} {meth : Method} {c : Code} {b : Nat} (hx : p.tables.exec = Jvm.exec) (hb : c.code = code) (hr : meth.sig.returnType = ret) (hlocks : meth.locks = false) {pc : Nat} {H : Heap} {ls : Array Slot} (hdg : decode code pc = .ok (.ireturn, 1)) : W p l e room_1 s m #[Value.ref b] below meth c H [] 1041 10268 (lw_Z below #[Value.ref b] s) (F0 m pc ls [.int 1]) := by
  intro T hT X
  obtain ⟨fs, hret, hrun, hended, hW, hframe⟩ := X.leave (v := some (.int 1)) (hlocks := hlocks) (fun h => by rw [hr] at h; cases h)
  have hmeth' : T.vm.method? m = some meth := X.method'
  refine ⟨T.setFrames fs, ?_, .returned (some (.int 1)), hrun, hended, rfl, ⟨_, rfl⟩, hW, hframe⟩
  jvm_step X.here [X.here.top, hx, hb, hdg, hmeth', hr, ret, narrow_b1]
  (try refine ⟨rfl, ?_⟩); (try refine ⟨rfl, ?_⟩)
  first | (intro acts; rw [hret _ acts rfl rfl rfl]) | rw [hret _ _ rfl rfl rfl]
  exact Steps.refl _
/-- what holds at the law's entry: the machine, the code, the tables' words (any of lw_tbl by 'hts w (by decide +kernel)'), the script of L ints xs at the cell b, what the Statement gives of the start (any of its parts by flat_of_before) -/
def lw_At (p : Program) (s : State) (m : MethodId) (meth : Method) (c : Code) (b L : Nat) (xs : Nat → Int32) : Prop :=
  p.tables.exec = Jvm.exec ∧ c.code = code ∧ meth.sig.returnType = ret ∧ c.maxLocals = 8 ∧ s.vm.findClass R_law = some m.cls ∧ (∀ w ∈ lw_tbl, w.before #[Value.ref b] s = true) ∧ va_X b L xs s s.heap ∧ b < s.heap.size ∧ meth.locks = false ∧ (Jvm.Cond.and given_1 narrow_1).before #[Value.ref b] s = true
theorem law_K {s : State} {cX cM : ClassId} {iX iM : Nat → Nat} (hKX : u_Kn s R_X T_X 2 cX iX) (hKM : u_Kn s R_M T_M 3 cM iM) : ∃ D : va_G, va_K D cls_ [] s := by
  refine ⟨(fun c => match c with | 0 => cX | _ => cM, fun c => match c with | 0 => iX | _ => iM), ?_, ?_⟩
  · intro c q hq
    rcases c with _ | _ | c
    · have hq' : some (R_X, T_X, 2) = some q := hq
      cases hq'
      exact hKX
    · have hq' : some (R_M, T_M, 3) = some q := hq
      cases hq'
      exact hKM
    · have hq' : (none : Option vw_C) = some q := hq
      cases hq'
  · intro k q hk
    exact absurd hk (by simp)
set_option maxHeartbeats 4000000 in
set_option maxRecDepth 100000 in
/-- from the entry, for every script of at most 3072 ints, the law comes to its end with true -/
theorem whole_start {p : Program} {e : Env} {s : State} {m : MethodId} {below : List Frame} {meth : Method} {c : Code} (l : Launch) (hfl : l.flags = flags0) {b L : Nat} {xs : Nat → Int32} (hL : L ≤ 3072) (C0 : lw_At p s m meth c b L xs) : W p l e room_1 s m #[Value.ref b] below meth c s.heap [] 0 0 (lw_Z below #[Value.ref b] s) (entryFrame m ([Value.ref b] : List Value).toArray 8) := by
  obtain ⟨hx, hb, hr, hml, hown, hts0, hX, hbl, hlocks, hgv⟩ := C0
  have hls : l.stackTraces = false := by unfold Launch.stackTraces; rw [hfl]; decide +kernel
  have hg : ∀ w ∈ gW, w.before (#[Value.ref b]) s = true := fun w h => hts0 w (List.mem_filter.mp h).1
  have hts : ∀ w ∈ Cond.initialized R_L :: gW, w.before (#[Value.ref b]) s = true := fun w h => (List.mem_cons.mp h).elim (fun e => by rw [e]; exact hg _ w_0) (hg w)
  have hZ := law_xZ hts0 hgv
  obtain ⟨cX, iX, hKX⟩ := u_known hg uX_in (hg _ w_11)
  obtain ⟨cM, iM, hKM⟩ := u_known hg uM_in (hg _ w_265)
  obtain ⟨D, hK⟩ := law_K hKX hKM
  have hP : va_P D cls_ [] s.heap := fun k q hk => absurd hk (by simp)
  have hD : va_D (fun q => s.heap.size ≤ q) [] := ⟨fun i j x y hi => absurd hi (by simp), fun k q hk => absurd hk (by simp)⟩
  have hS : va_S (fun q => s.heap.size ≤ q) s.heap s.heap [] := va_S.rf
  have hA : ∀ q : Nat, s.heap.size ≤ q → (fun q => s.heap.size ≤ q) q := fun q h => h
  have hl := lv_entry ([.ref b]) (n := 8) (Nat.le_of_ble_eq_true rfl)
  rw [lg_entry_eq]
  generalize (lg_sl ([.ref b]) ++ List.replicate (8 - (lg_sl ([.ref b])).length) Slot.unset).toArray = ls at hl ⊢
  have hl : lv_has ls 8 [(0, .ref b)] := hl
  refine va_new (D := D) (ci := 0) (fs := [.null, .null]) (C := R_X) (T := T_X) (N := 2) hx hb hg uX_in ty_X ty_X_ok hown (hg _ w_10) (hg _ w_11) (hg _ w_1) hK hP hD hS hA rfl (fun j hj => by rcases (show j = 0 ∨ j = 1 by omega) with rfl | rfl <;> rfl) (Nat.le_of_ble_eq_true rfl) (Nat.le_of_ble_eq_true rfl) dL_law_0 (fun o H hP hD hS => ?_)
  refine W.widen (k := 1) (n := 2) (by omega) (by omega) ?_
  have hP : va_P D cls_ [(o, .inr (0, [.null, .null]))] H := hP
  have hD : va_D (fun q => s.heap.size ≤ q) [(o, .inr (0, [.null, .null]))] := hD
  refine lv_dup hx hb dL_law_3 rfl ?_
  have hF := va_free (wc := [(o, .inr (0, [.null, .null]))]) hD hS hA [0] rfl
  refine va_callv (va_runI (As := []) (rest := [.ref o]) ⟨hx, hb, hml, hown, hts⟩ (mX_init l D o H.size) (cwI 0 hts (gw_in w_14) rfl rfl rfl (hg _ w_1) (hg _ w_12) (hg _ w_13) rfl (by decide +kernel) ⟨Nat.le_of_ble_eq_true rfl, Nat.le_of_ble_eq_true rfl⟩) ⟨pWs_blind, fun U hU hW => ⟨rfl, by rw [hU], by rw [hU]; exact hP, va_K.moved hW.alike hK, hD.weaken (fun _ _ _ _ => trivial)⟩⟩ rfl rfl hl.1 rfl (lv_room (Nat.le_of_ble_eq_true rfl)) dL_law_4 ⟨Nat.le_of_ble_eq_true rfl, Nat.le_of_ble_eq_true rfl⟩) hS (fun q _ h => hF q h) hF (fun _ t H1 locs ht hvm _ hB hz1 hk1 hS => ?_)
  obtain ⟨a, b1, cA, iA, hP1, hK1, hD1⟩ := hB
  rw [ht] at hP1
  have hKa := va_K.moved hvm.symm hK1
  have hP : va_P D cls_ (wX o a b1 cA iA cf0 uf0) H1 := hP1
  have hD : va_D (fun q => s.heap.size ≤ q) (wX o a b1 cA iA cf0 uf0) := hD1.weaken (fun _ _ _ h => hF _ h)
  refine W.widen (k := 3) (n := 1007) (by omega) (by omega) ?_
  refine lv_astore_n hx hb dL_law_7 rfl hl (by decide) rfl (fun ls hl => ?_)
  have hl : lv_has ls 8 [(1, .ref o), (0, .ref b)] := hl
  refine va_new (D := D) (ci := 1) (fs := [.int 0, .null, .null]) (C := R_M) (T := T_M) (N := 3) hx hb hg uM_in ty_M ty_M_ok hown (hg _ w_264) (hg _ w_265) (hg _ w_2) hK hP hD hS hA rfl (fun j hj => by rcases (show j = 0 ∨ j = 1 ∨ j = 2 by omega) with rfl | rfl | rfl <;> rfl) (Nat.le_of_ble_eq_true rfl) (Nat.le_of_ble_eq_true rfl) dL_law_8 (fun o2 H hP hD hS => ?_)
  refine W.widen (k := 4) (n := 1010) (by omega) (by omega) ?_
  have hP : va_P D cls_ [(o, .inr (0, [.ref a, .ref b1])), (a, .inl (cA, 1000, .inr (.inl cf0))), (b1, .inl (iA, 5, .inl uf0)), (o2, .inr (1, [.int 0, .null, .null]))] H := hP
  have hD : va_D (fun q => s.heap.size ≤ q) [(o, .inr (0, [.ref a, .ref b1])), (a, .inl (cA, 1000, .inr (.inl cf0))), (b1, .inl (iA, 5, .inl uf0)), (o2, .inr (1, [.int 0, .null, .null]))] := hD
  refine lv_dup hx hb dL_law_11 rfl ?_
  have hF := va_free (wc := [(o2, .inr (1, [.int 0, .null, .null]))]) hD hS hA [3] rfl
  have hPc := hP.sub (ws' := [(o2, .inr (1, [.int 0, .null, .null]))]) [3] rfl
  have hDc := hD.sub (ws' := [(o2, .inr (1, [.int 0, .null, .null]))]) [3] (by decide) rfl
  refine va_callv (va_runI (As := []) (rest := [.ref o2]) ⟨hx, hb, hml, hown, hts⟩ (mM_init l D o2 H.size) (cwI 0 hts (gw_in w_268) rfl rfl rfl (hg _ w_2) (hg _ w_266) (hg _ w_267) rfl (by decide +kernel) ⟨Nat.le_of_ble_eq_true rfl, Nat.le_of_ble_eq_true rfl⟩) ⟨pWs_blind, fun U hU hW => ⟨rfl, by rw [hU], by rw [hU]; exact hPc, va_K.moved hW.alike hK, hDc.weaken (fun _ _ _ _ => trivial)⟩⟩ rfl rfl hl.1 rfl (lv_room (Nat.le_of_ble_eq_true rfl)) dL_law_12 ⟨Nat.le_of_ble_eq_true rfl, Nat.le_of_ble_eq_true rfl⟩) hS (fun q _ h => hF q h) hF (fun _ t H1 locs ht hvm _ hB hz1 hk1 hS => ?_)
  obtain ⟨a2, b2, cB, iB, hP1, hK1, hD1⟩ := hB
  rw [ht] at hP1
  have hKb := va_K.moved hvm.symm hK1
  obtain ⟨hP, hD⟩ := va_join (wr := wX o a b1 cA iA cf0 uf0) (w1 := wM o2 a2 b2 cB iB 0 cf0 uf0) hP hD [3] [0, 1, 2] rfl rfl (by decide) (by decide) hk1 hF hP1 hD1
  have hK : va_K D cls_ [(cA, .long), (iA, .int), (cB, .long), (iB, .int)] s := hKa.app hKb
  refine W.widen (k := 6) (n := 2015) (by omega) (by omega) ?_
  refine lv_astore_n hx hb dL_law_15 rfl hl (by decide) rfl (fun ls hl => ?_)
  have hl : lv_has ls 8 [(2, .ref o2), (1, .ref o), (0, .ref b)] := hl
  refine lv_iconst (v := nI 1) hx hb dL_law_16 (by decide +kernel) ?_
  refine va_newa (atype := .long) (ty := .long) (N' := 1) (a0 := (1, .inr (.inl cf0))) hx hb (hg _ w_25) rfl hK hP hD hS hA (cell_l 1) (by decide +kernel) (by decide +kernel) (by decide +kernel) (Nat.le_of_ble_eq_true rfl) (Nat.le_of_ble_eq_true rfl) dL_law_17 (fun z oA H hK hP hD hS => ?_)
  refine W.widen (k := 7 + 0) (n := 2016 + 6 * 0) (by omega) (by omega) ?_
  have hK : va_K D cls_ (k7 cA iA cB iB oA) s := hK
  have hP : va_P D cls_ (w7 o a b1 o2 a2 b2 z cA iA cB iB oA 0 cf0 uf0 cf0 uf0 cf0) H := hP
  have hD : va_D (fun q => s.heap.size ≤ q) (w7 o a b1 o2 a2 b2 z cA iA cB iB oA 0 cf0 uf0 cf0 uf0 cf0) := hD
  refine lv_astore_n hx hb dL_law_19 rfl hl (by decide) rfl (fun ls hl => ?_)
  have hl : lv_has ls 8 [(3, .ref z), (2, .ref o2), (1, .ref o), (0, .ref b)] := hl
  refine lv_iconst (v := nI 0) hx hb dL_law_20 (by decide +kernel) ?_
  refine lv_istore hx hb dL_law_21 hl (by decide) rfl (fun ls hl => ?_)
  have hl : lv_has ls 8 [(4, .int (nI (6 * 0))), (3, .ref z), (2, .ref o2), (1, .ref o), (0, .ref b)] := hl
  refine law_loop l hls ⟨hx, hb, hml, hown, hts, hX, hbl, hZ, hK, hL⟩ (fun H locs ls k hk hS => ?_) 512 0 H locs ls 0 cf0 uf0 cf0 (by omega) (by omega) uOk_0 hP hD hS hl
  refine va_forget (fun q hq => hS.2.2 q hq) ?_
  refine W.widen (k := 1041) (n := 10268) (by omega) (by omega) ?_
  refine lv_iconst (v := 1) hx hb dL_law_666 (by decide +kernel) ?_
  exact lw_ret hx hb hr hlocks dL_law_667
set_option maxHeartbeats 4000000 in
theorem lw_walk (l : Launch) (hfl : l.flags = flags0) (b : Addr) (xs : List Int32) : MetFree l x (headSpec (Jvm.Cond.code x code maxLocals ret :: tables_1) room_1) (lw_P b xs) (fun _ _ _ _ _ => True) lw_Q := by
  refine MetFree.of_bodyS (code := code) (maxLocals := maxLocals) (ret := ret) (by decide) ?_ ?_
  · intro args s m h hn
    obtain ⟨meth, c, h1, h2, h3, h4, h5, h6, -, -⟩ := Cond.code_spec hn (atoms_spec (ws := Jvm.Cond.code x code maxLocals ret :: tables_1) h _ List.mem_cons_self)
    exact ⟨meth, c, h1, h2, h3, h4, h5, h6⟩
  · intro p e s m args below meth c s₁ B hml0 hP _
    obtain ⟨rfl, hx, hbd, hgv⟩ := hP
    obtain ⟨scr, harrAt, hlist, hof, hsmall⟩ := hx
    obtain ⟨hcb, hkn, -, -⟩ := State.arrayAt?_spec harrAt
    have hown : s.vm.findClass R_law = some m.cls := findClass_of_methodNamed B.named
    have hts0 : ∀ c ∈ (Jvm.Cond.code x code maxLocals ret :: tables_1), c.before #[Value.ref b] s = true := atoms_spec (ws := Jvm.Cond.code x code maxLocals ret :: tables_1) B.pre
    have hts : ∀ w ∈ lw_tbl, w.before #[Value.ref b] s = true := k2_hts_sels lw_privs (fun w hw => hts0 w (List.mem_cons_of_mem _ hw)) lw_privs_ok
    have hml : c.maxLocals = 8 := B.maxLocals_eq (hts0 _ List.mem_cons_self)
    have X₀ : Stand p l e room_1 s m #[Value.ref b] below meth c s₁ [] 0 0 := Stand.of_body B
    have hh0 : s₁.heap = s.heap := by rw [B.state]; rfl
    have hsz : scr.slots.size = xs.length := by rw [← Array.length_toList, hlist, List.length_map]
    have hval : ∀ j : Nat, j < xs.length → scr.slots[j]? = some (.int (xs.getD j 0)) := fun j hj => by
      rw [← Array.getElem?_toList, hlist]
      simp [hj]
    have hbl : b < s.heap.size := (Array.getElem?_eq_some_iff.mp hcb).1
    have hX : va_X b xs.length (fun j => xs.getD j 0) s s.heap := ⟨scr, hcb, hof, hkn, hsz, hval⟩
    have K : W p l e room_1 s m #[Value.ref b] below meth c s₁.heap [] 0 0 (lw_Z below #[Value.ref b] s) (entryFrame m ([Value.ref b] : List Value).toArray 8) := by
      rw [hh0]
      exact whole_start l hfl hbd ⟨B.exec, B.bytes, B.returns, hml, hown, hts, hX, hbl, B.notSynchronized, hgv⟩
    obtain ⟨t, a1, o, b1, b2, b3⟩ := K s₁ rfl X₀
    exact ⟨t, o, a1, b1, b2, b3⟩
theorem lw_pre_spec {args : Array Value} {s : State} (h : (Jvm.Cond.and given_1 narrow_1).before args s = true) (hr : rest_1_c.before args s = true) : ∃ (b : Addr) (xs : List Int32), lw_P b xs args s := by
  have hs := flat_of_before _ h
  have hq := flat_of_before _ hr
  have hc : (Cond.count 1).before args s = true := hs _ (by decide +kernel)
  have harr : (Cond.arrayOf (.arg 0) .int).before args s = true := hs _ (by decide +kernel)
  have hle : (Cond.le (.length (.arg 0)) (.int 3072)).before args s = true := hs _ (by decide +kernel)
  have hlen : (Cond.isInt (.length (.arg 0))).before args s = true := hq _ (by decide +kernel)
  have hall : (Cond.all (.arg 0) (.isInt (.elem (.arg 0) (.index 0)))).before args s = true := hq _ (by decide +kernel)
  obtain ⟨b, xs, hb, hx⟩ := State.ints_of_pre rfl harr hlen hall
  have hsm : xs.length < 2 ^ 31 := hx.choose_spec.2.2.2
  have hev : (Term.length (.arg 0)).eval args s none [] s = some (.int xs.length.toInt32) := hx.length_eval hb
  have hv := Cond.le_ints hev (show (Term.int 3072).eval args s none [] s = some (.int 3072) from rfl)
  have hd : xs.length.toInt32 ≤ 3072 := by
    simpa [Cond.before, Cond.holds, hv] using hle
  have hN : xs.length ≤ 3072 := (Int32.ofNat_le_ofNat hsm (by decide)).mp (show Int32.ofNat xs.length ≤ Int32.ofNat 3072 from hd)
  exact ⟨b, xs, Cond.one_arg hc (show args[0]? = some (.ref b) from hb), hx, hN, h⟩
theorem lw_comes (l : Launch) (hfl : l.flags = flags0) : Comes l x (Jvm.Cond.code x code maxLocals ret :: tables_1) room_1 (fun tb e args s => Calls_1 tb e args s ∧ rest_1 tb e args s ∧ Pre_1 tb e args s)
    (fun _ _ args s o t => lw_Q args s o t) := by
  intro p e ha hc hk s m args below hf hfit hheap happ hpre
  obtain ⟨b, xs, hP⟩ := lw_pre_spec hpre.2.2 hpre.2.1
  obtain ⟨k, o, h1, h2, h3, hQ⟩ := lw_walk l hfl b xs p e ha hc hk s m args below hf ((Spec.applies_iff_loose hf).mp happ).1 hP trivial
  exact ⟨k, o, h1, h2, h3, hQ⟩
theorem lw_frame {s t : State} {o : Outcome} {args : Array Value} (h : Framed s o t [] 1041 10268) :
    Framed s o t (fieldLocs frame_1_writes args s ++ arrayLocs frame_1_arrays args s ++ staticLocs frame_1_statics s) 1041 10268 := h
theorem lw_limb (L : Cond) (hL : ∀ (args : Array Value) (s t : State), L.after args s (.returned (some (.int 1))) t = true) :
    ArmFor flags0 classFile x code maxLocals ret World_1 tables_1 room_1 Calls_1 rest_1 Pre_1
      (fun tb e a s o t => postC L tb e a s o t ∧ Framed s o t (fieldLocs frame_1_writes a s ++ arrayLocs frame_1_arrays a s ++ staticLocs frame_1_statics s) 1041 10268) := by
  intro l hfl _ _ p e ha hc hk s m args below hf hfit hheap happ hpre
  obtain ⟨k, o, h1, h2, h3, rfl, hF⟩ := lw_comes l hfl p e ha hc hk s m args below hf hfit hheap happ hpre
  exact ⟨k, _, h1, h2, h3, hL args s _, lw_frame hF⟩
theorem i_vc : Claimed_1_1 ∧ Claimed_1_2 := ⟨lw_limb limb_1_1 (fun args s t => by simp [limb_1_1, Cond.after, Cond.holds, Cond.value]), lw_limb limb_1_2 (fun args s t => Cond.after_iff.mpr (by
  first | (rw [show limb_1_2 = Cond.eq .result (.int 1) from rfl, Cond.eq_ints (x := 1) (y := 1) rfl rfl]; simp; done) | (simp [limb_1_2, Cond.value, Term.eval]; done)))⟩
