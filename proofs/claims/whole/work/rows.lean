section
-- ===== PART A: goes FIRST, ahead of the names: the tables' words, and 'selects' of the private methods out of them =====
/-- a private method of a class that the tables say can be made, by its rows of tables_1 -/
def lw_okq (q : MethodName × Nat) : Prop := (q.1.cls ≠ "java/lang/invoke/MethodHandle" ∧ q.1.cls ≠ "java/lang/invoke/VarHandle") ∧ Cond.instantiable q.1.cls q.2 ∈ tables_1 ∧ Cond.privateMethod q.1 ∈ tables_1 ∧ Cond.instanceMethod q.1 ∈ tables_1
theorem lw_p0 : lw_okq (⟨"ParityDisks", "allCanBeUsed", "(I)Z"⟩, 2) := ⟨⟨by decide +kernel, by decide +kernel⟩, List.mem_of_getElem? (i := 11) (by decide +kernel), List.mem_of_getElem? (i := 32) (by decide +kernel), List.mem_of_getElem? (i := 33) (by decide +kernel)⟩
theorem lw_p1 : lw_okq (⟨"ParityDisks", "canBeUsed", "(II)Z"⟩, 2) := ⟨⟨by decide +kernel, by decide +kernel⟩, List.mem_of_getElem? (i := 11) (by decide +kernel), List.mem_of_getElem? (i := 39) (by decide +kernel), List.mem_of_getElem? (i := 40) (by decide +kernel)⟩
theorem lw_p2 : lw_okq (⟨"ParityDisks", "othersCanBeUsed", "(II)Z"⟩, 2) := ⟨⟨by decide +kernel, by decide +kernel⟩, List.mem_of_getElem? (i := 11) (by decide +kernel), List.mem_of_getElem? (i := 43) (by decide +kernel), List.mem_of_getElem? (i := 44) (by decide +kernel)⟩
theorem lw_p3 : lw_okq (⟨"ParityDisks", "mendParity", "(I)Z"⟩, 2) := ⟨⟨by decide +kernel, by decide +kernel⟩, List.mem_of_getElem? (i := 11) (by decide +kernel), List.mem_of_getElem? (i := 47) (by decide +kernel), List.mem_of_getElem? (i := 48) (by decide +kernel)⟩
theorem lw_p4 : lw_okq (⟨"ParityDisks", "xorOfOthers", "(III)J"⟩, 2) := ⟨⟨by decide +kernel, by decide +kernel⟩, List.mem_of_getElem? (i := 11) (by decide +kernel), List.mem_of_getElem? (i := 54) (by decide +kernel), List.mem_of_getElem? (i := 55) (by decide +kernel)⟩
theorem lw_p5 : lw_okq (⟨"ParityDisks", "isLost", "(II)Z"⟩, 2) := ⟨⟨by decide +kernel, by decide +kernel⟩, List.mem_of_getElem? (i := 11) (by decide +kernel), List.mem_of_getElem? (i := 68) (by decide +kernel), List.mem_of_getElem? (i := 69) (by decide +kernel)⟩
theorem lw_p6 : lw_okq (⟨"java/lang/Throwable", "fillInStackTrace", "(I)Ljava/lang/Throwable;"⟩, 6) := ⟨⟨by decide +kernel, by decide +kernel⟩, List.mem_of_getElem? (i := 122) (by decide +kernel), List.mem_of_getElem? (i := 120) (by decide +kernel), List.mem_of_getElem? (i := 121) (by decide +kernel)⟩
theorem lw_p7 : lw_okq (⟨"ParityDisks", "whatItHas", "(III)J"⟩, 2) := ⟨⟨by decide +kernel, by decide +kernel⟩, List.mem_of_getElem? (i := 11) (by decide +kernel), List.mem_of_getElem? (i := 172) (by decide +kernel), List.mem_of_getElem? (i := 173) (by decide +kernel)⟩
theorem lw_p8 : lw_okq (⟨"ParityDisks", "rebuildBlock", "(II)V"⟩, 2) := ⟨⟨by decide +kernel, by decide +kernel⟩, List.mem_of_getElem? (i := 11) (by decide +kernel), List.mem_of_getElem? (i := 231) (by decide +kernel), List.mem_of_getElem? (i := 232) (by decide +kernel)⟩
theorem lw_p9 : lw_okq (⟨"ParityDisks", "checkStanding", "(III)V"⟩, 2) := ⟨⟨by decide +kernel, by decide +kernel⟩, List.mem_of_getElem? (i := 11) (by decide +kernel), List.mem_of_getElem? (i := 242) (by decide +kernel), List.mem_of_getElem? (i := 243) (by decide +kernel)⟩
theorem lw_p10 : lw_okq (⟨"ParityDisksModel", "noPlace", "(II)Z"⟩, 3) := ⟨⟨by decide +kernel, by decide +kernel⟩, List.mem_of_getElem? (i := 265) (by decide +kernel), List.mem_of_getElem? (i := 289) (by decide +kernel), List.mem_of_getElem? (i := 290) (by decide +kernel)⟩
theorem lw_p11 : lw_okq (⟨"ParityDisksModel", "fails", "(ZI)Z"⟩, 3) := ⟨⟨by decide +kernel, by decide +kernel⟩, List.mem_of_getElem? (i := 265) (by decide +kernel), List.mem_of_getElem? (i := 293) (by decide +kernel), List.mem_of_getElem? (i := 294) (by decide +kernel)⟩
theorem lw_p12 : lw_okq (⟨"ParityDisksModel", "gone", "(II)Z"⟩, 3) := ⟨⟨by decide +kernel, by decide +kernel⟩, List.mem_of_getElem? (i := 265) (by decide +kernel), List.mem_of_getElem? (i := 300) (by decide +kernel), List.mem_of_getElem? (i := 301) (by decide +kernel)⟩
theorem lw_p13 : lw_okq (⟨"ParityDisksModel", "usable", "(II)Z"⟩, 3) := ⟨⟨by decide +kernel, by decide +kernel⟩, List.mem_of_getElem? (i := 265) (by decide +kernel), List.mem_of_getElem? (i := 304) (by decide +kernel), List.mem_of_getElem? (i := 305) (by decide +kernel)⟩
theorem lw_p14 : lw_okq (⟨"ParityDisksModel", "has", "(III)J"⟩, 3) := ⟨⟨by decide +kernel, by decide +kernel⟩, List.mem_of_getElem? (i := 265) (by decide +kernel), List.mem_of_getElem? (i := 308) (by decide +kernel), List.mem_of_getElem? (i := 309) (by decide +kernel)⟩
theorem lw_p15 : lw_okq (⟨"ParityDisksModel", "others", "(III)J"⟩, 3) := ⟨⟨by decide +kernel, by decide +kernel⟩, List.mem_of_getElem? (i := 265) (by decide +kernel), List.mem_of_getElem? (i := 315) (by decide +kernel), List.mem_of_getElem? (i := 316) (by decide +kernel)⟩
def lw_privs_1 : List (MethodName × Nat) := [(⟨"ParityDisks", "allCanBeUsed", "(I)Z"⟩, 2), (⟨"ParityDisks", "canBeUsed", "(II)Z"⟩, 2), (⟨"ParityDisks", "othersCanBeUsed", "(II)Z"⟩, 2), (⟨"ParityDisks", "mendParity", "(I)Z"⟩, 2), (⟨"ParityDisks", "xorOfOthers", "(III)J"⟩, 2), (⟨"ParityDisks", "isLost", "(II)Z"⟩, 2), (⟨"java/lang/Throwable", "fillInStackTrace", "(I)Ljava/lang/Throwable;"⟩, 6), (⟨"ParityDisks", "whatItHas", "(III)J"⟩, 2), (⟨"ParityDisks", "rebuildBlock", "(II)V"⟩, 2), (⟨"ParityDisks", "checkStanding", "(III)V"⟩, 2), (⟨"ParityDisksModel", "noPlace", "(II)Z"⟩, 3), (⟨"ParityDisksModel", "fails", "(ZI)Z"⟩, 3), (⟨"ParityDisksModel", "gone", "(II)Z"⟩, 3), (⟨"ParityDisksModel", "usable", "(II)Z"⟩, 3), (⟨"ParityDisksModel", "has", "(III)J"⟩, 3), (⟨"ParityDisksModel", "others", "(III)J"⟩, 3)]
theorem lw_r1 : ∀ q ∈ lw_privs_1, lw_okq q := List.forall_mem_cons.mpr ⟨lw_p0, List.forall_mem_cons.mpr ⟨lw_p1, List.forall_mem_cons.mpr ⟨lw_p2, List.forall_mem_cons.mpr ⟨lw_p3, List.forall_mem_cons.mpr ⟨lw_p4, List.forall_mem_cons.mpr ⟨lw_p5, List.forall_mem_cons.mpr ⟨lw_p6, List.forall_mem_cons.mpr ⟨lw_p7, List.forall_mem_cons.mpr ⟨lw_p8, List.forall_mem_cons.mpr ⟨lw_p9, List.forall_mem_cons.mpr ⟨lw_p10, List.forall_mem_cons.mpr ⟨lw_p11, List.forall_mem_cons.mpr ⟨lw_p12, List.forall_mem_cons.mpr ⟨lw_p13, List.forall_mem_cons.mpr ⟨lw_p14, List.forall_mem_cons.mpr ⟨lw_p15, fun _ h => absurd h List.not_mem_nil⟩⟩⟩⟩⟩⟩⟩⟩⟩⟩⟩⟩⟩⟩⟩⟩
theorem lw_p16 : lw_okq (⟨"ParityDisksModel", "noBlock", "(III)Z"⟩, 3) := ⟨⟨by decide +kernel, by decide +kernel⟩, List.mem_of_getElem? (i := 265) (by decide +kernel), List.mem_of_getElem? (i := 342) (by decide +kernel), List.mem_of_getElem? (i := 343) (by decide +kernel)⟩
def lw_privs_2 : List (MethodName × Nat) := [(⟨"ParityDisksModel", "noBlock", "(III)Z"⟩, 3)]
theorem lw_r2 : ∀ q ∈ lw_privs_2, lw_okq q := List.forall_mem_cons.mpr ⟨lw_p16, fun _ h => absurd h List.not_mem_nil⟩
def lw_privs : List (MethodName × Nat) := lw_privs_1 ++ (lw_privs_2)
def lw_tbl : List Cond := k2_sels lw_privs ++ tables_1
theorem lw_privs_ok : ∀ q ∈ lw_privs, lw_okq q := by
  show ∀ q ∈ lw_privs_1 ++ (lw_privs_2), lw_okq q
  exact List.forall_mem_append.mpr ⟨lw_r1, lw_r2⟩
end
section
/-! ===== BEGIN words of one list among another's, by their places ===== -/
theorem goodIn_r {big : List Cond} (ws : List Cond) (ps : List Nat) (hp : ws = ps.filterMap (fun i => big[i]?)) (h : ws.all goodWord = true) : GoodIn big ws := by
  intro w hw
  have h1 := List.all_eq_true.mp h w hw
  rw [hp] at hw
  obtain ⟨i, -, hi⟩ := List.mem_filterMap.mp hw
  have hm : w ∈ big := by first | exact List.mem_of_getElem? hi | exact List.getElem?_mem hi
  exact ⟨hm, good_of_word h1⟩
theorem goodIn_app {big a b : List Cond} (ha : GoodIn big a) (hb : GoodIn big b) : GoodIn big (a ++ b) := fun w h => (List.mem_append.mp h).elim (ha w) (hb w)
theorem goodIn_ca {big a b : List Cond} {c : Cond} (ha : GoodIn big (c :: a)) (hb : GoodIn big b) : GoodIn big (c :: (a ++ b)) := fun w h => (List.mem_cons.mp h).elim (fun e => ha w (List.mem_cons.mpr (Or.inl e))) (fun h => (List.mem_append.mp h).elim (fun h => ha w (List.mem_cons.mpr (Or.inr h))) (hb w))
theorem goodIn_sub {big ws : List Cond} (hm : ∀ w ∈ ws, w ∈ big) (h : ws.all goodWord = true) : GoodIn big ws := fun w hw => ⟨hm w hw, good_of_word (List.all_eq_true.mp h w hw)⟩
/-! ===== END ===== -/

/-! ===== BEGIN exceptions that leave a method, and their catching by the caller (launches without stack traces) ===== -/
section VXA
/-! The laws vx_back, vx_callV, vx_callS, vx_callSW, vx_throw0, vx_throwS follow proofs of the library, with one case more: JvmDerived/Free/Laws.lean (Back.of_free), Shelf42/LK1.lean (callV, callS), Shelf/KitTraced.lean (throwNew0V, throwNewS). -/
/-- where a method has thrown q: the class by its name, the cell, what was written, the world -/
def vx_T (XC : String → State → State → Prop) (st : State) (q : Addr) (t : State) (mc ms : Nat) (free : Addr → Prop) : Prop :=
  ∃ (E : String) (ce : Cell) (L : List Loc), XC E st t ∧ t.heap[q]? = some ce ∧ ce.vm = .none ∧ st.vm.findClass E = some ce.cls ∧ st.WarmedH t.vm ∧ st.sameButNew ({ t with vm := st.vm } : State) L mc ms ∧ ∀ z ∈ L, free z.base
def vx_Q (Qc : Array Value → State → Outcome → State → Prop) (XC : String → State → State → Prop) (mc ms : Nat) (free : Addr → Prop) : Array Value → State → Outcome → State → Prop := fun a st o t =>
  (Qc a st o t ∧ ∃ L, FrameEnd st o t L mc ms ∧ ∀ q ∈ L, free q.base) ∨ ∃ q, o = .threw q ∧ vx_T XC st q t mc ms free
/-- a callee that returns or throws -/
def vx_Met (l : Launch) (y : MethodName) (ws : List Cond) (rm : Room) (Pc : Array Value → State → Prop) (Qc : Array Value → State → Outcome → State → Prop) (XC : String → State → State → Prop) (mc ms : Nat) (free : Addr → Prop) : Prop :=
  MetFree l y (headSpec ws rm) Pc (fun _ _ _ _ _ => True) (vx_Q Qc XC mc ms free)
def vx_Post (XC : String → State → State → Prop) (mc ms : Nat) (free : Addr → Prop) : Pt → Array Value → Addr → Pt → Prop := fun A a q B =>
  ∃ (g : JFrame) (mk : MethodId) (t : State) (L : List Loc) (E : String) (ce : Cell), B.U.heap = t.heap ∧ B.U.vm = t.vm ∧ XC E (A.U.calling g mk a) t ∧ t.heap[q]? = some ce ∧ ce.vm = .none ∧ A.U.vm.findClass E = some ce.cls ∧ B.locs = A.locs ++ L ∧ (∀ z ∈ L, free z.base) ∧ B.cells = A.cells + mc ∧ B.slots = A.slots + ms
def vx_Back (l : Launch) (R : Room) (p : Program) (e : Env) (below : List Frame) (s : State) (sargs : Array Value) (y : MethodName) (len W9 : Nat)
    (Pre : Pt → Array Value → Prop) (Post : Pt → Array Value → Option Value → Pt → Prop) (PostX : Pt → Array Value → Addr → Pt → Prop) : Prop :=
  ∀ (m : MethodId) (meth : Method) (c : Code) (A : Pt) (g : JFrame) (ig : Instr) (mk : MethodId) (a : Array Value),
    Stand p l e R s m sargs below meth c A.U A.locs A.cells A.slots → g.method = m → g.locals.size = c.maxLocals → decode c.code g.pc = .ok (ig, len) →
    2 * g.monitorRoom + (g.stack.map fun v => v.category).sum ≤ W9 → A.U.methodNamed? y = some mk → Pre A a →
    (∃ (v : Option Value) (B : Pt), Stand p l e R s m sargs below meth c B.U B.locs B.cells B.slots ∧ Post A a v B ∧
      Steps p.tables e below (doInvoke e (A.U.setTop g) [] mk a).1 (B.U.setTop { g with pc := g.pc + len, stack := v.toList ++ g.stack })) ∨
    (∃ (q : Addr) (B : Pt), Stand p l e R s m sargs below meth c B.U B.locs B.cells B.slots ∧ PostX A a q B ∧
      Steps p.tables e below (doInvoke e (A.U.setTop g) [] mk a).1 ((B.U.setTop g).pushFrame (.throwing q)))
section Payer
variable {l : Launch} {R : Room} {p : Program} {e : Env} {below : List Frame} {s : State} {sargs : Array Value} {y : MethodName} {len W9 : Nat}
theorem vx_back {ws : List Cond} {rm : Room} {Pc : Array Value → State → Prop} {Qc : Array Value → State → Outcome → State → Prop} {XC : String → State → State → Prop} {mc ms : Nat} {free : Addr → Prop} {bytes : ByteArray} {maxL : Nat} {ret : Option FieldType}
    (hM : vx_Met l y ws rm Pc Qc XC mc ms free) (hblind : FrameBlind Pc) (hrc : rm.cells = mc) (hrs : rm.slots = ms)
    (hframes : rm.frames + 1 ≤ R.frames) (hlocals : W9 + (maxL + 11) + rm.locals ≤ R.locals)
    (hws : ∀ w ∈ ws, ∀ a' U, s.WarmedH U.vm → w.before a' U = true) (hcode : Cond.code y bytes maxL ret ∈ ws) (hinit : ∀ a' U, s.WarmedH U.vm → (Cond.initialized y.cls).before a' U = true) :
    vx_Back l R p e below s sargs y len W9 (PreOf R mc ms Pc) (PostOf Qc mc ms free) (vx_Post XC mc ms free) := by
  intro m meth c A g ig mk a X hg hsize hdg hW hn hp
  have h1 : (headSpec ws rm).pre.before a A.U = true := atoms_intro fun w hw => hws w hw _ _ X.warmed
  have h2 : (Cond.code y bytes maxL ret).before a A.U = true := hws _ hcode _ _ X.warmed
  have h3 : (Cond.initialized y.cls).before a A.U = true := hinit _ _ X.warmed
  have h4 : A.cells + (headSpec ws rm).room.cells ≤ R.cells := by rw [show (headSpec ws rm).room.cells = mc from hrc]; exact hp.1
  have h5 : A.slots + (headSpec ws rm).room.slots ≤ R.slots := by rw [show (headSpec ws rm).room.slots = ms from hrs]; exact hp.2.1
  have hPc : Pc a (A.U.calling g mk a) := hblind _ _ _ _ hp.2.2
  obtain ⟨U, Ls, c0, s0⟩ := A
  dsimp only [Pt.U, Pt.locs, Pt.cells, Pt.slots] at h1 h2 h3 h4 h5 X hn hPc ⊢
  obtain ⟨methY, cY, hmY, hcY, -, hlY, -, -, -, -⟩ := Cond.code_spec hn h2
  obtain ⟨kY, hkY, -⟩ := className_of_methodNamed hn
  have hinitY : kY.init = .initialized := Cond.initialized_spec (findClass_of_methodNamed hn) hkY h3
  have h : At U g.method c below := by rw [hg]; exact X.here
  have hlocals9 : W9 + (maxL + 11) + (headSpec ws rm).room.locals ≤ R.locals := hlocals
  have happ : (headSpec ws rm).appliesLoose y e.platform (U.calling g mk a) = true :=
    Spec.appliesLoose_calling (g := g) h hdg hn hkY hinitY
      (X.room_calling (g := g) (R' := (headSpec ws rm).room) hsize hmY hcY hframes (by rw [hlY]; omega) h4 h5) h1
  obtain ⟨mid, hmid⟩ := h.above
  have hfr : (U.setTop g).frames = (.java g :: mid) ++ below := by rw [State.frames_setTop' g h.top, hmid]; rfl
  obtain ⟨o, s₂, hsteps, -, hend, hq⟩ := Steps.callFree hM p X.admits X.cas X.clock (acts := []) hfr happ hPc trivial
  have hq' : vx_Q Qc XC mc ms free a (U.calling g mk a) o s₂ := hq
  rw [State.frames_setTop' g h.top] at hend
  obtain ⟨g₀, hg0⟩ := Option.isSome_iff_exists.mp h.top
  obtain ⟨r, hr⟩ := State.topJava?_eq_some.mp hg0
  have hr' : (({ U with heap := s₂.heap, slotsUsed := s₂.slotsUsed } : State).setVm s₂.vm).frames = .java g₀ :: r := hr
  rcases hq' with ⟨hqc, L, hfe, hL⟩ | ⟨q, rfl, E, ce, L, hx, hce, hcv, hcl, hW₂, hsm, hL⟩
  · obtain ⟨⟨v, rfl⟩, hW₂, e2, q2, q3, q4, q5, q6⟩ := id hfe
    have e3 : s₂ = ({ (U.calling g mk a).setFrames s₂.frames with heap := s₂.heap, slotsUsed := s₂.slotsUsed } : State).setVm s₂.vm := by
      have : s₂ = ({ s₂ with vm := (U.calling g mk a).vm } : State).setVm s₂.vm := rfl
      rw [e2] at this
      exact this
    obtain ⟨c₂, i₂, len₂, hc₂, hd₂, hf₂⟩ := hend
    have hW' : U.WarmedH s₂.vm := hW₂
    have hcc : c₂ = c := by
      have h1 : s₂.code? g.method = U.code? g.method := by
        rw [State.code?_eq, State.code?_eq, hW'.alike.method?]
      exact Option.some.inj (hc₂.symm.trans (h1.trans h.code))
    subst hcc
    have hlen : len₂ = len := by rw [hdg] at hd₂; cases hd₂; rfl
    subst hlen
    have hs₂ : s₂ = (({ U with heap := s₂.heap, slotsUsed := s₂.slotsUsed } : State).setVm s₂.vm).setTop { g with pc := g.pc + len₂, stack := v.toList ++ g.stack } := by
      refine e3.trans ?_
      rw [hf₂, State.calling_eq h.top, State.setFrames_setFrames, State.setTop_of_frames _ hr', hr]
      rfl
    have hsame : U.sameButNew ({ U with heap := s₂.heap, slotsUsed := s₂.slotsUsed } : State) L mc ms := by
      refine ⟨?_, q2, q3, q4, q5, q6⟩
      obtain ⟨t, ht, -⟩ := State.frames_cons hr
      show ({ U with heap := s₂.heap, slotsUsed := s₂.slotsUsed } : State) = { U.setFrames U.frames with heap := s₂.heap, slotsUsed := s₂.slotsUsed }
      rw [State.setFrames_self ht]
    subst hg
    refine Or.inl ⟨v, ⟨(({ U with heap := s₂.heap, slotsUsed := s₂.slotsUsed } : State).setVm s₂.vm), Ls ++ L, c0 + mc, s0 + ms⟩,
      ⟨X.admits, X.cas, X.clock, X.frames, X.room, X.hears, X.method, X.code, (X.here.setHeapUsed s₂.heap s₂.slotsUsed).setVm hW'.alike, X.tail, State.WarmedH.trans X.warmed hW', X.limits, X.bytes, X.same.trans (hsame.setVm s.vm)⟩,
      ⟨g, mk, s₂, L, rfl, rfl, hqc, rfl, hL, rfl, rfl⟩, ?_⟩
    show Steps p.tables e below _ ((({ U with heap := s₂.heap, slotsUsed := s₂.slotsUsed } : State).setVm s₂.vm).setTop { g with pc := g.pc + len₂, stack := v.toList ++ g.stack })
    rw [← hs₂]
    exact hsteps
  · obtain ⟨e2, q2, q3, q4, q5, q6⟩ := id hsm
    have e3 : s₂ = ({ (U.calling g mk a).setFrames s₂.frames with heap := s₂.heap, slotsUsed := s₂.slotsUsed } : State).setVm s₂.vm := by
      have : s₂ = ({ s₂ with vm := (U.calling g mk a).vm } : State).setVm s₂.vm := rfl
      rw [e2] at this
      exact this
    have hf₂ : s₂.frames = .throwing q :: .java g :: U.frames.tail := hend
    have hW' : U.WarmedH s₂.vm := hW₂
    have hs₂ : s₂ = ((({ U with heap := s₂.heap, slotsUsed := s₂.slotsUsed } : State).setVm s₂.vm).setTop g).pushFrame (.throwing q) := by
      refine e3.trans ?_
      rw [hf₂, State.calling_eq h.top, State.setFrames_setFrames, State.pushFrame, State.frames_setTop _ hr', State.setTop_of_frames _ hr', State.setFrames_setFrames, hr]
      rfl
    have hsame : U.sameButNew ({ U with heap := s₂.heap, slotsUsed := s₂.slotsUsed } : State) L mc ms := by
      refine ⟨?_, q2, q3, q4, q5, q6⟩
      obtain ⟨t, ht, -⟩ := State.frames_cons hr
      show ({ U with heap := s₂.heap, slotsUsed := s₂.slotsUsed } : State) = { U.setFrames U.frames with heap := s₂.heap, slotsUsed := s₂.slotsUsed }
      rw [State.setFrames_self ht]
    subst hg
    refine Or.inr ⟨q, ⟨(({ U with heap := s₂.heap, slotsUsed := s₂.slotsUsed } : State).setVm s₂.vm), Ls ++ L, c0 + mc, s0 + ms⟩,
      ⟨X.admits, X.cas, X.clock, X.frames, X.room, X.hears, X.method, X.code, (X.here.setHeapUsed s₂.heap s₂.slotsUsed).setVm hW'.alike, X.tail, State.WarmedH.trans X.warmed hW', X.limits, X.bytes, X.same.trans (hsame.setVm s.vm)⟩,
      ⟨g, mk, s₂, L, E, ce, rfl, rfl, hx, hce, hcv, hcl, rfl, hL, rfl, rfl⟩, ?_⟩
    show Steps p.tables e below _ (((({ U with heap := s₂.heap, slotsUsed := s₂.slotsUsed } : State).setVm s₂.vm).setTop g).pushFrame (.throwing q))
    rw [← hs₂]
    exact hsteps
end Payer
section Calls
variable {p : Program} {l : Launch} {e : Env} {R : Room} {s : State} {m : MethodId} {args : Array Value} {below : List Frame} {meth : Method} {c : Code} {T : State} {locs : List Loc} {cells slots : Nat}
theorem vx_callV (X : Stand p l e R s m args below meth c T locs cells slots) (hexec : p.tables.exec = Jvm.exec) {own C : String} {index : Nat} {y : MethodName} {bytes : ByteArray} {maxL : Nat} {ret : Option FieldType}
    (hown : s.vm.findClass own = some m.cls) (hlink : (Cond.methodLink own index y).before args s = true) (hinst : (Cond.instanceMethod y).before args s = true) (hsel : (Cond.selects C y y).before args s = true)
    (hcode : (Cond.code y bytes maxL ret).before args s = true) (hy : y.cls ≠ "java/lang/invoke/MethodHandle" ∧ y.cls ≠ "java/lang/invoke/VarHandle")
    {W9 : Nat} {Pre : Pt → Array Value → Prop} {Post : Pt → Array Value → Option Value → Pt → Prop} {PostX : Pt → Array Value → Addr → Pt → Prop} (hK : vx_Back l R p e below s args y 3 W9 Pre Post PostX)
    {b : Addr} {cellB : Cell} (hcell : T.heap[b]? = some cellB) (hobj : cellB.vm.isStatics = false) (hcls : s.vm.findClass C = some cellB.cls)
    {g : JFrame} (hg : g.method = m) (hsize : g.locals.size = c.maxLocals) {argsL rest : List Value} (hlen : ∀ sig, parseMethodDescriptor y.desc = some sig → argsL.length = sig.parameters.length)
    (hstack : g.stack = argsL.reverse ++ .ref b :: rest) (hW : 2 * g.monitorRoom + (rest.map fun v => v.category).sum ≤ W9) (hdg : decode c.code g.pc = .ok (.invokevirtual index, 3))
    (hpre : ∀ vm₁, s.WarmedH vm₁ → Pre ⟨T.setVm vm₁, locs, cells, slots⟩ (Value.ref b :: argsL).toArray) :
    (∃ (v : Option Value) (vm₁ : Vm) (B : Pt), s.WarmedH vm₁ ∧ Stand p l e R s m args below meth c B.U B.locs B.cells B.slots ∧ Post ⟨T.setVm vm₁, locs, cells, slots⟩ (Value.ref b :: argsL).toArray v B ∧
      ∀ target, Steps p.tables e below (B.U.setTop { g with pc := g.pc + 3, stack := v.toList ++ rest }) target → Steps p.tables e below (T.setTop g) target) ∨
    (∃ (q : Addr) (vm₁ : Vm) (B : Pt), s.WarmedH vm₁ ∧ Stand p l e R s m args below meth c B.U B.locs B.cells B.slots ∧ PostX ⟨T.setVm vm₁, locs, cells, slots⟩ (Value.ref b :: argsL).toArray q B ∧
      Steps p.tables e below (T.setTop g) ((B.U.setTop { g with stack := rest }).pushFrame (.throwing q))) := by
  obtain ⟨mk, methM, hnamed, hmethM, hstM, habM⟩ := Cond.instanceMethod_spec hinst
  obtain ⟨methM', cM, hmethM', -, -, -, -, -, -, hsigM⟩ := Cond.code_spec hnamed hcode
  cases hmethM.symm.trans hmethM'
  obtain ⟨c2, r2, m2, q1, q2, q3, q4, kP, hkP, hkPi⟩ := Cond.selects_spec hsel
  cases hcls.symm.trans q1
  cases (State.methodFound?_of_named hnamed hy).symm.trans q2
  cases hnamed.symm.trans q3
  have hselP : selectMethod e.platform s.vm cellB.cls mk = .method mk := by rw [Launch.admits_selectMethod X.admits]; exact q4
  obtain ⟨vm₁, X₁, hstep₁⟩ := X.invokevirtual hexec hown hlink hnamed hmethM hstM hkP hkPi hy (a := b) (cell := cellB) hcell
    (fun z h => by rw [h] at hobj; cases hobj) hselP hmethM habM hkP hkPi (g := g) hg (argsL := argsL) (rest := rest) (hlen _ hsigM) hstack hdg
  rcases hK m meth c ⟨T.setVm vm₁, locs, cells, slots⟩ { g with stack := rest } (.invokevirtual index) mk (Value.ref b :: argsL).toArray X₁ hg hsize hdg hW (X₁.named hnamed) (hpre vm₁ X₁.warmed) with ⟨v, B, X', hpost, hsteps⟩ | ⟨q, B, X', hpost, hsteps⟩
  · exact Or.inl ⟨v, vm₁, B, X₁.warmed, X', hpost, fun target h => hstep₁ _ fun acts => by rw [doInvoke_state]; exact hsteps.trans h⟩
  · exact Or.inr ⟨q, vm₁, B, X₁.warmed, X', hpost, hstep₁ _ fun acts => by rw [doInvoke_state]; exact hsteps⟩
theorem vx_callS (X : Stand p l e R s m args below meth c T locs cells slots) (hexec : p.tables.exec = Jvm.exec) {own : String} {index : Nat} {y : MethodName} {bytes : ByteArray} {maxL : Nat} {ret : Option FieldType}
    (hown : s.vm.findClass own = some m.cls) (hlink : (Cond.methodLink own index y).before args s = true) (hstat : (Cond.static y).before args s = true) (hinit : (Cond.initialized y.cls).before args s = true)
    (hcode : (Cond.code y bytes maxL ret).before args s = true) (hy : y.cls ≠ "java/lang/invoke/MethodHandle" ∧ y.cls ≠ "java/lang/invoke/VarHandle")
    {W9 : Nat} {Pre : Pt → Array Value → Prop} {Post : Pt → Array Value → Option Value → Pt → Prop} {PostX : Pt → Array Value → Addr → Pt → Prop} (hK : vx_Back l R p e below s args y 3 W9 Pre Post PostX)
    {g : JFrame} (hg : g.method = m) (hsize : g.locals.size = c.maxLocals) {argsL rest : List Value} (hlen : ∀ sig, parseMethodDescriptor y.desc = some sig → argsL.length = sig.parameters.length)
    (hstack : g.stack = argsL.reverse ++ rest) (hW : 2 * g.monitorRoom + (rest.map fun v => v.category).sum ≤ W9) (hdg : decode c.code g.pc = .ok (.invokestatic index, 3))
    (hpre : ∀ vm₁, s.WarmedH vm₁ → Pre ⟨T.setVm vm₁, locs, cells, slots⟩ argsL.toArray) :
    (∃ (v : Option Value) (vm₁ : Vm) (B : Pt), s.WarmedH vm₁ ∧ Stand p l e R s m args below meth c B.U B.locs B.cells B.slots ∧ Post ⟨T.setVm vm₁, locs, cells, slots⟩ argsL.toArray v B ∧
      ∀ target, Steps p.tables e below (B.U.setTop { g with pc := g.pc + 3, stack := v.toList ++ rest }) target → Steps p.tables e below (T.setTop g) target) ∨
    (∃ (q : Addr) (vm₁ : Vm) (B : Pt), s.WarmedH vm₁ ∧ Stand p l e R s m args below meth c B.U B.locs B.cells B.slots ∧ PostX ⟨T.setVm vm₁, locs, cells, slots⟩ argsL.toArray q B ∧
      Steps p.tables e below (T.setTop g) ((B.U.setTop { g with stack := rest }).pushFrame (.throwing q))) := by
  obtain ⟨mk, hnamed⟩ := Cond.code_named hcode
  obtain ⟨methM, cM, hmethM, -, -, -, -, -, -, hsigM⟩ := Cond.code_spec hnamed hcode
  have hstatic : methM.isStatic = true := Cond.static_spec hnamed hmethM hstat
  obtain ⟨kP, hkP, -⟩ := className_of_methodNamed hnamed
  have hinitP : kP.init = .initialized := Cond.initialized_spec (findClass_of_methodNamed hnamed) hkP hinit
  obtain ⟨vm₁, X₁, hstep₁⟩ := X.invokestatic hexec hown hlink hnamed hmethM hstatic hkP hinitP hy (g := g) hg (argsL := argsL) (rest := rest) (hlen _ hsigM) hstack hdg
  rcases hK m meth c ⟨T.setVm vm₁, locs, cells, slots⟩ { g with stack := rest } (.invokestatic index) mk argsL.toArray X₁ hg hsize hdg hW (X₁.named hnamed) (hpre vm₁ X₁.warmed) with ⟨v, B, X', hpost, hsteps⟩ | ⟨q, B, X', hpost, hsteps⟩
  · exact Or.inl ⟨v, vm₁, B, X₁.warmed, X', hpost, fun target h => hstep₁ _ fun acts => by rw [doInvoke_state]; exact hsteps.trans h⟩
  · exact Or.inr ⟨q, vm₁, B, X₁.warmed, X', hpost, hstep₁ _ fun acts => by rw [doInvoke_state]; exact hsteps⟩
end Calls
theorem vx_cls {s : State} {T : State} {vm₁ : Vm} {E : String} {k : ClassId} (hW : s.WarmedH vm₁) (h : (T.setVm vm₁).vm.findClass E = some k) : s.vm.findClass E = some k := by
  have h1 : vm₁.findClass E = some k := h
  rw [hW.alike.findClass] at h1
  exact h1
/-- the method's frame g, with q thrown over it -/
def vx_W (p : Program) (l : Launch) (e : Env) (R : Room) (s : State) (m : MethodId) (args : Array Value) (below : List Frame) (meth : Method) (c : Code) (H : Heap) (locs : List Loc) (cells slots : Nat) (Q : State → Prop) (g : JFrame) (q : Addr) : Prop :=
  ∀ T : State, T.heap = H → Stand p l e R s m args below meth c T locs cells slots → ∃ t, Steps p.tables e below ((T.setTop g).pushFrame (.throwing q)) t ∧ Q t
def vx_Run (p : Program) (l : Launch) (e : Env) (R : Room) (s : State) (m : MethodId) (args : Array Value) (below : List Frame) (meth : Method) (c : Code) (H : Heap) (locs : List Loc) (cells slots mc ms : Nat) (g : JFrame) (rest : List Value) (Qa : State → Outcome → State → Prop) (XC : String → State → State → Prop) (free : Addr → Prop) : Prop :=
  ∀ T : State, T.heap = H → Stand p l e R s m args below meth c T locs cells slots →
    (∃ (v : Option Value) (st₀ t T' : State) (L : List Loc), st₀.heap = H ∧ Stand p l e R s m args below meth c T' (locs ++ L) (cells + mc) (slots + ms) ∧ (∀ q ∈ L, free q.base) ∧ T'.heap = t.heap ∧ T'.vm = t.vm ∧ Qa st₀ (.returned v) t ∧
      Goes p e below T g T' { g with pc := g.pc + 3, stack := v.toList ++ rest }) ∨
    (∃ (q : Addr) (st₀ t T' : State) (L : List Loc) (E : String) (ce : Cell), st₀.heap = H ∧ Stand p l e R s m args below meth c T' (locs ++ L) (cells + mc) (slots + ms) ∧ (∀ z ∈ L, free z.base) ∧ T'.heap = t.heap ∧ T'.vm = t.vm ∧ XC E st₀ t ∧ t.heap[q]? = some ce ∧ ce.vm = .none ∧ s.vm.findClass E = some ce.cls ∧
      Steps p.tables e below (T.setTop g) ((T'.setTop { g with stack := rest }).pushFrame (.throwing q)))
def vx_X {S : Type} (px : S → Prop) (B : String → S → State → Prop) (A : Nat → Prop) : String → State → State → Prop := fun E st t => ∃ u : S, px u ∧ B E u t ∧ va_F A st t
section Runs
variable {p : Program} {l : Launch} {e : Env} {R : Room} {s : State} {m : MethodId} {args : Array Value} {below : List Frame} {meth : Method} {c : Code} {H : Heap} {locs : List Loc} {cells slots : Nat}
variable {y : MethodName} {bytes cc : ByteArray} {maxL nL mc ms n index : Nat} {ret : Option FieldType} {ws : List Cond} {rm : Room} {Pc : Array Value → State → Prop} {Qc : Array Value → State → Outcome → State → Prop} {XC : String → State → State → Prop} {free : Addr → Prop} {Ts : List Cond} {own C : String} {b : Addr} {As rest : List Value} {g : JFrame}
theorem vx_callBack (cb : CallB R s args own index y bytes maxL ret ws rm mc ms n) (hM : vx_Met l y ws rm Pc Qc XC mc ms free) (hbl : FrameBlind Pc) : vx_Back l R p e below s args y 3 8 (PreOf R mc ms Pc) (PostOf Qc mc ms free) (vx_Post XC mc ms free) := by
  obtain ⟨hrc, hrs, hfr, hlo, hws, hcw, -, hini, -⟩ := cb
  exact vx_back (bytes := bytes) (maxL := maxL) (ret := ret) hM hbl hrc hrs hfr hlo hws hcw (fun a' U hW => word_at hW (Or.inl (by first | rfl | simp [Cond.onTables, Cond.keeps, Cond.steady])) hini)
theorem vx_runV (S : CallFix p m c cc nL s args Ts own) (hM : vx_Met l y ws rm Pc Qc XC mc ms free) (cw : CallW R s args own C index y bytes maxL ret ws rm mc ms n) (hp : PreV s H C b Pc As)
    (hg : g.method = m) (hn : As.length = n) (hsize : g.locals.size = nL) (hstack : g.stack = As.reverse ++ .ref b :: rest) (hW : 2 * g.monitorRoom + (rest.map fun v => v.category).sum ≤ 8) (hdg : decode cc g.pc = .ok (.invokevirtual index, 3)) (hf : cells + mc ≤ R.cells ∧ slots + ms ≤ R.slots) :
    vx_Run p l e R s m args below meth c H locs cells slots mc ms g rest (Qc (Value.ref b :: As).toArray) XC free := by
  have hK : vx_Back l R p e below s args y 3 8 (PreOf R mc ms Pc) (PostOf Qc mc ms free) (vx_Post XC mc ms free) := vx_callBack cw.1 hM hp.1
  obtain ⟨⟨-, -, -, -, -, -, hcode, -, hy, hlen, hl⟩, hin, hse⟩ := cw
  obtain ⟨hx, hb, hml, ho, -⟩ := S
  obtain ⟨-, ⟨cellB, hcB, hoB, hclB⟩, hPc⟩ := hp
  intro T hT X
  rcases vx_callV X hx (C := C) (bytes := bytes) (maxL := maxL) (ret := ret) ho hl hin hse hcode hy hK (by rw [hT]; exact hcB) hoB hclB hg (hsize.trans hml.symm) (argsL := As) (rest := rest) (fun sig h => hn.trans (hlen sig h)) hstack hW (by rw [hb]; exact hdg)
    (fun vm₁ hW₁ => ⟨hf.1, hf.2, hPc (T.setVm vm₁) hT hW₁⟩) with ⟨v, vm₁, ⟨U', l2, c2, s2⟩, hW₁, X', ⟨g', mk, t, L, e1, e2, hq, h1, hL, h2, h3⟩, st⟩ | ⟨q, vm₁, ⟨U', l2, c2, s2⟩, hW₁, X', ⟨g', mk, t, L, E, ce, e1, e2, hq, hce, hcv, hcl, h1, hL, h2, h3⟩, st⟩
  · dsimp only [Pt.U, Pt.locs, Pt.cells, Pt.slots] at X' e1 e2 h1 h2 h3 st
    subst h1; subst h2; subst h3
    exact Or.inl ⟨v, (T.setVm vm₁).calling g' mk (Value.ref b :: As).toArray, t, U', L, hT, X', hL, e1, e2, hq, st⟩
  · dsimp only [Pt.U, Pt.locs, Pt.cells, Pt.slots] at X' e1 e2 h1 h2 h3 st hcl
    subst h1; subst h2; subst h3
    exact Or.inr ⟨q, (T.setVm vm₁).calling g' mk (Value.ref b :: As).toArray, t, U', L, E, ce, hT, X', hL, e1, e2, hq, hce, hcv, vx_cls hW₁ hcl, st⟩
theorem vx_runS (S : CallFix p m c cc nL s args Ts own) (hM : vx_Met l y ws rm Pc Qc XC mc ms free) (cw : CallB R s args own index y bytes maxL ret ws rm mc ms n ∧ (Cond.static y).before args s = true) (hp : PreS s H Pc As)
    (hg : g.method = m) (hn : As.length = n) (hsize : g.locals.size = nL) (hstack : g.stack = As.reverse ++ rest) (hW : 2 * g.monitorRoom + (rest.map fun v => v.category).sum ≤ 8) (hdg : decode cc g.pc = .ok (.invokestatic index, 3)) (hf : cells + mc ≤ R.cells ∧ slots + ms ≤ R.slots) :
    vx_Run p l e R s m args below meth c H locs cells slots mc ms g rest (Qc As.toArray) XC free := by
  have hK : vx_Back l R p e below s args y 3 8 (PreOf R mc ms Pc) (PostOf Qc mc ms free) (vx_Post XC mc ms free) := vx_callBack cw.1 hM hp.1
  obtain ⟨⟨-, -, -, -, -, -, hcode, hini, hy, hlen, hl⟩, hstt⟩ := cw
  obtain ⟨hx, hb, hml, ho, -⟩ := S
  intro T hT X
  rcases vx_callS X hx (bytes := bytes) (maxL := maxL) (ret := ret) ho hl hstt hini hcode hy hK hg (hsize.trans hml.symm) (argsL := As) (rest := rest) (fun sig h => hn.trans (hlen sig h)) hstack hW (by rw [hb]; exact hdg)
    (fun vm₁ hW₁ => ⟨hf.1, hf.2, hp.2 (T.setVm vm₁) hT hW₁⟩) with ⟨v, vm₁, ⟨U', l2, c2, s2⟩, hW₁, X', ⟨g', mk, t, L, e1, e2, hq, h1, hL, h2, h3⟩, st⟩ | ⟨q, vm₁, ⟨U', l2, c2, s2⟩, hW₁, X', ⟨g', mk, t, L, E, ce, e1, e2, hq, hce, hcv, hcl, h1, hL, h2, h3⟩, st⟩
  · dsimp only [Pt.U, Pt.locs, Pt.cells, Pt.slots] at X' e1 e2 h1 h2 h3 st
    subst h1; subst h2; subst h3
    exact Or.inl ⟨v, (T.setVm vm₁).calling g' mk As.toArray, t, U', L, hT, X', hL, e1, e2, hq, st⟩
  · dsimp only [Pt.U, Pt.locs, Pt.cells, Pt.slots] at X' e1 e2 h1 h2 h3 st hcl
    subst h1; subst h2; subst h3
    exact Or.inr ⟨q, (T.setVm vm₁).calling g' mk As.toArray, t, U', L, E, ce, hT, X', hL, e1, e2, hq, hce, hcv, vx_cls hW₁ hcl, st⟩
end Runs
section Rows
variable {p : Program} {l : Launch} {e : Env} {R : Room} {s : State} {m : MethodId} {args : Array Value} {below : List Frame} {meth : Method} {c : Code} {H : Heap} {locs : List Loc} {cells slots : Nat} {Q : State → Prop}
variable {mc ms : Nat} {free : Addr → Prop} {A0 A1 : Nat → Prop} {H0 : Heap} {a : Array Value} {pc : Nat} {ls : Array Slot} {st0 rest : List Value}
theorem vx_keep {st₀ t T' : State} {L : List Loc} (h0 : st₀.heap = H) (e1 : T'.heap = t.heap) (hS : va_S A0 H0 H locs) (hA : ∀ q, q < H.size → A1 q → A0 q) (hf : ∀ q, free q → A0 q) (hL : ∀ q ∈ L, free q.base) (hF : va_F A1 st₀ t) :
    H.size ≤ T'.heap.size ∧ (∀ q : Nat, q < H.size → ¬ A1 q → T'.heap[q]? = H[q]?) ∧ va_S A0 H0 T'.heap (locs ++ L) := by
  obtain ⟨hz, hk⟩ := hF
  rw [h0] at hz hk
  exact ⟨by rw [e1]; exact hz, fun q h1 h2 => by rw [e1]; exact hk q h1 h2,
    ⟨Nat.le_trans hS.1 (by rw [e1]; exact hz), fun q h1 h2 => by rw [e1, hk q (Nat.lt_of_lt_of_le h1 hS.1) (fun z => h2 (hA q (Nat.lt_of_lt_of_le h1 hS.1) z))]; exact hS.2.1 q h1 h2, fun q hq => by
      rcases List.mem_append.mp hq with h | h
      · exact hS.2.2 q h
      · exact hf _ (hL q h)⟩⟩
theorem vx_calli {S SX : Type} {post : Int32 → S → Prop} {px : SX → Prop} {B : S → State → Prop} {BX : String → SX → State → Prop} {AX : Nat → Prop} (hr : vx_Run p l e R s m args below meth c H locs cells slots mc ms (F0 m pc ls st0) rest (va_Qi post B A1 a) (vx_X px BX AX) free) (hS : va_S A0 H0 H locs) (hA : ∀ q, q < H.size → A1 q → A0 q) (hf : ∀ q, free q → A0 q) (hAX : ∀ q, q < H.size → AX q → A0 q)
    (kx : ∀ (E : String) (ce : Cell) (q9 : Addr) (u : SX) (t : State) (H1 : Heap) (locs1 : List Loc), t.heap = H1 → s.vm.Alike t.vm → px u → BX E u t → H.size ≤ H1.size → (∀ q : Nat, q < H.size → ¬ AX q → H1[q]? = H[q]?) → va_S A0 H0 H1 locs1 → H1[q9]? = some ce → ce.vm = .none → s.vm.findClass E = some ce.cls → vx_W p l e R s m args below meth c H1 locs1 (cells + mc) (slots + ms) Q (F0 m pc ls rest) q9)
    (kk : ∀ (r : Int32) (u : S) (t : State) (H1 : Heap) (locs1 : List Loc), t.heap = H1 → s.vm.Alike t.vm → post r u → B u t → H.size ≤ H1.size → (∀ q : Nat, q < H.size → ¬ A1 q → H1[q]? = H[q]?) → va_S A0 H0 H1 locs1 → W p l e R s m args below meth c H1 locs1 (cells + mc) (slots + ms) Q (F0 m (pc + 3) ls (.int r :: rest))) : W p l e R s m args below meth c H locs cells slots Q (F0 m pc ls st0) := by
  intro T hT X
  rcases hr T hT X with ⟨v, st₀, t, T', L, h0, X', hL, e1, e2, ⟨⟨r, u, hv, hp, hb⟩, hF⟩, st⟩ | ⟨q, st₀, t, T', L, E, ce, h0, X', hL, e1, e2, ⟨u, hp, hb, hF⟩, hce, hcv, hcl, st⟩
  · cases hv
    obtain ⟨k1, k2, k3⟩ := vx_keep h0 e1 hS hA hf hL hF
    obtain ⟨t2, a1, b1⟩ := kk r u t T'.heap (locs ++ L) e1.symm (by rw [← e2]; exact X'.warmed.alike) hp hb k1 k2 k3 T' rfl X'
    exact ⟨t2, st t2 a1, b1⟩
  · obtain ⟨k1, k2, k3⟩ := vx_keep h0 e1 hS hAX hf hL hF
    obtain ⟨t2, a1, b1⟩ := kx E ce q u t T'.heap (locs ++ L) e1.symm (by rw [← e2]; exact X'.warmed.alike) hp hb k1 k2 k3 (by rw [e1]; exact hce) hcv hcl T' rfl X'
    exact ⟨t2, st.trans a1, b1⟩
theorem vx_calll {S SX : Type} {post : Int64 → S → Prop} {px : SX → Prop} {B : S → State → Prop} {BX : String → SX → State → Prop} {AX : Nat → Prop} (hr : vx_Run p l e R s m args below meth c H locs cells slots mc ms (F0 m pc ls st0) rest (va_Ql post B A1 a) (vx_X px BX AX) free) (hS : va_S A0 H0 H locs) (hA : ∀ q, q < H.size → A1 q → A0 q) (hf : ∀ q, free q → A0 q) (hAX : ∀ q, q < H.size → AX q → A0 q)
    (kx : ∀ (E : String) (ce : Cell) (q9 : Addr) (u : SX) (t : State) (H1 : Heap) (locs1 : List Loc), t.heap = H1 → s.vm.Alike t.vm → px u → BX E u t → H.size ≤ H1.size → (∀ q : Nat, q < H.size → ¬ AX q → H1[q]? = H[q]?) → va_S A0 H0 H1 locs1 → H1[q9]? = some ce → ce.vm = .none → s.vm.findClass E = some ce.cls → vx_W p l e R s m args below meth c H1 locs1 (cells + mc) (slots + ms) Q (F0 m pc ls rest) q9)
    (kk : ∀ (r : Int64) (u : S) (t : State) (H1 : Heap) (locs1 : List Loc), t.heap = H1 → s.vm.Alike t.vm → post r u → B u t → H.size ≤ H1.size → (∀ q : Nat, q < H.size → ¬ A1 q → H1[q]? = H[q]?) → va_S A0 H0 H1 locs1 → W p l e R s m args below meth c H1 locs1 (cells + mc) (slots + ms) Q (F0 m (pc + 3) ls (.long r :: rest))) : W p l e R s m args below meth c H locs cells slots Q (F0 m pc ls st0) := by
  intro T hT X
  rcases hr T hT X with ⟨v, st₀, t, T', L, h0, X', hL, e1, e2, ⟨⟨r, u, hv, hp, hb⟩, hF⟩, st⟩ | ⟨q, st₀, t, T', L, E, ce, h0, X', hL, e1, e2, ⟨u, hp, hb, hF⟩, hce, hcv, hcl, st⟩
  · cases hv
    obtain ⟨k1, k2, k3⟩ := vx_keep h0 e1 hS hA hf hL hF
    obtain ⟨t2, a1, b1⟩ := kk r u t T'.heap (locs ++ L) e1.symm (by rw [← e2]; exact X'.warmed.alike) hp hb k1 k2 k3 T' rfl X'
    exact ⟨t2, st t2 a1, b1⟩
  · obtain ⟨k1, k2, k3⟩ := vx_keep h0 e1 hS hAX hf hL hF
    obtain ⟨t2, a1, b1⟩ := kx E ce q u t T'.heap (locs ++ L) e1.symm (by rw [← e2]; exact X'.warmed.alike) hp hb k1 k2 k3 (by rw [e1]; exact hce) hcv hcl T' rfl X'
    exact ⟨t2, st.trans a1, b1⟩
theorem vx_callf {S SX : Type} {post : UInt32 → S → Prop} {px : SX → Prop} {B : S → State → Prop} {BX : String → SX → State → Prop} {AX : Nat → Prop} (hr : vx_Run p l e R s m args below meth c H locs cells slots mc ms (F0 m pc ls st0) rest (va_Qf post B A1 a) (vx_X px BX AX) free) (hS : va_S A0 H0 H locs) (hA : ∀ q, q < H.size → A1 q → A0 q) (hf : ∀ q, free q → A0 q) (hAX : ∀ q, q < H.size → AX q → A0 q)
    (kx : ∀ (E : String) (ce : Cell) (q9 : Addr) (u : SX) (t : State) (H1 : Heap) (locs1 : List Loc), t.heap = H1 → s.vm.Alike t.vm → px u → BX E u t → H.size ≤ H1.size → (∀ q : Nat, q < H.size → ¬ AX q → H1[q]? = H[q]?) → va_S A0 H0 H1 locs1 → H1[q9]? = some ce → ce.vm = .none → s.vm.findClass E = some ce.cls → vx_W p l e R s m args below meth c H1 locs1 (cells + mc) (slots + ms) Q (F0 m pc ls rest) q9)
    (kk : ∀ (r : UInt32) (u : S) (t : State) (H1 : Heap) (locs1 : List Loc), t.heap = H1 → s.vm.Alike t.vm → post r u → B u t → H.size ≤ H1.size → (∀ q : Nat, q < H.size → ¬ A1 q → H1[q]? = H[q]?) → va_S A0 H0 H1 locs1 → W p l e R s m args below meth c H1 locs1 (cells + mc) (slots + ms) Q (F0 m (pc + 3) ls (.float r :: rest))) : W p l e R s m args below meth c H locs cells slots Q (F0 m pc ls st0) := by
  intro T hT X
  rcases hr T hT X with ⟨v, st₀, t, T', L, h0, X', hL, e1, e2, ⟨⟨r, u, hv, hp, hb⟩, hF⟩, st⟩ | ⟨q, st₀, t, T', L, E, ce, h0, X', hL, e1, e2, ⟨u, hp, hb, hF⟩, hce, hcv, hcl, st⟩
  · cases hv
    obtain ⟨k1, k2, k3⟩ := vx_keep h0 e1 hS hA hf hL hF
    obtain ⟨t2, a1, b1⟩ := kk r u t T'.heap (locs ++ L) e1.symm (by rw [← e2]; exact X'.warmed.alike) hp hb k1 k2 k3 T' rfl X'
    exact ⟨t2, st t2 a1, b1⟩
  · obtain ⟨k1, k2, k3⟩ := vx_keep h0 e1 hS hAX hf hL hF
    obtain ⟨t2, a1, b1⟩ := kx E ce q u t T'.heap (locs ++ L) e1.symm (by rw [← e2]; exact X'.warmed.alike) hp hb k1 k2 k3 (by rw [e1]; exact hce) hcv hcl T' rfl X'
    exact ⟨t2, st.trans a1, b1⟩
theorem vx_calld {S SX : Type} {post : UInt64 → S → Prop} {px : SX → Prop} {B : S → State → Prop} {BX : String → SX → State → Prop} {AX : Nat → Prop} (hr : vx_Run p l e R s m args below meth c H locs cells slots mc ms (F0 m pc ls st0) rest (va_Qd post B A1 a) (vx_X px BX AX) free) (hS : va_S A0 H0 H locs) (hA : ∀ q, q < H.size → A1 q → A0 q) (hf : ∀ q, free q → A0 q) (hAX : ∀ q, q < H.size → AX q → A0 q)
    (kx : ∀ (E : String) (ce : Cell) (q9 : Addr) (u : SX) (t : State) (H1 : Heap) (locs1 : List Loc), t.heap = H1 → s.vm.Alike t.vm → px u → BX E u t → H.size ≤ H1.size → (∀ q : Nat, q < H.size → ¬ AX q → H1[q]? = H[q]?) → va_S A0 H0 H1 locs1 → H1[q9]? = some ce → ce.vm = .none → s.vm.findClass E = some ce.cls → vx_W p l e R s m args below meth c H1 locs1 (cells + mc) (slots + ms) Q (F0 m pc ls rest) q9)
    (kk : ∀ (r : UInt64) (u : S) (t : State) (H1 : Heap) (locs1 : List Loc), t.heap = H1 → s.vm.Alike t.vm → post r u → B u t → H.size ≤ H1.size → (∀ q : Nat, q < H.size → ¬ A1 q → H1[q]? = H[q]?) → va_S A0 H0 H1 locs1 → W p l e R s m args below meth c H1 locs1 (cells + mc) (slots + ms) Q (F0 m (pc + 3) ls (.double r :: rest))) : W p l e R s m args below meth c H locs cells slots Q (F0 m pc ls st0) := by
  intro T hT X
  rcases hr T hT X with ⟨v, st₀, t, T', L, h0, X', hL, e1, e2, ⟨⟨r, u, hv, hp, hb⟩, hF⟩, st⟩ | ⟨q, st₀, t, T', L, E, ce, h0, X', hL, e1, e2, ⟨u, hp, hb, hF⟩, hce, hcv, hcl, st⟩
  · cases hv
    obtain ⟨k1, k2, k3⟩ := vx_keep h0 e1 hS hA hf hL hF
    obtain ⟨t2, a1, b1⟩ := kk r u t T'.heap (locs ++ L) e1.symm (by rw [← e2]; exact X'.warmed.alike) hp hb k1 k2 k3 T' rfl X'
    exact ⟨t2, st t2 a1, b1⟩
  · obtain ⟨k1, k2, k3⟩ := vx_keep h0 e1 hS hAX hf hL hF
    obtain ⟨t2, a1, b1⟩ := kx E ce q u t T'.heap (locs ++ L) e1.symm (by rw [← e2]; exact X'.warmed.alike) hp hb k1 k2 k3 (by rw [e1]; exact hce) hcv hcl T' rfl X'
    exact ⟨t2, st.trans a1, b1⟩
theorem vx_callv {S SX : Type} {post : S → Prop} {px : SX → Prop} {B : S → State → Prop} {BX : String → SX → State → Prop} {AX : Nat → Prop} (hr : vx_Run p l e R s m args below meth c H locs cells slots mc ms (F0 m pc ls st0) rest (va_Qv post B A1 a) (vx_X px BX AX) free) (hS : va_S A0 H0 H locs) (hA : ∀ q, q < H.size → A1 q → A0 q) (hf : ∀ q, free q → A0 q) (hAX : ∀ q, q < H.size → AX q → A0 q)
    (kx : ∀ (E : String) (ce : Cell) (q9 : Addr) (u : SX) (t : State) (H1 : Heap) (locs1 : List Loc), t.heap = H1 → s.vm.Alike t.vm → px u → BX E u t → H.size ≤ H1.size → (∀ q : Nat, q < H.size → ¬ AX q → H1[q]? = H[q]?) → va_S A0 H0 H1 locs1 → H1[q9]? = some ce → ce.vm = .none → s.vm.findClass E = some ce.cls → vx_W p l e R s m args below meth c H1 locs1 (cells + mc) (slots + ms) Q (F0 m pc ls rest) q9)
    (kk : ∀ (u : S) (t : State) (H1 : Heap) (locs1 : List Loc), t.heap = H1 → s.vm.Alike t.vm → post u → B u t → H.size ≤ H1.size → (∀ q : Nat, q < H.size → ¬ A1 q → H1[q]? = H[q]?) → va_S A0 H0 H1 locs1 → W p l e R s m args below meth c H1 locs1 (cells + mc) (slots + ms) Q (F0 m (pc + 3) ls (rest))) : W p l e R s m args below meth c H locs cells slots Q (F0 m pc ls st0) := by
  intro T hT X
  rcases hr T hT X with ⟨v, st₀, t, T', L, h0, X', hL, e1, e2, ⟨⟨u, hv, hp, hb⟩, hF⟩, st⟩ | ⟨q, st₀, t, T', L, E, ce, h0, X', hL, e1, e2, ⟨u, hp, hb, hF⟩, hce, hcv, hcl, st⟩
  · cases hv
    obtain ⟨k1, k2, k3⟩ := vx_keep h0 e1 hS hA hf hL hF
    obtain ⟨t2, a1, b1⟩ := kk u t T'.heap (locs ++ L) e1.symm (by rw [← e2]; exact X'.warmed.alike) hp hb k1 k2 k3 T' rfl X'
    exact ⟨t2, st t2 a1, b1⟩
  · obtain ⟨k1, k2, k3⟩ := vx_keep h0 e1 hS hAX hf hL hF
    obtain ⟨t2, a1, b1⟩ := kx E ce q u t T'.heap (locs ++ L) e1.symm (by rw [← e2]; exact X'.warmed.alike) hp hb k1 k2 k3 (by rw [e1]; exact hce) hcv hcl T' rfl X'
    exact ⟨t2, st.trans a1, b1⟩
/-- caught by the row x of this method's table; the rows ahead don't take it -/
theorem vx_catch {own name : String} {E : String} {ce : Cell} {q : Addr} (hown : s.vm.findClass own = some m.cls) (pre : List ExceptionTableEntry) (x : ExceptionTableEntry) (suf : List ExceptionTableEntry) (hsplit : c.exceptionTable.toList = pre ++ x :: suf)
    (hpass : ∀ z ∈ pre, covers z pc = false ∨ (z.catchType ≠ 0 ∧ ∃ nm : String, (Cond.classLink own z.catchType nm).before args s = true ∧ va_Nc E nm s)) (hx : covers x pc = true) (h0 : x.catchType ≠ 0)
    (hlink : (Cond.classLink own x.catchType name).before args s = true) (hcast : (Cond.castable E name).before args s = true) (hcell : H[q]? = some ce) (hv : ce.vm = .none) (hcl : s.vm.findClass E = some ce.cls)
    (kk : W p l e R s m args below meth c H locs cells slots Q (F0 m x.handlerPc ls [.ref q])) : vx_W p l e R s m args below meth c H locs cells slots Q (F0 m pc ls rest) q := by
  intro T hT X
  have hpl : e.platform.magicAccessors = ({} : Platform).magicAccessors := by rw [X.admits.platform]
  obtain ⟨c3, c4, hc3, hc4, hasg⟩ := Cond.castable_spec hcast
  cases Option.some.inj (hc3.symm.trans hcl)
  obtain ⟨c5, hc5, hcl5⟩ := Cond.classLink_spec hown hlink e.platform hpl
  cases Option.some.inj (hc4.symm.trans hc5)
  obtain ⟨vm', X', st⟩ := X.thenCaughtThrough q (g := F0 m pc ls rest) rfl (Steps.refl _) (by rw [hT]; exact hcell) (by rw [hv]; rfl) (by obtain ⟨k9, h9, -⟩ := Vm.findClass_spec hcl; exact ⟨k9, h9⟩) pre x suf hsplit
    (fun z hz => by
      rcases hpass z hz with h | ⟨hz0, nm, hl1, hn1⟩
      · exact Or.inl h
      · obtain ⟨c6, hc6, hcl6⟩ := Cond.classLink_spec hown hl1 e.platform hpl
        obtain ⟨a8, b8, h1, h2, h3⟩ := hn1
        cases Option.some.inj (h1.symm.trans hcl)
        cases Option.some.inj (h2.symm.trans hc6)
        exact Or.inr ⟨hz0, _, hcl6, h3⟩) hx (Or.inr ⟨h0, c4, hcl5, hasg⟩)
  obtain ⟨t, a1, b1⟩ := kk (T.setVm vm') hT X'
  exact ⟨t, st.trans a1, b1⟩
end Rows
section Ends
variable {p : Program} {l : Launch} {e : Env} {R : Room} {s : State} {m : MethodId} {args : Array Value} {below : List Frame} {meth : Method} {c : Code} {H : Heap} {locs : List Loc} {cells slots : Nat} {Q : State → Prop}
variable {mc ms : Nat} {free : Addr → Prop} {A0 A1 : Nat → Prop} {H0 : Heap} {a : Array Value} {ls : Array Slot} {st0 rest : List Value}
variable {Qc : Array Value → State → Outcome → State → Prop} {XC : String → State → State → Prop}
/-- what a body that may throw owes at its end -/
def vx_MQ (below : List Frame) (Qc : Array Value → State → Outcome → State → Prop) (XC : String → State → State → Prop) (a : Array Value) (s : State) (mc ms : Nat) (free : Addr → Prop) : State → Prop := fun t =>
  ∃ o, t.status = .running ∧ Ended t below o ∧ vx_Q Qc XC mc ms free a s o t
theorem vx_ret {g : JFrame} {mc ms : Nat} (k : W p l e R s m args below meth c H locs cells slots (MQ below Qc args s mc ms free) g) : W p l e R s m args below meth c H locs cells slots (vx_MQ below Qc XC args s mc ms free) g := by
  intro T hT X
  obtain ⟨t, a1, o, b1, b2, b3, b4⟩ := k T hT X
  exact ⟨t, a1, o, b1, b2, Or.inl ⟨b3, b4⟩⟩
/-- not caught here: it goes on to the caller -/
theorem vx_widen {g : JFrame} {q : Addr} {k n : Nat} (h1 : cells ≤ k) (h2 : slots ≤ n) (kk : vx_W p l e R s m args below meth c H locs k n Q g q) : vx_W p l e R s m args below meth c H locs cells slots Q g q := fun T hT X => kk T hT (stand_widen X h1 h2)
theorem vx_out {pc : Nat} {E : String} {ce : Cell} {q : Addr} {mc ms : Nat} (hout : ∀ x ∈ c.exceptionTable.toList, covers x pc = false) (hlocks : meth.locks = false) (hcell : H[q]? = some ce) (hv : ce.vm = .none) (hcl : s.vm.findClass E = some ce.cls)
    (hx : ∀ t : State, t.heap = H → s.vm.Alike t.vm → XC E s t) (hf : ∀ z ∈ locs, free z.base) (hc : cells ≤ mc) (hs : slots ≤ ms) :
    vx_W p l e R s m args below meth c H locs cells slots (vx_MQ below Qc XC args s mc ms free) (F0 m pc ls rest) q := by
  intro T hT X
  obtain ⟨st1, hrun, hend, hW, hsm⟩ := X.leaveThrown q (g := F0 m pc ls rest) rfl rfl rfl hout hlocks
  have hcell9 : (T.setFrames (.throwing q :: below)).heap[q]? = some ce := by
    show T.heap[q]? = some ce
    rw [hT]; exact hcell
  exact ⟨_, st1, .threw q, hrun, hend, Or.inr ⟨q, rfl, E, ce, locs, hx _ hT hW.alike, hcell9, hv, hcl, hW, hsm.mono hc hs, hf⟩⟩
theorem vx_frame {U : State} {k n : Nat} (h : s.sameButNew ({ U with vm := s.vm } : State) locs k n) : s.heap.size ≤ U.heap.size ∧ ∀ q : Nat, q < s.heap.size → (∀ z ∈ locs, z.base ≠ q) → U.heap[q]? = s.heap[q]? := by
  obtain ⟨-, h2, -, -, -, h6⟩ := h
  refine ⟨h2, fun q hq hz => ?_⟩
  obtain ⟨c9, e1, e2, e3, e4⟩ := h6 q _ (Array.getElem?_eq_getElem hq)
  have hs : c9.slots = (s.heap[q]).slots := Array.ext_getElem? fun i => e4 i fun hm => hz _ hm rfl
  have h9 : c9 = s.heap[q] := by
    rw [hs] at e2
    exact e2
  have e5 : U.heap[q]? = some c9 := e1
  rw [e5, h9, Array.getElem?_eq_getElem hq]
/-- the words of a throw but the four that speak of the heap -/
def vx_no (w : Cond) : Bool := decide (w ≠ .isRef (.static Bundle.tN "UNASSIGNED_STACK" Bundle.steD)) && decide (w ≠ .isRef (.static Bundle.tN "SUPPRESSED_SENTINEL" Bundle.listD)) && decide (w ≠ .laysStatic Bundle.tN "UNASSIGNED_STACK" Bundle.steD) && decide (w ≠ .laysStatic Bundle.tN "SUPPRESSED_SENTINEL" Bundle.listD)
def vx_at0 (own : String) (ic : Nat) (X : String) (names : List String) : List Cond := (Bundle.ownAtoms0 own ic X names).filter vx_no
def vx_atS (own : String) (ic : Nat) (X : String) (names : List String) : List Cond := (Bundle.ownAtoms own ic X names).filter vx_no
/-- a word that the tables alone decide, or a good one -/
def vx_ot (w : Cond) : Bool := w.onTables || goodWord w
theorem vx_ot_at {args a' : Array Value} {s U : State} {w : Cond} (hW : s.WarmedH U.vm) (hvm : s.vm = U.vm) (hg : vx_ot w = true) (h : w.before args s = true) : w.before a' U = true := by
  simp only [vx_ot, Bool.or_eq_true] at hg
  rcases hg with hg | hg
  · exact va_tabs hg hvm h
  · exact word_at hW (good_of_word hg) h
/-- a list's words: the good ones out of the method's own list, the others by premises of their own -/
theorem vx_hat {args : Array Value} {s : State} {L B : List Cond} (h1 : ∀ w ∈ L.filter goodWord, w.before args s = true) (h2 : ∀ w ∈ L.filter (fun w => !goodWord w), w ∈ B) (h3 : ∀ w ∈ B, w.before args s = true) : ∀ w ∈ L, w.before args s = true := by
  intro w hw
  by_cases g : goodWord w = true
  · exact h1 w (List.mem_filter.mpr ⟨hw, g⟩)
  · refine h3 w (h2 w (List.mem_filter.mpr ⟨hw, ?_⟩))
    show (!goodWord w) = true
    cases hgw : goodWord w
    · rfl
    · exact absurd hgw g
theorem vx_c {args : Array Value} {s : State} {w : Cond} {B : List Cond} (h : w.before args s = true) (t : ∀ w ∈ B, w.before args s = true) : ∀ w' ∈ w :: B, w'.before args s = true := fun w' h' => (List.mem_cons.mp h').elim (fun e => by rw [e]; exact h) (t w')
theorem vx_n {args : Array Value} {s : State} : ∀ w ∈ ([] : List Cond), w.before args s = true := fun _ h => nomatch h
theorem vx_own {args : Array Value} {s : State} {L : List Cond} (h1 : ∀ w ∈ L.filter vx_no, w.before args s = true)
    (hU : (Cond.isRef (.static Bundle.tN "UNASSIGNED_STACK" Bundle.steD)).before args s = true) (hN : (Cond.isRef (.static Bundle.tN "SUPPRESSED_SENTINEL" Bundle.listD)).before args s = true)
    (lU : (Cond.laysStatic Bundle.tN "UNASSIGNED_STACK" Bundle.steD).before args s = true) (lN : (Cond.laysStatic Bundle.tN "SUPPRESSED_SENTINEL" Bundle.listD).before args s = true) : ∀ w ∈ L, w.before args s = true := by
  intro w hw
  by_cases e1 : w = .isRef (.static Bundle.tN "UNASSIGNED_STACK" Bundle.steD)
  · rw [e1]; exact hU
  · by_cases e2 : w = .isRef (.static Bundle.tN "SUPPRESSED_SENTINEL" Bundle.listD)
    · rw [e2]; exact hN
    · by_cases e3 : w = .laysStatic Bundle.tN "UNASSIGNED_STACK" Bundle.steD
      · rw [e3]; exact lU
      · by_cases e4 : w = .laysStatic Bundle.tN "SUPPRESSED_SENTINEL" Bundle.listD
        · rw [e4]; exact lN
        · exact h1 w (List.mem_filter.mpr ⟨hw, by unfold vx_no; rw [decide_eq_true e1, decide_eq_true e2, decide_eq_true e3, decide_eq_true e4]; rfl⟩)
/-- where a static field lies, its class's statics cell in H -/
def vx_L (C n d : String) (A : Nat → Prop) (U : State) (H : Heap) : Prop := ∃ (c : ClassId) (k : Class) (i : Nat) (f : Field) (a : Nat) (cell : Cell), U.vm.findClass C = some c ∧ U.fieldFound? C n d = some (c, k, i, f) ∧ f.isStatic = true ∧ k.statics = some a ∧ H[a]? = some cell ∧ cell.vm.isStatics = true ∧ cell.cls = c ∧ f.slot < cell.slots.size ∧ k.staticTypes[f.slot]? = some f.type ∧ ¬ A a
theorem vx_L.moved {C n d : String} {A : Nat → Prop} {u U : State} {H : Heap} (hvm : u.vm.Alike U.vm) (h : vx_L C n d A u H) : vx_L C n d A U H := by
  obtain ⟨c, k, i, f, a, cell, h1, h2, h3, h4, h5, h6, h7, h8, h9, h10⟩ := h
  obtain ⟨k', hi', he⟩ := State.fieldFound?_setVm hvm h2
  exact ⟨c, k', i, f, a, cell, by rw [hvm.findClass]; exact h1, hi', h3, by rw [he]; exact h4, h5, h6, h7, h8, by rw [he]; exact h9, h10⟩
theorem vx_L.kept {C n d : String} {A : Nat → Prop} {U : State} {H H1 : Heap} (h : vx_L C n d A U H) (hq : ∀ a : Nat, a < H.size → ¬ A a → H1[a]? = H[a]?) : vx_L C n d A U H1 := by
  obtain ⟨c, k, i, f, a, cell, h1, h2, h3, h4, h5, h6, h7, h8, h9, h10⟩ := h
  exact ⟨c, k, i, f, a, cell, h1, h2, h3, h4, by rw [hq a (Array.getElem?_eq_some_iff.mp h5).1 h10]; exact h5, h6, h7, h8, h9, h10⟩
theorem vx_L.narrow {C n d : String} {A B : Nat → Prop} {U : State} {H : Heap} (h : vx_L C n d A U H) (hAB : ∀ q, B q → A q) : vx_L C n d B U H := by
  obtain ⟨c, k, i, f, a, cell, h1, h2, h3, h4, h5, h6, h7, h8, h9, h10⟩ := h
  exact ⟨c, k, i, f, a, cell, h1, h2, h3, h4, h5, h6, h7, h8, h9, fun z => h10 (hAB _ z)⟩
theorem vx_L.word {C n d : String} {A : Nat → Prop} {s : State} {args : Array Value} (h : vx_L C n d A s s.heap) : (Cond.laysStatic C n d).before args s = true := by
  obtain ⟨c, k, i, f, a, cell, h1, h2, h3, h4, h5, h6, h7, h8, h9, -⟩ := h
  show (Cond.laysStatic C n d).holds args s none s [] = true
  exact Cond.laysStatic_of h1 h2 h3 h4 h5 h6 h7 h8 h9
/-- .. and what it holds: null or some reference -/
def vx_Zq (C n d : String) (A : Nat → Prop) (U : State) (H : Heap) : Prop := va_Zq C n d A U H ∧ vx_L C n d A U H
theorem vx_Zq.moved {C n d : String} {A : Nat → Prop} {u U : State} {H : Heap} (hvm : u.vm.Alike U.vm) (h : vx_Zq C n d A u H) : vx_Zq C n d A U H := ⟨va_Zq.moved hvm h.1, vx_L.moved hvm h.2⟩
theorem vx_Zq.kept {C n d : String} {A : Nat → Prop} {U : State} {H H1 : Heap} (h : vx_Zq C n d A U H) (hq : ∀ a : Nat, a < H.size → ¬ A a → H1[a]? = H[a]?) : vx_Zq C n d A U H1 := ⟨va_Zq.kept h.1 hq, vx_L.kept h.2 hq⟩
theorem vx_Zq.narrow {C n d : String} {A B : Nat → Prop} {U : State} {H : Heap} (h : vx_Zq C n d A U H) (hAB : ∀ q, B q → A q) : vx_Zq C n d B U H := ⟨va_Zq.narrow h.1 hAB, vx_L.narrow h.2 hAB⟩
theorem vx_Zqof {args : Array Value} {s : State} {C n d : String} {A : Nat → Prop} (hl : (Cond.laysStatic C n d).before args s = true) (hini : (Cond.initialized C).before args s = true) (h : (Cond.isRef (.static C n d)).before args s = true) (hA : ∀ a : Nat, a < s.heap.size → ¬ A a) : vx_Zq C n d A s s.heap := by
  refine ⟨va_Zqof hl hini h hA, ?_⟩
  obtain ⟨c, k, i, f, a, cell, h1, h2, h3, h4, h5, h6, h7, h8, h9⟩ := Cond.laysStatic_spec hl
  exact ⟨c, k, i, f, a, cell, h1, h2, h3, h4, h5, h6, h7, h8, h9, hA a (Array.getElem?_eq_some_iff.mp h5).1⟩
theorem vx_isRef {C n d : String} {v : Value} {A : Nat → Prop} {s : State} {args : Array Value} (h : va_Z C n d v A s s.heap) (hv : v.isRef = true) : (Cond.isRef (.static C n d)).before args s = true := by
  obtain ⟨cf, kf, fi, f, a, cell, h1, h2, h3, h4, h5, h6, h7, -⟩ := h
  have he : (Term.static C n d).eval args s none [] s = some v := by
    simp [Term.eval, State.fieldNamed?, h1, h2, h4, h5, h6, h7]
  simp only [Cond.before, Cond.holds, Cond.value, he]
  cases v <;> simp_all [Value.isRef]
theorem vx_isRefq {C n d : String} {A : Nat → Prop} {s : State} {args : Array Value} (h : va_Zq C n d A s s.heap) : (Cond.isRef (.static C n d)).before args s = true := by
  rcases h with h | ⟨t, h⟩
  · exact vx_isRef h rfl
  · exact vx_isRef h rfl
/-- the same frame, seen from here: as if the method were called anew in this heap -/
theorem vx_rebase {T : State} (X : Stand p l e R s m args below meth c T locs cells slots) {R' : Room} (hf : R'.frames ≤ R.frames) (hl : R'.locals ≤ R.locals) (hc : cells + R'.cells ≤ R.cells) (hs : slots + R'.slots ≤ R.slots) :
    Stand p l e R' ((T.setVm s.vm).setFrames (.invoking m args :: below)) m args below meth c T [] 0 0 := by
  have htop : (T.setVm s.vm).topJava?.isSome := X.here.top
  have hF : ((T.setVm s.vm).setFrames (.invoking m args :: below)).frames = .invoking m args :: below := State.frames_setFrames _ (State.cur_lt_of_top htop)
  obtain ⟨g₀, hg0⟩ := Option.isSome_iff_exists.mp htop
  obtain ⟨r, hr⟩ := State.topJava?_eq_some.mp hg0
  have hl9 : e.platform.stackLimits (T.setVm s.vm).me = e.platform.stackLimits s.me := X.limits
  have hb9 : (T.setVm s.vm).me.stackBytes = s.me.stackBytes := X.bytes
  refine ⟨X.admits, X.cas, X.clock, hF, ?_, X.hears, X.method, X.code, X.here, X.tail, X.warmed, ?_, ?_, ?_⟩
  · have h := X.room
    have hU : ((T.setVm s.vm).setFrames (.invoking m args :: below)).localsInUse = s.localsInUse := by
      rw [State.localsInUse_invoking hF (meth := meth) (c := c) X.method X.code, State.localsInUse_invoking X.frames X.method X.code]
    simp only [State.hasRoom, Bool.and_eq_true, decide_eq_true_eq] at h ⊢
    obtain ⟨⟨⟨⟨h1, h2, h3, h4, h5, h6⟩, h7⟩, h8⟩, h9⟩ := h
    rw [X.frames, List.length_cons] at h2 h3
    have q1 := X.heapSize
    have q2 := X.used
    simp only [hF, hU, List.length_cons, State.stackLimits_setFrames, State.stackBytes_setFrames, hl9, hb9]
    refine ⟨⟨⟨⟨by omega, by omega, by omega, by omega, by omega, h6⟩, ?_⟩, ?_⟩, X.book⟩
    · show T.heap.size + R'.cells ≤ e.platform.maxCells
      omega
    · show T.slotsUsed + R'.slots ≤ e.platform.maxSlots
      omega
  · rw [State.stackLimits_setFrames]; rfl
  · rw [State.stackBytes_setFrames]; rfl
  · refine ⟨?_, Nat.le_refl _, Nat.le_refl _, ?_, ?_, fun a c9 h9 => ⟨c9, h9, rfl, rfl, fun _ _ => rfl⟩⟩
    · obtain ⟨t, ht, -⟩ := State.frames_cons hr
      show T.setVm s.vm = { ((T.setVm s.vm).setFrames (.invoking m args :: below)).setFrames (T.setVm s.vm).frames with heap := T.heap, slotsUsed := T.slotsUsed }
      rw [State.setFrames_setFrames, State.setFrames_self ht]
      rfl
    · show T.slotsUsed = T.slotsUsed + ((T.heap.toList.drop T.heap.size).map (·.slots.size)).sum
      rw [List.drop_eq_nil_of_le (Nat.le_of_eq Array.length_toList)]
      rfl
    · show ((T.heap.toList.drop T.heap.size).map (·.slots.size)).sum ≤ 0
      rw [List.drop_eq_nil_of_le (Nat.le_of_eq Array.length_toList)]
      exact Nat.le_refl _
/-- 'throw new E()': new; dup; invokespecial; athrow -/
theorem vx_throw0 {cc : ByteArray} {pc : Nat} (hexec : p.tables.exec = Jvm.exec) (hb : c.code = cc) (hl : l.stackTraces = false) {own cls : String} {names : List String} {ik ic mc ms : Nat} {A : Nat → Prop}
    (hown : s.vm.findClass own = some m.cls) (hcls : Bundle.fit cls = true) (hnames : ∀ n ∈ names, Bundle.fit n = true)
    (hk : (Cond.classLink own ik cls).before args s = true) (hini : (Cond.initialized cls).before args s = true) (hat : ∀ w ∈ vx_at0 own ic cls names, w.before args s = true)
    (hgood : ∀ w ∈ Cond.classLink own ik cls :: Cond.initialized cls :: vx_at0 own ic cls names, vx_ot w = true)
    (hU : vx_Zq Bundle.tN "UNASSIGNED_STACK" Bundle.steD A s s.heap) (hN : vx_Zq Bundle.tN "SUPPRESSED_SENTINEL" Bundle.listD A s s.heap) (hS : va_S A s.heap H locs) (hsize : ls.size = c.maxLocals)
    (d0 : decode cc pc = .ok (.new ik, 3)) (d3 : decode cc (pc + 3) = .ok (.dup, 1)) (d4 : decode cc (pc + 4) = .ok (.invokespecial ic, 3)) (d7 : decode cc (pc + 7) = .ok (.athrow, 1))
    (hout : ∀ x ∈ c.exceptionTable.toList, covers x (pc + 7) = false)
    (hRframes : names.length + 3 < R.frames) (hRlocals : (rest.map fun v => v.category).sum + (13 * (names.length + 1) + 42) ≤ R.locals) (hRcells : cells + 1 ≤ R.cells) (hRslots : slots + 6 ≤ R.slots) (hlocks : meth.locks = false)
    (hx : ∀ t : State, s.vm.Alike t.vm → H.size ≤ t.heap.size → (∀ q : Nat, q < H.size → t.heap[q]? = H[q]?) → XC cls s t)
    (hf : ∀ z ∈ locs, free z.base) (hc : cells + 1 ≤ mc) (hs : slots + 6 ≤ ms) :
    W p l e R s m args below meth c H locs cells slots (vx_MQ below Qc XC args s mc ms free) (F0 m pc ls rest) := by
  intro T hT X
  have htr : e.platform.stackTraces = false := (show e.platform.stackTraces = l.stackTraces by rw [X.admits.platform]).trans hl
  have Y := vx_rebase X (R' := { frames := R.frames, locals := R.locals, cells := 1, slots := 6 }) (Nat.le_refl _) (Nat.le_refl _) hRcells hRslots
  obtain ⟨s', hA⟩ : ∃ z, z = (T.setVm s.vm).setFrames (.invoking m args :: below) := ⟨_, rfl⟩
  rw [← hA] at Y
  have hvm : s'.vm = s.vm := by rw [hA]; rfl
  have hhp : s'.heap = H := by rw [hA]; exact hT
  have hW0 : s.WarmedH s'.vm := by rw [hvm]; exact State.WarmedH.refl s
  have hat' : ∀ w ∈ vx_at0 own ic cls names, w.before args s' = true := fun w hw => vx_ot_at hW0 hvm.symm (hgood w (List.mem_cons_of_mem _ (List.mem_cons_of_mem _ hw))) (hat w hw)
  have hk' : (Cond.classLink own ik cls).before args s' = true := vx_ot_at hW0 hvm.symm (hgood _ List.mem_cons_self) hk
  have hini' : (Cond.initialized cls).before args s' = true := vx_ot_at hW0 hvm.symm (hgood _ (List.mem_cons_of_mem _ List.mem_cons_self)) hini
  have hU' : vx_Zq Bundle.tN "UNASSIGNED_STACK" Bundle.steD A s' s'.heap := by rw [hhp]; exact vx_Zq.moved hW0.alike (hU.kept hS.2.1)
  have hN' : vx_Zq Bundle.tN "SUPPRESSED_SENTINEL" Bundle.listD A s' s'.heap := by rw [hhp]; exact vx_Zq.moved hW0.alike (hN.kept hS.2.1)
  have h : ∀ w ∈ Bundle.ownAtoms0 own ic cls names, w.before args s' = true := vx_own hat' (vx_isRefq hU'.1) (vx_isRefq hN'.1) hU'.2.word hN'.2.word
  have hown' : s'.vm.findClass own = some m.cls := by rw [hvm]; exact hown
  have hins : (Cond.instantiable cls 6).before args s' = true := h _ (by simp [Bundle.ownAtoms0])
  obtain ⟨vm₁, cX, kX, hfX, hkX, -, -, X₁, st1⟩ := Y.newCold hexec (own := own) (C := cls) (index := ik) (n := 6) hown' hk' hins hini'
    (g := F0 m pc ls rest) rfl (by rw [hb]; exact d0) (Nat.le_refl _) (Nat.le_refl _)
  generalize hT1 : (T.setVm vm₁).pushCell { cls := cX, slots := kX.instanceTypes.map defaultValue, vm := .none } = T1 at X₁ st1
  have hcat : (Value.ref T.heap.size).category = 1 := rfl
  have hcellA : T1.heap[T.heap.size]? = some (freshCell cX kX) := by rw [← hT1]; exact State.heap_pushCell_size _ _
  have d3' : decode c.code (pc + 3) = .ok (.dup, 1) := by rw [hb]; exact d3
  obtain ⟨U, hsteps, hrun, hend, hW, hsame, ce, hce, hO⟩ := X₁.ctorThrow0 hexec htr (own := own) (cls := cls) (names := names) (ic := ic) hown' hcls hnames h (fun x hx => nomatch hx) hfX hkX hcellA (by rw [hhp, hT]; exact Nat.le_refl _)
    (g := { method := m, pc := pc + 4, locals := ls, stack := .ref T.heap.size :: .ref T.heap.size :: rest, locked := none }) rfl hsize rfl rfl (rest := rest) rfl
    (by rw [hb]; exact d4) (by rw [hb]; exact d7) hout hRframes (by simp only [List.map_cons, List.sum_cons, hcat]; omega) hlocks
  obtain ⟨f1, f2⟩ := vx_frame hsame
  rw [hhp] at f1 f2
  have hWs : s.WarmedH U.vm := State.WarmedH.trans hW0 hW
  have hcl : s.vm.findClass cls = some ce.cls := by
    have h9 := hO.cls
    rw [hvm] at h9
    exact h9
  have hall : s.sameButNew ({ U with vm := s.vm } : State) locs mc ms := by
    subst hA
    obtain ⟨e1, e2⟩ := hsame
    rw [State.setFrames_setFrames] at e1
    have h2 : (T.setVm s.vm).sameButNew ({ U with vm := s.vm } : State) [] (0 + 1) (0 + 6) := ⟨e1, e2⟩
    have h3 := X.same.trans h2
    rw [List.append_nil] at h3
    exact h3.mono hc hs
  refine ⟨U, ?_, .threw T.heap.size, hrun, hend, Or.inr ⟨T.heap.size, rfl, cls, ce, locs, hx U hWs.alike f1 (fun q hq => f2 q hq (fun z hz => nomatch hz)), hce, hO.vm, hcl, hWs, hall, hf⟩⟩
  refine st1 _ ?_
  show Steps p.tables e below (T1.setTop { method := m, pc := pc + 3, locals := ls, stack := .ref T.heap.size :: rest, locked := none }) _
  jvm_step X₁.here [X₁.here.top, hexec, d3', Value.category]
  exact hsteps
/-- 'throw new E("text")': new; dup; ldc; invokespecial; athrow -/
theorem vx_throwS {cc : ByteArray} {pc : Nat} (hexec : p.tables.exec = Jvm.exec) (hb : c.code = cc) (hl : l.stackTraces = false) {own cls text : String} {names : List String} {ik is ic mc ms sa : Nat} {A : Nat → Prop}
    (hown : s.vm.findClass own = some m.cls) (hcls : Bundle.fit cls = true) (hnames : ∀ n ∈ names, Bundle.fit n = true)
    (hk : (Cond.classLink own ik cls).before args s = true) (hini : (Cond.initialized cls).before args s = true) (hstr : vk_R own is text sa s) (hat : ∀ w ∈ vx_atS own ic cls names, w.before args s = true)
    (hgood : ∀ w ∈ Cond.classLink own ik cls :: Cond.initialized cls :: vx_atS own ic cls names, vx_ot w = true)
    (hU : vx_Zq Bundle.tN "UNASSIGNED_STACK" Bundle.steD A s s.heap) (hN : vx_Zq Bundle.tN "SUPPRESSED_SENTINEL" Bundle.listD A s s.heap) (hS : va_S A s.heap H locs) (hsize : ls.size = c.maxLocals)
    (d0 : decode cc pc = .ok (.new ik, 3)) (d3 : decode cc (pc + 3) = .ok (.dup, 1)) (d4 : decode cc (pc + 4) = .ok (.ldc is, 2)) (d6 : decode cc (pc + 6) = .ok (.invokespecial ic, 3)) (d9 : decode cc (pc + 9) = .ok (.athrow, 1))
    (hout : ∀ x ∈ c.exceptionTable.toList, covers x (pc + 9) = false)
    (hRframes : names.length + 3 < R.frames) (hRlocals : (rest.map fun v => v.category).sum + (13 * (names.length + 1) + 43) ≤ R.locals) (hRcells : cells + 1 ≤ R.cells) (hRslots : slots + 6 ≤ R.slots) (hlocks : meth.locks = false)
    (hx : ∀ t : State, s.vm.Alike t.vm → H.size ≤ t.heap.size → (∀ q : Nat, q < H.size → t.heap[q]? = H[q]?) → XC cls s t)
    (hf : ∀ z ∈ locs, free z.base) (hc : cells + 1 ≤ mc) (hs : slots + 6 ≤ ms) :
    W p l e R s m args below meth c H locs cells slots (vx_MQ below Qc XC args s mc ms free) (F0 m pc ls rest) := by
  intro T hT X
  have htr : e.platform.stackTraces = false := (show e.platform.stackTraces = l.stackTraces by rw [X.admits.platform]).trans hl
  have Y := vx_rebase X (R' := { frames := R.frames, locals := R.locals, cells := 1, slots := 6 }) (Nat.le_refl _) (Nat.le_refl _) hRcells hRslots
  obtain ⟨s', hA⟩ : ∃ z, z = (T.setVm s.vm).setFrames (.invoking m args :: below) := ⟨_, rfl⟩
  rw [← hA] at Y
  have hvm : s'.vm = s.vm := by rw [hA]; rfl
  have hhp : s'.heap = H := by rw [hA]; exact hT
  have hW0 : s.WarmedH s'.vm := by rw [hvm]; exact State.WarmedH.refl s
  have hat' : ∀ w ∈ vx_atS own ic cls names, w.before args s' = true := fun w hw => vx_ot_at hW0 hvm.symm (hgood w (List.mem_cons_of_mem _ (List.mem_cons_of_mem _ hw))) (hat w hw)
  have hk' : (Cond.classLink own ik cls).before args s' = true := vx_ot_at hW0 hvm.symm (hgood _ List.mem_cons_self) hk
  have hini' : (Cond.initialized cls).before args s' = true := vx_ot_at hW0 hvm.symm (hgood _ (List.mem_cons_of_mem _ List.mem_cons_self)) hini
  have hU' : vx_Zq Bundle.tN "UNASSIGNED_STACK" Bundle.steD A s' s'.heap := by rw [hhp]; exact vx_Zq.moved hW0.alike (hU.kept hS.2.1)
  have hN' : vx_Zq Bundle.tN "SUPPRESSED_SENTINEL" Bundle.listD A s' s'.heap := by rw [hhp]; exact vx_Zq.moved hW0.alike (hN.kept hS.2.1)
  have h : ∀ w ∈ Bundle.ownAtoms own ic cls names, w.before args s' = true := vx_own hat' (vx_isRefq hU'.1) (vx_isRefq hN'.1) hU'.2.word hN'.2.word
  have hown' : s'.vm.findClass own = some m.cls := by rw [hvm]; exact hown
  have hins : (Cond.instantiable cls 6).before args s' = true := h _ (by simp [Bundle.ownAtoms])
  obtain ⟨vm₁, cX, kX, hfX, hkX, -, -, X₁, st1⟩ := Y.newCold hexec (own := own) (C := cls) (index := ik) (n := 6) hown' hk' hins hini'
    (g := F0 m pc ls rest) rfl (by rw [hb]; exact d0) (Nat.le_refl _) (Nat.le_refl _)
  generalize hT1 : (T.setVm vm₁).pushCell { cls := cX, slots := kX.instanceTypes.map defaultValue, vm := .none } = T1 at X₁ st1
  have hcat : (Value.ref T.heap.size).category = 1 := rfl
  have hcellA : T1.heap[T.heap.size]? = some (freshCell cX kX) := by rw [← hT1]; exact State.heap_pushCell_size _ _
  have d3' : decode c.code (pc + 3) = .ok (.dup, 1) := by rw [hb]; exact d3
  have d4' : decode c.code (pc + 4) = .ok (.ldc is, 2) := by rw [hb]; exact d4
  have hstr' : vk_R own is text sa s' := vk_R.warm hW0 hstr
  obtain ⟨U, hsteps, hrun, hend, hW, hsame, ce, hce, hO⟩ := X₁.ctorThrowS hexec htr (own := own) (cls := cls) (names := names) (ic := ic) hown' hcls hnames h (fun x hx => nomatch hx) hfX hkX hcellA (by rw [hhp, hT]; exact Nat.le_refl _) (msg := .ref sa) rfl
    (g := { method := m, pc := pc + 6, locals := ls, stack := .ref sa :: .ref T.heap.size :: .ref T.heap.size :: rest, locked := none }) rfl hsize rfl rfl (rest := rest) rfl
    (by rw [hb]; exact d6) (by rw [hb]; exact d9) hout hRframes (by simp only [List.map_cons, List.sum_cons, hcat]; omega) hlocks
  obtain ⟨f1, f2⟩ := vx_frame hsame
  rw [hhp] at f1 f2
  have hWs : s.WarmedH U.vm := State.WarmedH.trans hW0 hW
  have hcl : s.vm.findClass cls = some ce.cls := by
    have h9 := hO.cls
    rw [hvm] at h9
    exact h9
  have hall : s.sameButNew ({ U with vm := s.vm } : State) locs mc ms := by
    subst hA
    obtain ⟨e1, e2⟩ := hsame
    rw [State.setFrames_setFrames] at e1
    have h2 : (T.setVm s.vm).sameButNew ({ U with vm := s.vm } : State) [] (0 + 1) (0 + 6) := ⟨e1, e2⟩
    have h3 := X.same.trans h2
    rw [List.append_nil] at h3
    exact h3.mono hc hs
  refine ⟨U, ?_, .threw T.heap.size, hrun, hend, Or.inr ⟨T.heap.size, rfl, cls, ce, locs, hx U hWs.alike f1 (fun q hq => f2 q hq (fun z hz => nomatch hz)), hce, hO.vm, hcl, hWs, hall, hf⟩⟩
  refine st1 _ ?_
  show Steps p.tables e below (T1.setTop { method := m, pc := pc + 3, locals := ls, stack := .ref T.heap.size :: rest, locked := none }) _
  jvm_step X₁.here [X₁.here.top, hexec, d3', Value.category]
  exact X₁.ldcString hexec (own := own) (text := text) (index := is) (a := sa) hown' hstr'.1 hstr'.2
    (g := { method := m, pc := pc + 4, locals := ls, stack := .ref T.heap.size :: .ref T.heap.size :: rest, locked := none }) rfl d4' _ hsteps
/-- 'throw new E("text")', the text by a wide index -/
theorem vx_throwSW {cc : ByteArray} {pc : Nat} (hexec : p.tables.exec = Jvm.exec) (hb : c.code = cc) (hl : l.stackTraces = false) {own cls text : String} {names : List String} {ik is ic mc ms sa : Nat} {A : Nat → Prop}
    (hown : s.vm.findClass own = some m.cls) (hcls : Bundle.fit cls = true) (hnames : ∀ n ∈ names, Bundle.fit n = true)
    (hk : (Cond.classLink own ik cls).before args s = true) (hini : (Cond.initialized cls).before args s = true) (hstr : vk_R own is text sa s) (hat : ∀ w ∈ vx_atS own ic cls names, w.before args s = true)
    (hgood : ∀ w ∈ Cond.classLink own ik cls :: Cond.initialized cls :: vx_atS own ic cls names, vx_ot w = true)
    (hU : vx_Zq Bundle.tN "UNASSIGNED_STACK" Bundle.steD A s s.heap) (hN : vx_Zq Bundle.tN "SUPPRESSED_SENTINEL" Bundle.listD A s s.heap) (hS : va_S A s.heap H locs) (hsize : ls.size = c.maxLocals)
    (d0 : decode cc pc = .ok (.new ik, 3)) (d3 : decode cc (pc + 3) = .ok (.dup, 1)) (d4 : decode cc (pc + 4) = .ok (.ldc_w is, 3)) (d7 : decode cc (pc + 7) = .ok (.invokespecial ic, 3)) (d10 : decode cc (pc + 10) = .ok (.athrow, 1))
    (hout : ∀ x ∈ c.exceptionTable.toList, covers x (pc + 10) = false)
    (hRframes : names.length + 3 < R.frames) (hRlocals : (rest.map fun v => v.category).sum + (13 * (names.length + 1) + 43) ≤ R.locals) (hRcells : cells + 1 ≤ R.cells) (hRslots : slots + 6 ≤ R.slots) (hlocks : meth.locks = false)
    (hx : ∀ t : State, s.vm.Alike t.vm → H.size ≤ t.heap.size → (∀ q : Nat, q < H.size → t.heap[q]? = H[q]?) → XC cls s t)
    (hf : ∀ z ∈ locs, free z.base) (hc : cells + 1 ≤ mc) (hs : slots + 6 ≤ ms) :
    W p l e R s m args below meth c H locs cells slots (vx_MQ below Qc XC args s mc ms free) (F0 m pc ls rest) := by
  intro T hT X
  have htr : e.platform.stackTraces = false := (show e.platform.stackTraces = l.stackTraces by rw [X.admits.platform]).trans hl
  have Y := vx_rebase X (R' := { frames := R.frames, locals := R.locals, cells := 1, slots := 6 }) (Nat.le_refl _) (Nat.le_refl _) hRcells hRslots
  obtain ⟨s', hA⟩ : ∃ z, z = (T.setVm s.vm).setFrames (.invoking m args :: below) := ⟨_, rfl⟩
  rw [← hA] at Y
  have hvm : s'.vm = s.vm := by rw [hA]; rfl
  have hhp : s'.heap = H := by rw [hA]; exact hT
  have hW0 : s.WarmedH s'.vm := by rw [hvm]; exact State.WarmedH.refl s
  have hat' : ∀ w ∈ vx_atS own ic cls names, w.before args s' = true := fun w hw => vx_ot_at hW0 hvm.symm (hgood w (List.mem_cons_of_mem _ (List.mem_cons_of_mem _ hw))) (hat w hw)
  have hk' : (Cond.classLink own ik cls).before args s' = true := vx_ot_at hW0 hvm.symm (hgood _ List.mem_cons_self) hk
  have hini' : (Cond.initialized cls).before args s' = true := vx_ot_at hW0 hvm.symm (hgood _ (List.mem_cons_of_mem _ List.mem_cons_self)) hini
  have hU' : vx_Zq Bundle.tN "UNASSIGNED_STACK" Bundle.steD A s' s'.heap := by rw [hhp]; exact vx_Zq.moved hW0.alike (hU.kept hS.2.1)
  have hN' : vx_Zq Bundle.tN "SUPPRESSED_SENTINEL" Bundle.listD A s' s'.heap := by rw [hhp]; exact vx_Zq.moved hW0.alike (hN.kept hS.2.1)
  have h : ∀ w ∈ Bundle.ownAtoms own ic cls names, w.before args s' = true := vx_own hat' (vx_isRefq hU'.1) (vx_isRefq hN'.1) hU'.2.word hN'.2.word
  have hown' : s'.vm.findClass own = some m.cls := by rw [hvm]; exact hown
  have hins : (Cond.instantiable cls 6).before args s' = true := h _ (by simp [Bundle.ownAtoms])
  obtain ⟨vm₁, cX, kX, hfX, hkX, -, -, X₁, st1⟩ := Y.newCold hexec (own := own) (C := cls) (index := ik) (n := 6) hown' hk' hins hini'
    (g := F0 m pc ls rest) rfl (by rw [hb]; exact d0) (Nat.le_refl _) (Nat.le_refl _)
  generalize hT1 : (T.setVm vm₁).pushCell { cls := cX, slots := kX.instanceTypes.map defaultValue, vm := .none } = T1 at X₁ st1
  have hcat : (Value.ref T.heap.size).category = 1 := rfl
  have hcellA : T1.heap[T.heap.size]? = some (freshCell cX kX) := by rw [← hT1]; exact State.heap_pushCell_size _ _
  have d3' : decode c.code (pc + 3) = .ok (.dup, 1) := by rw [hb]; exact d3
  have d4' : decode c.code (pc + 4) = .ok (.ldc_w is, 3) := by rw [hb]; exact d4
  have hstr' : vk_R own is text sa s' := vk_R.warm hW0 hstr
  obtain ⟨U, hsteps, hrun, hend, hW, hsame, ce, hce, hO⟩ := X₁.ctorThrowS hexec htr (own := own) (cls := cls) (names := names) (ic := ic) hown' hcls hnames h (fun x hx => nomatch hx) hfX hkX hcellA (by rw [hhp, hT]; exact Nat.le_refl _) (msg := .ref sa) rfl
    (g := { method := m, pc := pc + 7, locals := ls, stack := .ref sa :: .ref T.heap.size :: .ref T.heap.size :: rest, locked := none }) rfl hsize rfl rfl (rest := rest) rfl
    (by rw [hb]; exact d7) (by rw [hb]; exact d10) hout hRframes (by simp only [List.map_cons, List.sum_cons, hcat]; omega) hlocks
  obtain ⟨f1, f2⟩ := vx_frame hsame
  rw [hhp] at f1 f2
  have hWs : s.WarmedH U.vm := State.WarmedH.trans hW0 hW
  have hcl : s.vm.findClass cls = some ce.cls := by
    have h9 := hO.cls
    rw [hvm] at h9
    exact h9
  have hall : s.sameButNew ({ U with vm := s.vm } : State) locs mc ms := by
    subst hA
    obtain ⟨e1, e2⟩ := hsame
    rw [State.setFrames_setFrames] at e1
    have h2 : (T.setVm s.vm).sameButNew ({ U with vm := s.vm } : State) [] (0 + 1) (0 + 6) := ⟨e1, e2⟩
    have h3 := X.same.trans h2
    rw [List.append_nil] at h3
    exact h3.mono hc hs
  refine ⟨U, ?_, .threw T.heap.size, hrun, hend, Or.inr ⟨T.heap.size, rfl, cls, ce, locs, hx U hWs.alike f1 (fun q hq => f2 q hq (fun z hz => nomatch hz)), hce, hO.vm, hcl, hWs, hall, hf⟩⟩
  refine st1 _ ?_
  show Steps p.tables e below (T1.setTop { method := m, pc := pc + 3, locals := ls, stack := .ref T.heap.size :: rest, locked := none }) _
  jvm_step X₁.here [X₁.here.top, hexec, d3', Value.category]
  exact X₁.ldcStringW hexec (own := own) (text := text) (index := is) (a := sa) hown' hstr'.1 hstr'.2
    (g := { method := m, pc := pc + 4, locals := ls, stack := .ref T.heap.size :: .ref T.heap.size :: rest, locked := none }) rfl d4' _ hsteps
end Ends
section Bodies
variable {l : Launch}
theorem vx_ofW {y : MethodName} {ws ws' : List Cond} {rm : Room} {Pc : Array Value → State → Prop} {Qc : Array Value → State → Outcome → State → Prop} {XC : String → State → State → Prop} {mc ms : Nat} {free : Addr → Prop} {cc : ByteArray} {maxL : Nat} {ret : Option FieldType}
    (hy : plainName y.cls = true) (hw : ws = Cond.code y cc maxL ret :: ws')
    (body : ∀ p e s m args below meth c s₁, BodyLoose p l y (headSpec ws rm) cc maxL ret e s m args below meth c s₁ → c.maxLocals = maxL → (∀ x ∈ c.exceptionTable.toList, False) → Pc args s →
      W p l e (headSpec ws rm).room s m args below meth c s.heap [] 0 0 (vx_MQ below Qc XC args s mc ms free) (entryFrame m args maxL)) : vx_Met l y ws rm Pc Qc XC mc ms free := by
  refine MetFree.of_bodyS (code := cc) (maxLocals := maxL) (ret := ret) hy ?_ ?_
  · intro args s m h hn
    obtain ⟨meth, c, h1, h2, h3, h4, h5, h6, -, -⟩ := Cond.code_spec hn (atoms_spec (ws := ws) h _ (by rw [hw]; exact List.mem_cons_self))
    exact ⟨meth, c, h1, h2, h3, h4, h5, h6⟩
  · intro p e s m args below meth c s₁ B hml hP _
    have hh0 : s₁.heap = s.heap := by rw [B.state]; rfl
    have ht : ∀ x ∈ c.exceptionTable.toList, False := by
      obtain ⟨meth9, c9, h1, h2, -, -, -, -, h7, -⟩ := Cond.code_spec B.named (atoms_spec (ws := ws) B.pre _ (by rw [hw]; exact List.mem_cons_self))
      cases Option.some.inj (h1.symm.trans B.method)
      cases Option.some.inj (h2.symm.trans (Stand.of_body B).code)
      intro x hx
      rw [Array.isEmpty_iff.mp h7] at hx
      cases hx
    obtain ⟨t, a1, o, b1, b2, b3⟩ := body p e s m args below meth c s₁ B hml ht hP s₁ hh0 (Stand.of_body B)
    exact ⟨t, o, a1, b1, b2, b3⟩
/-- the table of a body with handlers -/
theorem vx_table {p : Program} {x y : MethodName} {S : Spec} {cc bytes : ByteArray} {maxL maxL' : Nat} {ret ret' : Option FieldType} {e : Env} {s s₁ : State} {m : MethodId} {args : Array Value} {below : List Frame} {meth : Method} {c : Code} {hh : List (Nat × Nat × Nat × Nat)}
    (B : BodyLoose p l y S cc maxL ret e s m args below meth c s₁) (h : (Cond.codeWith y bytes maxL' ret' hh).before args s = true) : c.exceptionTable.toList = tableOf hh := by
  obtain ⟨m9, meth9, c9, hn9, h1, h2, -, -, h6, -⟩ := Cond.codeWith_spec h
  cases Option.some.inj (hn9.symm.trans B.named)
  cases Option.some.inj (h1.symm.trans B.method)
  cases Option.some.inj (h2.symm.trans (Stand.of_body B).code)
  rw [← h6, table_eq]
end Bodies
end VXA
/-! ===== END ===== -/
/-! ===== BEGIN a static call of a method with an exception table ===== -/
section VXS
variable {p : Program} {l : Launch} {e : Env} {R : Room} {s : State} {m : MethodId} {args : Array Value} {below : List Frame} {meth : Method} {c : Code} {T : State} {H : Heap} {locs : List Loc} {cells slots : Nat}
abbrev vx_CSW (R : Room) (s : State) (args : Array Value) (own : String) (index : Nat) (y : MethodName) (bytes : ByteArray) (maxL : Nat) (ret : Option FieldType) (hh : List (Nat × Nat × Nat × Nat)) (ws : List Cond) (rm : Room) (mc ms n : Nat) : Prop :=
  (rm.cells = mc ∧ rm.slots = ms ∧ rm.frames + 1 ≤ R.frames ∧ 8 + (maxL + 11) + rm.locals ≤ R.locals ∧ (∀ w ∈ ws, ∀ (a' : Array Value) (U : State), s.WarmedH U.vm → w.before a' U = true) ∧ Cond.codeWith y bytes maxL ret hh ∈ ws) ∧
  (Cond.codeWith y bytes maxL ret hh).before args s = true ∧ (Cond.initialized y.cls).before args s = true ∧ (y.cls ≠ "java/lang/invoke/MethodHandle" ∧ y.cls ≠ "java/lang/invoke/VarHandle") ∧
  (∀ sig, parseMethodDescriptor y.desc = some sig → n = sig.parameters.length) ∧ (Cond.methodLink own index y).before args s = true ∧ (Cond.static y).before args s = true
theorem vx_cwSW {own : String} {index maxL mc ms : Nat} {y : MethodName} {bytes : ByteArray} {ret : Option FieldType} {hh : List (Nat × Nat × Nat × Nat)} {Ts ws ws' : List Cond} {rm : Room} (n : Nat) (ht : ∀ w ∈ Ts, w.before args s = true) (hT : GoodIn Ts (va_wsS own index y ws)) (hw : ws = Cond.codeWith y bytes maxL ret hh :: ws') (hrc : rm.cells = mc) (hrs : rm.slots = ms)
    (hd : y.cls ≠ "java/lang/invoke/MethodHandle" ∧ y.cls ≠ "java/lang/invoke/VarHandle" ∧ (parseMethodDescriptor y.desc).map (fun d => d.parameters.length) = some n) (hR : rm.frames + 1 ≤ R.frames ∧ 8 + (maxL + 11) + rm.locals ≤ R.locals) :
    vx_CSW R s args own index y bytes maxL ret hh ws rm mc ms n := by
  have ok : ∀ w ∈ va_wsS own index y ws, w.before args s = true := fun w h => ht w (hT w h).1
  have hG : GoodIn Ts ws := fun w h => hT w (by unfold va_wsS; exact List.mem_append_right _ h)
  have hc : Cond.codeWith y bytes maxL ret hh ∈ ws := by rw [hw]; exact List.mem_cons_self
  refine ⟨⟨hrc, hrs, hR.1, hR.2, pay_in ht hG, hc⟩, ht _ (hG _ hc).1, ok _ (by simp [va_wsS]), ⟨hd.1, hd.2.1⟩, fun sig h => ?_, ok _ (by simp [va_wsS]), ok _ (by simp [va_wsS])⟩
  have h2 := hd.2.2
  rw [h] at h2
  exact (Option.some.inj h2).symm
theorem vx_callSW (X : Stand p l e R s m args below meth c T locs cells slots) (hexec : p.tables.exec = Jvm.exec) {own : String} {index : Nat} {y : MethodName} {bytes : ByteArray} {maxL : Nat} {ret : Option FieldType} {hh : List (Nat × Nat × Nat × Nat)}
    (hown : s.vm.findClass own = some m.cls) (hlink : (Cond.methodLink own index y).before args s = true) (hstat : (Cond.static y).before args s = true) (hinit : (Cond.initialized y.cls).before args s = true)
    (hcode : (Cond.codeWith y bytes maxL ret hh).before args s = true) (hy : y.cls ≠ "java/lang/invoke/MethodHandle" ∧ y.cls ≠ "java/lang/invoke/VarHandle")
    {W9 : Nat} {Pre : Pt → Array Value → Prop} {Post : Pt → Array Value → Option Value → Pt → Prop} (hK : Back l R p e below s args y 3 W9 Pre Post)
    {g : JFrame} (hg : g.method = m) (hsize : g.locals.size = c.maxLocals) {argsL rest : List Value} (hlen : ∀ sig, parseMethodDescriptor y.desc = some sig → argsL.length = sig.parameters.length)
    (hstack : g.stack = argsL.reverse ++ rest) (hW : 2 * g.monitorRoom + (rest.map fun v => v.category).sum ≤ W9) (hdg : decode c.code g.pc = .ok (.invokestatic index, 3))
    (hpre : ∀ vm₁, s.WarmedH vm₁ → Pre ⟨T.setVm vm₁, locs, cells, slots⟩ argsL.toArray) :
    ∃ (v : Option Value) (vm₁ : Vm) (B : Pt), s.WarmedH vm₁ ∧ Stand p l e R s m args below meth c B.U B.locs B.cells B.slots ∧ Post ⟨T.setVm vm₁, locs, cells, slots⟩ argsL.toArray v B ∧
      ∀ target, Steps p.tables e below (B.U.setTop { g with pc := g.pc + 3, stack := v.toList ++ rest }) target → Steps p.tables e below (T.setTop g) target := by
  obtain ⟨mk, methM, cM, hnamed, hmethM, -, -, -, -, -, -, hsigM⟩ := Cond.codeWith_spec hcode
  have hstatic : methM.isStatic = true := Cond.static_spec hnamed hmethM hstat
  obtain ⟨kP, hkP, -⟩ := className_of_methodNamed hnamed
  have hinitP : kP.init = .initialized := Cond.initialized_spec (findClass_of_methodNamed hnamed) hkP hinit
  obtain ⟨vm₁, X₁, hstep₁⟩ := X.invokestatic hexec hown hlink hnamed hmethM hstatic hkP hinitP hy (g := g) hg (argsL := argsL) (rest := rest) (hlen _ hsigM) hstack hdg
  obtain ⟨v, B, X', hpost, hsteps⟩ := hK m meth c ⟨T.setVm vm₁, locs, cells, slots⟩ { g with stack := rest } (.invokestatic index) mk argsL.toArray X₁ hg hsize hdg hW (X₁.named hnamed) (hpre vm₁ X₁.warmed)
  exact ⟨v, vm₁, B, X₁.warmed, X', hpost, fun target h => hstep₁ _ fun acts => by rw [doInvoke_state]; exact hsteps.trans h⟩
theorem vx_runSW {y : MethodName} {bytes cc : ByteArray} {maxL nL mc ms n index : Nat} {ret : Option FieldType} {hh : List (Nat × Nat × Nat × Nat)} {ws : List Cond} {rm : Room} {Pc : Array Value → State → Prop} {Qc : Array Value → State → Outcome → State → Prop} {free : Addr → Prop} {Ts : List Cond} {own : String} {As rest : List Value} {g : JFrame}
    (S : CallFix p m c cc nL s args Ts own) (hM : Met l y ws rm Pc Qc mc ms free) (cw : vx_CSW R s args own index y bytes maxL ret hh ws rm mc ms n) (hp : PreS s H Pc As)
    (hg : g.method = m) (hn : As.length = n) (hsize : g.locals.size = nL) (hstack : g.stack = As.reverse ++ rest) (hW : 2 * g.monitorRoom + (rest.map fun v => v.category).sum ≤ 8) (hdg : decode cc g.pc = .ok (.invokestatic index, 3)) (hf : cells + mc ≤ R.cells ∧ slots + ms ≤ R.slots) :
    va_Run p l e R s m args below meth c H locs cells slots mc ms g rest (Qc As.toArray) (free) := by
  obtain ⟨⟨hrc, hrs, hfr, hlo, hws, hcw⟩, hcode, hini, hy, hlen, hl, hstt⟩ := cw
  have hK : Back l R p e below s args y 3 8 (PreOf R mc ms Pc) (PostOf Qc mc ms free) := va_backW (hh := hh) (bytes := bytes) (maxL := maxL) (ret := ret) hM hp.1 hrc hrs hfr hlo hws hcw (fun a' U hW => word_at hW (Or.inl (by first | rfl | simp [Cond.onTables, Cond.keeps, Cond.steady])) hini)
  obtain ⟨hx, hb, hml, ho, -⟩ := S
  intro T hT X
  obtain ⟨v, vm₁, ⟨U', l2, c2, s2⟩, hW₁, X', ⟨g', mk, t, L, e1, e2, hq, h1, hL, h2, h3⟩, st⟩ := vx_callSW X hx (hh := hh) (bytes := bytes) (maxL := maxL) (ret := ret) ho hl hstt hini hcode hy hK hg (hsize.trans hml.symm) (argsL := As) (rest := rest) (fun sig h => hn.trans (hlen sig h)) hstack hW (by rw [hb]; exact hdg)
    (fun vm₁ hW₁ => ⟨hf.1, hf.2, hp.2 (T.setVm vm₁) hT hW₁⟩)
  dsimp only [Pt.U, Pt.locs, Pt.cells, Pt.slots] at X' e1 e2 h1 h2 h3 st
  subst h1; subst h2; subst h3
  exact ⟨v, (T.setVm vm₁).calling g' mk As.toArray, t, U', L, hT, X', hL, e1, e2, hq, st⟩
/-- not caught here, past rows that name other classes: it goes on to the caller -/
theorem vx_outP {p : Program} {l : Launch} {e : Env} {R : Room} {s : State} {m : MethodId} {args : Array Value} {below : List Frame} {meth : Method} {c : Code} {H : Heap} {locs : List Loc} {cells slots : Nat} {free : Addr → Prop} {ls : Array Slot} {rest : List Value} {Qc : Array Value → State → Outcome → State → Prop} {XC : String → State → State → Prop}
    {pc : Nat} {own E : String} {ce : Cell} {q : Addr} {mc ms : Nat} (hown : s.vm.findClass own = some m.cls) (hlocks : meth.locks = false)
    (hpass : ∀ z ∈ c.exceptionTable.toList, covers z pc = false ∨ (z.catchType ≠ 0 ∧ ∃ nm : String, (Cond.classLink own z.catchType nm).before args s = true ∧ va_Nc E nm s)) (hcell : H[q]? = some ce) (hv : ce.vm = .none) (hcl : s.vm.findClass E = some ce.cls)
    (hx : ∀ t : State, t.heap = H → s.vm.Alike t.vm → XC E s t) (hf : ∀ z ∈ locs, free z.base) (hc : cells ≤ mc) (hs : slots ≤ ms) :
    vx_W p l e R s m args below meth c H locs cells slots (vx_MQ below Qc XC args s mc ms free) (F0 m pc ls rest) q := by
  intro T hT X
  have hpl : e.platform.magicAccessors = ({} : Platform).magicAccessors := by rw [X.admits.platform]
  obtain ⟨vm', hW', X', st⟩ := X.outThrough hlocks q (g := F0 m pc ls rest) rfl rfl rfl (cell := ce) (by rw [hT]; exact hcell) (by rw [hv]; rfl)
    (by obtain ⟨k9, h9, -⟩ := Vm.findClass_spec hcl; exact ⟨k9, h9⟩) (fun z hz => by
      rcases hpass z hz with h | ⟨hz0, nm, hl1, hn1⟩
      · exact Or.inl h
      · obtain ⟨c6, hc6, hcl6⟩ := Cond.classLink_spec hown hl1 e.platform hpl
        obtain ⟨a8, b8, h1, h2, h3⟩ := hn1
        cases Option.some.inj (h1.symm.trans hcl)
        cases Option.some.inj (h2.symm.trans hc6)
        exact Or.inr ⟨hz0, _, hcl6, h3⟩)
  obtain ⟨g₀, hfr⟩ := X'.frames_eq
  have hcell9 : ((T.setVm vm').setFrames (.throwing q :: below)).heap[q]? = some ce := by
    show T.heap[q]? = some ce
    rw [hT]; exact hcell
  have hend : Ended ((T.setVm vm').setFrames (.throwing q :: below)) below (.threw q) := State.frames_setFrames _ (State.cur_lt_of_frames hfr)
  refine ⟨(T.setVm vm').setFrames (.throwing q :: below), ?_, .threw q, X'.here.running, hend, Or.inr ⟨q, rfl, E, ce, locs, hx _ hT (X'.ends _).1.alike, hcell9, hv, hcl, (X'.ends _).1, (X'.ends _).2.mono hc hs, hf⟩⟩
  rw [X.pushThrowing_eq]
  exact st
/-- a thing of a world lies in the heap -/
theorem vx_lt {D : va_G} {cl : List vw_C} {ws : va_W} {H1 : Heap} (h : va_P D cl ws H1) {k : Nat} {q : Nat × va_E} (hk : ws[k]? = some q) : q.1 < H1.size := (h k q hk).lt
end VXS
/-! ===== END ===== -/
/-! ===== BEGIN methods with a table of their own: called by a name, returning or throwing ===== -/
section VXH
/-! vx_backW, vx_callVX, vx_callSX, vx_callVW, vx_runVW, vx_runVX, vx_runSX, vx_ofWH follow the same proofs as their sisters above (Free/Laws.lean, Shelf42/LK1.lean); vx_outP calls Shelf42/NT130.lean (outThrough). -/
section
variable {l : Launch} {R : Room} {p : Program} {e : Env} {below : List Frame} {s : State} {sargs : Array Value} {y : MethodName} {len W9 : Nat}
theorem vx_backW {ws : List Cond} {rm : Room} {Pc : Array Value → State → Prop} {Qc : Array Value → State → Outcome → State → Prop} {XC : String → State → State → Prop} {mc ms : Nat} {free : Addr → Prop} {bytes : ByteArray} {maxL : Nat} {ret : Option FieldType} {hh : List (Nat × Nat × Nat × Nat)}
    (hM : vx_Met l y ws rm Pc Qc XC mc ms free) (hblind : FrameBlind Pc) (hrc : rm.cells = mc) (hrs : rm.slots = ms)
    (hframes : rm.frames + 1 ≤ R.frames) (hlocals : W9 + (maxL + 11) + rm.locals ≤ R.locals)
    (hws : ∀ w ∈ ws, ∀ a' U, s.WarmedH U.vm → w.before a' U = true) (hcode : Cond.codeWith y bytes maxL ret hh ∈ ws) (hinit : ∀ a' U, s.WarmedH U.vm → (Cond.initialized y.cls).before a' U = true) :
    vx_Back l R p e below s sargs y len W9 (PreOf R mc ms Pc) (PostOf Qc mc ms free) (vx_Post XC mc ms free) := by
  intro m meth c A g ig mk a X hg hsize hdg hW hn hp
  have h1 : (headSpec ws rm).pre.before a A.U = true := atoms_intro fun w hw => hws w hw _ _ X.warmed
  have h2 : (Cond.codeWith y bytes maxL ret hh).before a A.U = true := hws _ hcode _ _ X.warmed
  have h3 : (Cond.initialized y.cls).before a A.U = true := hinit _ _ X.warmed
  have h4 : A.cells + (headSpec ws rm).room.cells ≤ R.cells := by rw [show (headSpec ws rm).room.cells = mc from hrc]; exact hp.1
  have h5 : A.slots + (headSpec ws rm).room.slots ≤ R.slots := by rw [show (headSpec ws rm).room.slots = ms from hrs]; exact hp.2.1
  have hPc : Pc a (A.U.calling g mk a) := hblind _ _ _ _ hp.2.2
  obtain ⟨U, Ls, c0, s0⟩ := A
  dsimp only [Pt.U, Pt.locs, Pt.cells, Pt.slots] at h1 h2 h3 h4 h5 X hn hPc ⊢
  obtain ⟨m9, methY, cY, hn9, hmY, hcY, -, hlY, -⟩ := Cond.codeWith_spec h2
  cases Option.some.inj (hn9.symm.trans hn)
  obtain ⟨kY, hkY, -⟩ := className_of_methodNamed hn
  have hinitY : kY.init = .initialized := Cond.initialized_spec (findClass_of_methodNamed hn) hkY h3
  have h : At U g.method c below := by rw [hg]; exact X.here
  have hlocals9 : W9 + (maxL + 11) + (headSpec ws rm).room.locals ≤ R.locals := hlocals
  have happ : (headSpec ws rm).appliesLoose y e.platform (U.calling g mk a) = true :=
    Spec.appliesLoose_calling (g := g) h hdg hn hkY hinitY
      (X.room_calling (g := g) (R' := (headSpec ws rm).room) hsize hmY hcY hframes (by rw [hlY]; omega) h4 h5) h1
  obtain ⟨mid, hmid⟩ := h.above
  have hfr : (U.setTop g).frames = (.java g :: mid) ++ below := by rw [State.frames_setTop' g h.top, hmid]; rfl
  obtain ⟨o, s₂, hsteps, -, hend, hq⟩ := Steps.callFree hM p X.admits X.cas X.clock (acts := []) hfr happ hPc trivial
  have hq' : vx_Q Qc XC mc ms free a (U.calling g mk a) o s₂ := hq
  rw [State.frames_setTop' g h.top] at hend
  obtain ⟨g₀, hg0⟩ := Option.isSome_iff_exists.mp h.top
  obtain ⟨r, hr⟩ := State.topJava?_eq_some.mp hg0
  have hr' : (({ U with heap := s₂.heap, slotsUsed := s₂.slotsUsed } : State).setVm s₂.vm).frames = .java g₀ :: r := hr
  rcases hq' with ⟨hqc, L, hfe, hL⟩ | ⟨q, rfl, E, ce, L, hx, hce, hcv, hcl, hW₂, hsm, hL⟩
  · obtain ⟨⟨v, rfl⟩, hW₂, e2, q2, q3, q4, q5, q6⟩ := id hfe
    have e3 : s₂ = ({ (U.calling g mk a).setFrames s₂.frames with heap := s₂.heap, slotsUsed := s₂.slotsUsed } : State).setVm s₂.vm := by
      have : s₂ = ({ s₂ with vm := (U.calling g mk a).vm } : State).setVm s₂.vm := rfl
      rw [e2] at this
      exact this
    obtain ⟨c₂, i₂, len₂, hc₂, hd₂, hf₂⟩ := hend
    have hW' : U.WarmedH s₂.vm := hW₂
    have hcc : c₂ = c := by
      have h1 : s₂.code? g.method = U.code? g.method := by
        rw [State.code?_eq, State.code?_eq, hW'.alike.method?]
      exact Option.some.inj (hc₂.symm.trans (h1.trans h.code))
    subst hcc
    have hlen : len₂ = len := by rw [hdg] at hd₂; cases hd₂; rfl
    subst hlen
    have hs₂ : s₂ = (({ U with heap := s₂.heap, slotsUsed := s₂.slotsUsed } : State).setVm s₂.vm).setTop { g with pc := g.pc + len₂, stack := v.toList ++ g.stack } := by
      refine e3.trans ?_
      rw [hf₂, State.calling_eq h.top, State.setFrames_setFrames, State.setTop_of_frames _ hr', hr]
      rfl
    have hsame : U.sameButNew ({ U with heap := s₂.heap, slotsUsed := s₂.slotsUsed } : State) L mc ms := by
      refine ⟨?_, q2, q3, q4, q5, q6⟩
      obtain ⟨t, ht, -⟩ := State.frames_cons hr
      show ({ U with heap := s₂.heap, slotsUsed := s₂.slotsUsed } : State) = { U.setFrames U.frames with heap := s₂.heap, slotsUsed := s₂.slotsUsed }
      rw [State.setFrames_self ht]
    subst hg
    refine Or.inl ⟨v, ⟨(({ U with heap := s₂.heap, slotsUsed := s₂.slotsUsed } : State).setVm s₂.vm), Ls ++ L, c0 + mc, s0 + ms⟩,
      ⟨X.admits, X.cas, X.clock, X.frames, X.room, X.hears, X.method, X.code, (X.here.setHeapUsed s₂.heap s₂.slotsUsed).setVm hW'.alike, X.tail, State.WarmedH.trans X.warmed hW', X.limits, X.bytes, X.same.trans (hsame.setVm s.vm)⟩,
      ⟨g, mk, s₂, L, rfl, rfl, hqc, rfl, hL, rfl, rfl⟩, ?_⟩
    show Steps p.tables e below _ ((({ U with heap := s₂.heap, slotsUsed := s₂.slotsUsed } : State).setVm s₂.vm).setTop { g with pc := g.pc + len₂, stack := v.toList ++ g.stack })
    rw [← hs₂]
    exact hsteps
  · obtain ⟨e2, q2, q3, q4, q5, q6⟩ := id hsm
    have e3 : s₂ = ({ (U.calling g mk a).setFrames s₂.frames with heap := s₂.heap, slotsUsed := s₂.slotsUsed } : State).setVm s₂.vm := by
      have : s₂ = ({ s₂ with vm := (U.calling g mk a).vm } : State).setVm s₂.vm := rfl
      rw [e2] at this
      exact this
    have hf₂ : s₂.frames = .throwing q :: .java g :: U.frames.tail := hend
    have hW' : U.WarmedH s₂.vm := hW₂
    have hs₂ : s₂ = ((({ U with heap := s₂.heap, slotsUsed := s₂.slotsUsed } : State).setVm s₂.vm).setTop g).pushFrame (.throwing q) := by
      refine e3.trans ?_
      rw [hf₂, State.calling_eq h.top, State.setFrames_setFrames, State.pushFrame, State.frames_setTop _ hr', State.setTop_of_frames _ hr', State.setFrames_setFrames, hr]
      rfl
    have hsame : U.sameButNew ({ U with heap := s₂.heap, slotsUsed := s₂.slotsUsed } : State) L mc ms := by
      refine ⟨?_, q2, q3, q4, q5, q6⟩
      obtain ⟨t, ht, -⟩ := State.frames_cons hr
      show ({ U with heap := s₂.heap, slotsUsed := s₂.slotsUsed } : State) = { U.setFrames U.frames with heap := s₂.heap, slotsUsed := s₂.slotsUsed }
      rw [State.setFrames_self ht]
    subst hg
    refine Or.inr ⟨q, ⟨(({ U with heap := s₂.heap, slotsUsed := s₂.slotsUsed } : State).setVm s₂.vm), Ls ++ L, c0 + mc, s0 + ms⟩,
      ⟨X.admits, X.cas, X.clock, X.frames, X.room, X.hears, X.method, X.code, (X.here.setHeapUsed s₂.heap s₂.slotsUsed).setVm hW'.alike, X.tail, State.WarmedH.trans X.warmed hW', X.limits, X.bytes, X.same.trans (hsame.setVm s.vm)⟩,
      ⟨g, mk, s₂, L, E, ce, rfl, rfl, hx, hce, hcv, hcl, rfl, hL, rfl, rfl⟩, ?_⟩
    show Steps p.tables e below _ (((({ U with heap := s₂.heap, slotsUsed := s₂.slotsUsed } : State).setVm s₂.vm).setTop g).pushFrame (.throwing q))
    rw [← hs₂]
    exact hsteps
end
variable {p : Program} {l : Launch} {e : Env} {R : Room} {s : State} {m : MethodId} {args : Array Value} {below : List Frame} {meth : Method} {c : Code} {T : State} {H : Heap} {locs : List Loc} {cells slots : Nat}
theorem vx_callVX (X : Stand p l e R s m args below meth c T locs cells slots) (hexec : p.tables.exec = Jvm.exec) {own C : String} {index : Nat} {y : MethodName} {bytes : ByteArray} {maxL : Nat} {ret : Option FieldType} {hh : List (Nat × Nat × Nat × Nat)}
    (hown : s.vm.findClass own = some m.cls) (hlink : (Cond.methodLink own index y).before args s = true) (hinst : (Cond.instanceMethod y).before args s = true) (hsel : (Cond.selects C y y).before args s = true)
    (hcode : (Cond.codeWith y bytes maxL ret hh).before args s = true) (hy : y.cls ≠ "java/lang/invoke/MethodHandle" ∧ y.cls ≠ "java/lang/invoke/VarHandle")
    {W9 : Nat} {Pre : Pt → Array Value → Prop} {Post : Pt → Array Value → Option Value → Pt → Prop} {PostX : Pt → Array Value → Addr → Pt → Prop} (hK : vx_Back l R p e below s args y 3 W9 Pre Post PostX)
    {b : Addr} {cellB : Cell} (hcell : T.heap[b]? = some cellB) (hobj : cellB.vm.isStatics = false) (hcls : s.vm.findClass C = some cellB.cls)
    {g : JFrame} (hg : g.method = m) (hsize : g.locals.size = c.maxLocals) {argsL rest : List Value} (hlen : ∀ sig, parseMethodDescriptor y.desc = some sig → argsL.length = sig.parameters.length)
    (hstack : g.stack = argsL.reverse ++ .ref b :: rest) (hW : 2 * g.monitorRoom + (rest.map fun v => v.category).sum ≤ W9) (hdg : decode c.code g.pc = .ok (.invokevirtual index, 3))
    (hpre : ∀ vm₁, s.WarmedH vm₁ → Pre ⟨T.setVm vm₁, locs, cells, slots⟩ (Value.ref b :: argsL).toArray) :
    (∃ (v : Option Value) (vm₁ : Vm) (B : Pt), s.WarmedH vm₁ ∧ Stand p l e R s m args below meth c B.U B.locs B.cells B.slots ∧ Post ⟨T.setVm vm₁, locs, cells, slots⟩ (Value.ref b :: argsL).toArray v B ∧
      ∀ target, Steps p.tables e below (B.U.setTop { g with pc := g.pc + 3, stack := v.toList ++ rest }) target → Steps p.tables e below (T.setTop g) target) ∨
    (∃ (q : Addr) (vm₁ : Vm) (B : Pt), s.WarmedH vm₁ ∧ Stand p l e R s m args below meth c B.U B.locs B.cells B.slots ∧ PostX ⟨T.setVm vm₁, locs, cells, slots⟩ (Value.ref b :: argsL).toArray q B ∧
      Steps p.tables e below (T.setTop g) ((B.U.setTop { g with stack := rest }).pushFrame (.throwing q))) := by
  obtain ⟨mk, methM, hnamed, hmethM, hstM, habM⟩ := Cond.instanceMethod_spec hinst
  obtain ⟨m8, methM', cM, hn8, hmethM', -, -, -, -, -, -, hsigM⟩ := Cond.codeWith_spec hcode
  cases Option.some.inj (hn8.symm.trans hnamed)
  cases hmethM.symm.trans hmethM'
  obtain ⟨c2, r2, m2, q1, q2, q3, q4, kP, hkP, hkPi⟩ := Cond.selects_spec hsel
  cases hcls.symm.trans q1
  cases (State.methodFound?_of_named hnamed hy).symm.trans q2
  cases hnamed.symm.trans q3
  have hselP : selectMethod e.platform s.vm cellB.cls mk = .method mk := by rw [Launch.admits_selectMethod X.admits]; exact q4
  obtain ⟨vm₁, X₁, hstep₁⟩ := X.invokevirtual hexec hown hlink hnamed hmethM hstM hkP hkPi hy (a := b) (cell := cellB) hcell
    (fun z h => by rw [h] at hobj; cases hobj) hselP hmethM habM hkP hkPi (g := g) hg (argsL := argsL) (rest := rest) (hlen _ hsigM) hstack hdg
  rcases hK m meth c ⟨T.setVm vm₁, locs, cells, slots⟩ { g with stack := rest } (.invokevirtual index) mk (Value.ref b :: argsL).toArray X₁ hg hsize hdg hW (X₁.named hnamed) (hpre vm₁ X₁.warmed) with ⟨v, B, X', hpost, hsteps⟩ | ⟨q, B, X', hpost, hsteps⟩
  · exact Or.inl ⟨v, vm₁, B, X₁.warmed, X', hpost, fun target h => hstep₁ _ fun acts => by rw [doInvoke_state]; exact hsteps.trans h⟩
  · exact Or.inr ⟨q, vm₁, B, X₁.warmed, X', hpost, hstep₁ _ fun acts => by rw [doInvoke_state]; exact hsteps⟩
theorem vx_callSX (X : Stand p l e R s m args below meth c T locs cells slots) (hexec : p.tables.exec = Jvm.exec) {own : String} {index : Nat} {y : MethodName} {bytes : ByteArray} {maxL : Nat} {ret : Option FieldType} {hh : List (Nat × Nat × Nat × Nat)}
    (hown : s.vm.findClass own = some m.cls) (hlink : (Cond.methodLink own index y).before args s = true) (hstat : (Cond.static y).before args s = true) (hinit : (Cond.initialized y.cls).before args s = true)
    (hcode : (Cond.codeWith y bytes maxL ret hh).before args s = true) (hy : y.cls ≠ "java/lang/invoke/MethodHandle" ∧ y.cls ≠ "java/lang/invoke/VarHandle")
    {W9 : Nat} {Pre : Pt → Array Value → Prop} {Post : Pt → Array Value → Option Value → Pt → Prop} {PostX : Pt → Array Value → Addr → Pt → Prop} (hK : vx_Back l R p e below s args y 3 W9 Pre Post PostX)
    {g : JFrame} (hg : g.method = m) (hsize : g.locals.size = c.maxLocals) {argsL rest : List Value} (hlen : ∀ sig, parseMethodDescriptor y.desc = some sig → argsL.length = sig.parameters.length)
    (hstack : g.stack = argsL.reverse ++ rest) (hW : 2 * g.monitorRoom + (rest.map fun v => v.category).sum ≤ W9) (hdg : decode c.code g.pc = .ok (.invokestatic index, 3))
    (hpre : ∀ vm₁, s.WarmedH vm₁ → Pre ⟨T.setVm vm₁, locs, cells, slots⟩ argsL.toArray) :
    (∃ (v : Option Value) (vm₁ : Vm) (B : Pt), s.WarmedH vm₁ ∧ Stand p l e R s m args below meth c B.U B.locs B.cells B.slots ∧ Post ⟨T.setVm vm₁, locs, cells, slots⟩ argsL.toArray v B ∧
      ∀ target, Steps p.tables e below (B.U.setTop { g with pc := g.pc + 3, stack := v.toList ++ rest }) target → Steps p.tables e below (T.setTop g) target) ∨
    (∃ (q : Addr) (vm₁ : Vm) (B : Pt), s.WarmedH vm₁ ∧ Stand p l e R s m args below meth c B.U B.locs B.cells B.slots ∧ PostX ⟨T.setVm vm₁, locs, cells, slots⟩ argsL.toArray q B ∧
      Steps p.tables e below (T.setTop g) ((B.U.setTop { g with stack := rest }).pushFrame (.throwing q))) := by
  obtain ⟨mk, methM, cM, hnamed, hmethM, -, -, -, -, -, -, hsigM⟩ := Cond.codeWith_spec hcode
  have hstatic : methM.isStatic = true := Cond.static_spec hnamed hmethM hstat
  obtain ⟨kP, hkP, -⟩ := className_of_methodNamed hnamed
  have hinitP : kP.init = .initialized := Cond.initialized_spec (findClass_of_methodNamed hnamed) hkP hinit
  obtain ⟨vm₁, X₁, hstep₁⟩ := X.invokestatic hexec hown hlink hnamed hmethM hstatic hkP hinitP hy (g := g) hg (argsL := argsL) (rest := rest) (hlen _ hsigM) hstack hdg
  rcases hK m meth c ⟨T.setVm vm₁, locs, cells, slots⟩ { g with stack := rest } (.invokestatic index) mk argsL.toArray X₁ hg hsize hdg hW (X₁.named hnamed) (hpre vm₁ X₁.warmed) with ⟨v, B, X', hpost, hsteps⟩ | ⟨q, B, X', hpost, hsteps⟩
  · exact Or.inl ⟨v, vm₁, B, X₁.warmed, X', hpost, fun target h => hstep₁ _ fun acts => by rw [doInvoke_state]; exact hsteps.trans h⟩
  · exact Or.inr ⟨q, vm₁, B, X₁.warmed, X', hpost, hstep₁ _ fun acts => by rw [doInvoke_state]; exact hsteps⟩
theorem vx_callVW (X : Stand p l e R s m args below meth c T locs cells slots) (hexec : p.tables.exec = Jvm.exec) {own C : String} {index : Nat} {y : MethodName} {bytes : ByteArray} {maxL : Nat} {ret : Option FieldType} {hh : List (Nat × Nat × Nat × Nat)}
    (hown : s.vm.findClass own = some m.cls) (hlink : (Cond.methodLink own index y).before args s = true) (hinst : (Cond.instanceMethod y).before args s = true) (hsel : (Cond.selects C y y).before args s = true)
    (hcode : (Cond.codeWith y bytes maxL ret hh).before args s = true) (hy : y.cls ≠ "java/lang/invoke/MethodHandle" ∧ y.cls ≠ "java/lang/invoke/VarHandle")
    {W9 : Nat} {Pre : Pt → Array Value → Prop} {Post : Pt → Array Value → Option Value → Pt → Prop} (hK : Back l R p e below s args y 3 W9 Pre Post)
    {b : Addr} {cellB : Cell} (hcell : T.heap[b]? = some cellB) (hobj : cellB.vm.isStatics = false) (hcls : s.vm.findClass C = some cellB.cls)
    {g : JFrame} (hg : g.method = m) (hsize : g.locals.size = c.maxLocals) {argsL rest : List Value} (hlen : ∀ sig, parseMethodDescriptor y.desc = some sig → argsL.length = sig.parameters.length)
    (hstack : g.stack = argsL.reverse ++ .ref b :: rest) (hW : 2 * g.monitorRoom + (rest.map fun v => v.category).sum ≤ W9) (hdg : decode c.code g.pc = .ok (.invokevirtual index, 3))
    (hpre : ∀ vm₁, s.WarmedH vm₁ → Pre ⟨T.setVm vm₁, locs, cells, slots⟩ (Value.ref b :: argsL).toArray) :
    ∃ (v : Option Value) (vm₁ : Vm) (B : Pt), s.WarmedH vm₁ ∧ Stand p l e R s m args below meth c B.U B.locs B.cells B.slots ∧ Post ⟨T.setVm vm₁, locs, cells, slots⟩ (Value.ref b :: argsL).toArray v B ∧
      ∀ target, Steps p.tables e below (B.U.setTop { g with pc := g.pc + 3, stack := v.toList ++ rest }) target → Steps p.tables e below (T.setTop g) target := by
  obtain ⟨mk, methM, hnamed, hmethM, hstM, habM⟩ := Cond.instanceMethod_spec hinst
  obtain ⟨m8, methM', cM, hn8, hmethM', -, -, -, -, -, -, hsigM⟩ := Cond.codeWith_spec hcode
  cases Option.some.inj (hn8.symm.trans hnamed)
  cases hmethM.symm.trans hmethM'
  obtain ⟨c2, r2, m2, q1, q2, q3, q4, kP, hkP, hkPi⟩ := Cond.selects_spec hsel
  cases hcls.symm.trans q1
  cases (State.methodFound?_of_named hnamed hy).symm.trans q2
  cases hnamed.symm.trans q3
  have hselP : selectMethod e.platform s.vm cellB.cls mk = .method mk := by rw [Launch.admits_selectMethod X.admits]; exact q4
  obtain ⟨vm₁, X₁, hstep₁⟩ := X.invokevirtual hexec hown hlink hnamed hmethM hstM hkP hkPi hy (a := b) (cell := cellB) hcell
    (fun z h => by rw [h] at hobj; cases hobj) hselP hmethM habM hkP hkPi (g := g) hg (argsL := argsL) (rest := rest) (hlen _ hsigM) hstack hdg
  obtain ⟨v, B, X', hpost, hsteps⟩ := hK m meth c ⟨T.setVm vm₁, locs, cells, slots⟩ { g with stack := rest } (.invokevirtual index) mk (Value.ref b :: argsL).toArray X₁ hg hsize hdg hW (X₁.named hnamed) (hpre vm₁ X₁.warmed)
  exact ⟨v, vm₁, B, X₁.warmed, X', hpost, fun target h => hstep₁ _ fun acts => by rw [doInvoke_state]; exact hsteps.trans h⟩
abbrev vx_CVW (R : Room) (s : State) (args : Array Value) (own C : String) (index : Nat) (y : MethodName) (bytes : ByteArray) (maxL : Nat) (ret : Option FieldType) (hh : List (Nat × Nat × Nat × Nat)) (ws : List Cond) (rm : Room) (mc ms n : Nat) : Prop :=
  (rm.cells = mc ∧ rm.slots = ms ∧ rm.frames + 1 ≤ R.frames ∧ 8 + (maxL + 11) + rm.locals ≤ R.locals ∧ (∀ w ∈ ws, ∀ (a' : Array Value) (U : State), s.WarmedH U.vm → w.before a' U = true) ∧ Cond.codeWith y bytes maxL ret hh ∈ ws) ∧
  (Cond.codeWith y bytes maxL ret hh).before args s = true ∧ (Cond.initialized y.cls).before args s = true ∧ (y.cls ≠ "java/lang/invoke/MethodHandle" ∧ y.cls ≠ "java/lang/invoke/VarHandle") ∧
  (∀ sig, parseMethodDescriptor y.desc = some sig → n = sig.parameters.length) ∧ (Cond.methodLink own index y).before args s = true ∧ (Cond.instanceMethod y).before args s = true ∧ (Cond.selects C y y).before args s = true
theorem vx_cwVW {own C : String} {index maxL mc ms : Nat} {y : MethodName} {bytes : ByteArray} {ret : Option FieldType} {hh : List (Nat × Nat × Nat × Nat)} {Ts ws ws' : List Cond} {rm : Room} (n : Nat) (ht : ∀ w ∈ Ts, w.before args s = true) (hT : GoodIn Ts (wsV own index C y ws)) (hw : ws = Cond.codeWith y bytes maxL ret hh :: ws') (hrc : rm.cells = mc) (hrs : rm.slots = ms)
    (hd : y.cls = C ∧ y.cls ≠ "java/lang/invoke/MethodHandle" ∧ y.cls ≠ "java/lang/invoke/VarHandle" ∧ (parseMethodDescriptor y.desc).map (fun d => d.parameters.length) = some n) (hR : rm.frames + 1 ≤ R.frames ∧ 8 + (maxL + 11) + rm.locals ≤ R.locals) :
    vx_CVW R s args own C index y bytes maxL ret hh ws rm mc ms n := by
  obtain ⟨hC, hd⟩ := hd
  subst hC
  have ok : ∀ w ∈ wsV own index y.cls y ws, w.before args s = true := fun w h => ht w (hT w h).1
  have hG : GoodIn Ts ws := fun w h => hT w (by unfold wsV; exact List.mem_append_right _ h)
  have hc : Cond.codeWith y bytes maxL ret hh ∈ ws := by rw [hw]; exact List.mem_cons_self
  refine ⟨⟨hrc, hrs, hR.1, hR.2, pay_in ht hG, hc⟩, ht _ (hG _ hc).1, ok _ (by simp [wsV]), ⟨hd.1, hd.2.1⟩, fun sig h => ?_, ok _ (by simp [wsV]), ok _ (by simp [wsV]), ok _ (by simp [wsV])⟩
  have h2 := hd.2.2
  rw [h] at h2
  exact (Option.some.inj h2).symm
theorem vx_runVW {y : MethodName} {bytes cc : ByteArray} {maxL nL mc ms n index : Nat} {ret : Option FieldType} {hh : List (Nat × Nat × Nat × Nat)} {ws : List Cond} {rm : Room} {Pc : Array Value → State → Prop} {Qc : Array Value → State → Outcome → State → Prop} {free : Addr → Prop} {Ts : List Cond} {own C : String} {b : Addr} {As rest : List Value} {g : JFrame}
    (S : CallFix p m c cc nL s args Ts own) (hM : Met l y ws rm Pc Qc mc ms free) (cw : vx_CVW R s args own C index y bytes maxL ret hh ws rm mc ms n) (hp : PreV s H C b Pc As)
    (hg : g.method = m) (hn : As.length = n) (hsize : g.locals.size = nL) (hstack : g.stack = As.reverse ++ .ref b :: rest) (hW : 2 * g.monitorRoom + (rest.map fun v => v.category).sum ≤ 8) (hdg : decode cc g.pc = .ok (.invokevirtual index, 3)) (hf : cells + mc ≤ R.cells ∧ slots + ms ≤ R.slots) :
    va_Run p l e R s m args below meth c H locs cells slots mc ms g rest (Qc (Value.ref b :: As).toArray) free := by
  obtain ⟨⟨hrc, hrs, hfr, hlo, hws, hcw⟩, hcode, hini, hy, hlen, hl, hin, hse⟩ := cw
  have hK : Back l R p e below s args y 3 8 (PreOf R mc ms Pc) (PostOf Qc mc ms free) := va_backW (hh := hh) (bytes := bytes) (maxL := maxL) (ret := ret) hM hp.1 hrc hrs hfr hlo hws hcw (fun a' U hW => word_at hW (Or.inl (by first | rfl | simp [Cond.onTables, Cond.keeps, Cond.steady])) hini)
  obtain ⟨hx, hb, hml, ho, -⟩ := S
  obtain ⟨-, ⟨cellB, hcB, hoB, hclB⟩, hPc⟩ := hp
  intro T hT X
  obtain ⟨v, vm₁, ⟨U', l2, c2, s2⟩, hW₁, X', ⟨g', mk, t, L, e1, e2, hq, h1, hL, h2, h3⟩, st⟩ := vx_callVW X hx (C := C) (hh := hh) (bytes := bytes) (maxL := maxL) (ret := ret) ho hl hin hse hcode hy hK (by rw [hT]; exact hcB) hoB hclB hg (hsize.trans hml.symm) (argsL := As) (rest := rest) (fun sig h => hn.trans (hlen sig h)) hstack hW (by rw [hb]; exact hdg)
    (fun vm₁ hW₁ => ⟨hf.1, hf.2, hPc (T.setVm vm₁) hT hW₁⟩)
  dsimp only [Pt.U, Pt.locs, Pt.cells, Pt.slots] at X' e1 e2 h1 h2 h3 st
  subst h1; subst h2; subst h3
  exact ⟨v, (T.setVm vm₁).calling g' mk (Value.ref b :: As).toArray, t, U', L, hT, X', hL, e1, e2, hq, st⟩
section
variable {y : MethodName} {bytes cc : ByteArray} {maxL nL mc ms n index : Nat} {ret : Option FieldType} {ws : List Cond} {rm : Room} {Pc : Array Value → State → Prop} {Qc : Array Value → State → Outcome → State → Prop} {XC : String → State → State → Prop} {free : Addr → Prop} {Ts : List Cond} {own C : String} {b : Addr} {As rest : List Value} {g : JFrame}
theorem vx_runVX {hh : List (Nat × Nat × Nat × Nat)} (S : CallFix p m c cc nL s args Ts own) (hM : vx_Met l y ws rm Pc Qc XC mc ms free) (cw : vx_CVW R s args own C index y bytes maxL ret hh ws rm mc ms n) (hp : PreV s H C b Pc As)
    (hg : g.method = m) (hn : As.length = n) (hsize : g.locals.size = nL) (hstack : g.stack = As.reverse ++ .ref b :: rest) (hW : 2 * g.monitorRoom + (rest.map fun v => v.category).sum ≤ 8) (hdg : decode cc g.pc = .ok (.invokevirtual index, 3)) (hf : cells + mc ≤ R.cells ∧ slots + ms ≤ R.slots) :
    vx_Run p l e R s m args below meth c H locs cells slots mc ms g rest (Qc (Value.ref b :: As).toArray) XC free := by
  obtain ⟨⟨hrc, hrs, hfr, hlo, hws, hcw⟩, hcode, hini, hy, hlen, hl, hin, hse⟩ := cw
  have hK : vx_Back l R p e below s args y 3 8 (PreOf R mc ms Pc) (PostOf Qc mc ms free) (vx_Post XC mc ms free) := vx_backW (hh := hh) (bytes := bytes) (maxL := maxL) (ret := ret) hM hp.1 hrc hrs hfr hlo hws hcw (fun a' U hW => word_at hW (Or.inl (by first | rfl | simp [Cond.onTables, Cond.keeps, Cond.steady])) hini)
  obtain ⟨hx, hb, hml, ho, -⟩ := S
  obtain ⟨-, ⟨cellB, hcB, hoB, hclB⟩, hPc⟩ := hp
  intro T hT X
  rcases vx_callVX X hx (C := C) (hh := hh) (bytes := bytes) (maxL := maxL) (ret := ret) ho hl hin hse hcode hy hK (by rw [hT]; exact hcB) hoB hclB hg (hsize.trans hml.symm) (argsL := As) (rest := rest) (fun sig h => hn.trans (hlen sig h)) hstack hW (by rw [hb]; exact hdg)
    (fun vm₁ hW₁ => ⟨hf.1, hf.2, hPc (T.setVm vm₁) hT hW₁⟩) with ⟨v, vm₁, ⟨U', l2, c2, s2⟩, hW₁, X', ⟨g', mk, t, L, e1, e2, hq, h1, hL, h2, h3⟩, st⟩ | ⟨q, vm₁, ⟨U', l2, c2, s2⟩, hW₁, X', ⟨g', mk, t, L, E, ce, e1, e2, hq, hce, hcv, hcl, h1, hL, h2, h3⟩, st⟩
  · dsimp only [Pt.U, Pt.locs, Pt.cells, Pt.slots] at X' e1 e2 h1 h2 h3 st
    subst h1; subst h2; subst h3
    exact Or.inl ⟨v, (T.setVm vm₁).calling g' mk (Value.ref b :: As).toArray, t, U', L, hT, X', hL, e1, e2, hq, st⟩
  · dsimp only [Pt.U, Pt.locs, Pt.cells, Pt.slots] at X' e1 e2 h1 h2 h3 st hcl
    subst h1; subst h2; subst h3
    exact Or.inr ⟨q, (T.setVm vm₁).calling g' mk (Value.ref b :: As).toArray, t, U', L, E, ce, hT, X', hL, e1, e2, hq, hce, hcv, vx_cls hW₁ hcl, st⟩
theorem vx_runSX {hh : List (Nat × Nat × Nat × Nat)} (S : CallFix p m c cc nL s args Ts own) (hM : vx_Met l y ws rm Pc Qc XC mc ms free) (cw : vx_CSW R s args own index y bytes maxL ret hh ws rm mc ms n) (hp : PreS s H Pc As)
    (hg : g.method = m) (hn : As.length = n) (hsize : g.locals.size = nL) (hstack : g.stack = As.reverse ++ rest) (hW : 2 * g.monitorRoom + (rest.map fun v => v.category).sum ≤ 8) (hdg : decode cc g.pc = .ok (.invokestatic index, 3)) (hf : cells + mc ≤ R.cells ∧ slots + ms ≤ R.slots) :
    vx_Run p l e R s m args below meth c H locs cells slots mc ms g rest (Qc As.toArray) XC free := by
  obtain ⟨⟨hrc, hrs, hfr, hlo, hws, hcw⟩, hcode, hini, hy, hlen, hl, hstt⟩ := cw
  have hK : vx_Back l R p e below s args y 3 8 (PreOf R mc ms Pc) (PostOf Qc mc ms free) (vx_Post XC mc ms free) := vx_backW (hh := hh) (bytes := bytes) (maxL := maxL) (ret := ret) hM hp.1 hrc hrs hfr hlo hws hcw (fun a' U hW => word_at hW (Or.inl (by first | rfl | simp [Cond.onTables, Cond.keeps, Cond.steady])) hini)
  obtain ⟨hx, hb, hml, ho, -⟩ := S
  intro T hT X
  rcases vx_callSX X hx (hh := hh) (bytes := bytes) (maxL := maxL) (ret := ret) ho hl hstt hini hcode hy hK hg (hsize.trans hml.symm) (argsL := As) (rest := rest) (fun sig h => hn.trans (hlen sig h)) hstack hW (by rw [hb]; exact hdg)
    (fun vm₁ hW₁ => ⟨hf.1, hf.2, hp.2 (T.setVm vm₁) hT hW₁⟩) with ⟨v, vm₁, ⟨U', l2, c2, s2⟩, hW₁, X', ⟨g', mk, t, L, e1, e2, hq, h1, hL, h2, h3⟩, st⟩ | ⟨q, vm₁, ⟨U', l2, c2, s2⟩, hW₁, X', ⟨g', mk, t, L, E, ce, e1, e2, hq, hce, hcv, hcl, h1, hL, h2, h3⟩, st⟩
  · dsimp only [Pt.U, Pt.locs, Pt.cells, Pt.slots] at X' e1 e2 h1 h2 h3 st
    subst h1; subst h2; subst h3
    exact Or.inl ⟨v, (T.setVm vm₁).calling g' mk As.toArray, t, U', L, hT, X', hL, e1, e2, hq, st⟩
  · dsimp only [Pt.U, Pt.locs, Pt.cells, Pt.slots] at X' e1 e2 h1 h2 h3 st hcl
    subst h1; subst h2; subst h3
    exact Or.inr ⟨q, (T.setVm vm₁).calling g' mk As.toArray, t, U', L, E, ce, hT, X', hL, e1, e2, hq, hce, hcv, vx_cls hW₁ hcl, st⟩
end
end VXH
theorem vx_ofWH {l : Launch} {y : MethodName} {ws ws' : List Cond} {rm : Room} {Pc : Array Value → State → Prop} {Qc : Array Value → State → Outcome → State → Prop} {XC : String → State → State → Prop} {mc ms : Nat} {free : Addr → Prop} {cc : ByteArray} {maxL : Nat} {ret : Option FieldType} {hh : List (Nat × Nat × Nat × Nat)}
    (hy : plainName y.cls = true) (hw : ws = Cond.codeWith y cc maxL ret hh :: ws')
    (body : ∀ p e s m args below meth c s₁, BodyLoose p l y (headSpec ws rm) cc maxL ret e s m args below meth c s₁ → c.maxLocals = maxL → Pc args s →
      W p l e (headSpec ws rm).room s m args below meth c s.heap [] 0 0 (vx_MQ below Qc XC args s mc ms free) (entryFrame m args maxL)) : vx_Met l y ws rm Pc Qc XC mc ms free := by
  refine MetFree.of_bodyS (code := cc) (maxLocals := maxL) (ret := ret) hy ?_ ?_
  · intro args s m h hn
    obtain ⟨m9, meth, c, hn9, h1, h2, h3, h4, -, h5, h6, -⟩ := Cond.codeWith_spec (atoms_spec (ws := ws) h _ (by rw [hw]; exact List.mem_cons_self))
    cases hn.symm.trans hn9
    exact ⟨meth, c, h1, h2, h3, h4, h5, h6⟩
  · intro p e s m args below meth c s₁ B hml hP _
    have hh0 : s₁.heap = s.heap := by rw [B.state]; rfl
    obtain ⟨t, a1, o, b1, b2, b3⟩ := body p e s m args below meth c s₁ B hml hP s₁ hh0 (Stand.of_body B)
    exact ⟨t, o, a1, b1, b2, b3⟩
/-! ===== END ===== -/
end
section
/-! names: classes, fields, codes, methods; a row that decodes each instruction (by gen_names.py) -/
def R_X : String := "ParityDisks"
def T_X : u_T := fun k => match k with
  | 0 => ("ParityDisks", "cells", "[J", true)
  | _ => ("ParityDisks", "usedUpTo", "[I", true)
def ty_X : Nat → FieldType := fun k => match k with
  | 0 => .array .long
  | _ => .array .int
theorem nd_X : ∀ a, a < 2 → ∀ b, b < 2 → a ≠ b → (T_X a).2.1 ≠ (T_X b).2.1 := by decide +kernel
theorem ty_X_ok : ∀ k, k < 2 → parseFieldDescriptor (T_X k).2.2.1 = some (ty_X k) := by decide +kernel
def R_M : String := "ParityDisksModel"
def T_M : u_T := fun k => match k with
  | 0 => ("ParityDisksModel", "err", "I", false)
  | 1 => ("ParityDisksModel", "stands", "[J", true)
  | _ => ("ParityDisksModel", "up", "[I", true)
def ty_M : Nat → FieldType := fun k => match k with
  | 0 => .int
  | 1 => .array .long
  | _ => .array .int
theorem nd_M : ∀ a, a < 3 → ∀ b, b < 3 → a ≠ b → (T_M a).2.1 ≠ (T_M b).2.1 := by decide +kernel
theorem ty_M_ok : ∀ k, k < 3 → parseFieldDescriptor (T_M k).2.2.1 = some (ty_M k) := by decide +kernel
def R_L : String := "ParityDisksLaw"
abbrev cX_init : ByteArray := prog_1_method_1_code
def yX_init : MethodName := ⟨R_X, "<init>", "()V"⟩
abbrev cX_read : ByteArray := prog_1_method_2_code
def yX_read : MethodName := ⟨R_X, "read", "(II)J"⟩
abbrev cX_write : ByteArray := prog_1_method_3_code
def yX_write : MethodName := ⟨R_X, "write", "(IIJ)V"⟩
abbrev cX_fail : ByteArray := prog_1_method_4_code
def yX_fail : MethodName := ⟨R_X, "fail", "(I)V"⟩
abbrev cX_replace : ByteArray := prog_1_method_5_code
def yX_replace : MethodName := ⟨R_X, "replace", "(I)V"⟩
abbrev cX_rebuild : ByteArray := prog_1_method_6_code
def yX_rebuild : MethodName := ⟨R_X, "rebuild", "(II)I"⟩
abbrev cX_flip : ByteArray := prog_1_method_7_code
def yX_flip : MethodName := ⟨R_X, "flip", "(IIIJ)V"⟩
abbrev cX_block : ByteArray := prog_1_method_8_code
def yX_block : MethodName := ⟨R_X, "block", "(III)J"⟩
abbrev cX_scrub : ByteArray := prog_1_method_9_code
def yX_scrub : MethodName := ⟨R_X, "scrub", "()I"⟩
abbrev cX_state : ByteArray := prog_1_method_10_code
def yX_state : MethodName := ⟨R_X, "state", "(I)I"⟩
abbrev cX_lost : ByteArray := prog_1_method_11_code
def yX_lost : MethodName := ⟨R_X, "lost", "()I"⟩
abbrev cX_checkDisk : ByteArray := prog_1_method_12_code
def yX_checkDisk : MethodName := ⟨R_X, "checkDisk", "(I)V"⟩
abbrev cX_checkPlace : ByteArray := prog_1_method_13_code
def yX_checkPlace : MethodName := ⟨R_X, "checkPlace", "(I)V"⟩
abbrev cX_checkHalf : ByteArray := prog_1_method_14_code
def yX_checkHalf : MethodName := ⟨R_X, "checkHalf", "(I)V"⟩
abbrev cX_checkBlock : ByteArray := prog_1_method_15_code
def yX_checkBlock : MethodName := ⟨R_X, "checkBlock", "(I)V"⟩
abbrev cX_checkStanding : ByteArray := prog_1_method_16_code
def yX_checkStanding : MethodName := ⟨R_X, "checkStanding", "(III)V"⟩
abbrev cX_stripeOf : ByteArray := prog_1_method_17_code
def yX_stripeOf : MethodName := ⟨R_X, "stripeOf", "(I)I"⟩
abbrev cX_parityDiskOf : ByteArray := prog_1_method_18_code
def yX_parityDiskOf : MethodName := ⟨R_X, "parityDiskOf", "(I)I"⟩
abbrev cX_diskOf : ByteArray := prog_1_method_19_code
def yX_diskOf : MethodName := ⟨R_X, "diskOf", "(I)I"⟩
abbrev cX_cellOf : ByteArray := prog_1_method_20_code
def yX_cellOf : MethodName := ⟨R_X, "cellOf", "(III)I"⟩
abbrev cX_canBeUsed : ByteArray := prog_1_method_21_code
def yX_canBeUsed : MethodName := ⟨R_X, "canBeUsed", "(II)Z"⟩
abbrev cX_othersCanBeUsed : ByteArray := prog_1_method_22_code
def yX_othersCanBeUsed : MethodName := ⟨R_X, "othersCanBeUsed", "(II)Z"⟩
abbrev cX_allCanBeUsed : ByteArray := prog_1_method_23_code
def yX_allCanBeUsed : MethodName := ⟨R_X, "allCanBeUsed", "(I)Z"⟩
abbrev cX_isLost : ByteArray := prog_1_method_24_code
def yX_isLost : MethodName := ⟨R_X, "isLost", "(II)Z"⟩
abbrev cX_whatItHas : ByteArray := prog_1_method_25_code
def yX_whatItHas : MethodName := ⟨R_X, "whatItHas", "(III)J"⟩
abbrev cX_xorOfOthers : ByteArray := prog_1_method_26_code
def yX_xorOfOthers : MethodName := ⟨R_X, "xorOfOthers", "(III)J"⟩
abbrev cX_rebuildBlock : ByteArray := prog_1_method_27_code
def yX_rebuildBlock : MethodName := ⟨R_X, "rebuildBlock", "(II)V"⟩
abbrev cX_mendParity : ByteArray := prog_1_method_28_code
def yX_mendParity : MethodName := ⟨R_X, "mendParity", "(I)Z"⟩
abbrev cM_init : ByteArray := prog_3_method_1_code
def yM_init : MethodName := ⟨R_M, "<init>", "()V"⟩
abbrev cM_thrown : ByteArray := prog_3_method_2_code
def yM_thrown : MethodName := ⟨R_M, "thrown", "()I"⟩
abbrev cM_fails : ByteArray := prog_3_method_3_code
def yM_fails : MethodName := ⟨R_M, "fails", "(ZI)Z"⟩
abbrev cM_at : ByteArray := prog_3_method_4_code
def yM_at : MethodName := ⟨R_M, "at", "(III)I"⟩
abbrev cM_usable : ByteArray := prog_3_method_5_code
def yM_usable : MethodName := ⟨R_M, "usable", "(II)Z"⟩
abbrev cM_gone : ByteArray := prog_3_method_6_code
def yM_gone : MethodName := ⟨R_M, "gone", "(II)Z"⟩
abbrev cM_others : ByteArray := prog_3_method_7_code
def yM_others : MethodName := ⟨R_M, "others", "(III)J"⟩
abbrev cM_has : ByteArray := prog_3_method_8_code
def yM_has : MethodName := ⟨R_M, "has", "(III)J"⟩
abbrev cM_disk : ByteArray := prog_3_method_9_code
def yM_disk : MethodName := ⟨R_M, "disk", "(I)I"⟩
abbrev cM_noPlace : ByteArray := prog_3_method_10_code
def yM_noPlace : MethodName := ⟨R_M, "noPlace", "(II)Z"⟩
abbrev cM_read : ByteArray := prog_3_method_11_code
def yM_read : MethodName := ⟨R_M, "read", "(II)J"⟩
abbrev cM_write : ByteArray := prog_3_method_12_code
def yM_write : MethodName := ⟨R_M, "write", "(IIJ)V"⟩
abbrev cM_none : ByteArray := prog_3_method_13_code
def yM_none : MethodName := ⟨R_M, "none", "(I)Z"⟩
abbrev cM_fail : ByteArray := prog_3_method_14_code
def yM_fail : MethodName := ⟨R_M, "fail", "(I)V"⟩
abbrev cM_replace : ByteArray := prog_3_method_15_code
def yM_replace : MethodName := ⟨R_M, "replace", "(I)V"⟩
abbrev cM_rebuild : ByteArray := prog_3_method_16_code
def yM_rebuild : MethodName := ⟨R_M, "rebuild", "(II)I"⟩
abbrev cM_noBlock : ByteArray := prog_3_method_17_code
def yM_noBlock : MethodName := ⟨R_M, "noBlock", "(III)Z"⟩
abbrev cM_flip : ByteArray := prog_3_method_18_code
def yM_flip : MethodName := ⟨R_M, "flip", "(IIIJ)V"⟩
abbrev cM_block : ByteArray := prog_3_method_19_code
def yM_block : MethodName := ⟨R_M, "block", "(III)J"⟩
abbrev cM_scrub : ByteArray := prog_3_method_20_code
def yM_scrub : MethodName := ⟨R_M, "scrub", "()I"⟩
abbrev cM_state : ByteArray := prog_3_method_21_code
def yM_state : MethodName := ⟨R_M, "state", "(I)I"⟩
abbrev cM_lost : ByteArray := prog_3_method_22_code
def yM_lost : MethodName := ⟨R_M, "lost", "()I"⟩
abbrev cL_law : ByteArray := code
def yL_law : MethodName := ⟨R_L, "law", "([I)Z"⟩
abbrev cL_read : ByteArray := method_3_code
def yL_read : MethodName := ⟨R_L, "read", "(LParityDisks;II[J)I"⟩
abbrev cL_write : ByteArray := method_4_code
def yL_write : MethodName := ⟨R_L, "write", "(LParityDisks;IIJ)I"⟩
abbrev cL_fail : ByteArray := method_5_code
def yL_fail : MethodName := ⟨R_L, "fail", "(LParityDisks;I)I"⟩
abbrev cL_replace : ByteArray := method_6_code
def yL_replace : MethodName := ⟨R_L, "replace", "(LParityDisks;I)I"⟩
abbrev cL_rebuild : ByteArray := method_7_code
def yL_rebuild : MethodName := ⟨R_L, "rebuild", "(LParityDisks;II[J)I"⟩
abbrev cL_flip : ByteArray := method_8_code
def yL_flip : MethodName := ⟨R_L, "flip", "(LParityDisks;IIIJ)I"⟩
abbrev cL_block : ByteArray := method_9_code
def yL_block : MethodName := ⟨R_L, "block", "(LParityDisks;III[J)I"⟩
abbrev cL_state : ByteArray := method_10_code
def yL_state : MethodName := ⟨R_L, "state", "(LParityDisks;I[J)I"⟩
theorem dX_init_0 : decode cX_init 0 = .ok (.aload_n 0, 1) := by decide +kernel
theorem dX_init_1 : decode cX_init 1 = .ok (.invokespecial 3, 3) := by decide +kernel
theorem dX_init_4 : decode cX_init 4 = .ok (.aload_n 0, 1) := by decide +kernel
theorem dX_init_5 : decode cX_init 5 = .ok (.sipush 1000, 3) := by decide +kernel
theorem dX_init_8 : decode cX_init 8 = .ok (.newarray .long, 2) := by decide +kernel
theorem dX_init_10 : decode cX_init 10 = .ok (.putfield 9, 3) := by decide +kernel
theorem dX_init_13 : decode cX_init 13 = .ok (.aload_n 0, 1) := by decide +kernel
theorem dX_init_14 : decode cX_init 14 = .ok (.iconst 5, 1) := by decide +kernel
theorem dX_init_15 : decode cX_init 15 = .ok (.newarray .int, 2) := by decide +kernel
theorem dX_init_17 : decode cX_init 17 = .ok (.putfield 13, 3) := by decide +kernel
theorem dX_init_20 : decode cX_init 20 = .ok (.iconst 0, 1) := by decide +kernel
theorem dX_init_21 : decode cX_init 21 = .ok (.istore_n 1, 1) := by decide +kernel
theorem dX_init_22 : decode cX_init 22 = .ok (.iload_n 1, 1) := by decide +kernel
theorem dX_init_23 : decode cX_init 23 = .ok (.iconst 5, 1) := by decide +kernel
theorem dX_init_24 : decode cX_init 24 = .ok (.if_icmp .ge 17, 3) := by decide +kernel
theorem dX_init_27 : decode cX_init 27 = .ok (.aload_n 0, 1) := by decide +kernel
theorem dX_init_28 : decode cX_init 28 = .ok (.getfield 13, 3) := by decide +kernel
theorem dX_init_31 : decode cX_init 31 = .ok (.iload_n 1, 1) := by decide +kernel
theorem dX_init_32 : decode cX_init 32 = .ok (.bipush 100, 2) := by decide +kernel
theorem dX_init_34 : decode cX_init 34 = .ok (.iastore, 1) := by decide +kernel
theorem dX_init_35 : decode cX_init 35 = .ok (.iinc 1 1, 3) := by decide +kernel
theorem dX_init_38 : decode cX_init 38 = .ok (.goto (-16), 3) := by decide +kernel
theorem dX_init_41 : decode cX_init 41 = .ok (.return_, 1) := by decide +kernel
theorem dX_read_0 : decode cX_read 0 = .ok (.iload_n 1, 1) := by decide +kernel
theorem dX_read_1 : decode cX_read 1 = .ok (.invokestatic 17, 3) := by decide +kernel
theorem dX_read_4 : decode cX_read 4 = .ok (.iload_n 2, 1) := by decide +kernel
theorem dX_read_5 : decode cX_read 5 = .ok (.invokestatic 21, 3) := by decide +kernel
theorem dX_read_8 : decode cX_read 8 = .ok (.iload_n 1, 1) := by decide +kernel
theorem dX_read_9 : decode cX_read 9 = .ok (.invokestatic 24, 3) := by decide +kernel
theorem dX_read_12 : decode cX_read 12 = .ok (.istore_n 3, 1) := by decide +kernel
theorem dX_read_13 : decode cX_read 13 = .ok (.iload_n 1, 1) := by decide +kernel
theorem dX_read_14 : decode cX_read 14 = .ok (.invokestatic 28, 3) := by decide +kernel
theorem dX_read_17 : decode cX_read 17 = .ok (.istore 4, 2) := by decide +kernel
theorem dX_read_19 : decode cX_read 19 = .ok (.aload_n 0, 1) := by decide +kernel
theorem dX_read_20 : decode cX_read 20 = .ok (.iload 4, 2) := by decide +kernel
theorem dX_read_22 : decode cX_read 22 = .ok (.iload_n 3, 1) := by decide +kernel
theorem dX_read_23 : decode cX_read 23 = .ok (.invokevirtual 31, 3) := by decide +kernel
theorem dX_read_26 : decode cX_read 26 = .ok (.ifCond .eq 13, 3) := by decide +kernel
theorem dX_read_29 : decode cX_read 29 = .ok (.new 35, 3) := by decide +kernel
theorem dX_read_32 : decode cX_read 32 = .ok (.dup, 1) := by decide +kernel
theorem dX_read_33 : decode cX_read 33 = .ok (.ldc 37, 2) := by decide +kernel
theorem dX_read_35 : decode cX_read 35 = .ok (.invokespecial 39, 3) := by decide +kernel
theorem dX_read_38 : decode cX_read 38 = .ok (.athrow, 1) := by decide +kernel
theorem dX_read_39 : decode cX_read 39 = .ok (.aload_n 0, 1) := by decide +kernel
theorem dX_read_40 : decode cX_read 40 = .ok (.iload 4, 2) := by decide +kernel
theorem dX_read_42 : decode cX_read 42 = .ok (.iload_n 3, 1) := by decide +kernel
theorem dX_read_43 : decode cX_read 43 = .ok (.iload_n 2, 1) := by decide +kernel
theorem dX_read_44 : decode cX_read 44 = .ok (.invokevirtual 42, 3) := by decide +kernel
theorem dX_read_47 : decode cX_read 47 = .ok (.lreturn, 1) := by decide +kernel
theorem dX_write_0 : decode cX_write 0 = .ok (.iload_n 1, 1) := by decide +kernel
theorem dX_write_1 : decode cX_write 1 = .ok (.invokestatic 17, 3) := by decide +kernel
theorem dX_write_4 : decode cX_write 4 = .ok (.iload_n 2, 1) := by decide +kernel
theorem dX_write_5 : decode cX_write 5 = .ok (.invokestatic 21, 3) := by decide +kernel
theorem dX_write_8 : decode cX_write 8 = .ok (.iload_n 1, 1) := by decide +kernel
theorem dX_write_9 : decode cX_write 9 = .ok (.invokestatic 24, 3) := by decide +kernel
theorem dX_write_12 : decode cX_write 12 = .ok (.istore 5, 2) := by decide +kernel
theorem dX_write_14 : decode cX_write 14 = .ok (.iload_n 1, 1) := by decide +kernel
theorem dX_write_15 : decode cX_write 15 = .ok (.invokestatic 28, 3) := by decide +kernel
theorem dX_write_18 : decode cX_write 18 = .ok (.istore 6, 2) := by decide +kernel
theorem dX_write_20 : decode cX_write 20 = .ok (.aload_n 0, 1) := by decide +kernel
theorem dX_write_21 : decode cX_write 21 = .ok (.iload 6, 2) := by decide +kernel
theorem dX_write_23 : decode cX_write 23 = .ok (.iload 5, 2) := by decide +kernel
theorem dX_write_25 : decode cX_write 25 = .ok (.invokevirtual 31, 3) := by decide +kernel
theorem dX_write_28 : decode cX_write 28 = .ok (.ifCond .eq 13, 3) := by decide +kernel
theorem dX_write_31 : decode cX_write 31 = .ok (.new 35, 3) := by decide +kernel
theorem dX_write_34 : decode cX_write 34 = .ok (.dup, 1) := by decide +kernel
theorem dX_write_35 : decode cX_write 35 = .ok (.ldc 46, 2) := by decide +kernel
theorem dX_write_37 : decode cX_write 37 = .ok (.invokespecial 39, 3) := by decide +kernel
theorem dX_write_40 : decode cX_write 40 = .ok (.athrow, 1) := by decide +kernel
theorem dX_write_41 : decode cX_write 41 = .ok (.aload_n 0, 1) := by decide +kernel
theorem dX_write_42 : decode cX_write 42 = .ok (.iload 6, 2) := by decide +kernel
theorem dX_write_44 : decode cX_write 44 = .ok (.iload 5, 2) := by decide +kernel
theorem dX_write_46 : decode cX_write 46 = .ok (.iload_n 2, 1) := by decide +kernel
theorem dX_write_47 : decode cX_write 47 = .ok (.invokevirtual 42, 3) := by decide +kernel
theorem dX_write_50 : decode cX_write 50 = .ok (.lstore 7, 2) := by decide +kernel
theorem dX_write_52 : decode cX_write 52 = .ok (.iload 5, 2) := by decide +kernel
theorem dX_write_54 : decode cX_write 54 = .ok (.invokestatic 48, 3) := by decide +kernel
theorem dX_write_57 : decode cX_write 57 = .ok (.istore 9, 2) := by decide +kernel
theorem dX_write_59 : decode cX_write 59 = .ok (.aload_n 0, 1) := by decide +kernel
theorem dX_write_60 : decode cX_write 60 = .ok (.iload 9, 2) := by decide +kernel
theorem dX_write_62 : decode cX_write 62 = .ok (.iload 5, 2) := by decide +kernel
theorem dX_write_64 : decode cX_write 64 = .ok (.invokevirtual 51, 3) := by decide +kernel
theorem dX_write_67 : decode cX_write 67 = .ok (.ifCond .eq 23, 3) := by decide +kernel
theorem dX_write_70 : decode cX_write 70 = .ok (.aload_n 0, 1) := by decide +kernel
theorem dX_write_71 : decode cX_write 71 = .ok (.getfield 9, 3) := by decide +kernel
theorem dX_write_74 : decode cX_write 74 = .ok (.iload 9, 2) := by decide +kernel
theorem dX_write_76 : decode cX_write 76 = .ok (.iload 5, 2) := by decide +kernel
theorem dX_write_78 : decode cX_write 78 = .ok (.iload_n 2, 1) := by decide +kernel
theorem dX_write_79 : decode cX_write 79 = .ok (.invokestatic 54, 3) := by decide +kernel
theorem dX_write_82 : decode cX_write 82 = .ok (.dup2, 1) := by decide +kernel
theorem dX_write_83 : decode cX_write 83 = .ok (.laload, 1) := by decide +kernel
theorem dX_write_84 : decode cX_write 84 = .ok (.lload 7, 2) := by decide +kernel
theorem dX_write_86 : decode cX_write 86 = .ok (.lload_n 3, 1) := by decide +kernel
theorem dX_write_87 : decode cX_write 87 = .ok (.lxor, 1) := by decide +kernel
theorem dX_write_88 : decode cX_write 88 = .ok (.lxor, 1) := by decide +kernel
theorem dX_write_89 : decode cX_write 89 = .ok (.lastore, 1) := by decide +kernel
theorem dX_write_90 : decode cX_write 90 = .ok (.aload_n 0, 1) := by decide +kernel
theorem dX_write_91 : decode cX_write 91 = .ok (.iload 6, 2) := by decide +kernel
theorem dX_write_93 : decode cX_write 93 = .ok (.iload 5, 2) := by decide +kernel
theorem dX_write_95 : decode cX_write 95 = .ok (.invokevirtual 51, 3) := by decide +kernel
theorem dX_write_98 : decode cX_write 98 = .ok (.ifCond .eq 17, 3) := by decide +kernel
theorem dX_write_101 : decode cX_write 101 = .ok (.aload_n 0, 1) := by decide +kernel
theorem dX_write_102 : decode cX_write 102 = .ok (.getfield 9, 3) := by decide +kernel
theorem dX_write_105 : decode cX_write 105 = .ok (.iload 6, 2) := by decide +kernel
theorem dX_write_107 : decode cX_write 107 = .ok (.iload 5, 2) := by decide +kernel
theorem dX_write_109 : decode cX_write 109 = .ok (.iload_n 2, 1) := by decide +kernel
theorem dX_write_110 : decode cX_write 110 = .ok (.invokestatic 54, 3) := by decide +kernel
theorem dX_write_113 : decode cX_write 113 = .ok (.lload_n 3, 1) := by decide +kernel
theorem dX_write_114 : decode cX_write 114 = .ok (.lastore, 1) := by decide +kernel
theorem dX_write_115 : decode cX_write 115 = .ok (.return_, 1) := by decide +kernel
theorem dX_fail_0 : decode cX_fail 0 = .ok (.iload_n 1, 1) := by decide +kernel
theorem dX_fail_1 : decode cX_fail 1 = .ok (.invokestatic 58, 3) := by decide +kernel
theorem dX_fail_4 : decode cX_fail 4 = .ok (.aload_n 0, 1) := by decide +kernel
theorem dX_fail_5 : decode cX_fail 5 = .ok (.getfield 13, 3) := by decide +kernel
theorem dX_fail_8 : decode cX_fail 8 = .ok (.iload_n 1, 1) := by decide +kernel
theorem dX_fail_9 : decode cX_fail 9 = .ok (.iconst (-1), 1) := by decide +kernel
theorem dX_fail_10 : decode cX_fail 10 = .ok (.iastore, 1) := by decide +kernel
theorem dX_fail_11 : decode cX_fail 11 = .ok (.return_, 1) := by decide +kernel
theorem dX_replace_0 : decode cX_replace 0 = .ok (.iload_n 1, 1) := by decide +kernel
theorem dX_replace_1 : decode cX_replace 1 = .ok (.invokestatic 58, 3) := by decide +kernel
theorem dX_replace_4 : decode cX_replace 4 = .ok (.aload_n 0, 1) := by decide +kernel
theorem dX_replace_5 : decode cX_replace 5 = .ok (.getfield 13, 3) := by decide +kernel
theorem dX_replace_8 : decode cX_replace 8 = .ok (.iload_n 1, 1) := by decide +kernel
theorem dX_replace_9 : decode cX_replace 9 = .ok (.iaload, 1) := by decide +kernel
theorem dX_replace_10 : decode cX_replace 10 = .ok (.iconst (-1), 1) := by decide +kernel
theorem dX_replace_11 : decode cX_replace 11 = .ok (.if_icmp .eq 13, 3) := by decide +kernel
theorem dX_replace_14 : decode cX_replace 14 = .ok (.new 61, 3) := by decide +kernel
theorem dX_replace_17 : decode cX_replace 17 = .ok (.dup, 1) := by decide +kernel
theorem dX_replace_18 : decode cX_replace 18 = .ok (.ldc 63, 2) := by decide +kernel
theorem dX_replace_20 : decode cX_replace 20 = .ok (.invokespecial 65, 3) := by decide +kernel
theorem dX_replace_23 : decode cX_replace 23 = .ok (.athrow, 1) := by decide +kernel
theorem dX_replace_24 : decode cX_replace 24 = .ok (.iconst 0, 1) := by decide +kernel
theorem dX_replace_25 : decode cX_replace 25 = .ok (.istore_n 2, 1) := by decide +kernel
theorem dX_replace_26 : decode cX_replace 26 = .ok (.iload_n 2, 1) := by decide +kernel
theorem dX_replace_27 : decode cX_replace 27 = .ok (.bipush 100, 2) := by decide +kernel
theorem dX_replace_29 : decode cX_replace 29 = .ok (.if_icmp .ge 34, 3) := by decide +kernel
theorem dX_replace_32 : decode cX_replace 32 = .ok (.iconst 0, 1) := by decide +kernel
theorem dX_replace_33 : decode cX_replace 33 = .ok (.istore_n 3, 1) := by decide +kernel
theorem dX_replace_34 : decode cX_replace 34 = .ok (.iload_n 3, 1) := by decide +kernel
theorem dX_replace_35 : decode cX_replace 35 = .ok (.iconst 2, 1) := by decide +kernel
theorem dX_replace_36 : decode cX_replace 36 = .ok (.if_icmp .ge 21, 3) := by decide +kernel
theorem dX_replace_39 : decode cX_replace 39 = .ok (.aload_n 0, 1) := by decide +kernel
theorem dX_replace_40 : decode cX_replace 40 = .ok (.getfield 9, 3) := by decide +kernel
theorem dX_replace_43 : decode cX_replace 43 = .ok (.iload_n 1, 1) := by decide +kernel
theorem dX_replace_44 : decode cX_replace 44 = .ok (.iload_n 2, 1) := by decide +kernel
theorem dX_replace_45 : decode cX_replace 45 = .ok (.iload_n 3, 1) := by decide +kernel
theorem dX_replace_46 : decode cX_replace 46 = .ok (.invokestatic 54, 3) := by decide +kernel
theorem dX_replace_49 : decode cX_replace 49 = .ok (.lconst 0, 1) := by decide +kernel
theorem dX_replace_50 : decode cX_replace 50 = .ok (.lastore, 1) := by decide +kernel
theorem dX_replace_51 : decode cX_replace 51 = .ok (.iinc 3 1, 3) := by decide +kernel
theorem dX_replace_54 : decode cX_replace 54 = .ok (.goto (-20), 3) := by decide +kernel
theorem dX_replace_57 : decode cX_replace 57 = .ok (.iinc 2 1, 3) := by decide +kernel
theorem dX_replace_60 : decode cX_replace 60 = .ok (.goto (-34), 3) := by decide +kernel
theorem dX_replace_63 : decode cX_replace 63 = .ok (.aload_n 0, 1) := by decide +kernel
theorem dX_replace_64 : decode cX_replace 64 = .ok (.getfield 13, 3) := by decide +kernel
theorem dX_replace_67 : decode cX_replace 67 = .ok (.iload_n 1, 1) := by decide +kernel
theorem dX_replace_68 : decode cX_replace 68 = .ok (.iconst 0, 1) := by decide +kernel
theorem dX_replace_69 : decode cX_replace 69 = .ok (.iastore, 1) := by decide +kernel
theorem dX_replace_70 : decode cX_replace 70 = .ok (.return_, 1) := by decide +kernel
theorem dX_rebuild_0 : decode cX_rebuild 0 = .ok (.iload_n 1, 1) := by decide +kernel
theorem dX_rebuild_1 : decode cX_rebuild 1 = .ok (.invokestatic 58, 3) := by decide +kernel
theorem dX_rebuild_4 : decode cX_rebuild 4 = .ok (.iload_n 2, 1) := by decide +kernel
theorem dX_rebuild_5 : decode cX_rebuild 5 = .ok (.ifCond .ge 13, 3) := by decide +kernel
theorem dX_rebuild_8 : decode cX_rebuild 8 = .ok (.new 66, 3) := by decide +kernel
theorem dX_rebuild_11 : decode cX_rebuild 11 = .ok (.dup, 1) := by decide +kernel
theorem dX_rebuild_12 : decode cX_rebuild 12 = .ok (.ldc 68, 2) := by decide +kernel
theorem dX_rebuild_14 : decode cX_rebuild 14 = .ok (.invokespecial 70, 3) := by decide +kernel
theorem dX_rebuild_17 : decode cX_rebuild 17 = .ok (.athrow, 1) := by decide +kernel
theorem dX_rebuild_18 : decode cX_rebuild 18 = .ok (.aload_n 0, 1) := by decide +kernel
theorem dX_rebuild_19 : decode cX_rebuild 19 = .ok (.getfield 13, 3) := by decide +kernel
theorem dX_rebuild_22 : decode cX_rebuild 22 = .ok (.iload_n 1, 1) := by decide +kernel
theorem dX_rebuild_23 : decode cX_rebuild 23 = .ok (.iaload, 1) := by decide +kernel
theorem dX_rebuild_24 : decode cX_rebuild 24 = .ok (.istore_n 3, 1) := by decide +kernel
theorem dX_rebuild_25 : decode cX_rebuild 25 = .ok (.iload_n 3, 1) := by decide +kernel
theorem dX_rebuild_26 : decode cX_rebuild 26 = .ok (.bipush 100, 2) := by decide +kernel
theorem dX_rebuild_28 : decode cX_rebuild 28 = .ok (.if_icmp .eq 8, 3) := by decide +kernel
theorem dX_rebuild_31 : decode cX_rebuild 31 = .ok (.iload_n 3, 1) := by decide +kernel
theorem dX_rebuild_32 : decode cX_rebuild 32 = .ok (.iconst (-1), 1) := by decide +kernel
theorem dX_rebuild_33 : decode cX_rebuild 33 = .ok (.if_icmp .ne 13, 3) := by decide +kernel
theorem dX_rebuild_36 : decode cX_rebuild 36 = .ok (.new 61, 3) := by decide +kernel
theorem dX_rebuild_39 : decode cX_rebuild 39 = .ok (.dup, 1) := by decide +kernel
theorem dX_rebuild_40 : decode cX_rebuild 40 = .ok (.ldc 71, 2) := by decide +kernel
theorem dX_rebuild_42 : decode cX_rebuild 42 = .ok (.invokespecial 65, 3) := by decide +kernel
theorem dX_rebuild_45 : decode cX_rebuild 45 = .ok (.athrow, 1) := by decide +kernel
theorem dX_rebuild_46 : decode cX_rebuild 46 = .ok (.iload_n 3, 1) := by decide +kernel
theorem dX_rebuild_47 : decode cX_rebuild 47 = .ok (.iload_n 2, 1) := by decide +kernel
theorem dX_rebuild_48 : decode cX_rebuild 48 = .ok (.bipush 100, 2) := by decide +kernel
theorem dX_rebuild_50 : decode cX_rebuild 50 = .ok (.iload_n 3, 1) := by decide +kernel
theorem dX_rebuild_51 : decode cX_rebuild 51 = .ok (.isub, 1) := by decide +kernel
theorem dX_rebuild_52 : decode cX_rebuild 52 = .ok (.invokestatic 73, 3) := by decide +kernel
theorem dX_rebuild_55 : decode cX_rebuild 55 = .ok (.iadd, 1) := by decide +kernel
theorem dX_rebuild_56 : decode cX_rebuild 56 = .ok (.istore 4, 2) := by decide +kernel
theorem dX_rebuild_58 : decode cX_rebuild 58 = .ok (.iload_n 3, 1) := by decide +kernel
theorem dX_rebuild_59 : decode cX_rebuild 59 = .ok (.istore 5, 2) := by decide +kernel
theorem dX_rebuild_61 : decode cX_rebuild 61 = .ok (.iload 5, 2) := by decide +kernel
theorem dX_rebuild_63 : decode cX_rebuild 63 = .ok (.iload 4, 2) := by decide +kernel
theorem dX_rebuild_65 : decode cX_rebuild 65 = .ok (.if_icmp .ge 26, 3) := by decide +kernel
theorem dX_rebuild_68 : decode cX_rebuild 68 = .ok (.aload_n 0, 1) := by decide +kernel
theorem dX_rebuild_69 : decode cX_rebuild 69 = .ok (.iload_n 1, 1) := by decide +kernel
theorem dX_rebuild_70 : decode cX_rebuild 70 = .ok (.iload 5, 2) := by decide +kernel
theorem dX_rebuild_72 : decode cX_rebuild 72 = .ok (.invokevirtual 31, 3) := by decide +kernel
theorem dX_rebuild_75 : decode cX_rebuild 75 = .ok (.ifCond .ne 16, 3) := by decide +kernel
theorem dX_rebuild_78 : decode cX_rebuild 78 = .ok (.aload_n 0, 1) := by decide +kernel
theorem dX_rebuild_79 : decode cX_rebuild 79 = .ok (.iload_n 1, 1) := by decide +kernel
theorem dX_rebuild_80 : decode cX_rebuild 80 = .ok (.iload 5, 2) := by decide +kernel
theorem dX_rebuild_82 : decode cX_rebuild 82 = .ok (.invokevirtual 79, 3) := by decide +kernel
theorem dX_rebuild_85 : decode cX_rebuild 85 = .ok (.iinc 5 1, 3) := by decide +kernel
theorem dX_rebuild_88 : decode cX_rebuild 88 = .ok (.goto (-27), 3) := by decide +kernel
theorem dX_rebuild_91 : decode cX_rebuild 91 = .ok (.aload_n 0, 1) := by decide +kernel
theorem dX_rebuild_92 : decode cX_rebuild 92 = .ok (.getfield 13, 3) := by decide +kernel
theorem dX_rebuild_95 : decode cX_rebuild 95 = .ok (.iload_n 1, 1) := by decide +kernel
theorem dX_rebuild_96 : decode cX_rebuild 96 = .ok (.iload 5, 2) := by decide +kernel
theorem dX_rebuild_98 : decode cX_rebuild 98 = .ok (.iastore, 1) := by decide +kernel
theorem dX_rebuild_99 : decode cX_rebuild 99 = .ok (.iload 5, 2) := by decide +kernel
theorem dX_rebuild_101 : decode cX_rebuild 101 = .ok (.ireturn, 1) := by decide +kernel
theorem dX_flip_0 : decode cX_flip 0 = .ok (.aload_n 0, 1) := by decide +kernel
theorem dX_flip_1 : decode cX_flip 1 = .ok (.iload_n 1, 1) := by decide +kernel
theorem dX_flip_2 : decode cX_flip 2 = .ok (.iload_n 2, 1) := by decide +kernel
theorem dX_flip_3 : decode cX_flip 3 = .ok (.iload_n 3, 1) := by decide +kernel
theorem dX_flip_4 : decode cX_flip 4 = .ok (.invokevirtual 83, 3) := by decide +kernel
theorem dX_flip_7 : decode cX_flip 7 = .ok (.aload_n 0, 1) := by decide +kernel
theorem dX_flip_8 : decode cX_flip 8 = .ok (.getfield 9, 3) := by decide +kernel
theorem dX_flip_11 : decode cX_flip 11 = .ok (.iload_n 1, 1) := by decide +kernel
theorem dX_flip_12 : decode cX_flip 12 = .ok (.iload_n 2, 1) := by decide +kernel
theorem dX_flip_13 : decode cX_flip 13 = .ok (.iload_n 3, 1) := by decide +kernel
theorem dX_flip_14 : decode cX_flip 14 = .ok (.invokestatic 54, 3) := by decide +kernel
theorem dX_flip_17 : decode cX_flip 17 = .ok (.dup2, 1) := by decide +kernel
theorem dX_flip_18 : decode cX_flip 18 = .ok (.laload, 1) := by decide +kernel
theorem dX_flip_19 : decode cX_flip 19 = .ok (.lload 4, 2) := by decide +kernel
theorem dX_flip_21 : decode cX_flip 21 = .ok (.lxor, 1) := by decide +kernel
theorem dX_flip_22 : decode cX_flip 22 = .ok (.lastore, 1) := by decide +kernel
theorem dX_flip_23 : decode cX_flip 23 = .ok (.return_, 1) := by decide +kernel
theorem dX_block_0 : decode cX_block 0 = .ok (.aload_n 0, 1) := by decide +kernel
theorem dX_block_1 : decode cX_block 1 = .ok (.iload_n 1, 1) := by decide +kernel
theorem dX_block_2 : decode cX_block 2 = .ok (.iload_n 2, 1) := by decide +kernel
theorem dX_block_3 : decode cX_block 3 = .ok (.iload_n 3, 1) := by decide +kernel
theorem dX_block_4 : decode cX_block 4 = .ok (.invokevirtual 83, 3) := by decide +kernel
theorem dX_block_7 : decode cX_block 7 = .ok (.aload_n 0, 1) := by decide +kernel
theorem dX_block_8 : decode cX_block 8 = .ok (.getfield 9, 3) := by decide +kernel
theorem dX_block_11 : decode cX_block 11 = .ok (.iload_n 1, 1) := by decide +kernel
theorem dX_block_12 : decode cX_block 12 = .ok (.iload_n 2, 1) := by decide +kernel
theorem dX_block_13 : decode cX_block 13 = .ok (.iload_n 3, 1) := by decide +kernel
theorem dX_block_14 : decode cX_block 14 = .ok (.invokestatic 54, 3) := by decide +kernel
theorem dX_block_17 : decode cX_block 17 = .ok (.laload, 1) := by decide +kernel
theorem dX_block_18 : decode cX_block 18 = .ok (.lreturn, 1) := by decide +kernel
theorem dX_scrub_0 : decode cX_scrub 0 = .ok (.iconst 0, 1) := by decide +kernel
theorem dX_scrub_1 : decode cX_scrub 1 = .ok (.istore_n 1, 1) := by decide +kernel
theorem dX_scrub_2 : decode cX_scrub 2 = .ok (.iconst 0, 1) := by decide +kernel
theorem dX_scrub_3 : decode cX_scrub 3 = .ok (.istore_n 2, 1) := by decide +kernel
theorem dX_scrub_4 : decode cX_scrub 4 = .ok (.iload_n 2, 1) := by decide +kernel
theorem dX_scrub_5 : decode cX_scrub 5 = .ok (.bipush 100, 2) := by decide +kernel
theorem dX_scrub_7 : decode cX_scrub 7 = .ok (.if_icmp .ge 28, 3) := by decide +kernel
theorem dX_scrub_10 : decode cX_scrub 10 = .ok (.aload_n 0, 1) := by decide +kernel
theorem dX_scrub_11 : decode cX_scrub 11 = .ok (.iload_n 2, 1) := by decide +kernel
theorem dX_scrub_12 : decode cX_scrub 12 = .ok (.invokevirtual 87, 3) := by decide +kernel
theorem dX_scrub_15 : decode cX_scrub 15 = .ok (.ifCond .eq 14, 3) := by decide +kernel
theorem dX_scrub_18 : decode cX_scrub 18 = .ok (.aload_n 0, 1) := by decide +kernel
theorem dX_scrub_19 : decode cX_scrub 19 = .ok (.iload_n 2, 1) := by decide +kernel
theorem dX_scrub_20 : decode cX_scrub 20 = .ok (.invokevirtual 91, 3) := by decide +kernel
theorem dX_scrub_23 : decode cX_scrub 23 = .ok (.ifCond .eq 6, 3) := by decide +kernel
theorem dX_scrub_26 : decode cX_scrub 26 = .ok (.iinc 1 1, 3) := by decide +kernel
theorem dX_scrub_29 : decode cX_scrub 29 = .ok (.iinc 2 1, 3) := by decide +kernel
theorem dX_scrub_32 : decode cX_scrub 32 = .ok (.goto (-28), 3) := by decide +kernel
theorem dX_scrub_35 : decode cX_scrub 35 = .ok (.iload_n 1, 1) := by decide +kernel
theorem dX_scrub_36 : decode cX_scrub 36 = .ok (.ireturn, 1) := by decide +kernel
theorem dX_state_0 : decode cX_state 0 = .ok (.iload_n 1, 1) := by decide +kernel
theorem dX_state_1 : decode cX_state 1 = .ok (.invokestatic 58, 3) := by decide +kernel
theorem dX_state_4 : decode cX_state 4 = .ok (.aload_n 0, 1) := by decide +kernel
theorem dX_state_5 : decode cX_state 5 = .ok (.getfield 13, 3) := by decide +kernel
theorem dX_state_8 : decode cX_state 8 = .ok (.iload_n 1, 1) := by decide +kernel
theorem dX_state_9 : decode cX_state 9 = .ok (.iaload, 1) := by decide +kernel
theorem dX_state_10 : decode cX_state 10 = .ok (.istore_n 2, 1) := by decide +kernel
theorem dX_state_11 : decode cX_state 11 = .ok (.iload_n 2, 1) := by decide +kernel
theorem dX_state_12 : decode cX_state 12 = .ok (.bipush 100, 2) := by decide +kernel
theorem dX_state_14 : decode cX_state 14 = .ok (.if_icmp .ne 5, 3) := by decide +kernel
theorem dX_state_17 : decode cX_state 17 = .ok (.iconst 0, 1) := by decide +kernel
theorem dX_state_18 : decode cX_state 18 = .ok (.ireturn, 1) := by decide +kernel
theorem dX_state_19 : decode cX_state 19 = .ok (.iload_n 2, 1) := by decide +kernel
theorem dX_state_20 : decode cX_state 20 = .ok (.iconst (-1), 1) := by decide +kernel
theorem dX_state_21 : decode cX_state 21 = .ok (.if_icmp .ne 5, 3) := by decide +kernel
theorem dX_state_24 : decode cX_state 24 = .ok (.iconst 1, 1) := by decide +kernel
theorem dX_state_25 : decode cX_state 25 = .ok (.ireturn, 1) := by decide +kernel
theorem dX_state_26 : decode cX_state 26 = .ok (.iconst 2, 1) := by decide +kernel
theorem dX_state_27 : decode cX_state 27 = .ok (.iload_n 2, 1) := by decide +kernel
theorem dX_state_28 : decode cX_state 28 = .ok (.iadd, 1) := by decide +kernel
theorem dX_state_29 : decode cX_state 29 = .ok (.ireturn, 1) := by decide +kernel
theorem dX_lost_0 : decode cX_lost 0 = .ok (.iconst 0, 1) := by decide +kernel
theorem dX_lost_1 : decode cX_lost 1 = .ok (.istore_n 1, 1) := by decide +kernel
theorem dX_lost_2 : decode cX_lost 2 = .ok (.iconst 0, 1) := by decide +kernel
theorem dX_lost_3 : decode cX_lost 3 = .ok (.istore_n 2, 1) := by decide +kernel
theorem dX_lost_4 : decode cX_lost 4 = .ok (.iload_n 2, 1) := by decide +kernel
theorem dX_lost_5 : decode cX_lost 5 = .ok (.sipush 400, 3) := by decide +kernel
theorem dX_lost_8 : decode cX_lost 8 = .ok (.if_icmp .ge 27, 3) := by decide +kernel
theorem dX_lost_11 : decode cX_lost 11 = .ok (.aload_n 0, 1) := by decide +kernel
theorem dX_lost_12 : decode cX_lost 12 = .ok (.iload_n 2, 1) := by decide +kernel
theorem dX_lost_13 : decode cX_lost 13 = .ok (.invokestatic 28, 3) := by decide +kernel
theorem dX_lost_16 : decode cX_lost 16 = .ok (.iload_n 2, 1) := by decide +kernel
theorem dX_lost_17 : decode cX_lost 17 = .ok (.invokestatic 24, 3) := by decide +kernel
theorem dX_lost_20 : decode cX_lost 20 = .ok (.invokevirtual 31, 3) := by decide +kernel
theorem dX_lost_23 : decode cX_lost 23 = .ok (.ifCond .eq 6, 3) := by decide +kernel
theorem dX_lost_26 : decode cX_lost 26 = .ok (.iinc 1 1, 3) := by decide +kernel
theorem dX_lost_29 : decode cX_lost 29 = .ok (.iinc 2 1, 3) := by decide +kernel
theorem dX_lost_32 : decode cX_lost 32 = .ok (.goto (-28), 3) := by decide +kernel
theorem dX_lost_35 : decode cX_lost 35 = .ok (.iload_n 1, 1) := by decide +kernel
theorem dX_lost_36 : decode cX_lost 36 = .ok (.ireturn, 1) := by decide +kernel
theorem dX_checkDisk_0 : decode cX_checkDisk 0 = .ok (.iload_n 0, 1) := by decide +kernel
theorem dX_checkDisk_1 : decode cX_checkDisk 1 = .ok (.ifCond .lt 8, 3) := by decide +kernel
theorem dX_checkDisk_4 : decode cX_checkDisk 4 = .ok (.iload_n 0, 1) := by decide +kernel
theorem dX_checkDisk_5 : decode cX_checkDisk 5 = .ok (.iconst 5, 1) := by decide +kernel
theorem dX_checkDisk_6 : decode cX_checkDisk 6 = .ok (.if_icmp .lt 13, 3) := by decide +kernel
theorem dX_checkDisk_9 : decode cX_checkDisk 9 = .ok (.new 66, 3) := by decide +kernel
theorem dX_checkDisk_12 : decode cX_checkDisk 12 = .ok (.dup, 1) := by decide +kernel
theorem dX_checkDisk_13 : decode cX_checkDisk 13 = .ok (.ldc 94, 2) := by decide +kernel
theorem dX_checkDisk_15 : decode cX_checkDisk 15 = .ok (.invokespecial 70, 3) := by decide +kernel
theorem dX_checkDisk_18 : decode cX_checkDisk 18 = .ok (.athrow, 1) := by decide +kernel
theorem dX_checkDisk_19 : decode cX_checkDisk 19 = .ok (.return_, 1) := by decide +kernel
theorem dX_checkPlace_0 : decode cX_checkPlace 0 = .ok (.iload_n 0, 1) := by decide +kernel
theorem dX_checkPlace_1 : decode cX_checkPlace 1 = .ok (.ifCond .lt 10, 3) := by decide +kernel
theorem dX_checkPlace_4 : decode cX_checkPlace 4 = .ok (.iload_n 0, 1) := by decide +kernel
theorem dX_checkPlace_5 : decode cX_checkPlace 5 = .ok (.sipush 400, 3) := by decide +kernel
theorem dX_checkPlace_8 : decode cX_checkPlace 8 = .ok (.if_icmp .lt 13, 3) := by decide +kernel
theorem dX_checkPlace_11 : decode cX_checkPlace 11 = .ok (.new 66, 3) := by decide +kernel
theorem dX_checkPlace_14 : decode cX_checkPlace 14 = .ok (.dup, 1) := by decide +kernel
theorem dX_checkPlace_15 : decode cX_checkPlace 15 = .ok (.ldc 96, 2) := by decide +kernel
theorem dX_checkPlace_17 : decode cX_checkPlace 17 = .ok (.invokespecial 70, 3) := by decide +kernel
theorem dX_checkPlace_20 : decode cX_checkPlace 20 = .ok (.athrow, 1) := by decide +kernel
theorem dX_checkPlace_21 : decode cX_checkPlace 21 = .ok (.return_, 1) := by decide +kernel
theorem dX_checkHalf_0 : decode cX_checkHalf 0 = .ok (.iload_n 0, 1) := by decide +kernel
theorem dX_checkHalf_1 : decode cX_checkHalf 1 = .ok (.ifCond .lt 8, 3) := by decide +kernel
theorem dX_checkHalf_4 : decode cX_checkHalf 4 = .ok (.iload_n 0, 1) := by decide +kernel
theorem dX_checkHalf_5 : decode cX_checkHalf 5 = .ok (.iconst 2, 1) := by decide +kernel
theorem dX_checkHalf_6 : decode cX_checkHalf 6 = .ok (.if_icmp .lt 13, 3) := by decide +kernel
theorem dX_checkHalf_9 : decode cX_checkHalf 9 = .ok (.new 66, 3) := by decide +kernel
theorem dX_checkHalf_12 : decode cX_checkHalf 12 = .ok (.dup, 1) := by decide +kernel
theorem dX_checkHalf_13 : decode cX_checkHalf 13 = .ok (.ldc 98, 2) := by decide +kernel
theorem dX_checkHalf_15 : decode cX_checkHalf 15 = .ok (.invokespecial 70, 3) := by decide +kernel
theorem dX_checkHalf_18 : decode cX_checkHalf 18 = .ok (.athrow, 1) := by decide +kernel
theorem dX_checkHalf_19 : decode cX_checkHalf 19 = .ok (.return_, 1) := by decide +kernel
theorem dX_checkBlock_0 : decode cX_checkBlock 0 = .ok (.iload_n 0, 1) := by decide +kernel
theorem dX_checkBlock_1 : decode cX_checkBlock 1 = .ok (.ifCond .lt 9, 3) := by decide +kernel
theorem dX_checkBlock_4 : decode cX_checkBlock 4 = .ok (.iload_n 0, 1) := by decide +kernel
theorem dX_checkBlock_5 : decode cX_checkBlock 5 = .ok (.bipush 100, 2) := by decide +kernel
theorem dX_checkBlock_7 : decode cX_checkBlock 7 = .ok (.if_icmp .lt 13, 3) := by decide +kernel
theorem dX_checkBlock_10 : decode cX_checkBlock 10 = .ok (.new 66, 3) := by decide +kernel
theorem dX_checkBlock_13 : decode cX_checkBlock 13 = .ok (.dup, 1) := by decide +kernel
theorem dX_checkBlock_14 : decode cX_checkBlock 14 = .ok (.ldc 100, 2) := by decide +kernel
theorem dX_checkBlock_16 : decode cX_checkBlock 16 = .ok (.invokespecial 70, 3) := by decide +kernel
theorem dX_checkBlock_19 : decode cX_checkBlock 19 = .ok (.athrow, 1) := by decide +kernel
theorem dX_checkBlock_20 : decode cX_checkBlock 20 = .ok (.return_, 1) := by decide +kernel
theorem dX_checkStanding_0 : decode cX_checkStanding 0 = .ok (.iload_n 1, 1) := by decide +kernel
theorem dX_checkStanding_1 : decode cX_checkStanding 1 = .ok (.invokestatic 58, 3) := by decide +kernel
theorem dX_checkStanding_4 : decode cX_checkStanding 4 = .ok (.iload_n 2, 1) := by decide +kernel
theorem dX_checkStanding_5 : decode cX_checkStanding 5 = .ok (.invokestatic 102, 3) := by decide +kernel
theorem dX_checkStanding_8 : decode cX_checkStanding 8 = .ok (.iload_n 3, 1) := by decide +kernel
theorem dX_checkStanding_9 : decode cX_checkStanding 9 = .ok (.invokestatic 21, 3) := by decide +kernel
theorem dX_checkStanding_12 : decode cX_checkStanding 12 = .ok (.aload_n 0, 1) := by decide +kernel
theorem dX_checkStanding_13 : decode cX_checkStanding 13 = .ok (.getfield 13, 3) := by decide +kernel
theorem dX_checkStanding_16 : decode cX_checkStanding 16 = .ok (.iload_n 1, 1) := by decide +kernel
theorem dX_checkStanding_17 : decode cX_checkStanding 17 = .ok (.iaload, 1) := by decide +kernel
theorem dX_checkStanding_18 : decode cX_checkStanding 18 = .ok (.iconst (-1), 1) := by decide +kernel
theorem dX_checkStanding_19 : decode cX_checkStanding 19 = .ok (.if_icmp .ne 13, 3) := by decide +kernel
theorem dX_checkStanding_22 : decode cX_checkStanding 22 = .ok (.new 61, 3) := by decide +kernel
theorem dX_checkStanding_25 : decode cX_checkStanding 25 = .ok (.dup, 1) := by decide +kernel
theorem dX_checkStanding_26 : decode cX_checkStanding 26 = .ok (.ldc 105, 2) := by decide +kernel
theorem dX_checkStanding_28 : decode cX_checkStanding 28 = .ok (.invokespecial 65, 3) := by decide +kernel
theorem dX_checkStanding_31 : decode cX_checkStanding 31 = .ok (.athrow, 1) := by decide +kernel
theorem dX_checkStanding_32 : decode cX_checkStanding 32 = .ok (.return_, 1) := by decide +kernel
theorem dX_stripeOf_0 : decode cX_stripeOf 0 = .ok (.iload_n 0, 1) := by decide +kernel
theorem dX_stripeOf_1 : decode cX_stripeOf 1 = .ok (.iconst 4, 1) := by decide +kernel
theorem dX_stripeOf_2 : decode cX_stripeOf 2 = .ok (.idiv, 1) := by decide +kernel
theorem dX_stripeOf_3 : decode cX_stripeOf 3 = .ok (.ireturn, 1) := by decide +kernel
theorem dX_parityDiskOf_0 : decode cX_parityDiskOf 0 = .ok (.iload_n 0, 1) := by decide +kernel
theorem dX_parityDiskOf_1 : decode cX_parityDiskOf 1 = .ok (.iconst 5, 1) := by decide +kernel
theorem dX_parityDiskOf_2 : decode cX_parityDiskOf 2 = .ok (.irem, 1) := by decide +kernel
theorem dX_parityDiskOf_3 : decode cX_parityDiskOf 3 = .ok (.ireturn, 1) := by decide +kernel
theorem dX_diskOf_0 : decode cX_diskOf 0 = .ok (.iload_n 0, 1) := by decide +kernel
theorem dX_diskOf_1 : decode cX_diskOf 1 = .ok (.iconst 4, 1) := by decide +kernel
theorem dX_diskOf_2 : decode cX_diskOf 2 = .ok (.irem, 1) := by decide +kernel
theorem dX_diskOf_3 : decode cX_diskOf 3 = .ok (.istore_n 1, 1) := by decide +kernel
theorem dX_diskOf_4 : decode cX_diskOf 4 = .ok (.iload_n 1, 1) := by decide +kernel
theorem dX_diskOf_5 : decode cX_diskOf 5 = .ok (.iload_n 0, 1) := by decide +kernel
theorem dX_diskOf_6 : decode cX_diskOf 6 = .ok (.invokestatic 24, 3) := by decide +kernel
theorem dX_diskOf_9 : decode cX_diskOf 9 = .ok (.invokestatic 48, 3) := by decide +kernel
theorem dX_diskOf_12 : decode cX_diskOf 12 = .ok (.if_icmp .ge 7, 3) := by decide +kernel
theorem dX_diskOf_15 : decode cX_diskOf 15 = .ok (.iload_n 1, 1) := by decide +kernel
theorem dX_diskOf_16 : decode cX_diskOf 16 = .ok (.goto 6, 3) := by decide +kernel
theorem dX_diskOf_19 : decode cX_diskOf 19 = .ok (.iload_n 1, 1) := by decide +kernel
theorem dX_diskOf_20 : decode cX_diskOf 20 = .ok (.iconst 1, 1) := by decide +kernel
theorem dX_diskOf_21 : decode cX_diskOf 21 = .ok (.iadd, 1) := by decide +kernel
theorem dX_diskOf_22 : decode cX_diskOf 22 = .ok (.ireturn, 1) := by decide +kernel
theorem dX_cellOf_0 : decode cX_cellOf 0 = .ok (.iload_n 0, 1) := by decide +kernel
theorem dX_cellOf_1 : decode cX_cellOf 1 = .ok (.bipush 100, 2) := by decide +kernel
theorem dX_cellOf_3 : decode cX_cellOf 3 = .ok (.imul, 1) := by decide +kernel
theorem dX_cellOf_4 : decode cX_cellOf 4 = .ok (.iload_n 1, 1) := by decide +kernel
theorem dX_cellOf_5 : decode cX_cellOf 5 = .ok (.iadd, 1) := by decide +kernel
theorem dX_cellOf_6 : decode cX_cellOf 6 = .ok (.iconst 2, 1) := by decide +kernel
theorem dX_cellOf_7 : decode cX_cellOf 7 = .ok (.imul, 1) := by decide +kernel
theorem dX_cellOf_8 : decode cX_cellOf 8 = .ok (.iload_n 2, 1) := by decide +kernel
theorem dX_cellOf_9 : decode cX_cellOf 9 = .ok (.iadd, 1) := by decide +kernel
theorem dX_cellOf_10 : decode cX_cellOf 10 = .ok (.ireturn, 1) := by decide +kernel
theorem dX_canBeUsed_0 : decode cX_canBeUsed 0 = .ok (.iload_n 2, 1) := by decide +kernel
theorem dX_canBeUsed_1 : decode cX_canBeUsed 1 = .ok (.aload_n 0, 1) := by decide +kernel
theorem dX_canBeUsed_2 : decode cX_canBeUsed 2 = .ok (.getfield 13, 3) := by decide +kernel
theorem dX_canBeUsed_5 : decode cX_canBeUsed 5 = .ok (.iload_n 1, 1) := by decide +kernel
theorem dX_canBeUsed_6 : decode cX_canBeUsed 6 = .ok (.iaload, 1) := by decide +kernel
theorem dX_canBeUsed_7 : decode cX_canBeUsed 7 = .ok (.if_icmp .ge 7, 3) := by decide +kernel
theorem dX_canBeUsed_10 : decode cX_canBeUsed 10 = .ok (.iconst 1, 1) := by decide +kernel
theorem dX_canBeUsed_11 : decode cX_canBeUsed 11 = .ok (.goto 4, 3) := by decide +kernel
theorem dX_canBeUsed_14 : decode cX_canBeUsed 14 = .ok (.iconst 0, 1) := by decide +kernel
theorem dX_canBeUsed_15 : decode cX_canBeUsed 15 = .ok (.ireturn, 1) := by decide +kernel
theorem dX_othersCanBeUsed_0 : decode cX_othersCanBeUsed 0 = .ok (.iconst 0, 1) := by decide +kernel
theorem dX_othersCanBeUsed_1 : decode cX_othersCanBeUsed 1 = .ok (.istore_n 3, 1) := by decide +kernel
theorem dX_othersCanBeUsed_2 : decode cX_othersCanBeUsed 2 = .ok (.iload_n 3, 1) := by decide +kernel
theorem dX_othersCanBeUsed_3 : decode cX_othersCanBeUsed 3 = .ok (.iconst 5, 1) := by decide +kernel
theorem dX_othersCanBeUsed_4 : decode cX_othersCanBeUsed 4 = .ok (.if_icmp .ge 25, 3) := by decide +kernel
theorem dX_othersCanBeUsed_7 : decode cX_othersCanBeUsed 7 = .ok (.iload_n 3, 1) := by decide +kernel
theorem dX_othersCanBeUsed_8 : decode cX_othersCanBeUsed 8 = .ok (.iload_n 1, 1) := by decide +kernel
theorem dX_othersCanBeUsed_9 : decode cX_othersCanBeUsed 9 = .ok (.if_icmp .eq 14, 3) := by decide +kernel
theorem dX_othersCanBeUsed_12 : decode cX_othersCanBeUsed 12 = .ok (.aload_n 0, 1) := by decide +kernel
theorem dX_othersCanBeUsed_13 : decode cX_othersCanBeUsed 13 = .ok (.iload_n 3, 1) := by decide +kernel
theorem dX_othersCanBeUsed_14 : decode cX_othersCanBeUsed 14 = .ok (.iload_n 2, 1) := by decide +kernel
theorem dX_othersCanBeUsed_15 : decode cX_othersCanBeUsed 15 = .ok (.invokevirtual 51, 3) := by decide +kernel
theorem dX_othersCanBeUsed_18 : decode cX_othersCanBeUsed 18 = .ok (.ifCond .ne 5, 3) := by decide +kernel
theorem dX_othersCanBeUsed_21 : decode cX_othersCanBeUsed 21 = .ok (.iconst 0, 1) := by decide +kernel
theorem dX_othersCanBeUsed_22 : decode cX_othersCanBeUsed 22 = .ok (.ireturn, 1) := by decide +kernel
theorem dX_othersCanBeUsed_23 : decode cX_othersCanBeUsed 23 = .ok (.iinc 3 1, 3) := by decide +kernel
theorem dX_othersCanBeUsed_26 : decode cX_othersCanBeUsed 26 = .ok (.goto (-24), 3) := by decide +kernel
theorem dX_othersCanBeUsed_29 : decode cX_othersCanBeUsed 29 = .ok (.iconst 1, 1) := by decide +kernel
theorem dX_othersCanBeUsed_30 : decode cX_othersCanBeUsed 30 = .ok (.ireturn, 1) := by decide +kernel
theorem dX_allCanBeUsed_0 : decode cX_allCanBeUsed 0 = .ok (.iload_n 1, 1) := by decide +kernel
theorem dX_allCanBeUsed_1 : decode cX_allCanBeUsed 1 = .ok (.invokestatic 48, 3) := by decide +kernel
theorem dX_allCanBeUsed_4 : decode cX_allCanBeUsed 4 = .ok (.istore_n 2, 1) := by decide +kernel
theorem dX_allCanBeUsed_5 : decode cX_allCanBeUsed 5 = .ok (.aload_n 0, 1) := by decide +kernel
theorem dX_allCanBeUsed_6 : decode cX_allCanBeUsed 6 = .ok (.iload_n 2, 1) := by decide +kernel
theorem dX_allCanBeUsed_7 : decode cX_allCanBeUsed 7 = .ok (.iload_n 1, 1) := by decide +kernel
theorem dX_allCanBeUsed_8 : decode cX_allCanBeUsed 8 = .ok (.invokevirtual 51, 3) := by decide +kernel
theorem dX_allCanBeUsed_11 : decode cX_allCanBeUsed 11 = .ok (.ifCond .eq 16, 3) := by decide +kernel
theorem dX_allCanBeUsed_14 : decode cX_allCanBeUsed 14 = .ok (.aload_n 0, 1) := by decide +kernel
theorem dX_allCanBeUsed_15 : decode cX_allCanBeUsed 15 = .ok (.iload_n 2, 1) := by decide +kernel
theorem dX_allCanBeUsed_16 : decode cX_allCanBeUsed 16 = .ok (.iload_n 1, 1) := by decide +kernel
theorem dX_allCanBeUsed_17 : decode cX_allCanBeUsed 17 = .ok (.invokevirtual 107, 3) := by decide +kernel
theorem dX_allCanBeUsed_20 : decode cX_allCanBeUsed 20 = .ok (.ifCond .eq 7, 3) := by decide +kernel
theorem dX_allCanBeUsed_23 : decode cX_allCanBeUsed 23 = .ok (.iconst 1, 1) := by decide +kernel
theorem dX_allCanBeUsed_24 : decode cX_allCanBeUsed 24 = .ok (.goto 4, 3) := by decide +kernel
theorem dX_allCanBeUsed_27 : decode cX_allCanBeUsed 27 = .ok (.iconst 0, 1) := by decide +kernel
theorem dX_allCanBeUsed_28 : decode cX_allCanBeUsed 28 = .ok (.ireturn, 1) := by decide +kernel
theorem dX_isLost_0 : decode cX_isLost 0 = .ok (.aload_n 0, 1) := by decide +kernel
theorem dX_isLost_1 : decode cX_isLost 1 = .ok (.iload_n 1, 1) := by decide +kernel
theorem dX_isLost_2 : decode cX_isLost 2 = .ok (.iload_n 2, 1) := by decide +kernel
theorem dX_isLost_3 : decode cX_isLost 3 = .ok (.invokevirtual 51, 3) := by decide +kernel
theorem dX_isLost_6 : decode cX_isLost 6 = .ok (.ifCond .ne 16, 3) := by decide +kernel
theorem dX_isLost_9 : decode cX_isLost 9 = .ok (.aload_n 0, 1) := by decide +kernel
theorem dX_isLost_10 : decode cX_isLost 10 = .ok (.iload_n 1, 1) := by decide +kernel
theorem dX_isLost_11 : decode cX_isLost 11 = .ok (.iload_n 2, 1) := by decide +kernel
theorem dX_isLost_12 : decode cX_isLost 12 = .ok (.invokevirtual 107, 3) := by decide +kernel
theorem dX_isLost_15 : decode cX_isLost 15 = .ok (.ifCond .ne 7, 3) := by decide +kernel
theorem dX_isLost_18 : decode cX_isLost 18 = .ok (.iconst 1, 1) := by decide +kernel
theorem dX_isLost_19 : decode cX_isLost 19 = .ok (.goto 4, 3) := by decide +kernel
theorem dX_isLost_22 : decode cX_isLost 22 = .ok (.iconst 0, 1) := by decide +kernel
theorem dX_isLost_23 : decode cX_isLost 23 = .ok (.ireturn, 1) := by decide +kernel
theorem dX_whatItHas_0 : decode cX_whatItHas 0 = .ok (.aload_n 0, 1) := by decide +kernel
theorem dX_whatItHas_1 : decode cX_whatItHas 1 = .ok (.iload_n 1, 1) := by decide +kernel
theorem dX_whatItHas_2 : decode cX_whatItHas 2 = .ok (.iload_n 2, 1) := by decide +kernel
theorem dX_whatItHas_3 : decode cX_whatItHas 3 = .ok (.invokevirtual 51, 3) := by decide +kernel
theorem dX_whatItHas_6 : decode cX_whatItHas 6 = .ok (.ifCond .eq 15, 3) := by decide +kernel
theorem dX_whatItHas_9 : decode cX_whatItHas 9 = .ok (.aload_n 0, 1) := by decide +kernel
theorem dX_whatItHas_10 : decode cX_whatItHas 10 = .ok (.getfield 9, 3) := by decide +kernel
theorem dX_whatItHas_13 : decode cX_whatItHas 13 = .ok (.iload_n 1, 1) := by decide +kernel
theorem dX_whatItHas_14 : decode cX_whatItHas 14 = .ok (.iload_n 2, 1) := by decide +kernel
theorem dX_whatItHas_15 : decode cX_whatItHas 15 = .ok (.iload_n 3, 1) := by decide +kernel
theorem dX_whatItHas_16 : decode cX_whatItHas 16 = .ok (.invokestatic 54, 3) := by decide +kernel
theorem dX_whatItHas_19 : decode cX_whatItHas 19 = .ok (.laload, 1) := by decide +kernel
theorem dX_whatItHas_20 : decode cX_whatItHas 20 = .ok (.lreturn, 1) := by decide +kernel
theorem dX_whatItHas_21 : decode cX_whatItHas 21 = .ok (.aload_n 0, 1) := by decide +kernel
theorem dX_whatItHas_22 : decode cX_whatItHas 22 = .ok (.iload_n 1, 1) := by decide +kernel
theorem dX_whatItHas_23 : decode cX_whatItHas 23 = .ok (.iload_n 2, 1) := by decide +kernel
theorem dX_whatItHas_24 : decode cX_whatItHas 24 = .ok (.iload_n 3, 1) := by decide +kernel
theorem dX_whatItHas_25 : decode cX_whatItHas 25 = .ok (.invokevirtual 110, 3) := by decide +kernel
theorem dX_whatItHas_28 : decode cX_whatItHas 28 = .ok (.lreturn, 1) := by decide +kernel
theorem dX_xorOfOthers_0 : decode cX_xorOfOthers 0 = .ok (.lconst 0, 1) := by decide +kernel
theorem dX_xorOfOthers_1 : decode cX_xorOfOthers 1 = .ok (.lstore 4, 2) := by decide +kernel
theorem dX_xorOfOthers_3 : decode cX_xorOfOthers 3 = .ok (.iconst 0, 1) := by decide +kernel
theorem dX_xorOfOthers_4 : decode cX_xorOfOthers 4 = .ok (.istore 6, 2) := by decide +kernel
theorem dX_xorOfOthers_6 : decode cX_xorOfOthers 6 = .ok (.iload 6, 2) := by decide +kernel
theorem dX_xorOfOthers_8 : decode cX_xorOfOthers 8 = .ok (.iconst 5, 1) := by decide +kernel
theorem dX_xorOfOthers_9 : decode cX_xorOfOthers 9 = .ok (.if_icmp .ge 32, 3) := by decide +kernel
theorem dX_xorOfOthers_12 : decode cX_xorOfOthers 12 = .ok (.iload 6, 2) := by decide +kernel
theorem dX_xorOfOthers_14 : decode cX_xorOfOthers 14 = .ok (.iload_n 1, 1) := by decide +kernel
theorem dX_xorOfOthers_15 : decode cX_xorOfOthers 15 = .ok (.if_icmp .eq 20, 3) := by decide +kernel
theorem dX_xorOfOthers_18 : decode cX_xorOfOthers 18 = .ok (.lload 4, 2) := by decide +kernel
theorem dX_xorOfOthers_20 : decode cX_xorOfOthers 20 = .ok (.aload_n 0, 1) := by decide +kernel
theorem dX_xorOfOthers_21 : decode cX_xorOfOthers 21 = .ok (.getfield 9, 3) := by decide +kernel
theorem dX_xorOfOthers_24 : decode cX_xorOfOthers 24 = .ok (.iload 6, 2) := by decide +kernel
theorem dX_xorOfOthers_26 : decode cX_xorOfOthers 26 = .ok (.iload_n 2, 1) := by decide +kernel
theorem dX_xorOfOthers_27 : decode cX_xorOfOthers 27 = .ok (.iload_n 3, 1) := by decide +kernel
theorem dX_xorOfOthers_28 : decode cX_xorOfOthers 28 = .ok (.invokestatic 54, 3) := by decide +kernel
theorem dX_xorOfOthers_31 : decode cX_xorOfOthers 31 = .ok (.laload, 1) := by decide +kernel
theorem dX_xorOfOthers_32 : decode cX_xorOfOthers 32 = .ok (.lxor, 1) := by decide +kernel
theorem dX_xorOfOthers_33 : decode cX_xorOfOthers 33 = .ok (.lstore 4, 2) := by decide +kernel
theorem dX_xorOfOthers_35 : decode cX_xorOfOthers 35 = .ok (.iinc 6 1, 3) := by decide +kernel
theorem dX_xorOfOthers_38 : decode cX_xorOfOthers 38 = .ok (.goto (-32), 3) := by decide +kernel
theorem dX_xorOfOthers_41 : decode cX_xorOfOthers 41 = .ok (.lload 4, 2) := by decide +kernel
theorem dX_xorOfOthers_43 : decode cX_xorOfOthers 43 = .ok (.lreturn, 1) := by decide +kernel
theorem dX_rebuildBlock_0 : decode cX_rebuildBlock 0 = .ok (.iconst 0, 1) := by decide +kernel
theorem dX_rebuildBlock_1 : decode cX_rebuildBlock 1 = .ok (.istore_n 3, 1) := by decide +kernel
theorem dX_rebuildBlock_2 : decode cX_rebuildBlock 2 = .ok (.iload_n 3, 1) := by decide +kernel
theorem dX_rebuildBlock_3 : decode cX_rebuildBlock 3 = .ok (.iconst 2, 1) := by decide +kernel
theorem dX_rebuildBlock_4 : decode cX_rebuildBlock 4 = .ok (.if_icmp .ge 27, 3) := by decide +kernel
theorem dX_rebuildBlock_7 : decode cX_rebuildBlock 7 = .ok (.aload_n 0, 1) := by decide +kernel
theorem dX_rebuildBlock_8 : decode cX_rebuildBlock 8 = .ok (.getfield 9, 3) := by decide +kernel
theorem dX_rebuildBlock_11 : decode cX_rebuildBlock 11 = .ok (.iload_n 1, 1) := by decide +kernel
theorem dX_rebuildBlock_12 : decode cX_rebuildBlock 12 = .ok (.iload_n 2, 1) := by decide +kernel
theorem dX_rebuildBlock_13 : decode cX_rebuildBlock 13 = .ok (.iload_n 3, 1) := by decide +kernel
theorem dX_rebuildBlock_14 : decode cX_rebuildBlock 14 = .ok (.invokestatic 54, 3) := by decide +kernel
theorem dX_rebuildBlock_17 : decode cX_rebuildBlock 17 = .ok (.aload_n 0, 1) := by decide +kernel
theorem dX_rebuildBlock_18 : decode cX_rebuildBlock 18 = .ok (.iload_n 1, 1) := by decide +kernel
theorem dX_rebuildBlock_19 : decode cX_rebuildBlock 19 = .ok (.iload_n 2, 1) := by decide +kernel
theorem dX_rebuildBlock_20 : decode cX_rebuildBlock 20 = .ok (.iload_n 3, 1) := by decide +kernel
theorem dX_rebuildBlock_21 : decode cX_rebuildBlock 21 = .ok (.invokevirtual 110, 3) := by decide +kernel
theorem dX_rebuildBlock_24 : decode cX_rebuildBlock 24 = .ok (.lastore, 1) := by decide +kernel
theorem dX_rebuildBlock_25 : decode cX_rebuildBlock 25 = .ok (.iinc 3 1, 3) := by decide +kernel
theorem dX_rebuildBlock_28 : decode cX_rebuildBlock 28 = .ok (.goto (-26), 3) := by decide +kernel
theorem dX_rebuildBlock_31 : decode cX_rebuildBlock 31 = .ok (.return_, 1) := by decide +kernel
theorem dX_mendParity_0 : decode cX_mendParity 0 = .ok (.iload_n 1, 1) := by decide +kernel
theorem dX_mendParity_1 : decode cX_mendParity 1 = .ok (.invokestatic 48, 3) := by decide +kernel
theorem dX_mendParity_4 : decode cX_mendParity 4 = .ok (.istore_n 2, 1) := by decide +kernel
theorem dX_mendParity_5 : decode cX_mendParity 5 = .ok (.iconst 0, 1) := by decide +kernel
theorem dX_mendParity_6 : decode cX_mendParity 6 = .ok (.istore_n 3, 1) := by decide +kernel
theorem dX_mendParity_7 : decode cX_mendParity 7 = .ok (.iconst 0, 1) := by decide +kernel
theorem dX_mendParity_8 : decode cX_mendParity 8 = .ok (.istore 4, 2) := by decide +kernel
theorem dX_mendParity_10 : decode cX_mendParity 10 = .ok (.iload 4, 2) := by decide +kernel
theorem dX_mendParity_12 : decode cX_mendParity 12 = .ok (.iconst 2, 1) := by decide +kernel
theorem dX_mendParity_13 : decode cX_mendParity 13 = .ok (.if_icmp .ge 52, 3) := by decide +kernel
theorem dX_mendParity_16 : decode cX_mendParity 16 = .ok (.iload_n 2, 1) := by decide +kernel
theorem dX_mendParity_17 : decode cX_mendParity 17 = .ok (.iload_n 1, 1) := by decide +kernel
theorem dX_mendParity_18 : decode cX_mendParity 18 = .ok (.iload 4, 2) := by decide +kernel
theorem dX_mendParity_20 : decode cX_mendParity 20 = .ok (.invokestatic 54, 3) := by decide +kernel
theorem dX_mendParity_23 : decode cX_mendParity 23 = .ok (.istore 5, 2) := by decide +kernel
theorem dX_mendParity_25 : decode cX_mendParity 25 = .ok (.aload_n 0, 1) := by decide +kernel
theorem dX_mendParity_26 : decode cX_mendParity 26 = .ok (.iload_n 2, 1) := by decide +kernel
theorem dX_mendParity_27 : decode cX_mendParity 27 = .ok (.iload_n 1, 1) := by decide +kernel
theorem dX_mendParity_28 : decode cX_mendParity 28 = .ok (.iload 4, 2) := by decide +kernel
theorem dX_mendParity_30 : decode cX_mendParity 30 = .ok (.invokevirtual 110, 3) := by decide +kernel
theorem dX_mendParity_33 : decode cX_mendParity 33 = .ok (.lstore 6, 2) := by decide +kernel
theorem dX_mendParity_35 : decode cX_mendParity 35 = .ok (.aload_n 0, 1) := by decide +kernel
theorem dX_mendParity_36 : decode cX_mendParity 36 = .ok (.getfield 9, 3) := by decide +kernel
theorem dX_mendParity_39 : decode cX_mendParity 39 = .ok (.iload 5, 2) := by decide +kernel
theorem dX_mendParity_41 : decode cX_mendParity 41 = .ok (.laload, 1) := by decide +kernel
theorem dX_mendParity_42 : decode cX_mendParity 42 = .ok (.lload 6, 2) := by decide +kernel
theorem dX_mendParity_44 : decode cX_mendParity 44 = .ok (.lcmp, 1) := by decide +kernel
theorem dX_mendParity_45 : decode cX_mendParity 45 = .ok (.ifCond .eq 14, 3) := by decide +kernel
theorem dX_mendParity_48 : decode cX_mendParity 48 = .ok (.aload_n 0, 1) := by decide +kernel
theorem dX_mendParity_49 : decode cX_mendParity 49 = .ok (.getfield 9, 3) := by decide +kernel
theorem dX_mendParity_52 : decode cX_mendParity 52 = .ok (.iload 5, 2) := by decide +kernel
theorem dX_mendParity_54 : decode cX_mendParity 54 = .ok (.lload 6, 2) := by decide +kernel
theorem dX_mendParity_56 : decode cX_mendParity 56 = .ok (.lastore, 1) := by decide +kernel
theorem dX_mendParity_57 : decode cX_mendParity 57 = .ok (.iconst 1, 1) := by decide +kernel
theorem dX_mendParity_58 : decode cX_mendParity 58 = .ok (.istore_n 3, 1) := by decide +kernel
theorem dX_mendParity_59 : decode cX_mendParity 59 = .ok (.iinc 4 1, 3) := by decide +kernel
theorem dX_mendParity_62 : decode cX_mendParity 62 = .ok (.goto (-52), 3) := by decide +kernel
theorem dX_mendParity_65 : decode cX_mendParity 65 = .ok (.iload_n 3, 1) := by decide +kernel
theorem dX_mendParity_66 : decode cX_mendParity 66 = .ok (.ireturn, 1) := by decide +kernel
theorem dM_init_0 : decode cM_init 0 = .ok (.aload_n 0, 1) := by decide +kernel
theorem dM_init_1 : decode cM_init 1 = .ok (.invokespecial 1, 3) := by decide +kernel
theorem dM_init_4 : decode cM_init 4 = .ok (.aload_n 0, 1) := by decide +kernel
theorem dM_init_5 : decode cM_init 5 = .ok (.sipush 1000, 3) := by decide +kernel
theorem dM_init_8 : decode cM_init 8 = .ok (.newarray .long, 2) := by decide +kernel
theorem dM_init_10 : decode cM_init 10 = .ok (.putfield 7, 3) := by decide +kernel
theorem dM_init_13 : decode cM_init 13 = .ok (.aload_n 0, 1) := by decide +kernel
theorem dM_init_14 : decode cM_init 14 = .ok (.iconst 5, 1) := by decide +kernel
theorem dM_init_15 : decode cM_init 15 = .ok (.newarray .int, 2) := by decide +kernel
theorem dM_init_17 : decode cM_init 17 = .ok (.putfield 13, 3) := by decide +kernel
theorem dM_init_20 : decode cM_init 20 = .ok (.iconst 0, 1) := by decide +kernel
theorem dM_init_21 : decode cM_init 21 = .ok (.istore_n 1, 1) := by decide +kernel
theorem dM_init_22 : decode cM_init 22 = .ok (.iload_n 1, 1) := by decide +kernel
theorem dM_init_23 : decode cM_init 23 = .ok (.iconst 5, 1) := by decide +kernel
theorem dM_init_24 : decode cM_init 24 = .ok (.if_icmp .ge 17, 3) := by decide +kernel
theorem dM_init_27 : decode cM_init 27 = .ok (.aload_n 0, 1) := by decide +kernel
theorem dM_init_28 : decode cM_init 28 = .ok (.getfield 13, 3) := by decide +kernel
theorem dM_init_31 : decode cM_init 31 = .ok (.iload_n 1, 1) := by decide +kernel
theorem dM_init_32 : decode cM_init 32 = .ok (.bipush 100, 2) := by decide +kernel
theorem dM_init_34 : decode cM_init 34 = .ok (.iastore, 1) := by decide +kernel
theorem dM_init_35 : decode cM_init 35 = .ok (.iinc 1 1, 3) := by decide +kernel
theorem dM_init_38 : decode cM_init 38 = .ok (.goto (-16), 3) := by decide +kernel
theorem dM_init_41 : decode cM_init 41 = .ok (.return_, 1) := by decide +kernel
theorem dM_thrown_0 : decode cM_thrown 0 = .ok (.aload_n 0, 1) := by decide +kernel
theorem dM_thrown_1 : decode cM_thrown 1 = .ok (.getfield 17, 3) := by decide +kernel
theorem dM_thrown_4 : decode cM_thrown 4 = .ok (.ireturn, 1) := by decide +kernel
theorem dM_fails_0 : decode cM_fails 0 = .ok (.aload_n 0, 1) := by decide +kernel
theorem dM_fails_1 : decode cM_fails 1 = .ok (.iload_n 1, 1) := by decide +kernel
theorem dM_fails_2 : decode cM_fails 2 = .ok (.ifCond .eq 7, 3) := by decide +kernel
theorem dM_fails_5 : decode cM_fails 5 = .ok (.iload_n 2, 1) := by decide +kernel
theorem dM_fails_6 : decode cM_fails 6 = .ok (.goto 4, 3) := by decide +kernel
theorem dM_fails_9 : decode cM_fails 9 = .ok (.iconst 0, 1) := by decide +kernel
theorem dM_fails_10 : decode cM_fails 10 = .ok (.putfield 17, 3) := by decide +kernel
theorem dM_fails_13 : decode cM_fails 13 = .ok (.iload_n 1, 1) := by decide +kernel
theorem dM_fails_14 : decode cM_fails 14 = .ok (.ireturn, 1) := by decide +kernel
theorem dM_at_0 : decode cM_at 0 = .ok (.iload_n 0, 1) := by decide +kernel
theorem dM_at_1 : decode cM_at 1 = .ok (.bipush 100, 2) := by decide +kernel
theorem dM_at_3 : decode cM_at 3 = .ok (.imul, 1) := by decide +kernel
theorem dM_at_4 : decode cM_at 4 = .ok (.iload_n 1, 1) := by decide +kernel
theorem dM_at_5 : decode cM_at 5 = .ok (.iadd, 1) := by decide +kernel
theorem dM_at_6 : decode cM_at 6 = .ok (.iconst 2, 1) := by decide +kernel
theorem dM_at_7 : decode cM_at 7 = .ok (.imul, 1) := by decide +kernel
theorem dM_at_8 : decode cM_at 8 = .ok (.iload_n 2, 1) := by decide +kernel
theorem dM_at_9 : decode cM_at 9 = .ok (.iadd, 1) := by decide +kernel
theorem dM_at_10 : decode cM_at 10 = .ok (.ireturn, 1) := by decide +kernel
theorem dM_usable_0 : decode cM_usable 0 = .ok (.aload_n 0, 1) := by decide +kernel
theorem dM_usable_1 : decode cM_usable 1 = .ok (.getfield 13, 3) := by decide +kernel
theorem dM_usable_4 : decode cM_usable 4 = .ok (.iload_n 1, 1) := by decide +kernel
theorem dM_usable_5 : decode cM_usable 5 = .ok (.iaload, 1) := by decide +kernel
theorem dM_usable_6 : decode cM_usable 6 = .ok (.iload_n 2, 1) := by decide +kernel
theorem dM_usable_7 : decode cM_usable 7 = .ok (.if_icmp .le 7, 3) := by decide +kernel
theorem dM_usable_10 : decode cM_usable 10 = .ok (.iconst 1, 1) := by decide +kernel
theorem dM_usable_11 : decode cM_usable 11 = .ok (.goto 4, 3) := by decide +kernel
theorem dM_usable_14 : decode cM_usable 14 = .ok (.iconst 0, 1) := by decide +kernel
theorem dM_usable_15 : decode cM_usable 15 = .ok (.ireturn, 1) := by decide +kernel
theorem dM_gone_0 : decode cM_gone 0 = .ok (.aload_n 0, 1) := by decide +kernel
theorem dM_gone_1 : decode cM_gone 1 = .ok (.iload_n 1, 1) := by decide +kernel
theorem dM_gone_2 : decode cM_gone 2 = .ok (.iload_n 2, 1) := by decide +kernel
theorem dM_gone_3 : decode cM_gone 3 = .ok (.invokevirtual 21, 3) := by decide +kernel
theorem dM_gone_6 : decode cM_gone 6 = .ok (.ifCond .eq 5, 3) := by decide +kernel
theorem dM_gone_9 : decode cM_gone 9 = .ok (.iconst 0, 1) := by decide +kernel
theorem dM_gone_10 : decode cM_gone 10 = .ok (.ireturn, 1) := by decide +kernel
theorem dM_gone_11 : decode cM_gone 11 = .ok (.iconst 0, 1) := by decide +kernel
theorem dM_gone_12 : decode cM_gone 12 = .ok (.istore_n 3, 1) := by decide +kernel
theorem dM_gone_13 : decode cM_gone 13 = .ok (.iload_n 3, 1) := by decide +kernel
theorem dM_gone_14 : decode cM_gone 14 = .ok (.iconst 5, 1) := by decide +kernel
theorem dM_gone_15 : decode cM_gone 15 = .ok (.if_icmp .ge 25, 3) := by decide +kernel
theorem dM_gone_18 : decode cM_gone 18 = .ok (.iload_n 3, 1) := by decide +kernel
theorem dM_gone_19 : decode cM_gone 19 = .ok (.iload_n 1, 1) := by decide +kernel
theorem dM_gone_20 : decode cM_gone 20 = .ok (.if_icmp .eq 14, 3) := by decide +kernel
theorem dM_gone_23 : decode cM_gone 23 = .ok (.aload_n 0, 1) := by decide +kernel
theorem dM_gone_24 : decode cM_gone 24 = .ok (.iload_n 3, 1) := by decide +kernel
theorem dM_gone_25 : decode cM_gone 25 = .ok (.iload_n 2, 1) := by decide +kernel
theorem dM_gone_26 : decode cM_gone 26 = .ok (.invokevirtual 21, 3) := by decide +kernel
theorem dM_gone_29 : decode cM_gone 29 = .ok (.ifCond .ne 5, 3) := by decide +kernel
theorem dM_gone_32 : decode cM_gone 32 = .ok (.iconst 1, 1) := by decide +kernel
theorem dM_gone_33 : decode cM_gone 33 = .ok (.ireturn, 1) := by decide +kernel
theorem dM_gone_34 : decode cM_gone 34 = .ok (.iinc 3 1, 3) := by decide +kernel
theorem dM_gone_37 : decode cM_gone 37 = .ok (.goto (-24), 3) := by decide +kernel
theorem dM_gone_40 : decode cM_gone 40 = .ok (.iconst 0, 1) := by decide +kernel
theorem dM_gone_41 : decode cM_gone 41 = .ok (.ireturn, 1) := by decide +kernel
theorem dM_others_0 : decode cM_others 0 = .ok (.lconst 0, 1) := by decide +kernel
theorem dM_others_1 : decode cM_others 1 = .ok (.lstore 4, 2) := by decide +kernel
theorem dM_others_3 : decode cM_others 3 = .ok (.iconst 0, 1) := by decide +kernel
theorem dM_others_4 : decode cM_others 4 = .ok (.istore 6, 2) := by decide +kernel
theorem dM_others_6 : decode cM_others 6 = .ok (.iload 6, 2) := by decide +kernel
theorem dM_others_8 : decode cM_others 8 = .ok (.iconst 5, 1) := by decide +kernel
theorem dM_others_9 : decode cM_others 9 = .ok (.if_icmp .ge 32, 3) := by decide +kernel
theorem dM_others_12 : decode cM_others 12 = .ok (.iload 6, 2) := by decide +kernel
theorem dM_others_14 : decode cM_others 14 = .ok (.iload_n 1, 1) := by decide +kernel
theorem dM_others_15 : decode cM_others 15 = .ok (.if_icmp .eq 20, 3) := by decide +kernel
theorem dM_others_18 : decode cM_others 18 = .ok (.lload 4, 2) := by decide +kernel
theorem dM_others_20 : decode cM_others 20 = .ok (.aload_n 0, 1) := by decide +kernel
theorem dM_others_21 : decode cM_others 21 = .ok (.getfield 7, 3) := by decide +kernel
theorem dM_others_24 : decode cM_others 24 = .ok (.iload 6, 2) := by decide +kernel
theorem dM_others_26 : decode cM_others 26 = .ok (.iload_n 2, 1) := by decide +kernel
theorem dM_others_27 : decode cM_others 27 = .ok (.iload_n 3, 1) := by decide +kernel
theorem dM_others_28 : decode cM_others 28 = .ok (.invokestatic 25, 3) := by decide +kernel
theorem dM_others_31 : decode cM_others 31 = .ok (.laload, 1) := by decide +kernel
theorem dM_others_32 : decode cM_others 32 = .ok (.lxor, 1) := by decide +kernel
theorem dM_others_33 : decode cM_others 33 = .ok (.lstore 4, 2) := by decide +kernel
theorem dM_others_35 : decode cM_others 35 = .ok (.iinc 6 1, 3) := by decide +kernel
theorem dM_others_38 : decode cM_others 38 = .ok (.goto (-32), 3) := by decide +kernel
theorem dM_others_41 : decode cM_others 41 = .ok (.lload 4, 2) := by decide +kernel
theorem dM_others_43 : decode cM_others 43 = .ok (.lreturn, 1) := by decide +kernel
theorem dM_has_0 : decode cM_has 0 = .ok (.aload_n 0, 1) := by decide +kernel
theorem dM_has_1 : decode cM_has 1 = .ok (.iload_n 1, 1) := by decide +kernel
theorem dM_has_2 : decode cM_has 2 = .ok (.iload_n 2, 1) := by decide +kernel
theorem dM_has_3 : decode cM_has 3 = .ok (.invokevirtual 21, 3) := by decide +kernel
theorem dM_has_6 : decode cM_has 6 = .ok (.ifCond .eq 17, 3) := by decide +kernel
theorem dM_has_9 : decode cM_has 9 = .ok (.aload_n 0, 1) := by decide +kernel
theorem dM_has_10 : decode cM_has 10 = .ok (.getfield 7, 3) := by decide +kernel
theorem dM_has_13 : decode cM_has 13 = .ok (.iload_n 1, 1) := by decide +kernel
theorem dM_has_14 : decode cM_has 14 = .ok (.iload_n 2, 1) := by decide +kernel
theorem dM_has_15 : decode cM_has 15 = .ok (.iload_n 3, 1) := by decide +kernel
theorem dM_has_16 : decode cM_has 16 = .ok (.invokestatic 25, 3) := by decide +kernel
theorem dM_has_19 : decode cM_has 19 = .ok (.laload, 1) := by decide +kernel
theorem dM_has_20 : decode cM_has 20 = .ok (.goto 10, 3) := by decide +kernel
theorem dM_has_23 : decode cM_has 23 = .ok (.aload_n 0, 1) := by decide +kernel
theorem dM_has_24 : decode cM_has 24 = .ok (.iload_n 1, 1) := by decide +kernel
theorem dM_has_25 : decode cM_has 25 = .ok (.iload_n 2, 1) := by decide +kernel
theorem dM_has_26 : decode cM_has 26 = .ok (.iload_n 3, 1) := by decide +kernel
theorem dM_has_27 : decode cM_has 27 = .ok (.invokevirtual 29, 3) := by decide +kernel
theorem dM_has_30 : decode cM_has 30 = .ok (.lreturn, 1) := by decide +kernel
theorem dM_disk_0 : decode cM_disk 0 = .ok (.iload_n 0, 1) := by decide +kernel
theorem dM_disk_1 : decode cM_disk 1 = .ok (.iconst 4, 1) := by decide +kernel
theorem dM_disk_2 : decode cM_disk 2 = .ok (.irem, 1) := by decide +kernel
theorem dM_disk_3 : decode cM_disk 3 = .ok (.istore_n 1, 1) := by decide +kernel
theorem dM_disk_4 : decode cM_disk 4 = .ok (.iload_n 0, 1) := by decide +kernel
theorem dM_disk_5 : decode cM_disk 5 = .ok (.iconst 4, 1) := by decide +kernel
theorem dM_disk_6 : decode cM_disk 6 = .ok (.idiv, 1) := by decide +kernel
theorem dM_disk_7 : decode cM_disk 7 = .ok (.iconst 5, 1) := by decide +kernel
theorem dM_disk_8 : decode cM_disk 8 = .ok (.irem, 1) := by decide +kernel
theorem dM_disk_9 : decode cM_disk 9 = .ok (.istore_n 2, 1) := by decide +kernel
theorem dM_disk_10 : decode cM_disk 10 = .ok (.iload_n 1, 1) := by decide +kernel
theorem dM_disk_11 : decode cM_disk 11 = .ok (.iload_n 2, 1) := by decide +kernel
theorem dM_disk_12 : decode cM_disk 12 = .ok (.if_icmp .ge 7, 3) := by decide +kernel
theorem dM_disk_15 : decode cM_disk 15 = .ok (.iload_n 1, 1) := by decide +kernel
theorem dM_disk_16 : decode cM_disk 16 = .ok (.goto 6, 3) := by decide +kernel
theorem dM_disk_19 : decode cM_disk 19 = .ok (.iload_n 1, 1) := by decide +kernel
theorem dM_disk_20 : decode cM_disk 20 = .ok (.iconst 1, 1) := by decide +kernel
theorem dM_disk_21 : decode cM_disk 21 = .ok (.iadd, 1) := by decide +kernel
theorem dM_disk_22 : decode cM_disk 22 = .ok (.ireturn, 1) := by decide +kernel
theorem dM_noPlace_0 : decode cM_noPlace 0 = .ok (.iload_n 1, 1) := by decide +kernel
theorem dM_noPlace_1 : decode cM_noPlace 1 = .ok (.ifCond .lt 19, 3) := by decide +kernel
theorem dM_noPlace_4 : decode cM_noPlace 4 = .ok (.iload_n 1, 1) := by decide +kernel
theorem dM_noPlace_5 : decode cM_noPlace 5 = .ok (.sipush 400, 3) := by decide +kernel
theorem dM_noPlace_8 : decode cM_noPlace 8 = .ok (.if_icmp .ge 12, 3) := by decide +kernel
theorem dM_noPlace_11 : decode cM_noPlace 11 = .ok (.iload_n 2, 1) := by decide +kernel
theorem dM_noPlace_12 : decode cM_noPlace 12 = .ok (.ifCond .lt 8, 3) := by decide +kernel
theorem dM_noPlace_15 : decode cM_noPlace 15 = .ok (.iload_n 2, 1) := by decide +kernel
theorem dM_noPlace_16 : decode cM_noPlace 16 = .ok (.iconst 1, 1) := by decide +kernel
theorem dM_noPlace_17 : decode cM_noPlace 17 = .ok (.if_icmp .le 7, 3) := by decide +kernel
theorem dM_noPlace_20 : decode cM_noPlace 20 = .ok (.iconst 1, 1) := by decide +kernel
theorem dM_noPlace_21 : decode cM_noPlace 21 = .ok (.goto 4, 3) := by decide +kernel
theorem dM_noPlace_24 : decode cM_noPlace 24 = .ok (.iconst 0, 1) := by decide +kernel
theorem dM_noPlace_25 : decode cM_noPlace 25 = .ok (.ireturn, 1) := by decide +kernel
theorem dM_read_0 : decode cM_read 0 = .ok (.aload_n 0, 1) := by decide +kernel
theorem dM_read_1 : decode cM_read 1 = .ok (.aload_n 0, 1) := by decide +kernel
theorem dM_read_2 : decode cM_read 2 = .ok (.iload_n 1, 1) := by decide +kernel
theorem dM_read_3 : decode cM_read 3 = .ok (.iload_n 2, 1) := by decide +kernel
theorem dM_read_4 : decode cM_read 4 = .ok (.invokevirtual 33, 3) := by decide +kernel
theorem dM_read_7 : decode cM_read 7 = .ok (.iconst 1, 1) := by decide +kernel
theorem dM_read_8 : decode cM_read 8 = .ok (.invokevirtual 36, 3) := by decide +kernel
theorem dM_read_11 : decode cM_read 11 = .ok (.ifCond .eq 5, 3) := by decide +kernel
theorem dM_read_14 : decode cM_read 14 = .ok (.lconst 0, 1) := by decide +kernel
theorem dM_read_15 : decode cM_read 15 = .ok (.lreturn, 1) := by decide +kernel
theorem dM_read_16 : decode cM_read 16 = .ok (.iload_n 1, 1) := by decide +kernel
theorem dM_read_17 : decode cM_read 17 = .ok (.invokestatic 40, 3) := by decide +kernel
theorem dM_read_20 : decode cM_read 20 = .ok (.istore_n 3, 1) := by decide +kernel
theorem dM_read_21 : decode cM_read 21 = .ok (.iload_n 1, 1) := by decide +kernel
theorem dM_read_22 : decode cM_read 22 = .ok (.iconst 4, 1) := by decide +kernel
theorem dM_read_23 : decode cM_read 23 = .ok (.idiv, 1) := by decide +kernel
theorem dM_read_24 : decode cM_read 24 = .ok (.istore 4, 2) := by decide +kernel
theorem dM_read_26 : decode cM_read 26 = .ok (.aload_n 0, 1) := by decide +kernel
theorem dM_read_27 : decode cM_read 27 = .ok (.aload_n 0, 1) := by decide +kernel
theorem dM_read_28 : decode cM_read 28 = .ok (.iload_n 3, 1) := by decide +kernel
theorem dM_read_29 : decode cM_read 29 = .ok (.iload 4, 2) := by decide +kernel
theorem dM_read_31 : decode cM_read 31 = .ok (.invokevirtual 44, 3) := by decide +kernel
theorem dM_read_34 : decode cM_read 34 = .ok (.iconst 2, 1) := by decide +kernel
theorem dM_read_35 : decode cM_read 35 = .ok (.invokevirtual 36, 3) := by decide +kernel
theorem dM_read_38 : decode cM_read 38 = .ok (.ifCond .eq 7, 3) := by decide +kernel
theorem dM_read_41 : decode cM_read 41 = .ok (.lconst 0, 1) := by decide +kernel
theorem dM_read_42 : decode cM_read 42 = .ok (.goto 11, 3) := by decide +kernel
theorem dM_read_45 : decode cM_read 45 = .ok (.aload_n 0, 1) := by decide +kernel
theorem dM_read_46 : decode cM_read 46 = .ok (.iload_n 3, 1) := by decide +kernel
theorem dM_read_47 : decode cM_read 47 = .ok (.iload 4, 2) := by decide +kernel
theorem dM_read_49 : decode cM_read 49 = .ok (.iload_n 2, 1) := by decide +kernel
theorem dM_read_50 : decode cM_read 50 = .ok (.invokevirtual 47, 3) := by decide +kernel
theorem dM_read_53 : decode cM_read 53 = .ok (.lreturn, 1) := by decide +kernel
theorem dM_write_0 : decode cM_write 0 = .ok (.aload_n 0, 1) := by decide +kernel
theorem dM_write_1 : decode cM_write 1 = .ok (.aload_n 0, 1) := by decide +kernel
theorem dM_write_2 : decode cM_write 2 = .ok (.iload_n 1, 1) := by decide +kernel
theorem dM_write_3 : decode cM_write 3 = .ok (.iload_n 2, 1) := by decide +kernel
theorem dM_write_4 : decode cM_write 4 = .ok (.invokevirtual 33, 3) := by decide +kernel
theorem dM_write_7 : decode cM_write 7 = .ok (.iconst 1, 1) := by decide +kernel
theorem dM_write_8 : decode cM_write 8 = .ok (.invokevirtual 36, 3) := by decide +kernel
theorem dM_write_11 : decode cM_write 11 = .ok (.ifCond .eq 4, 3) := by decide +kernel
theorem dM_write_14 : decode cM_write 14 = .ok (.return_, 1) := by decide +kernel
theorem dM_write_15 : decode cM_write 15 = .ok (.iload_n 1, 1) := by decide +kernel
theorem dM_write_16 : decode cM_write 16 = .ok (.invokestatic 40, 3) := by decide +kernel
theorem dM_write_19 : decode cM_write 19 = .ok (.istore 5, 2) := by decide +kernel
theorem dM_write_21 : decode cM_write 21 = .ok (.iload_n 1, 1) := by decide +kernel
theorem dM_write_22 : decode cM_write 22 = .ok (.iconst 4, 1) := by decide +kernel
theorem dM_write_23 : decode cM_write 23 = .ok (.idiv, 1) := by decide +kernel
theorem dM_write_24 : decode cM_write 24 = .ok (.istore 6, 2) := by decide +kernel
theorem dM_write_26 : decode cM_write 26 = .ok (.iload 6, 2) := by decide +kernel
theorem dM_write_28 : decode cM_write 28 = .ok (.iconst 5, 1) := by decide +kernel
theorem dM_write_29 : decode cM_write 29 = .ok (.irem, 1) := by decide +kernel
theorem dM_write_30 : decode cM_write 30 = .ok (.istore 7, 2) := by decide +kernel
theorem dM_write_32 : decode cM_write 32 = .ok (.aload_n 0, 1) := by decide +kernel
theorem dM_write_33 : decode cM_write 33 = .ok (.aload_n 0, 1) := by decide +kernel
theorem dM_write_34 : decode cM_write 34 = .ok (.iload 5, 2) := by decide +kernel
theorem dM_write_36 : decode cM_write 36 = .ok (.iload 6, 2) := by decide +kernel
theorem dM_write_38 : decode cM_write 38 = .ok (.invokevirtual 44, 3) := by decide +kernel
theorem dM_write_41 : decode cM_write 41 = .ok (.ifCond .ne 25, 3) := by decide +kernel
theorem dM_write_44 : decode cM_write 44 = .ok (.aload_n 0, 1) := by decide +kernel
theorem dM_write_45 : decode cM_write 45 = .ok (.iload 5, 2) := by decide +kernel
theorem dM_write_47 : decode cM_write 47 = .ok (.iload 6, 2) := by decide +kernel
theorem dM_write_49 : decode cM_write 49 = .ok (.invokevirtual 21, 3) := by decide +kernel
theorem dM_write_52 : decode cM_write 52 = .ok (.ifCond .ne 18, 3) := by decide +kernel
theorem dM_write_55 : decode cM_write 55 = .ok (.aload_n 0, 1) := by decide +kernel
theorem dM_write_56 : decode cM_write 56 = .ok (.iload 7, 2) := by decide +kernel
theorem dM_write_58 : decode cM_write 58 = .ok (.iload 6, 2) := by decide +kernel
theorem dM_write_60 : decode cM_write 60 = .ok (.invokevirtual 21, 3) := by decide +kernel
theorem dM_write_63 : decode cM_write 63 = .ok (.ifCond .ne 7, 3) := by decide +kernel
theorem dM_write_66 : decode cM_write 66 = .ok (.iconst 1, 1) := by decide +kernel
theorem dM_write_67 : decode cM_write 67 = .ok (.goto 4, 3) := by decide +kernel
theorem dM_write_70 : decode cM_write 70 = .ok (.iconst 0, 1) := by decide +kernel
theorem dM_write_71 : decode cM_write 71 = .ok (.iconst 2, 1) := by decide +kernel
theorem dM_write_72 : decode cM_write 72 = .ok (.invokevirtual 36, 3) := by decide +kernel
theorem dM_write_75 : decode cM_write 75 = .ok (.ifCond .eq 4, 3) := by decide +kernel
theorem dM_write_78 : decode cM_write 78 = .ok (.return_, 1) := by decide +kernel
theorem dM_write_79 : decode cM_write 79 = .ok (.aload_n 0, 1) := by decide +kernel
theorem dM_write_80 : decode cM_write 80 = .ok (.iload 5, 2) := by decide +kernel
theorem dM_write_82 : decode cM_write 82 = .ok (.iload 6, 2) := by decide +kernel
theorem dM_write_84 : decode cM_write 84 = .ok (.iload_n 2, 1) := by decide +kernel
theorem dM_write_85 : decode cM_write 85 = .ok (.invokevirtual 47, 3) := by decide +kernel
theorem dM_write_88 : decode cM_write 88 = .ok (.lstore 8, 2) := by decide +kernel
theorem dM_write_90 : decode cM_write 90 = .ok (.aload_n 0, 1) := by decide +kernel
theorem dM_write_91 : decode cM_write 91 = .ok (.iload 7, 2) := by decide +kernel
theorem dM_write_93 : decode cM_write 93 = .ok (.iload 6, 2) := by decide +kernel
theorem dM_write_95 : decode cM_write 95 = .ok (.invokevirtual 21, 3) := by decide +kernel
theorem dM_write_98 : decode cM_write 98 = .ok (.ifCond .eq 23, 3) := by decide +kernel
theorem dM_write_101 : decode cM_write 101 = .ok (.aload_n 0, 1) := by decide +kernel
theorem dM_write_102 : decode cM_write 102 = .ok (.getfield 7, 3) := by decide +kernel
theorem dM_write_105 : decode cM_write 105 = .ok (.iload 7, 2) := by decide +kernel
theorem dM_write_107 : decode cM_write 107 = .ok (.iload 6, 2) := by decide +kernel
theorem dM_write_109 : decode cM_write 109 = .ok (.iload_n 2, 1) := by decide +kernel
theorem dM_write_110 : decode cM_write 110 = .ok (.invokestatic 25, 3) := by decide +kernel
theorem dM_write_113 : decode cM_write 113 = .ok (.dup2, 1) := by decide +kernel
theorem dM_write_114 : decode cM_write 114 = .ok (.laload, 1) := by decide +kernel
theorem dM_write_115 : decode cM_write 115 = .ok (.lload 8, 2) := by decide +kernel
theorem dM_write_117 : decode cM_write 117 = .ok (.lload_n 3, 1) := by decide +kernel
theorem dM_write_118 : decode cM_write 118 = .ok (.lxor, 1) := by decide +kernel
theorem dM_write_119 : decode cM_write 119 = .ok (.lxor, 1) := by decide +kernel
theorem dM_write_120 : decode cM_write 120 = .ok (.lastore, 1) := by decide +kernel
theorem dM_write_121 : decode cM_write 121 = .ok (.aload_n 0, 1) := by decide +kernel
theorem dM_write_122 : decode cM_write 122 = .ok (.iload 5, 2) := by decide +kernel
theorem dM_write_124 : decode cM_write 124 = .ok (.iload 6, 2) := by decide +kernel
theorem dM_write_126 : decode cM_write 126 = .ok (.invokevirtual 21, 3) := by decide +kernel
theorem dM_write_129 : decode cM_write 129 = .ok (.ifCond .eq 17, 3) := by decide +kernel
theorem dM_write_132 : decode cM_write 132 = .ok (.aload_n 0, 1) := by decide +kernel
theorem dM_write_133 : decode cM_write 133 = .ok (.getfield 7, 3) := by decide +kernel
theorem dM_write_136 : decode cM_write 136 = .ok (.iload 5, 2) := by decide +kernel
theorem dM_write_138 : decode cM_write 138 = .ok (.iload 6, 2) := by decide +kernel
theorem dM_write_140 : decode cM_write 140 = .ok (.iload_n 2, 1) := by decide +kernel
theorem dM_write_141 : decode cM_write 141 = .ok (.invokestatic 25, 3) := by decide +kernel
theorem dM_write_144 : decode cM_write 144 = .ok (.lload_n 3, 1) := by decide +kernel
theorem dM_write_145 : decode cM_write 145 = .ok (.lastore, 1) := by decide +kernel
theorem dM_write_146 : decode cM_write 146 = .ok (.return_, 1) := by decide +kernel
theorem dM_none_0 : decode cM_none 0 = .ok (.iload_n 0, 1) := by decide +kernel
theorem dM_none_1 : decode cM_none 1 = .ok (.ifCond .lt 8, 3) := by decide +kernel
theorem dM_none_4 : decode cM_none 4 = .ok (.iload_n 0, 1) := by decide +kernel
theorem dM_none_5 : decode cM_none 5 = .ok (.iconst 5, 1) := by decide +kernel
theorem dM_none_6 : decode cM_none 6 = .ok (.if_icmp .lt 7, 3) := by decide +kernel
theorem dM_none_9 : decode cM_none 9 = .ok (.iconst 1, 1) := by decide +kernel
theorem dM_none_10 : decode cM_none 10 = .ok (.goto 4, 3) := by decide +kernel
theorem dM_none_13 : decode cM_none 13 = .ok (.iconst 0, 1) := by decide +kernel
theorem dM_none_14 : decode cM_none 14 = .ok (.ireturn, 1) := by decide +kernel
theorem dM_fail_0 : decode cM_fail 0 = .ok (.aload_n 0, 1) := by decide +kernel
theorem dM_fail_1 : decode cM_fail 1 = .ok (.iload_n 1, 1) := by decide +kernel
theorem dM_fail_2 : decode cM_fail 2 = .ok (.invokestatic 50, 3) := by decide +kernel
theorem dM_fail_5 : decode cM_fail 5 = .ok (.iconst 1, 1) := by decide +kernel
theorem dM_fail_6 : decode cM_fail 6 = .ok (.invokevirtual 36, 3) := by decide +kernel
theorem dM_fail_9 : decode cM_fail 9 = .ok (.ifCond .eq 4, 3) := by decide +kernel
theorem dM_fail_12 : decode cM_fail 12 = .ok (.return_, 1) := by decide +kernel
theorem dM_fail_13 : decode cM_fail 13 = .ok (.aload_n 0, 1) := by decide +kernel
theorem dM_fail_14 : decode cM_fail 14 = .ok (.getfield 13, 3) := by decide +kernel
theorem dM_fail_17 : decode cM_fail 17 = .ok (.iload_n 1, 1) := by decide +kernel
theorem dM_fail_18 : decode cM_fail 18 = .ok (.iconst (-1), 1) := by decide +kernel
theorem dM_fail_19 : decode cM_fail 19 = .ok (.iastore, 1) := by decide +kernel
theorem dM_fail_20 : decode cM_fail 20 = .ok (.return_, 1) := by decide +kernel
theorem dM_replace_0 : decode cM_replace 0 = .ok (.aload_n 0, 1) := by decide +kernel
theorem dM_replace_1 : decode cM_replace 1 = .ok (.iload_n 1, 1) := by decide +kernel
theorem dM_replace_2 : decode cM_replace 2 = .ok (.invokestatic 50, 3) := by decide +kernel
theorem dM_replace_5 : decode cM_replace 5 = .ok (.iconst 1, 1) := by decide +kernel
theorem dM_replace_6 : decode cM_replace 6 = .ok (.invokevirtual 36, 3) := by decide +kernel
theorem dM_replace_9 : decode cM_replace 9 = .ok (.ifCond .eq 4, 3) := by decide +kernel
theorem dM_replace_12 : decode cM_replace 12 = .ok (.return_, 1) := by decide +kernel
theorem dM_replace_13 : decode cM_replace 13 = .ok (.aload_n 0, 1) := by decide +kernel
theorem dM_replace_14 : decode cM_replace 14 = .ok (.aload_n 0, 1) := by decide +kernel
theorem dM_replace_15 : decode cM_replace 15 = .ok (.getfield 13, 3) := by decide +kernel
theorem dM_replace_18 : decode cM_replace 18 = .ok (.iload_n 1, 1) := by decide +kernel
theorem dM_replace_19 : decode cM_replace 19 = .ok (.iaload, 1) := by decide +kernel
theorem dM_replace_20 : decode cM_replace 20 = .ok (.ifCond .lt 7, 3) := by decide +kernel
theorem dM_replace_23 : decode cM_replace 23 = .ok (.iconst 1, 1) := by decide +kernel
theorem dM_replace_24 : decode cM_replace 24 = .ok (.goto 4, 3) := by decide +kernel
theorem dM_replace_27 : decode cM_replace 27 = .ok (.iconst 0, 1) := by decide +kernel
theorem dM_replace_28 : decode cM_replace 28 = .ok (.iconst 2, 1) := by decide +kernel
theorem dM_replace_29 : decode cM_replace 29 = .ok (.invokevirtual 36, 3) := by decide +kernel
theorem dM_replace_32 : decode cM_replace 32 = .ok (.ifCond .eq 4, 3) := by decide +kernel
theorem dM_replace_35 : decode cM_replace 35 = .ok (.return_, 1) := by decide +kernel
theorem dM_replace_36 : decode cM_replace 36 = .ok (.aload_n 0, 1) := by decide +kernel
theorem dM_replace_37 : decode cM_replace 37 = .ok (.getfield 13, 3) := by decide +kernel
theorem dM_replace_40 : decode cM_replace 40 = .ok (.iload_n 1, 1) := by decide +kernel
theorem dM_replace_41 : decode cM_replace 41 = .ok (.iconst 0, 1) := by decide +kernel
theorem dM_replace_42 : decode cM_replace 42 = .ok (.iastore, 1) := by decide +kernel
theorem dM_replace_43 : decode cM_replace 43 = .ok (.iconst 0, 1) := by decide +kernel
theorem dM_replace_44 : decode cM_replace 44 = .ok (.istore_n 2, 1) := by decide +kernel
theorem dM_replace_45 : decode cM_replace 45 = .ok (.iload_n 2, 1) := by decide +kernel
theorem dM_replace_46 : decode cM_replace 46 = .ok (.bipush 100, 2) := by decide +kernel
theorem dM_replace_48 : decode cM_replace 48 = .ok (.if_icmp .ge 33, 3) := by decide +kernel
theorem dM_replace_51 : decode cM_replace 51 = .ok (.aload_n 0, 1) := by decide +kernel
theorem dM_replace_52 : decode cM_replace 52 = .ok (.getfield 7, 3) := by decide +kernel
theorem dM_replace_55 : decode cM_replace 55 = .ok (.iload_n 1, 1) := by decide +kernel
theorem dM_replace_56 : decode cM_replace 56 = .ok (.iload_n 2, 1) := by decide +kernel
theorem dM_replace_57 : decode cM_replace 57 = .ok (.iconst 0, 1) := by decide +kernel
theorem dM_replace_58 : decode cM_replace 58 = .ok (.invokestatic 25, 3) := by decide +kernel
theorem dM_replace_61 : decode cM_replace 61 = .ok (.lconst 0, 1) := by decide +kernel
theorem dM_replace_62 : decode cM_replace 62 = .ok (.lastore, 1) := by decide +kernel
theorem dM_replace_63 : decode cM_replace 63 = .ok (.aload_n 0, 1) := by decide +kernel
theorem dM_replace_64 : decode cM_replace 64 = .ok (.getfield 7, 3) := by decide +kernel
theorem dM_replace_67 : decode cM_replace 67 = .ok (.iload_n 1, 1) := by decide +kernel
theorem dM_replace_68 : decode cM_replace 68 = .ok (.iload_n 2, 1) := by decide +kernel
theorem dM_replace_69 : decode cM_replace 69 = .ok (.iconst 1, 1) := by decide +kernel
theorem dM_replace_70 : decode cM_replace 70 = .ok (.invokestatic 25, 3) := by decide +kernel
theorem dM_replace_73 : decode cM_replace 73 = .ok (.lconst 0, 1) := by decide +kernel
theorem dM_replace_74 : decode cM_replace 74 = .ok (.lastore, 1) := by decide +kernel
theorem dM_replace_75 : decode cM_replace 75 = .ok (.iinc 2 1, 3) := by decide +kernel
theorem dM_replace_78 : decode cM_replace 78 = .ok (.goto (-33), 3) := by decide +kernel
theorem dM_replace_81 : decode cM_replace 81 = .ok (.return_, 1) := by decide +kernel
theorem dM_rebuild_0 : decode cM_rebuild 0 = .ok (.aload_n 0, 1) := by decide +kernel
theorem dM_rebuild_1 : decode cM_rebuild 1 = .ok (.iload_n 1, 1) := by decide +kernel
theorem dM_rebuild_2 : decode cM_rebuild 2 = .ok (.invokestatic 50, 3) := by decide +kernel
theorem dM_rebuild_5 : decode cM_rebuild 5 = .ok (.ifCond .ne 7, 3) := by decide +kernel
theorem dM_rebuild_8 : decode cM_rebuild 8 = .ok (.iload_n 2, 1) := by decide +kernel
theorem dM_rebuild_9 : decode cM_rebuild 9 = .ok (.ifCond .ge 7, 3) := by decide +kernel
theorem dM_rebuild_12 : decode cM_rebuild 12 = .ok (.iconst 1, 1) := by decide +kernel
theorem dM_rebuild_13 : decode cM_rebuild 13 = .ok (.goto 4, 3) := by decide +kernel
theorem dM_rebuild_16 : decode cM_rebuild 16 = .ok (.iconst 0, 1) := by decide +kernel
theorem dM_rebuild_17 : decode cM_rebuild 17 = .ok (.iconst 1, 1) := by decide +kernel
theorem dM_rebuild_18 : decode cM_rebuild 18 = .ok (.invokevirtual 36, 3) := by decide +kernel
theorem dM_rebuild_21 : decode cM_rebuild 21 = .ok (.ifCond .eq 5, 3) := by decide +kernel
theorem dM_rebuild_24 : decode cM_rebuild 24 = .ok (.iconst 0, 1) := by decide +kernel
theorem dM_rebuild_25 : decode cM_rebuild 25 = .ok (.ireturn, 1) := by decide +kernel
theorem dM_rebuild_26 : decode cM_rebuild 26 = .ok (.aload_n 0, 1) := by decide +kernel
theorem dM_rebuild_27 : decode cM_rebuild 27 = .ok (.aload_n 0, 1) := by decide +kernel
theorem dM_rebuild_28 : decode cM_rebuild 28 = .ok (.getfield 13, 3) := by decide +kernel
theorem dM_rebuild_31 : decode cM_rebuild 31 = .ok (.iload_n 1, 1) := by decide +kernel
theorem dM_rebuild_32 : decode cM_rebuild 32 = .ok (.iaload, 1) := by decide +kernel
theorem dM_rebuild_33 : decode cM_rebuild 33 = .ok (.ifCond .lt 14, 3) := by decide +kernel
theorem dM_rebuild_36 : decode cM_rebuild 36 = .ok (.aload_n 0, 1) := by decide +kernel
theorem dM_rebuild_37 : decode cM_rebuild 37 = .ok (.getfield 13, 3) := by decide +kernel
theorem dM_rebuild_40 : decode cM_rebuild 40 = .ok (.iload_n 1, 1) := by decide +kernel
theorem dM_rebuild_41 : decode cM_rebuild 41 = .ok (.iaload, 1) := by decide +kernel
theorem dM_rebuild_42 : decode cM_rebuild 42 = .ok (.bipush 100, 2) := by decide +kernel
theorem dM_rebuild_44 : decode cM_rebuild 44 = .ok (.if_icmp .ne 7, 3) := by decide +kernel
theorem dM_rebuild_47 : decode cM_rebuild 47 = .ok (.iconst 1, 1) := by decide +kernel
theorem dM_rebuild_48 : decode cM_rebuild 48 = .ok (.goto 4, 3) := by decide +kernel
theorem dM_rebuild_51 : decode cM_rebuild 51 = .ok (.iconst 0, 1) := by decide +kernel
theorem dM_rebuild_52 : decode cM_rebuild 52 = .ok (.iconst 2, 1) := by decide +kernel
theorem dM_rebuild_53 : decode cM_rebuild 53 = .ok (.invokevirtual 36, 3) := by decide +kernel
theorem dM_rebuild_56 : decode cM_rebuild 56 = .ok (.ifCond .eq 5, 3) := by decide +kernel
theorem dM_rebuild_59 : decode cM_rebuild 59 = .ok (.iconst 0, 1) := by decide +kernel
theorem dM_rebuild_60 : decode cM_rebuild 60 = .ok (.ireturn, 1) := by decide +kernel
theorem dM_rebuild_61 : decode cM_rebuild 61 = .ok (.iconst 0, 1) := by decide +kernel
theorem dM_rebuild_62 : decode cM_rebuild 62 = .ok (.istore_n 3, 1) := by decide +kernel
theorem dM_rebuild_63 : decode cM_rebuild 63 = .ok (.iload_n 3, 1) := by decide +kernel
theorem dM_rebuild_64 : decode cM_rebuild 64 = .ok (.iload_n 2, 1) := by decide +kernel
theorem dM_rebuild_65 : decode cM_rebuild 65 = .ok (.if_icmp .ge 89, 3) := by decide +kernel
theorem dM_rebuild_68 : decode cM_rebuild 68 = .ok (.aload_n 0, 1) := by decide +kernel
theorem dM_rebuild_69 : decode cM_rebuild 69 = .ok (.getfield 13, 3) := by decide +kernel
theorem dM_rebuild_72 : decode cM_rebuild 72 = .ok (.iload_n 1, 1) := by decide +kernel
theorem dM_rebuild_73 : decode cM_rebuild 73 = .ok (.iaload, 1) := by decide +kernel
theorem dM_rebuild_74 : decode cM_rebuild 74 = .ok (.bipush 100, 2) := by decide +kernel
theorem dM_rebuild_76 : decode cM_rebuild 76 = .ok (.if_icmp .ge 78, 3) := by decide +kernel
theorem dM_rebuild_79 : decode cM_rebuild 79 = .ok (.aload_n 0, 1) := by decide +kernel
theorem dM_rebuild_80 : decode cM_rebuild 80 = .ok (.iload_n 1, 1) := by decide +kernel
theorem dM_rebuild_81 : decode cM_rebuild 81 = .ok (.aload_n 0, 1) := by decide +kernel
theorem dM_rebuild_82 : decode cM_rebuild 82 = .ok (.getfield 13, 3) := by decide +kernel
theorem dM_rebuild_85 : decode cM_rebuild 85 = .ok (.iload_n 1, 1) := by decide +kernel
theorem dM_rebuild_86 : decode cM_rebuild 86 = .ok (.iaload, 1) := by decide +kernel
theorem dM_rebuild_87 : decode cM_rebuild 87 = .ok (.invokevirtual 44, 3) := by decide +kernel
theorem dM_rebuild_90 : decode cM_rebuild 90 = .ok (.ifCond .ne 64, 3) := by decide +kernel
theorem dM_rebuild_93 : decode cM_rebuild 93 = .ok (.iconst 0, 1) := by decide +kernel
theorem dM_rebuild_94 : decode cM_rebuild 94 = .ok (.istore 4, 2) := by decide +kernel
theorem dM_rebuild_96 : decode cM_rebuild 96 = .ok (.iload 4, 2) := by decide +kernel
theorem dM_rebuild_98 : decode cM_rebuild 98 = .ok (.iconst 2, 1) := by decide +kernel
theorem dM_rebuild_99 : decode cM_rebuild 99 = .ok (.if_icmp .ge 39, 3) := by decide +kernel
theorem dM_rebuild_102 : decode cM_rebuild 102 = .ok (.aload_n 0, 1) := by decide +kernel
theorem dM_rebuild_103 : decode cM_rebuild 103 = .ok (.getfield 7, 3) := by decide +kernel
theorem dM_rebuild_106 : decode cM_rebuild 106 = .ok (.iload_n 1, 1) := by decide +kernel
theorem dM_rebuild_107 : decode cM_rebuild 107 = .ok (.aload_n 0, 1) := by decide +kernel
theorem dM_rebuild_108 : decode cM_rebuild 108 = .ok (.getfield 13, 3) := by decide +kernel
theorem dM_rebuild_111 : decode cM_rebuild 111 = .ok (.iload_n 1, 1) := by decide +kernel
theorem dM_rebuild_112 : decode cM_rebuild 112 = .ok (.iaload, 1) := by decide +kernel
theorem dM_rebuild_113 : decode cM_rebuild 113 = .ok (.iload 4, 2) := by decide +kernel
theorem dM_rebuild_115 : decode cM_rebuild 115 = .ok (.invokestatic 25, 3) := by decide +kernel
theorem dM_rebuild_118 : decode cM_rebuild 118 = .ok (.aload_n 0, 1) := by decide +kernel
theorem dM_rebuild_119 : decode cM_rebuild 119 = .ok (.iload_n 1, 1) := by decide +kernel
theorem dM_rebuild_120 : decode cM_rebuild 120 = .ok (.aload_n 0, 1) := by decide +kernel
theorem dM_rebuild_121 : decode cM_rebuild 121 = .ok (.getfield 13, 3) := by decide +kernel
theorem dM_rebuild_124 : decode cM_rebuild 124 = .ok (.iload_n 1, 1) := by decide +kernel
theorem dM_rebuild_125 : decode cM_rebuild 125 = .ok (.iaload, 1) := by decide +kernel
theorem dM_rebuild_126 : decode cM_rebuild 126 = .ok (.iload 4, 2) := by decide +kernel
theorem dM_rebuild_128 : decode cM_rebuild 128 = .ok (.invokevirtual 29, 3) := by decide +kernel
theorem dM_rebuild_131 : decode cM_rebuild 131 = .ok (.lastore, 1) := by decide +kernel
theorem dM_rebuild_132 : decode cM_rebuild 132 = .ok (.iinc 4 1, 3) := by decide +kernel
theorem dM_rebuild_135 : decode cM_rebuild 135 = .ok (.goto (-39), 3) := by decide +kernel
theorem dM_rebuild_138 : decode cM_rebuild 138 = .ok (.aload_n 0, 1) := by decide +kernel
theorem dM_rebuild_139 : decode cM_rebuild 139 = .ok (.getfield 13, 3) := by decide +kernel
theorem dM_rebuild_142 : decode cM_rebuild 142 = .ok (.iload_n 1, 1) := by decide +kernel
theorem dM_rebuild_143 : decode cM_rebuild 143 = .ok (.dup2, 1) := by decide +kernel
theorem dM_rebuild_144 : decode cM_rebuild 144 = .ok (.iaload, 1) := by decide +kernel
theorem dM_rebuild_145 : decode cM_rebuild 145 = .ok (.iconst 1, 1) := by decide +kernel
theorem dM_rebuild_146 : decode cM_rebuild 146 = .ok (.iadd, 1) := by decide +kernel
theorem dM_rebuild_147 : decode cM_rebuild 147 = .ok (.iastore, 1) := by decide +kernel
theorem dM_rebuild_148 : decode cM_rebuild 148 = .ok (.iinc 3 1, 3) := by decide +kernel
theorem dM_rebuild_151 : decode cM_rebuild 151 = .ok (.goto (-88), 3) := by decide +kernel
theorem dM_rebuild_154 : decode cM_rebuild 154 = .ok (.aload_n 0, 1) := by decide +kernel
theorem dM_rebuild_155 : decode cM_rebuild 155 = .ok (.getfield 13, 3) := by decide +kernel
theorem dM_rebuild_158 : decode cM_rebuild 158 = .ok (.iload_n 1, 1) := by decide +kernel
theorem dM_rebuild_159 : decode cM_rebuild 159 = .ok (.iaload, 1) := by decide +kernel
theorem dM_rebuild_160 : decode cM_rebuild 160 = .ok (.ireturn, 1) := by decide +kernel
theorem dM_noBlock_0 : decode cM_noBlock 0 = .ok (.iload_n 1, 1) := by decide +kernel
theorem dM_noBlock_1 : decode cM_noBlock 1 = .ok (.invokestatic 50, 3) := by decide +kernel
theorem dM_noBlock_4 : decode cM_noBlock 4 = .ok (.ifCond .ne 22, 3) := by decide +kernel
theorem dM_noBlock_7 : decode cM_noBlock 7 = .ok (.iload_n 2, 1) := by decide +kernel
theorem dM_noBlock_8 : decode cM_noBlock 8 = .ok (.ifCond .lt 18, 3) := by decide +kernel
theorem dM_noBlock_11 : decode cM_noBlock 11 = .ok (.iload_n 2, 1) := by decide +kernel
theorem dM_noBlock_12 : decode cM_noBlock 12 = .ok (.bipush 100, 2) := by decide +kernel
theorem dM_noBlock_14 : decode cM_noBlock 14 = .ok (.if_icmp .ge 12, 3) := by decide +kernel
theorem dM_noBlock_17 : decode cM_noBlock 17 = .ok (.iload_n 3, 1) := by decide +kernel
theorem dM_noBlock_18 : decode cM_noBlock 18 = .ok (.ifCond .lt 8, 3) := by decide +kernel
theorem dM_noBlock_21 : decode cM_noBlock 21 = .ok (.iload_n 3, 1) := by decide +kernel
theorem dM_noBlock_22 : decode cM_noBlock 22 = .ok (.iconst 1, 1) := by decide +kernel
theorem dM_noBlock_23 : decode cM_noBlock 23 = .ok (.if_icmp .le 7, 3) := by decide +kernel
theorem dM_noBlock_26 : decode cM_noBlock 26 = .ok (.iconst 1, 1) := by decide +kernel
theorem dM_noBlock_27 : decode cM_noBlock 27 = .ok (.goto 4, 3) := by decide +kernel
theorem dM_noBlock_30 : decode cM_noBlock 30 = .ok (.iconst 0, 1) := by decide +kernel
theorem dM_noBlock_31 : decode cM_noBlock 31 = .ok (.ireturn, 1) := by decide +kernel
theorem dM_flip_0 : decode cM_flip 0 = .ok (.aload_n 0, 1) := by decide +kernel
theorem dM_flip_1 : decode cM_flip 1 = .ok (.aload_n 0, 1) := by decide +kernel
theorem dM_flip_2 : decode cM_flip 2 = .ok (.iload_n 1, 1) := by decide +kernel
theorem dM_flip_3 : decode cM_flip 3 = .ok (.iload_n 2, 1) := by decide +kernel
theorem dM_flip_4 : decode cM_flip 4 = .ok (.iload_n 3, 1) := by decide +kernel
theorem dM_flip_5 : decode cM_flip 5 = .ok (.invokevirtual 54, 3) := by decide +kernel
theorem dM_flip_8 : decode cM_flip 8 = .ok (.iconst 1, 1) := by decide +kernel
theorem dM_flip_9 : decode cM_flip 9 = .ok (.invokevirtual 36, 3) := by decide +kernel
theorem dM_flip_12 : decode cM_flip 12 = .ok (.ifCond .eq 4, 3) := by decide +kernel
theorem dM_flip_15 : decode cM_flip 15 = .ok (.return_, 1) := by decide +kernel
theorem dM_flip_16 : decode cM_flip 16 = .ok (.aload_n 0, 1) := by decide +kernel
theorem dM_flip_17 : decode cM_flip 17 = .ok (.aload_n 0, 1) := by decide +kernel
theorem dM_flip_18 : decode cM_flip 18 = .ok (.getfield 13, 3) := by decide +kernel
theorem dM_flip_21 : decode cM_flip 21 = .ok (.iload_n 1, 1) := by decide +kernel
theorem dM_flip_22 : decode cM_flip 22 = .ok (.iaload, 1) := by decide +kernel
theorem dM_flip_23 : decode cM_flip 23 = .ok (.ifCond .ge 7, 3) := by decide +kernel
theorem dM_flip_26 : decode cM_flip 26 = .ok (.iconst 1, 1) := by decide +kernel
theorem dM_flip_27 : decode cM_flip 27 = .ok (.goto 4, 3) := by decide +kernel
theorem dM_flip_30 : decode cM_flip 30 = .ok (.iconst 0, 1) := by decide +kernel
theorem dM_flip_31 : decode cM_flip 31 = .ok (.iconst 2, 1) := by decide +kernel
theorem dM_flip_32 : decode cM_flip 32 = .ok (.invokevirtual 36, 3) := by decide +kernel
theorem dM_flip_35 : decode cM_flip 35 = .ok (.ifCond .eq 4, 3) := by decide +kernel
theorem dM_flip_38 : decode cM_flip 38 = .ok (.return_, 1) := by decide +kernel
theorem dM_flip_39 : decode cM_flip 39 = .ok (.aload_n 0, 1) := by decide +kernel
theorem dM_flip_40 : decode cM_flip 40 = .ok (.getfield 7, 3) := by decide +kernel
theorem dM_flip_43 : decode cM_flip 43 = .ok (.iload_n 1, 1) := by decide +kernel
theorem dM_flip_44 : decode cM_flip 44 = .ok (.iload_n 2, 1) := by decide +kernel
theorem dM_flip_45 : decode cM_flip 45 = .ok (.iload_n 3, 1) := by decide +kernel
theorem dM_flip_46 : decode cM_flip 46 = .ok (.invokestatic 25, 3) := by decide +kernel
theorem dM_flip_49 : decode cM_flip 49 = .ok (.dup2, 1) := by decide +kernel
theorem dM_flip_50 : decode cM_flip 50 = .ok (.laload, 1) := by decide +kernel
theorem dM_flip_51 : decode cM_flip 51 = .ok (.lload 4, 2) := by decide +kernel
theorem dM_flip_53 : decode cM_flip 53 = .ok (.lxor, 1) := by decide +kernel
theorem dM_flip_54 : decode cM_flip 54 = .ok (.lastore, 1) := by decide +kernel
theorem dM_flip_55 : decode cM_flip 55 = .ok (.return_, 1) := by decide +kernel
theorem dM_block_0 : decode cM_block 0 = .ok (.aload_n 0, 1) := by decide +kernel
theorem dM_block_1 : decode cM_block 1 = .ok (.aload_n 0, 1) := by decide +kernel
theorem dM_block_2 : decode cM_block 2 = .ok (.iload_n 1, 1) := by decide +kernel
theorem dM_block_3 : decode cM_block 3 = .ok (.iload_n 2, 1) := by decide +kernel
theorem dM_block_4 : decode cM_block 4 = .ok (.iload_n 3, 1) := by decide +kernel
theorem dM_block_5 : decode cM_block 5 = .ok (.invokevirtual 54, 3) := by decide +kernel
theorem dM_block_8 : decode cM_block 8 = .ok (.iconst 1, 1) := by decide +kernel
theorem dM_block_9 : decode cM_block 9 = .ok (.invokevirtual 36, 3) := by decide +kernel
theorem dM_block_12 : decode cM_block 12 = .ok (.ifCond .eq 5, 3) := by decide +kernel
theorem dM_block_15 : decode cM_block 15 = .ok (.lconst 0, 1) := by decide +kernel
theorem dM_block_16 : decode cM_block 16 = .ok (.lreturn, 1) := by decide +kernel
theorem dM_block_17 : decode cM_block 17 = .ok (.aload_n 0, 1) := by decide +kernel
theorem dM_block_18 : decode cM_block 18 = .ok (.aload_n 0, 1) := by decide +kernel
theorem dM_block_19 : decode cM_block 19 = .ok (.getfield 13, 3) := by decide +kernel
theorem dM_block_22 : decode cM_block 22 = .ok (.iload_n 1, 1) := by decide +kernel
theorem dM_block_23 : decode cM_block 23 = .ok (.iaload, 1) := by decide +kernel
theorem dM_block_24 : decode cM_block 24 = .ok (.ifCond .ge 7, 3) := by decide +kernel
theorem dM_block_27 : decode cM_block 27 = .ok (.iconst 1, 1) := by decide +kernel
theorem dM_block_28 : decode cM_block 28 = .ok (.goto 4, 3) := by decide +kernel
theorem dM_block_31 : decode cM_block 31 = .ok (.iconst 0, 1) := by decide +kernel
theorem dM_block_32 : decode cM_block 32 = .ok (.iconst 2, 1) := by decide +kernel
theorem dM_block_33 : decode cM_block 33 = .ok (.invokevirtual 36, 3) := by decide +kernel
theorem dM_block_36 : decode cM_block 36 = .ok (.ifCond .eq 7, 3) := by decide +kernel
theorem dM_block_39 : decode cM_block 39 = .ok (.lconst 0, 1) := by decide +kernel
theorem dM_block_40 : decode cM_block 40 = .ok (.goto 14, 3) := by decide +kernel
theorem dM_block_43 : decode cM_block 43 = .ok (.aload_n 0, 1) := by decide +kernel
theorem dM_block_44 : decode cM_block 44 = .ok (.getfield 7, 3) := by decide +kernel
theorem dM_block_47 : decode cM_block 47 = .ok (.iload_n 1, 1) := by decide +kernel
theorem dM_block_48 : decode cM_block 48 = .ok (.iload_n 2, 1) := by decide +kernel
theorem dM_block_49 : decode cM_block 49 = .ok (.iload_n 3, 1) := by decide +kernel
theorem dM_block_50 : decode cM_block 50 = .ok (.invokestatic 25, 3) := by decide +kernel
theorem dM_block_53 : decode cM_block 53 = .ok (.laload, 1) := by decide +kernel
theorem dM_block_54 : decode cM_block 54 = .ok (.lreturn, 1) := by decide +kernel
theorem dM_scrub_0 : decode cM_scrub 0 = .ok (.aload_n 0, 1) := by decide +kernel
theorem dM_scrub_1 : decode cM_scrub 1 = .ok (.iconst 0, 1) := by decide +kernel
theorem dM_scrub_2 : decode cM_scrub 2 = .ok (.putfield 17, 3) := by decide +kernel
theorem dM_scrub_5 : decode cM_scrub 5 = .ok (.iconst 0, 1) := by decide +kernel
theorem dM_scrub_6 : decode cM_scrub 6 = .ok (.istore_n 1, 1) := by decide +kernel
theorem dM_scrub_7 : decode cM_scrub 7 = .ok (.iconst 0, 1) := by decide +kernel
theorem dM_scrub_8 : decode cM_scrub 8 = .ok (.istore_n 2, 1) := by decide +kernel
theorem dM_scrub_9 : decode cM_scrub 9 = .ok (.iload_n 2, 1) := by decide +kernel
theorem dM_scrub_10 : decode cM_scrub 10 = .ok (.bipush 100, 2) := by decide +kernel
theorem dM_scrub_12 : decode cM_scrub 12 = .ok (.if_icmp .ge 135, 3) := by decide +kernel
theorem dM_scrub_15 : decode cM_scrub 15 = .ok (.iload_n 2, 1) := by decide +kernel
theorem dM_scrub_16 : decode cM_scrub 16 = .ok (.iconst 5, 1) := by decide +kernel
theorem dM_scrub_17 : decode cM_scrub 17 = .ok (.irem, 1) := by decide +kernel
theorem dM_scrub_18 : decode cM_scrub 18 = .ok (.istore_n 3, 1) := by decide +kernel
theorem dM_scrub_19 : decode cM_scrub 19 = .ok (.iconst 1, 1) := by decide +kernel
theorem dM_scrub_20 : decode cM_scrub 20 = .ok (.istore 4, 2) := by decide +kernel
theorem dM_scrub_22 : decode cM_scrub 22 = .ok (.iconst 0, 1) := by decide +kernel
theorem dM_scrub_23 : decode cM_scrub 23 = .ok (.istore 5, 2) := by decide +kernel
theorem dM_scrub_25 : decode cM_scrub 25 = .ok (.iload 5, 2) := by decide +kernel
theorem dM_scrub_27 : decode cM_scrub 27 = .ok (.iconst 5, 1) := by decide +kernel
theorem dM_scrub_28 : decode cM_scrub 28 = .ok (.if_icmp .ge 22, 3) := by decide +kernel
theorem dM_scrub_31 : decode cM_scrub 31 = .ok (.aload_n 0, 1) := by decide +kernel
theorem dM_scrub_32 : decode cM_scrub 32 = .ok (.iload 5, 2) := by decide +kernel
theorem dM_scrub_34 : decode cM_scrub 34 = .ok (.iload_n 2, 1) := by decide +kernel
theorem dM_scrub_35 : decode cM_scrub 35 = .ok (.invokevirtual 21, 3) := by decide +kernel
theorem dM_scrub_38 : decode cM_scrub 38 = .ok (.ifCond .ne 6, 3) := by decide +kernel
theorem dM_scrub_41 : decode cM_scrub 41 = .ok (.iconst 0, 1) := by decide +kernel
theorem dM_scrub_42 : decode cM_scrub 42 = .ok (.istore 4, 2) := by decide +kernel
theorem dM_scrub_44 : decode cM_scrub 44 = .ok (.iinc 5 1, 3) := by decide +kernel
theorem dM_scrub_47 : decode cM_scrub 47 = .ok (.goto (-22), 3) := by decide +kernel
theorem dM_scrub_50 : decode cM_scrub 50 = .ok (.iload 4, 2) := by decide +kernel
theorem dM_scrub_52 : decode cM_scrub 52 = .ok (.ifCond .eq 89, 3) := by decide +kernel
theorem dM_scrub_55 : decode cM_scrub 55 = .ok (.aload_n 0, 1) := by decide +kernel
theorem dM_scrub_56 : decode cM_scrub 56 = .ok (.iload_n 3, 1) := by decide +kernel
theorem dM_scrub_57 : decode cM_scrub 57 = .ok (.iload_n 2, 1) := by decide +kernel
theorem dM_scrub_58 : decode cM_scrub 58 = .ok (.iconst 0, 1) := by decide +kernel
theorem dM_scrub_59 : decode cM_scrub 59 = .ok (.invokevirtual 29, 3) := by decide +kernel
theorem dM_scrub_62 : decode cM_scrub 62 = .ok (.aload_n 0, 1) := by decide +kernel
theorem dM_scrub_63 : decode cM_scrub 63 = .ok (.getfield 7, 3) := by decide +kernel
theorem dM_scrub_66 : decode cM_scrub 66 = .ok (.iload_n 3, 1) := by decide +kernel
theorem dM_scrub_67 : decode cM_scrub 67 = .ok (.iload_n 2, 1) := by decide +kernel
theorem dM_scrub_68 : decode cM_scrub 68 = .ok (.iconst 0, 1) := by decide +kernel
theorem dM_scrub_69 : decode cM_scrub 69 = .ok (.invokestatic 25, 3) := by decide +kernel
theorem dM_scrub_72 : decode cM_scrub 72 = .ok (.laload, 1) := by decide +kernel
theorem dM_scrub_73 : decode cM_scrub 73 = .ok (.lcmp, 1) := by decide +kernel
theorem dM_scrub_74 : decode cM_scrub 74 = .ok (.ifCond .ne 28, 3) := by decide +kernel
theorem dM_scrub_77 : decode cM_scrub 77 = .ok (.aload_n 0, 1) := by decide +kernel
theorem dM_scrub_78 : decode cM_scrub 78 = .ok (.iload_n 3, 1) := by decide +kernel
theorem dM_scrub_79 : decode cM_scrub 79 = .ok (.iload_n 2, 1) := by decide +kernel
theorem dM_scrub_80 : decode cM_scrub 80 = .ok (.iconst 1, 1) := by decide +kernel
theorem dM_scrub_81 : decode cM_scrub 81 = .ok (.invokevirtual 29, 3) := by decide +kernel
theorem dM_scrub_84 : decode cM_scrub 84 = .ok (.aload_n 0, 1) := by decide +kernel
theorem dM_scrub_85 : decode cM_scrub 85 = .ok (.getfield 7, 3) := by decide +kernel
theorem dM_scrub_88 : decode cM_scrub 88 = .ok (.iload_n 3, 1) := by decide +kernel
theorem dM_scrub_89 : decode cM_scrub 89 = .ok (.iload_n 2, 1) := by decide +kernel
theorem dM_scrub_90 : decode cM_scrub 90 = .ok (.iconst 1, 1) := by decide +kernel
theorem dM_scrub_91 : decode cM_scrub 91 = .ok (.invokestatic 25, 3) := by decide +kernel
theorem dM_scrub_94 : decode cM_scrub 94 = .ok (.laload, 1) := by decide +kernel
theorem dM_scrub_95 : decode cM_scrub 95 = .ok (.lcmp, 1) := by decide +kernel
theorem dM_scrub_96 : decode cM_scrub 96 = .ok (.ifCond .ne 6, 3) := by decide +kernel
theorem dM_scrub_99 : decode cM_scrub 99 = .ok (.goto 42, 3) := by decide +kernel
theorem dM_scrub_102 : decode cM_scrub 102 = .ok (.iinc 1 1, 3) := by decide +kernel
theorem dM_scrub_105 : decode cM_scrub 105 = .ok (.aload_n 0, 1) := by decide +kernel
theorem dM_scrub_106 : decode cM_scrub 106 = .ok (.getfield 7, 3) := by decide +kernel
theorem dM_scrub_109 : decode cM_scrub 109 = .ok (.iload_n 3, 1) := by decide +kernel
theorem dM_scrub_110 : decode cM_scrub 110 = .ok (.iload_n 2, 1) := by decide +kernel
theorem dM_scrub_111 : decode cM_scrub 111 = .ok (.iconst 0, 1) := by decide +kernel
theorem dM_scrub_112 : decode cM_scrub 112 = .ok (.invokestatic 25, 3) := by decide +kernel
theorem dM_scrub_115 : decode cM_scrub 115 = .ok (.aload_n 0, 1) := by decide +kernel
theorem dM_scrub_116 : decode cM_scrub 116 = .ok (.iload_n 3, 1) := by decide +kernel
theorem dM_scrub_117 : decode cM_scrub 117 = .ok (.iload_n 2, 1) := by decide +kernel
theorem dM_scrub_118 : decode cM_scrub 118 = .ok (.iconst 0, 1) := by decide +kernel
theorem dM_scrub_119 : decode cM_scrub 119 = .ok (.invokevirtual 29, 3) := by decide +kernel
theorem dM_scrub_122 : decode cM_scrub 122 = .ok (.lastore, 1) := by decide +kernel
theorem dM_scrub_123 : decode cM_scrub 123 = .ok (.aload_n 0, 1) := by decide +kernel
theorem dM_scrub_124 : decode cM_scrub 124 = .ok (.getfield 7, 3) := by decide +kernel
theorem dM_scrub_127 : decode cM_scrub 127 = .ok (.iload_n 3, 1) := by decide +kernel
theorem dM_scrub_128 : decode cM_scrub 128 = .ok (.iload_n 2, 1) := by decide +kernel
theorem dM_scrub_129 : decode cM_scrub 129 = .ok (.iconst 1, 1) := by decide +kernel
theorem dM_scrub_130 : decode cM_scrub 130 = .ok (.invokestatic 25, 3) := by decide +kernel
theorem dM_scrub_133 : decode cM_scrub 133 = .ok (.aload_n 0, 1) := by decide +kernel
theorem dM_scrub_134 : decode cM_scrub 134 = .ok (.iload_n 3, 1) := by decide +kernel
theorem dM_scrub_135 : decode cM_scrub 135 = .ok (.iload_n 2, 1) := by decide +kernel
theorem dM_scrub_136 : decode cM_scrub 136 = .ok (.iconst 1, 1) := by decide +kernel
theorem dM_scrub_137 : decode cM_scrub 137 = .ok (.invokevirtual 29, 3) := by decide +kernel
theorem dM_scrub_140 : decode cM_scrub 140 = .ok (.lastore, 1) := by decide +kernel
theorem dM_scrub_141 : decode cM_scrub 141 = .ok (.iinc 2 1, 3) := by decide +kernel
theorem dM_scrub_144 : decode cM_scrub 144 = .ok (.goto (-135), 3) := by decide +kernel
theorem dM_scrub_147 : decode cM_scrub 147 = .ok (.iload_n 1, 1) := by decide +kernel
theorem dM_scrub_148 : decode cM_scrub 148 = .ok (.ireturn, 1) := by decide +kernel
theorem dM_state_0 : decode cM_state 0 = .ok (.aload_n 0, 1) := by decide +kernel
theorem dM_state_1 : decode cM_state 1 = .ok (.iload_n 1, 1) := by decide +kernel
theorem dM_state_2 : decode cM_state 2 = .ok (.invokestatic 50, 3) := by decide +kernel
theorem dM_state_5 : decode cM_state 5 = .ok (.iconst 1, 1) := by decide +kernel
theorem dM_state_6 : decode cM_state 6 = .ok (.invokevirtual 36, 3) := by decide +kernel
theorem dM_state_9 : decode cM_state 9 = .ok (.ifCond .eq 5, 3) := by decide +kernel
theorem dM_state_12 : decode cM_state 12 = .ok (.iconst 0, 1) := by decide +kernel
theorem dM_state_13 : decode cM_state 13 = .ok (.ireturn, 1) := by decide +kernel
theorem dM_state_14 : decode cM_state 14 = .ok (.aload_n 0, 1) := by decide +kernel
theorem dM_state_15 : decode cM_state 15 = .ok (.getfield 13, 3) := by decide +kernel
theorem dM_state_18 : decode cM_state 18 = .ok (.iload_n 1, 1) := by decide +kernel
theorem dM_state_19 : decode cM_state 19 = .ok (.iaload, 1) := by decide +kernel
theorem dM_state_20 : decode cM_state 20 = .ok (.bipush 100, 2) := by decide +kernel
theorem dM_state_22 : decode cM_state 22 = .ok (.if_icmp .ne 7, 3) := by decide +kernel
theorem dM_state_25 : decode cM_state 25 = .ok (.iconst 0, 1) := by decide +kernel
theorem dM_state_26 : decode cM_state 26 = .ok (.goto 24, 3) := by decide +kernel
theorem dM_state_29 : decode cM_state 29 = .ok (.aload_n 0, 1) := by decide +kernel
theorem dM_state_30 : decode cM_state 30 = .ok (.getfield 13, 3) := by decide +kernel
theorem dM_state_33 : decode cM_state 33 = .ok (.iload_n 1, 1) := by decide +kernel
theorem dM_state_34 : decode cM_state 34 = .ok (.iaload, 1) := by decide +kernel
theorem dM_state_35 : decode cM_state 35 = .ok (.ifCond .ge 7, 3) := by decide +kernel
theorem dM_state_38 : decode cM_state 38 = .ok (.iconst 1, 1) := by decide +kernel
theorem dM_state_39 : decode cM_state 39 = .ok (.goto 11, 3) := by decide +kernel
theorem dM_state_42 : decode cM_state 42 = .ok (.iconst 2, 1) := by decide +kernel
theorem dM_state_43 : decode cM_state 43 = .ok (.aload_n 0, 1) := by decide +kernel
theorem dM_state_44 : decode cM_state 44 = .ok (.getfield 13, 3) := by decide +kernel
theorem dM_state_47 : decode cM_state 47 = .ok (.iload_n 1, 1) := by decide +kernel
theorem dM_state_48 : decode cM_state 48 = .ok (.iaload, 1) := by decide +kernel
theorem dM_state_49 : decode cM_state 49 = .ok (.iadd, 1) := by decide +kernel
theorem dM_state_50 : decode cM_state 50 = .ok (.ireturn, 1) := by decide +kernel
theorem dM_lost_0 : decode cM_lost 0 = .ok (.aload_n 0, 1) := by decide +kernel
theorem dM_lost_1 : decode cM_lost 1 = .ok (.iconst 0, 1) := by decide +kernel
theorem dM_lost_2 : decode cM_lost 2 = .ok (.putfield 17, 3) := by decide +kernel
theorem dM_lost_5 : decode cM_lost 5 = .ok (.iconst 0, 1) := by decide +kernel
theorem dM_lost_6 : decode cM_lost 6 = .ok (.istore_n 1, 1) := by decide +kernel
theorem dM_lost_7 : decode cM_lost 7 = .ok (.iconst 0, 1) := by decide +kernel
theorem dM_lost_8 : decode cM_lost 8 = .ok (.istore_n 2, 1) := by decide +kernel
theorem dM_lost_9 : decode cM_lost 9 = .ok (.iload_n 2, 1) := by decide +kernel
theorem dM_lost_10 : decode cM_lost 10 = .ok (.sipush 400, 3) := by decide +kernel
theorem dM_lost_13 : decode cM_lost 13 = .ok (.if_icmp .ge 26, 3) := by decide +kernel
theorem dM_lost_16 : decode cM_lost 16 = .ok (.aload_n 0, 1) := by decide +kernel
theorem dM_lost_17 : decode cM_lost 17 = .ok (.iload_n 2, 1) := by decide +kernel
theorem dM_lost_18 : decode cM_lost 18 = .ok (.invokestatic 40, 3) := by decide +kernel
theorem dM_lost_21 : decode cM_lost 21 = .ok (.iload_n 2, 1) := by decide +kernel
theorem dM_lost_22 : decode cM_lost 22 = .ok (.iconst 4, 1) := by decide +kernel
theorem dM_lost_23 : decode cM_lost 23 = .ok (.idiv, 1) := by decide +kernel
theorem dM_lost_24 : decode cM_lost 24 = .ok (.invokevirtual 44, 3) := by decide +kernel
theorem dM_lost_27 : decode cM_lost 27 = .ok (.ifCond .eq 6, 3) := by decide +kernel
theorem dM_lost_30 : decode cM_lost 30 = .ok (.iinc 1 1, 3) := by decide +kernel
theorem dM_lost_33 : decode cM_lost 33 = .ok (.iinc 2 1, 3) := by decide +kernel
theorem dM_lost_36 : decode cM_lost 36 = .ok (.goto (-27), 3) := by decide +kernel
theorem dM_lost_39 : decode cM_lost 39 = .ok (.iload_n 1, 1) := by decide +kernel
theorem dM_lost_40 : decode cM_lost 40 = .ok (.ireturn, 1) := by decide +kernel
theorem dL_law_0 : decode cL_law 0 = .ok (.new 8, 3) := by decide +kernel
theorem dL_law_3 : decode cL_law 3 = .ok (.dup, 1) := by decide +kernel
theorem dL_law_4 : decode cL_law 4 = .ok (.invokespecial 46, 3) := by decide +kernel
theorem dL_law_7 : decode cL_law 7 = .ok (.astore_n 1, 1) := by decide +kernel
theorem dL_law_8 : decode cL_law 8 = .ok (.new 47, 3) := by decide +kernel
theorem dL_law_11 : decode cL_law 11 = .ok (.dup, 1) := by decide +kernel
theorem dL_law_12 : decode cL_law 12 = .ok (.invokespecial 49, 3) := by decide +kernel
theorem dL_law_15 : decode cL_law 15 = .ok (.astore_n 2, 1) := by decide +kernel
theorem dL_law_16 : decode cL_law 16 = .ok (.iconst 1, 1) := by decide +kernel
theorem dL_law_17 : decode cL_law 17 = .ok (.newarray .long, 2) := by decide +kernel
theorem dL_law_19 : decode cL_law 19 = .ok (.astore_n 3, 1) := by decide +kernel
theorem dL_law_20 : decode cL_law 20 = .ok (.iconst 0, 1) := by decide +kernel
theorem dL_law_21 : decode cL_law 21 = .ok (.istore 4, 2) := by decide +kernel
theorem dL_law_23 : decode cL_law 23 = .ok (.iload 4, 2) := by decide +kernel
theorem dL_law_25 : decode cL_law 25 = .ok (.aload_n 0, 1) := by decide +kernel
theorem dL_law_26 : decode cL_law 26 = .ok (.arraylength, 1) := by decide +kernel
theorem dL_law_27 : decode cL_law 27 = .ok (.bipush 6, 2) := by decide +kernel
theorem dL_law_29 : decode cL_law 29 = .ok (.isub, 1) := by decide +kernel
theorem dL_law_30 : decode cL_law 30 = .ok (.if_icmp .gt 636, 3) := by decide +kernel
theorem dL_law_33 : decode cL_law 33 = .ok (.aload_n 0, 1) := by decide +kernel
theorem dL_law_34 : decode cL_law 34 = .ok (.iload 4, 2) := by decide +kernel
theorem dL_law_36 : decode cL_law 36 = .ok (.iaload, 1) := by decide +kernel
theorem dL_law_37 : decode cL_law 37 = .ok (.bipush 15, 2) := by decide +kernel
theorem dL_law_39 : decode cL_law 39 = .ok (.iand, 1) := by decide +kernel
theorem dL_law_40 : decode cL_law 40 = .ok (.tableswitch 620 0 9 #[56, 123, 215, 251, 287, 355, 459, 538, 551, 607], 56) := by decide +kernel
theorem dL_law_96 : decode cL_law 96 = .ok (.aload_n 1, 1) := by decide +kernel
theorem dL_law_97 : decode cL_law 97 = .ok (.aload_n 0, 1) := by decide +kernel
theorem dL_law_98 : decode cL_law 98 = .ok (.iload 4, 2) := by decide +kernel
theorem dL_law_100 : decode cL_law 100 = .ok (.iconst 1, 1) := by decide +kernel
theorem dL_law_101 : decode cL_law 101 = .ok (.iadd, 1) := by decide +kernel
theorem dL_law_102 : decode cL_law 102 = .ok (.iaload, 1) := by decide +kernel
theorem dL_law_103 : decode cL_law 103 = .ok (.aload_n 0, 1) := by decide +kernel
theorem dL_law_104 : decode cL_law 104 = .ok (.iload 4, 2) := by decide +kernel
theorem dL_law_106 : decode cL_law 106 = .ok (.iconst 2, 1) := by decide +kernel
theorem dL_law_107 : decode cL_law 107 = .ok (.iadd, 1) := by decide +kernel
theorem dL_law_108 : decode cL_law 108 = .ok (.iaload, 1) := by decide +kernel
theorem dL_law_109 : decode cL_law 109 = .ok (.aload_n 3, 1) := by decide +kernel
theorem dL_law_110 : decode cL_law 110 = .ok (.invokestatic 50, 3) := by decide +kernel
theorem dL_law_113 : decode cL_law 113 = .ok (.istore 5, 2) := by decide +kernel
theorem dL_law_115 : decode cL_law 115 = .ok (.aload_n 2, 1) := by decide +kernel
theorem dL_law_116 : decode cL_law 116 = .ok (.aload_n 0, 1) := by decide +kernel
theorem dL_law_117 : decode cL_law 117 = .ok (.iload 4, 2) := by decide +kernel
theorem dL_law_119 : decode cL_law 119 = .ok (.iconst 1, 1) := by decide +kernel
theorem dL_law_120 : decode cL_law 120 = .ok (.iadd, 1) := by decide +kernel
theorem dL_law_121 : decode cL_law 121 = .ok (.iaload, 1) := by decide +kernel
theorem dL_law_122 : decode cL_law 122 = .ok (.aload_n 0, 1) := by decide +kernel
theorem dL_law_123 : decode cL_law 123 = .ok (.iload 4, 2) := by decide +kernel
theorem dL_law_125 : decode cL_law 125 = .ok (.iconst 2, 1) := by decide +kernel
theorem dL_law_126 : decode cL_law 126 = .ok (.iadd, 1) := by decide +kernel
theorem dL_law_127 : decode cL_law 127 = .ok (.iaload, 1) := by decide +kernel
theorem dL_law_128 : decode cL_law 128 = .ok (.invokevirtual 55, 3) := by decide +kernel
theorem dL_law_131 : decode cL_law 131 = .ok (.lstore 6, 2) := by decide +kernel
theorem dL_law_133 : decode cL_law 133 = .ok (.aload_n 2, 1) := by decide +kernel
theorem dL_law_134 : decode cL_law 134 = .ok (.invokevirtual 56, 3) := by decide +kernel
theorem dL_law_137 : decode cL_law 137 = .ok (.iload 5, 2) := by decide +kernel
theorem dL_law_139 : decode cL_law 139 = .ok (.if_icmp .eq 5, 3) := by decide +kernel
theorem dL_law_142 : decode cL_law 142 = .ok (.iconst 0, 1) := by decide +kernel
theorem dL_law_143 : decode cL_law 143 = .ok (.ireturn, 1) := by decide +kernel
theorem dL_law_144 : decode cL_law 144 = .ok (.iload 5, 2) := by decide +kernel
theorem dL_law_146 : decode cL_law 146 = .ok (.ifCond .ne 14, 3) := by decide +kernel
theorem dL_law_149 : decode cL_law 149 = .ok (.aload_n 3, 1) := by decide +kernel
theorem dL_law_150 : decode cL_law 150 = .ok (.iconst 0, 1) := by decide +kernel
theorem dL_law_151 : decode cL_law 151 = .ok (.laload, 1) := by decide +kernel
theorem dL_law_152 : decode cL_law 152 = .ok (.lload 6, 2) := by decide +kernel
theorem dL_law_154 : decode cL_law 154 = .ok (.lcmp, 1) := by decide +kernel
theorem dL_law_155 : decode cL_law 155 = .ok (.ifCond .eq 5, 3) := by decide +kernel
theorem dL_law_158 : decode cL_law 158 = .ok (.iconst 0, 1) := by decide +kernel
theorem dL_law_159 : decode cL_law 159 = .ok (.ireturn, 1) := by decide +kernel
theorem dL_law_160 : decode cL_law 160 = .ok (.goto 500, 3) := by decide +kernel
theorem dL_law_163 : decode cL_law 163 = .ok (.aload_n 1, 1) := by decide +kernel
theorem dL_law_164 : decode cL_law 164 = .ok (.aload_n 0, 1) := by decide +kernel
theorem dL_law_165 : decode cL_law 165 = .ok (.iload 4, 2) := by decide +kernel
theorem dL_law_167 : decode cL_law 167 = .ok (.iconst 1, 1) := by decide +kernel
theorem dL_law_168 : decode cL_law 168 = .ok (.iadd, 1) := by decide +kernel
theorem dL_law_169 : decode cL_law 169 = .ok (.iaload, 1) := by decide +kernel
theorem dL_law_170 : decode cL_law 170 = .ok (.aload_n 0, 1) := by decide +kernel
theorem dL_law_171 : decode cL_law 171 = .ok (.iload 4, 2) := by decide +kernel
theorem dL_law_173 : decode cL_law 173 = .ok (.iconst 2, 1) := by decide +kernel
theorem dL_law_174 : decode cL_law 174 = .ok (.iadd, 1) := by decide +kernel
theorem dL_law_175 : decode cL_law 175 = .ok (.iaload, 1) := by decide +kernel
theorem dL_law_176 : decode cL_law 176 = .ok (.aload_n 0, 1) := by decide +kernel
theorem dL_law_177 : decode cL_law 177 = .ok (.iload 4, 2) := by decide +kernel
theorem dL_law_179 : decode cL_law 179 = .ok (.iconst 3, 1) := by decide +kernel
theorem dL_law_180 : decode cL_law 180 = .ok (.iadd, 1) := by decide +kernel
theorem dL_law_181 : decode cL_law 181 = .ok (.iaload, 1) := by decide +kernel
theorem dL_law_182 : decode cL_law 182 = .ok (.i2l, 1) := by decide +kernel
theorem dL_law_183 : decode cL_law 183 = .ok (.bipush 32, 2) := by decide +kernel
theorem dL_law_185 : decode cL_law 185 = .ok (.lshl, 1) := by decide +kernel
theorem dL_law_186 : decode cL_law 186 = .ok (.aload_n 0, 1) := by decide +kernel
theorem dL_law_187 : decode cL_law 187 = .ok (.iload 4, 2) := by decide +kernel
theorem dL_law_189 : decode cL_law 189 = .ok (.iconst 4, 1) := by decide +kernel
theorem dL_law_190 : decode cL_law 190 = .ok (.iadd, 1) := by decide +kernel
theorem dL_law_191 : decode cL_law 191 = .ok (.iaload, 1) := by decide +kernel
theorem dL_law_192 : decode cL_law 192 = .ok (.i2l, 1) := by decide +kernel
theorem dL_law_193 : decode cL_law 193 = .ok (.ldc2_w 60, 3) := by decide +kernel
theorem dL_law_196 : decode cL_law 196 = .ok (.land, 1) := by decide +kernel
theorem dL_law_197 : decode cL_law 197 = .ok (.lor, 1) := by decide +kernel
theorem dL_law_198 : decode cL_law 198 = .ok (.invokestatic 62, 3) := by decide +kernel
theorem dL_law_201 : decode cL_law 201 = .ok (.istore 5, 2) := by decide +kernel
theorem dL_law_203 : decode cL_law 203 = .ok (.aload_n 2, 1) := by decide +kernel
theorem dL_law_204 : decode cL_law 204 = .ok (.aload_n 0, 1) := by decide +kernel
theorem dL_law_205 : decode cL_law 205 = .ok (.iload 4, 2) := by decide +kernel
theorem dL_law_207 : decode cL_law 207 = .ok (.iconst 1, 1) := by decide +kernel
theorem dL_law_208 : decode cL_law 208 = .ok (.iadd, 1) := by decide +kernel
theorem dL_law_209 : decode cL_law 209 = .ok (.iaload, 1) := by decide +kernel
theorem dL_law_210 : decode cL_law 210 = .ok (.aload_n 0, 1) := by decide +kernel
theorem dL_law_211 : decode cL_law 211 = .ok (.iload 4, 2) := by decide +kernel
theorem dL_law_213 : decode cL_law 213 = .ok (.iconst 2, 1) := by decide +kernel
theorem dL_law_214 : decode cL_law 214 = .ok (.iadd, 1) := by decide +kernel
theorem dL_law_215 : decode cL_law 215 = .ok (.iaload, 1) := by decide +kernel
theorem dL_law_216 : decode cL_law 216 = .ok (.aload_n 0, 1) := by decide +kernel
theorem dL_law_217 : decode cL_law 217 = .ok (.iload 4, 2) := by decide +kernel
theorem dL_law_219 : decode cL_law 219 = .ok (.iconst 3, 1) := by decide +kernel
theorem dL_law_220 : decode cL_law 220 = .ok (.iadd, 1) := by decide +kernel
theorem dL_law_221 : decode cL_law 221 = .ok (.iaload, 1) := by decide +kernel
theorem dL_law_222 : decode cL_law 222 = .ok (.i2l, 1) := by decide +kernel
theorem dL_law_223 : decode cL_law 223 = .ok (.bipush 32, 2) := by decide +kernel
theorem dL_law_225 : decode cL_law 225 = .ok (.lshl, 1) := by decide +kernel
theorem dL_law_226 : decode cL_law 226 = .ok (.aload_n 0, 1) := by decide +kernel
theorem dL_law_227 : decode cL_law 227 = .ok (.iload 4, 2) := by decide +kernel
theorem dL_law_229 : decode cL_law 229 = .ok (.iconst 4, 1) := by decide +kernel
theorem dL_law_230 : decode cL_law 230 = .ok (.iadd, 1) := by decide +kernel
theorem dL_law_231 : decode cL_law 231 = .ok (.iaload, 1) := by decide +kernel
theorem dL_law_232 : decode cL_law 232 = .ok (.i2l, 1) := by decide +kernel
theorem dL_law_233 : decode cL_law 233 = .ok (.ldc2_w 60, 3) := by decide +kernel
theorem dL_law_236 : decode cL_law 236 = .ok (.land, 1) := by decide +kernel
theorem dL_law_237 : decode cL_law 237 = .ok (.lor, 1) := by decide +kernel
theorem dL_law_238 : decode cL_law 238 = .ok (.invokevirtual 65, 3) := by decide +kernel
theorem dL_law_241 : decode cL_law 241 = .ok (.aload_n 2, 1) := by decide +kernel
theorem dL_law_242 : decode cL_law 242 = .ok (.invokevirtual 56, 3) := by decide +kernel
theorem dL_law_245 : decode cL_law 245 = .ok (.iload 5, 2) := by decide +kernel
theorem dL_law_247 : decode cL_law 247 = .ok (.if_icmp .eq 5, 3) := by decide +kernel
theorem dL_law_250 : decode cL_law 250 = .ok (.iconst 0, 1) := by decide +kernel
theorem dL_law_251 : decode cL_law 251 = .ok (.ireturn, 1) := by decide +kernel
theorem dL_law_252 : decode cL_law 252 = .ok (.goto 408, 3) := by decide +kernel
theorem dL_law_255 : decode cL_law 255 = .ok (.aload_n 1, 1) := by decide +kernel
theorem dL_law_256 : decode cL_law 256 = .ok (.aload_n 0, 1) := by decide +kernel
theorem dL_law_257 : decode cL_law 257 = .ok (.iload 4, 2) := by decide +kernel
theorem dL_law_259 : decode cL_law 259 = .ok (.iconst 1, 1) := by decide +kernel
theorem dL_law_260 : decode cL_law 260 = .ok (.iadd, 1) := by decide +kernel
theorem dL_law_261 : decode cL_law 261 = .ok (.iaload, 1) := by decide +kernel
theorem dL_law_262 : decode cL_law 262 = .ok (.invokestatic 66, 3) := by decide +kernel
theorem dL_law_265 : decode cL_law 265 = .ok (.istore 5, 2) := by decide +kernel
theorem dL_law_267 : decode cL_law 267 = .ok (.aload_n 2, 1) := by decide +kernel
theorem dL_law_268 : decode cL_law 268 = .ok (.aload_n 0, 1) := by decide +kernel
theorem dL_law_269 : decode cL_law 269 = .ok (.iload 4, 2) := by decide +kernel
theorem dL_law_271 : decode cL_law 271 = .ok (.iconst 1, 1) := by decide +kernel
theorem dL_law_272 : decode cL_law 272 = .ok (.iadd, 1) := by decide +kernel
theorem dL_law_273 : decode cL_law 273 = .ok (.iaload, 1) := by decide +kernel
theorem dL_law_274 : decode cL_law 274 = .ok (.invokevirtual 69, 3) := by decide +kernel
theorem dL_law_277 : decode cL_law 277 = .ok (.aload_n 2, 1) := by decide +kernel
theorem dL_law_278 : decode cL_law 278 = .ok (.invokevirtual 56, 3) := by decide +kernel
theorem dL_law_281 : decode cL_law 281 = .ok (.iload 5, 2) := by decide +kernel
theorem dL_law_283 : decode cL_law 283 = .ok (.if_icmp .eq 5, 3) := by decide +kernel
theorem dL_law_286 : decode cL_law 286 = .ok (.iconst 0, 1) := by decide +kernel
theorem dL_law_287 : decode cL_law 287 = .ok (.ireturn, 1) := by decide +kernel
theorem dL_law_288 : decode cL_law 288 = .ok (.goto 372, 3) := by decide +kernel
theorem dL_law_291 : decode cL_law 291 = .ok (.aload_n 1, 1) := by decide +kernel
theorem dL_law_292 : decode cL_law 292 = .ok (.aload_n 0, 1) := by decide +kernel
theorem dL_law_293 : decode cL_law 293 = .ok (.iload 4, 2) := by decide +kernel
theorem dL_law_295 : decode cL_law 295 = .ok (.iconst 1, 1) := by decide +kernel
theorem dL_law_296 : decode cL_law 296 = .ok (.iadd, 1) := by decide +kernel
theorem dL_law_297 : decode cL_law 297 = .ok (.iaload, 1) := by decide +kernel
theorem dL_law_298 : decode cL_law 298 = .ok (.invokestatic 70, 3) := by decide +kernel
theorem dL_law_301 : decode cL_law 301 = .ok (.istore 5, 2) := by decide +kernel
theorem dL_law_303 : decode cL_law 303 = .ok (.aload_n 2, 1) := by decide +kernel
theorem dL_law_304 : decode cL_law 304 = .ok (.aload_n 0, 1) := by decide +kernel
theorem dL_law_305 : decode cL_law 305 = .ok (.iload 4, 2) := by decide +kernel
theorem dL_law_307 : decode cL_law 307 = .ok (.iconst 1, 1) := by decide +kernel
theorem dL_law_308 : decode cL_law 308 = .ok (.iadd, 1) := by decide +kernel
theorem dL_law_309 : decode cL_law 309 = .ok (.iaload, 1) := by decide +kernel
theorem dL_law_310 : decode cL_law 310 = .ok (.invokevirtual 72, 3) := by decide +kernel
theorem dL_law_313 : decode cL_law 313 = .ok (.aload_n 2, 1) := by decide +kernel
theorem dL_law_314 : decode cL_law 314 = .ok (.invokevirtual 56, 3) := by decide +kernel
theorem dL_law_317 : decode cL_law 317 = .ok (.iload 5, 2) := by decide +kernel
theorem dL_law_319 : decode cL_law 319 = .ok (.if_icmp .eq 5, 3) := by decide +kernel
theorem dL_law_322 : decode cL_law 322 = .ok (.iconst 0, 1) := by decide +kernel
theorem dL_law_323 : decode cL_law 323 = .ok (.ireturn, 1) := by decide +kernel
theorem dL_law_324 : decode cL_law 324 = .ok (.goto 336, 3) := by decide +kernel
theorem dL_law_327 : decode cL_law 327 = .ok (.aload_n 1, 1) := by decide +kernel
theorem dL_law_328 : decode cL_law 328 = .ok (.aload_n 0, 1) := by decide +kernel
theorem dL_law_329 : decode cL_law 329 = .ok (.iload 4, 2) := by decide +kernel
theorem dL_law_331 : decode cL_law 331 = .ok (.iconst 1, 1) := by decide +kernel
theorem dL_law_332 : decode cL_law 332 = .ok (.iadd, 1) := by decide +kernel
theorem dL_law_333 : decode cL_law 333 = .ok (.iaload, 1) := by decide +kernel
theorem dL_law_334 : decode cL_law 334 = .ok (.aload_n 0, 1) := by decide +kernel
theorem dL_law_335 : decode cL_law 335 = .ok (.iload 4, 2) := by decide +kernel
theorem dL_law_337 : decode cL_law 337 = .ok (.iconst 2, 1) := by decide +kernel
theorem dL_law_338 : decode cL_law 338 = .ok (.iadd, 1) := by decide +kernel
theorem dL_law_339 : decode cL_law 339 = .ok (.iaload, 1) := by decide +kernel
theorem dL_law_340 : decode cL_law 340 = .ok (.aload_n 3, 1) := by decide +kernel
theorem dL_law_341 : decode cL_law 341 = .ok (.invokestatic 73, 3) := by decide +kernel
theorem dL_law_344 : decode cL_law 344 = .ok (.istore 5, 2) := by decide +kernel
theorem dL_law_346 : decode cL_law 346 = .ok (.aload_n 2, 1) := by decide +kernel
theorem dL_law_347 : decode cL_law 347 = .ok (.aload_n 0, 1) := by decide +kernel
theorem dL_law_348 : decode cL_law 348 = .ok (.iload 4, 2) := by decide +kernel
theorem dL_law_350 : decode cL_law 350 = .ok (.iconst 1, 1) := by decide +kernel
theorem dL_law_351 : decode cL_law 351 = .ok (.iadd, 1) := by decide +kernel
theorem dL_law_352 : decode cL_law 352 = .ok (.iaload, 1) := by decide +kernel
theorem dL_law_353 : decode cL_law 353 = .ok (.aload_n 0, 1) := by decide +kernel
theorem dL_law_354 : decode cL_law 354 = .ok (.iload 4, 2) := by decide +kernel
theorem dL_law_356 : decode cL_law 356 = .ok (.iconst 2, 1) := by decide +kernel
theorem dL_law_357 : decode cL_law 357 = .ok (.iadd, 1) := by decide +kernel
theorem dL_law_358 : decode cL_law 358 = .ok (.iaload, 1) := by decide +kernel
theorem dL_law_359 : decode cL_law 359 = .ok (.invokevirtual 75, 3) := by decide +kernel
theorem dL_law_362 : decode cL_law 362 = .ok (.istore 6, 2) := by decide +kernel
theorem dL_law_364 : decode cL_law 364 = .ok (.aload_n 2, 1) := by decide +kernel
theorem dL_law_365 : decode cL_law 365 = .ok (.invokevirtual 56, 3) := by decide +kernel
theorem dL_law_368 : decode cL_law 368 = .ok (.iload 5, 2) := by decide +kernel
theorem dL_law_370 : decode cL_law 370 = .ok (.if_icmp .eq 5, 3) := by decide +kernel
theorem dL_law_373 : decode cL_law 373 = .ok (.iconst 0, 1) := by decide +kernel
theorem dL_law_374 : decode cL_law 374 = .ok (.ireturn, 1) := by decide +kernel
theorem dL_law_375 : decode cL_law 375 = .ok (.iload 5, 2) := by decide +kernel
theorem dL_law_377 : decode cL_law 377 = .ok (.ifCond .ne 15, 3) := by decide +kernel
theorem dL_law_380 : decode cL_law 380 = .ok (.aload_n 3, 1) := by decide +kernel
theorem dL_law_381 : decode cL_law 381 = .ok (.iconst 0, 1) := by decide +kernel
theorem dL_law_382 : decode cL_law 382 = .ok (.laload, 1) := by decide +kernel
theorem dL_law_383 : decode cL_law 383 = .ok (.iload 6, 2) := by decide +kernel
theorem dL_law_385 : decode cL_law 385 = .ok (.i2l, 1) := by decide +kernel
theorem dL_law_386 : decode cL_law 386 = .ok (.lcmp, 1) := by decide +kernel
theorem dL_law_387 : decode cL_law 387 = .ok (.ifCond .eq 5, 3) := by decide +kernel
theorem dL_law_390 : decode cL_law 390 = .ok (.iconst 0, 1) := by decide +kernel
theorem dL_law_391 : decode cL_law 391 = .ok (.ireturn, 1) := by decide +kernel
theorem dL_law_392 : decode cL_law 392 = .ok (.goto 268, 3) := by decide +kernel
theorem dL_law_395 : decode cL_law 395 = .ok (.aload_n 1, 1) := by decide +kernel
theorem dL_law_396 : decode cL_law 396 = .ok (.aload_n 0, 1) := by decide +kernel
theorem dL_law_397 : decode cL_law 397 = .ok (.iload 4, 2) := by decide +kernel
theorem dL_law_399 : decode cL_law 399 = .ok (.iconst 1, 1) := by decide +kernel
theorem dL_law_400 : decode cL_law 400 = .ok (.iadd, 1) := by decide +kernel
theorem dL_law_401 : decode cL_law 401 = .ok (.iaload, 1) := by decide +kernel
theorem dL_law_402 : decode cL_law 402 = .ok (.aload_n 0, 1) := by decide +kernel
theorem dL_law_403 : decode cL_law 403 = .ok (.iload 4, 2) := by decide +kernel
theorem dL_law_405 : decode cL_law 405 = .ok (.iconst 2, 1) := by decide +kernel
theorem dL_law_406 : decode cL_law 406 = .ok (.iadd, 1) := by decide +kernel
theorem dL_law_407 : decode cL_law 407 = .ok (.iaload, 1) := by decide +kernel
theorem dL_law_408 : decode cL_law 408 = .ok (.aload_n 0, 1) := by decide +kernel
theorem dL_law_409 : decode cL_law 409 = .ok (.iload 4, 2) := by decide +kernel
theorem dL_law_411 : decode cL_law 411 = .ok (.iconst 3, 1) := by decide +kernel
theorem dL_law_412 : decode cL_law 412 = .ok (.iadd, 1) := by decide +kernel
theorem dL_law_413 : decode cL_law 413 = .ok (.iaload, 1) := by decide +kernel
theorem dL_law_414 : decode cL_law 414 = .ok (.aload_n 0, 1) := by decide +kernel
theorem dL_law_415 : decode cL_law 415 = .ok (.iload 4, 2) := by decide +kernel
theorem dL_law_417 : decode cL_law 417 = .ok (.iconst 4, 1) := by decide +kernel
theorem dL_law_418 : decode cL_law 418 = .ok (.iadd, 1) := by decide +kernel
theorem dL_law_419 : decode cL_law 419 = .ok (.iaload, 1) := by decide +kernel
theorem dL_law_420 : decode cL_law 420 = .ok (.i2l, 1) := by decide +kernel
theorem dL_law_421 : decode cL_law 421 = .ok (.bipush 32, 2) := by decide +kernel
theorem dL_law_423 : decode cL_law 423 = .ok (.lshl, 1) := by decide +kernel
theorem dL_law_424 : decode cL_law 424 = .ok (.aload_n 0, 1) := by decide +kernel
theorem dL_law_425 : decode cL_law 425 = .ok (.iload 4, 2) := by decide +kernel
theorem dL_law_427 : decode cL_law 427 = .ok (.iconst 5, 1) := by decide +kernel
theorem dL_law_428 : decode cL_law 428 = .ok (.iadd, 1) := by decide +kernel
theorem dL_law_429 : decode cL_law 429 = .ok (.iaload, 1) := by decide +kernel
theorem dL_law_430 : decode cL_law 430 = .ok (.i2l, 1) := by decide +kernel
theorem dL_law_431 : decode cL_law 431 = .ok (.ldc2_w 60, 3) := by decide +kernel
theorem dL_law_434 : decode cL_law 434 = .ok (.land, 1) := by decide +kernel
theorem dL_law_435 : decode cL_law 435 = .ok (.lor, 1) := by decide +kernel
theorem dL_law_436 : decode cL_law 436 = .ok (.invokestatic 76, 3) := by decide +kernel
theorem dL_law_439 : decode cL_law 439 = .ok (.istore 5, 2) := by decide +kernel
theorem dL_law_441 : decode cL_law 441 = .ok (.aload_n 2, 1) := by decide +kernel
theorem dL_law_442 : decode cL_law 442 = .ok (.aload_n 0, 1) := by decide +kernel
theorem dL_law_443 : decode cL_law 443 = .ok (.iload 4, 2) := by decide +kernel
theorem dL_law_445 : decode cL_law 445 = .ok (.iconst 1, 1) := by decide +kernel
theorem dL_law_446 : decode cL_law 446 = .ok (.iadd, 1) := by decide +kernel
theorem dL_law_447 : decode cL_law 447 = .ok (.iaload, 1) := by decide +kernel
theorem dL_law_448 : decode cL_law 448 = .ok (.aload_n 0, 1) := by decide +kernel
theorem dL_law_449 : decode cL_law 449 = .ok (.iload 4, 2) := by decide +kernel
theorem dL_law_451 : decode cL_law 451 = .ok (.iconst 2, 1) := by decide +kernel
theorem dL_law_452 : decode cL_law 452 = .ok (.iadd, 1) := by decide +kernel
theorem dL_law_453 : decode cL_law 453 = .ok (.iaload, 1) := by decide +kernel
theorem dL_law_454 : decode cL_law 454 = .ok (.aload_n 0, 1) := by decide +kernel
theorem dL_law_455 : decode cL_law 455 = .ok (.iload 4, 2) := by decide +kernel
theorem dL_law_457 : decode cL_law 457 = .ok (.iconst 3, 1) := by decide +kernel
theorem dL_law_458 : decode cL_law 458 = .ok (.iadd, 1) := by decide +kernel
theorem dL_law_459 : decode cL_law 459 = .ok (.iaload, 1) := by decide +kernel
theorem dL_law_460 : decode cL_law 460 = .ok (.aload_n 0, 1) := by decide +kernel
theorem dL_law_461 : decode cL_law 461 = .ok (.iload 4, 2) := by decide +kernel
theorem dL_law_463 : decode cL_law 463 = .ok (.iconst 4, 1) := by decide +kernel
theorem dL_law_464 : decode cL_law 464 = .ok (.iadd, 1) := by decide +kernel
theorem dL_law_465 : decode cL_law 465 = .ok (.iaload, 1) := by decide +kernel
theorem dL_law_466 : decode cL_law 466 = .ok (.i2l, 1) := by decide +kernel
theorem dL_law_467 : decode cL_law 467 = .ok (.bipush 32, 2) := by decide +kernel
theorem dL_law_469 : decode cL_law 469 = .ok (.lshl, 1) := by decide +kernel
theorem dL_law_470 : decode cL_law 470 = .ok (.aload_n 0, 1) := by decide +kernel
theorem dL_law_471 : decode cL_law 471 = .ok (.iload 4, 2) := by decide +kernel
theorem dL_law_473 : decode cL_law 473 = .ok (.iconst 5, 1) := by decide +kernel
theorem dL_law_474 : decode cL_law 474 = .ok (.iadd, 1) := by decide +kernel
theorem dL_law_475 : decode cL_law 475 = .ok (.iaload, 1) := by decide +kernel
theorem dL_law_476 : decode cL_law 476 = .ok (.i2l, 1) := by decide +kernel
theorem dL_law_477 : decode cL_law 477 = .ok (.ldc2_w 60, 3) := by decide +kernel
theorem dL_law_480 : decode cL_law 480 = .ok (.land, 1) := by decide +kernel
theorem dL_law_481 : decode cL_law 481 = .ok (.lor, 1) := by decide +kernel
theorem dL_law_482 : decode cL_law 482 = .ok (.invokevirtual 79, 3) := by decide +kernel
theorem dL_law_485 : decode cL_law 485 = .ok (.aload_n 2, 1) := by decide +kernel
theorem dL_law_486 : decode cL_law 486 = .ok (.invokevirtual 56, 3) := by decide +kernel
theorem dL_law_489 : decode cL_law 489 = .ok (.iload 5, 2) := by decide +kernel
theorem dL_law_491 : decode cL_law 491 = .ok (.if_icmp .eq 5, 3) := by decide +kernel
theorem dL_law_494 : decode cL_law 494 = .ok (.iconst 0, 1) := by decide +kernel
theorem dL_law_495 : decode cL_law 495 = .ok (.ireturn, 1) := by decide +kernel
theorem dL_law_496 : decode cL_law 496 = .ok (.goto 164, 3) := by decide +kernel
theorem dL_law_499 : decode cL_law 499 = .ok (.aload_n 1, 1) := by decide +kernel
theorem dL_law_500 : decode cL_law 500 = .ok (.aload_n 0, 1) := by decide +kernel
theorem dL_law_501 : decode cL_law 501 = .ok (.iload 4, 2) := by decide +kernel
theorem dL_law_503 : decode cL_law 503 = .ok (.iconst 1, 1) := by decide +kernel
theorem dL_law_504 : decode cL_law 504 = .ok (.iadd, 1) := by decide +kernel
theorem dL_law_505 : decode cL_law 505 = .ok (.iaload, 1) := by decide +kernel
theorem dL_law_506 : decode cL_law 506 = .ok (.aload_n 0, 1) := by decide +kernel
theorem dL_law_507 : decode cL_law 507 = .ok (.iload 4, 2) := by decide +kernel
theorem dL_law_509 : decode cL_law 509 = .ok (.iconst 2, 1) := by decide +kernel
theorem dL_law_510 : decode cL_law 510 = .ok (.iadd, 1) := by decide +kernel
theorem dL_law_511 : decode cL_law 511 = .ok (.iaload, 1) := by decide +kernel
theorem dL_law_512 : decode cL_law 512 = .ok (.aload_n 0, 1) := by decide +kernel
theorem dL_law_513 : decode cL_law 513 = .ok (.iload 4, 2) := by decide +kernel
theorem dL_law_515 : decode cL_law 515 = .ok (.iconst 3, 1) := by decide +kernel
theorem dL_law_516 : decode cL_law 516 = .ok (.iadd, 1) := by decide +kernel
theorem dL_law_517 : decode cL_law 517 = .ok (.iaload, 1) := by decide +kernel
theorem dL_law_518 : decode cL_law 518 = .ok (.aload_n 3, 1) := by decide +kernel
theorem dL_law_519 : decode cL_law 519 = .ok (.invokestatic 80, 3) := by decide +kernel
theorem dL_law_522 : decode cL_law 522 = .ok (.istore 5, 2) := by decide +kernel
theorem dL_law_524 : decode cL_law 524 = .ok (.aload_n 2, 1) := by decide +kernel
theorem dL_law_525 : decode cL_law 525 = .ok (.aload_n 0, 1) := by decide +kernel
theorem dL_law_526 : decode cL_law 526 = .ok (.iload 4, 2) := by decide +kernel
theorem dL_law_528 : decode cL_law 528 = .ok (.iconst 1, 1) := by decide +kernel
theorem dL_law_529 : decode cL_law 529 = .ok (.iadd, 1) := by decide +kernel
theorem dL_law_530 : decode cL_law 530 = .ok (.iaload, 1) := by decide +kernel
theorem dL_law_531 : decode cL_law 531 = .ok (.aload_n 0, 1) := by decide +kernel
theorem dL_law_532 : decode cL_law 532 = .ok (.iload 4, 2) := by decide +kernel
theorem dL_law_534 : decode cL_law 534 = .ok (.iconst 2, 1) := by decide +kernel
theorem dL_law_535 : decode cL_law 535 = .ok (.iadd, 1) := by decide +kernel
theorem dL_law_536 : decode cL_law 536 = .ok (.iaload, 1) := by decide +kernel
theorem dL_law_537 : decode cL_law 537 = .ok (.aload_n 0, 1) := by decide +kernel
theorem dL_law_538 : decode cL_law 538 = .ok (.iload 4, 2) := by decide +kernel
theorem dL_law_540 : decode cL_law 540 = .ok (.iconst 3, 1) := by decide +kernel
theorem dL_law_541 : decode cL_law 541 = .ok (.iadd, 1) := by decide +kernel
theorem dL_law_542 : decode cL_law 542 = .ok (.iaload, 1) := by decide +kernel
theorem dL_law_543 : decode cL_law 543 = .ok (.invokevirtual 83, 3) := by decide +kernel
theorem dL_law_546 : decode cL_law 546 = .ok (.lstore 6, 2) := by decide +kernel
theorem dL_law_548 : decode cL_law 548 = .ok (.aload_n 2, 1) := by decide +kernel
theorem dL_law_549 : decode cL_law 549 = .ok (.invokevirtual 56, 3) := by decide +kernel
theorem dL_law_552 : decode cL_law 552 = .ok (.iload 5, 2) := by decide +kernel
theorem dL_law_554 : decode cL_law 554 = .ok (.if_icmp .eq 5, 3) := by decide +kernel
theorem dL_law_557 : decode cL_law 557 = .ok (.iconst 0, 1) := by decide +kernel
theorem dL_law_558 : decode cL_law 558 = .ok (.ireturn, 1) := by decide +kernel
theorem dL_law_559 : decode cL_law 559 = .ok (.iload 5, 2) := by decide +kernel
theorem dL_law_561 : decode cL_law 561 = .ok (.ifCond .ne 14, 3) := by decide +kernel
theorem dL_law_564 : decode cL_law 564 = .ok (.aload_n 3, 1) := by decide +kernel
theorem dL_law_565 : decode cL_law 565 = .ok (.iconst 0, 1) := by decide +kernel
theorem dL_law_566 : decode cL_law 566 = .ok (.laload, 1) := by decide +kernel
theorem dL_law_567 : decode cL_law 567 = .ok (.lload 6, 2) := by decide +kernel
theorem dL_law_569 : decode cL_law 569 = .ok (.lcmp, 1) := by decide +kernel
theorem dL_law_570 : decode cL_law 570 = .ok (.ifCond .eq 5, 3) := by decide +kernel
theorem dL_law_573 : decode cL_law 573 = .ok (.iconst 0, 1) := by decide +kernel
theorem dL_law_574 : decode cL_law 574 = .ok (.ireturn, 1) := by decide +kernel
theorem dL_law_575 : decode cL_law 575 = .ok (.goto 85, 3) := by decide +kernel
theorem dL_law_578 : decode cL_law 578 = .ok (.aload_n 1, 1) := by decide +kernel
theorem dL_law_579 : decode cL_law 579 = .ok (.invokevirtual 84, 3) := by decide +kernel
theorem dL_law_582 : decode cL_law 582 = .ok (.aload_n 2, 1) := by decide +kernel
theorem dL_law_583 : decode cL_law 583 = .ok (.invokevirtual 87, 3) := by decide +kernel
theorem dL_law_586 : decode cL_law 586 = .ok (.if_icmp .eq 74, 3) := by decide +kernel
theorem dL_law_589 : decode cL_law 589 = .ok (.iconst 0, 1) := by decide +kernel
theorem dL_law_590 : decode cL_law 590 = .ok (.ireturn, 1) := by decide +kernel
theorem dL_law_591 : decode cL_law 591 = .ok (.aload_n 1, 1) := by decide +kernel
theorem dL_law_592 : decode cL_law 592 = .ok (.aload_n 0, 1) := by decide +kernel
theorem dL_law_593 : decode cL_law 593 = .ok (.iload 4, 2) := by decide +kernel
theorem dL_law_595 : decode cL_law 595 = .ok (.iconst 1, 1) := by decide +kernel
theorem dL_law_596 : decode cL_law 596 = .ok (.iadd, 1) := by decide +kernel
theorem dL_law_597 : decode cL_law 597 = .ok (.iaload, 1) := by decide +kernel
theorem dL_law_598 : decode cL_law 598 = .ok (.aload_n 3, 1) := by decide +kernel
theorem dL_law_599 : decode cL_law 599 = .ok (.invokestatic 88, 3) := by decide +kernel
theorem dL_law_602 : decode cL_law 602 = .ok (.istore 5, 2) := by decide +kernel
theorem dL_law_604 : decode cL_law 604 = .ok (.aload_n 2, 1) := by decide +kernel
theorem dL_law_605 : decode cL_law 605 = .ok (.aload_n 0, 1) := by decide +kernel
theorem dL_law_606 : decode cL_law 606 = .ok (.iload 4, 2) := by decide +kernel
theorem dL_law_608 : decode cL_law 608 = .ok (.iconst 1, 1) := by decide +kernel
theorem dL_law_609 : decode cL_law 609 = .ok (.iadd, 1) := by decide +kernel
theorem dL_law_610 : decode cL_law 610 = .ok (.iaload, 1) := by decide +kernel
theorem dL_law_611 : decode cL_law 611 = .ok (.invokevirtual 91, 3) := by decide +kernel
theorem dL_law_614 : decode cL_law 614 = .ok (.istore 6, 2) := by decide +kernel
theorem dL_law_616 : decode cL_law 616 = .ok (.aload_n 2, 1) := by decide +kernel
theorem dL_law_617 : decode cL_law 617 = .ok (.invokevirtual 56, 3) := by decide +kernel
theorem dL_law_620 : decode cL_law 620 = .ok (.iload 5, 2) := by decide +kernel
theorem dL_law_622 : decode cL_law 622 = .ok (.if_icmp .eq 5, 3) := by decide +kernel
theorem dL_law_625 : decode cL_law 625 = .ok (.iconst 0, 1) := by decide +kernel
theorem dL_law_626 : decode cL_law 626 = .ok (.ireturn, 1) := by decide +kernel
theorem dL_law_627 : decode cL_law 627 = .ok (.iload 5, 2) := by decide +kernel
theorem dL_law_629 : decode cL_law 629 = .ok (.ifCond .ne 15, 3) := by decide +kernel
theorem dL_law_632 : decode cL_law 632 = .ok (.aload_n 3, 1) := by decide +kernel
theorem dL_law_633 : decode cL_law 633 = .ok (.iconst 0, 1) := by decide +kernel
theorem dL_law_634 : decode cL_law 634 = .ok (.laload, 1) := by decide +kernel
theorem dL_law_635 : decode cL_law 635 = .ok (.iload 6, 2) := by decide +kernel
theorem dL_law_637 : decode cL_law 637 = .ok (.i2l, 1) := by decide +kernel
theorem dL_law_638 : decode cL_law 638 = .ok (.lcmp, 1) := by decide +kernel
theorem dL_law_639 : decode cL_law 639 = .ok (.ifCond .eq 5, 3) := by decide +kernel
theorem dL_law_642 : decode cL_law 642 = .ok (.iconst 0, 1) := by decide +kernel
theorem dL_law_643 : decode cL_law 643 = .ok (.ireturn, 1) := by decide +kernel
theorem dL_law_644 : decode cL_law 644 = .ok (.goto 16, 3) := by decide +kernel
theorem dL_law_647 : decode cL_law 647 = .ok (.aload_n 1, 1) := by decide +kernel
theorem dL_law_648 : decode cL_law 648 = .ok (.invokevirtual 92, 3) := by decide +kernel
theorem dL_law_651 : decode cL_law 651 = .ok (.aload_n 2, 1) := by decide +kernel
theorem dL_law_652 : decode cL_law 652 = .ok (.invokevirtual 95, 3) := by decide +kernel
theorem dL_law_655 : decode cL_law 655 = .ok (.if_icmp .eq 5, 3) := by decide +kernel
theorem dL_law_658 : decode cL_law 658 = .ok (.iconst 0, 1) := by decide +kernel
theorem dL_law_659 : decode cL_law 659 = .ok (.ireturn, 1) := by decide +kernel
theorem dL_law_660 : decode cL_law 660 = .ok (.iinc 4 6, 3) := by decide +kernel
theorem dL_law_663 : decode cL_law 663 = .ok (.goto (-640), 3) := by decide +kernel
theorem dL_law_666 : decode cL_law 666 = .ok (.iconst 1, 1) := by decide +kernel
theorem dL_law_667 : decode cL_law 667 = .ok (.ireturn, 1) := by decide +kernel
theorem dL_read_0 : decode cL_read 0 = .ok (.aload_n 3, 1) := by decide +kernel
theorem dL_read_1 : decode cL_read 1 = .ok (.iconst 0, 1) := by decide +kernel
theorem dL_read_2 : decode cL_read 2 = .ok (.aload_n 0, 1) := by decide +kernel
theorem dL_read_3 : decode cL_read 3 = .ok (.iload_n 1, 1) := by decide +kernel
theorem dL_read_4 : decode cL_read 4 = .ok (.iload_n 2, 1) := by decide +kernel
theorem dL_read_5 : decode cL_read 5 = .ok (.invokevirtual 7, 3) := by decide +kernel
theorem dL_read_8 : decode cL_read 8 = .ok (.lastore, 1) := by decide +kernel
theorem dL_read_9 : decode cL_read 9 = .ok (.goto 11, 3) := by decide +kernel
theorem dL_read_12 : decode cL_read 12 = .ok (.astore 4, 2) := by decide +kernel
theorem dL_read_14 : decode cL_read 14 = .ok (.iconst 1, 1) := by decide +kernel
theorem dL_read_15 : decode cL_read 15 = .ok (.ireturn, 1) := by decide +kernel
theorem dL_read_16 : decode cL_read 16 = .ok (.astore 4, 2) := by decide +kernel
theorem dL_read_18 : decode cL_read 18 = .ok (.iconst 2, 1) := by decide +kernel
theorem dL_read_19 : decode cL_read 19 = .ok (.ireturn, 1) := by decide +kernel
theorem dL_read_20 : decode cL_read 20 = .ok (.iconst 0, 1) := by decide +kernel
theorem dL_read_21 : decode cL_read 21 = .ok (.ireturn, 1) := by decide +kernel
theorem dL_write_0 : decode cL_write 0 = .ok (.aload_n 0, 1) := by decide +kernel
theorem dL_write_1 : decode cL_write 1 = .ok (.iload_n 1, 1) := by decide +kernel
theorem dL_write_2 : decode cL_write 2 = .ok (.iload_n 2, 1) := by decide +kernel
theorem dL_write_3 : decode cL_write 3 = .ok (.lload_n 3, 1) := by decide +kernel
theorem dL_write_4 : decode cL_write 4 = .ok (.invokevirtual 17, 3) := by decide +kernel
theorem dL_write_7 : decode cL_write 7 = .ok (.goto 11, 3) := by decide +kernel
theorem dL_write_10 : decode cL_write 10 = .ok (.astore 5, 2) := by decide +kernel
theorem dL_write_12 : decode cL_write 12 = .ok (.iconst 1, 1) := by decide +kernel
theorem dL_write_13 : decode cL_write 13 = .ok (.ireturn, 1) := by decide +kernel
theorem dL_write_14 : decode cL_write 14 = .ok (.astore 5, 2) := by decide +kernel
theorem dL_write_16 : decode cL_write 16 = .ok (.iconst 2, 1) := by decide +kernel
theorem dL_write_17 : decode cL_write 17 = .ok (.ireturn, 1) := by decide +kernel
theorem dL_write_18 : decode cL_write 18 = .ok (.iconst 0, 1) := by decide +kernel
theorem dL_write_19 : decode cL_write 19 = .ok (.ireturn, 1) := by decide +kernel
theorem dL_fail_0 : decode cL_fail 0 = .ok (.aload_n 0, 1) := by decide +kernel
theorem dL_fail_1 : decode cL_fail 1 = .ok (.iload_n 1, 1) := by decide +kernel
theorem dL_fail_2 : decode cL_fail 2 = .ok (.invokevirtual 21, 3) := by decide +kernel
theorem dL_fail_5 : decode cL_fail 5 = .ok (.goto 6, 3) := by decide +kernel
theorem dL_fail_8 : decode cL_fail 8 = .ok (.astore_n 2, 1) := by decide +kernel
theorem dL_fail_9 : decode cL_fail 9 = .ok (.iconst 1, 1) := by decide +kernel
theorem dL_fail_10 : decode cL_fail 10 = .ok (.ireturn, 1) := by decide +kernel
theorem dL_fail_11 : decode cL_fail 11 = .ok (.iconst 0, 1) := by decide +kernel
theorem dL_fail_12 : decode cL_fail 12 = .ok (.ireturn, 1) := by decide +kernel
theorem dL_replace_0 : decode cL_replace 0 = .ok (.aload_n 0, 1) := by decide +kernel
theorem dL_replace_1 : decode cL_replace 1 = .ok (.iload_n 1, 1) := by decide +kernel
theorem dL_replace_2 : decode cL_replace 2 = .ok (.invokevirtual 25, 3) := by decide +kernel
theorem dL_replace_5 : decode cL_replace 5 = .ok (.goto 9, 3) := by decide +kernel
theorem dL_replace_8 : decode cL_replace 8 = .ok (.astore_n 2, 1) := by decide +kernel
theorem dL_replace_9 : decode cL_replace 9 = .ok (.iconst 1, 1) := by decide +kernel
theorem dL_replace_10 : decode cL_replace 10 = .ok (.ireturn, 1) := by decide +kernel
theorem dL_replace_11 : decode cL_replace 11 = .ok (.astore_n 2, 1) := by decide +kernel
theorem dL_replace_12 : decode cL_replace 12 = .ok (.iconst 2, 1) := by decide +kernel
theorem dL_replace_13 : decode cL_replace 13 = .ok (.ireturn, 1) := by decide +kernel
theorem dL_replace_14 : decode cL_replace 14 = .ok (.iconst 0, 1) := by decide +kernel
theorem dL_replace_15 : decode cL_replace 15 = .ok (.ireturn, 1) := by decide +kernel
theorem dL_rebuild_0 : decode cL_rebuild 0 = .ok (.aload_n 3, 1) := by decide +kernel
theorem dL_rebuild_1 : decode cL_rebuild 1 = .ok (.iconst 0, 1) := by decide +kernel
theorem dL_rebuild_2 : decode cL_rebuild 2 = .ok (.aload_n 0, 1) := by decide +kernel
theorem dL_rebuild_3 : decode cL_rebuild 3 = .ok (.iload_n 1, 1) := by decide +kernel
theorem dL_rebuild_4 : decode cL_rebuild 4 = .ok (.iload_n 2, 1) := by decide +kernel
theorem dL_rebuild_5 : decode cL_rebuild 5 = .ok (.invokevirtual 30, 3) := by decide +kernel
theorem dL_rebuild_8 : decode cL_rebuild 8 = .ok (.i2l, 1) := by decide +kernel
theorem dL_rebuild_9 : decode cL_rebuild 9 = .ok (.lastore, 1) := by decide +kernel
theorem dL_rebuild_10 : decode cL_rebuild 10 = .ok (.goto 11, 3) := by decide +kernel
theorem dL_rebuild_13 : decode cL_rebuild 13 = .ok (.astore 4, 2) := by decide +kernel
theorem dL_rebuild_15 : decode cL_rebuild 15 = .ok (.iconst 1, 1) := by decide +kernel
theorem dL_rebuild_16 : decode cL_rebuild 16 = .ok (.ireturn, 1) := by decide +kernel
theorem dL_rebuild_17 : decode cL_rebuild 17 = .ok (.astore 4, 2) := by decide +kernel
theorem dL_rebuild_19 : decode cL_rebuild 19 = .ok (.iconst 2, 1) := by decide +kernel
theorem dL_rebuild_20 : decode cL_rebuild 20 = .ok (.ireturn, 1) := by decide +kernel
theorem dL_rebuild_21 : decode cL_rebuild 21 = .ok (.iconst 0, 1) := by decide +kernel
theorem dL_rebuild_22 : decode cL_rebuild 22 = .ok (.ireturn, 1) := by decide +kernel
theorem dL_flip_0 : decode cL_flip 0 = .ok (.aload_n 0, 1) := by decide +kernel
theorem dL_flip_1 : decode cL_flip 1 = .ok (.iload_n 1, 1) := by decide +kernel
theorem dL_flip_2 : decode cL_flip 2 = .ok (.iload_n 2, 1) := by decide +kernel
theorem dL_flip_3 : decode cL_flip 3 = .ok (.iload_n 3, 1) := by decide +kernel
theorem dL_flip_4 : decode cL_flip 4 = .ok (.lload 4, 2) := by decide +kernel
theorem dL_flip_6 : decode cL_flip 6 = .ok (.invokevirtual 34, 3) := by decide +kernel
theorem dL_flip_9 : decode cL_flip 9 = .ok (.goto 11, 3) := by decide +kernel
theorem dL_flip_12 : decode cL_flip 12 = .ok (.astore 6, 2) := by decide +kernel
theorem dL_flip_14 : decode cL_flip 14 = .ok (.iconst 1, 1) := by decide +kernel
theorem dL_flip_15 : decode cL_flip 15 = .ok (.ireturn, 1) := by decide +kernel
theorem dL_flip_16 : decode cL_flip 16 = .ok (.astore 6, 2) := by decide +kernel
theorem dL_flip_18 : decode cL_flip 18 = .ok (.iconst 2, 1) := by decide +kernel
theorem dL_flip_19 : decode cL_flip 19 = .ok (.ireturn, 1) := by decide +kernel
theorem dL_flip_20 : decode cL_flip 20 = .ok (.iconst 0, 1) := by decide +kernel
theorem dL_flip_21 : decode cL_flip 21 = .ok (.ireturn, 1) := by decide +kernel
theorem dL_block_0 : decode cL_block 0 = .ok (.aload 4, 2) := by decide +kernel
theorem dL_block_2 : decode cL_block 2 = .ok (.iconst 0, 1) := by decide +kernel
theorem dL_block_3 : decode cL_block 3 = .ok (.aload_n 0, 1) := by decide +kernel
theorem dL_block_4 : decode cL_block 4 = .ok (.iload_n 1, 1) := by decide +kernel
theorem dL_block_5 : decode cL_block 5 = .ok (.iload_n 2, 1) := by decide +kernel
theorem dL_block_6 : decode cL_block 6 = .ok (.iload_n 3, 1) := by decide +kernel
theorem dL_block_7 : decode cL_block 7 = .ok (.invokevirtual 38, 3) := by decide +kernel
theorem dL_block_10 : decode cL_block 10 = .ok (.lastore, 1) := by decide +kernel
theorem dL_block_11 : decode cL_block 11 = .ok (.goto 11, 3) := by decide +kernel
theorem dL_block_14 : decode cL_block 14 = .ok (.astore 5, 2) := by decide +kernel
theorem dL_block_16 : decode cL_block 16 = .ok (.iconst 1, 1) := by decide +kernel
theorem dL_block_17 : decode cL_block 17 = .ok (.ireturn, 1) := by decide +kernel
theorem dL_block_18 : decode cL_block 18 = .ok (.astore 5, 2) := by decide +kernel
theorem dL_block_20 : decode cL_block 20 = .ok (.iconst 2, 1) := by decide +kernel
theorem dL_block_21 : decode cL_block 21 = .ok (.ireturn, 1) := by decide +kernel
theorem dL_block_22 : decode cL_block 22 = .ok (.iconst 0, 1) := by decide +kernel
theorem dL_block_23 : decode cL_block 23 = .ok (.ireturn, 1) := by decide +kernel
theorem dL_state_0 : decode cL_state 0 = .ok (.aload_n 2, 1) := by decide +kernel
theorem dL_state_1 : decode cL_state 1 = .ok (.iconst 0, 1) := by decide +kernel
theorem dL_state_2 : decode cL_state 2 = .ok (.aload_n 0, 1) := by decide +kernel
theorem dL_state_3 : decode cL_state 3 = .ok (.iload_n 1, 1) := by decide +kernel
theorem dL_state_4 : decode cL_state 4 = .ok (.invokevirtual 42, 3) := by decide +kernel
theorem dL_state_7 : decode cL_state 7 = .ok (.i2l, 1) := by decide +kernel
theorem dL_state_8 : decode cL_state 8 = .ok (.lastore, 1) := by decide +kernel
theorem dL_state_9 : decode cL_state 9 = .ok (.goto 6, 3) := by decide +kernel
theorem dL_state_12 : decode cL_state 12 = .ok (.astore_n 3, 1) := by decide +kernel
theorem dL_state_13 : decode cL_state 13 = .ok (.iconst 1, 1) := by decide +kernel
theorem dL_state_14 : decode cL_state 14 = .ok (.ireturn, 1) := by decide +kernel
theorem dL_state_15 : decode cL_state 15 = .ok (.iconst 0, 1) := by decide +kernel
theorem dL_state_16 : decode cL_state 16 = .ok (.ireturn, 1) := by decide +kernel
/-- the classes whose objects the worlds hold -/
abbrev cls_ : List vw_C := [(R_X, T_X, 2), (R_M, T_M, 3)]
end
section
/-! the words: gW, the good words of the tables; a contract's list is its code's word ahead of gW (by gen_names.py) -/
def gW : List Cond := lw_tbl.filter goodWord
theorem gw_t (i : Nat) {w : Cond} (h : tables_1[i]? = some w) (hg : goodWord w = true) : w ∈ gW := List.mem_filter.mpr ⟨List.mem_append_right _ (List.mem_of_getElem? h), hg⟩
theorem gw_p (i : Nat) {w : Cond} (h : (k2_sels lw_privs)[i]? = some w) (hg : goodWord w = true) : w ∈ gW := List.mem_filter.mpr ⟨List.mem_append_left _ (List.mem_of_getElem? h), hg⟩
theorem gw_good {w : Cond} (h : w ∈ gW) : (w.onTables && w.keeps) = true ∨ ∃ ty, w = .arrayClass ty := good_of_word (List.mem_filter.mp h).2
/-- every list of words of ours is among every other -/
theorem gw_in {w0 w1 : Cond} (h1 : w1 ∈ gW) : GoodIn (w0 :: gW) (w1 :: gW) := fun w h => (List.mem_cons.mp h).elim (fun e => by rw [e]; exact ⟨List.mem_cons_of_mem _ h1, gw_good h1⟩) (fun h => ⟨List.mem_cons_of_mem _ h, gw_good h⟩)
theorem gw_in2 {w0 w2 : Cond} {L ws : List Cond} (hL : ∀ w ∈ L, w ∈ gW) (h : GoodIn (w0 :: gW) ws) : GoodIn (w0 :: gW) (L ++ ws) := fun w hw => (List.mem_append.mp hw).elim (fun h1 => ⟨List.mem_cons_of_mem _ (hL w h1), gw_good (hL w h1)⟩) (fun h1 => h w h1)
theorem w_0 : (Cond.initialized R_L) ∈ gW := gw_t 0 (by decide +kernel) (by decide +kernel)
theorem w_1 : (Cond.initialized R_X) ∈ gW := gw_t 1 (by decide +kernel) (by decide +kernel)
theorem w_2 : (Cond.initialized R_M) ∈ gW := gw_t 2 (by decide +kernel) (by decide +kernel)
theorem w_3 : (Cond.initialized "java/lang/Throwable") ∈ gW := gw_t 3 (by decide +kernel) (by decide +kernel)
theorem w_4 : (Cond.initialized "java/lang/Exception") ∈ gW := gw_t 4 (by decide +kernel) (by decide +kernel)
theorem w_5 : (Cond.initialized "java/lang/RuntimeException") ∈ gW := gw_t 5 (by decide +kernel) (by decide +kernel)
theorem w_6 : (Cond.initialized "java/lang/IllegalArgumentException") ∈ gW := gw_t 6 (by decide +kernel) (by decide +kernel)
theorem w_7 : (Cond.initialized "java/lang/UnsupportedOperationException") ∈ gW := gw_t 7 (by decide +kernel) (by decide +kernel)
theorem w_8 : (Cond.initialized "java/lang/IllegalStateException") ∈ gW := gw_t 8 (by decide +kernel) (by decide +kernel)
theorem w_9 : (Cond.initialized "java/lang/Math") ∈ gW := gw_t 9 (by decide +kernel) (by decide +kernel)
theorem w_10 : (Cond.classLink R_L 8 R_X) ∈ gW := gw_t 10 (by decide +kernel) (by decide +kernel)
theorem w_11 : (Cond.instantiable R_X 2) ∈ gW := gw_t 11 (by decide +kernel) (by decide +kernel)
theorem w_12 : (Cond.methodLink R_L 46 yX_init) ∈ gW := gw_t 12 (by decide +kernel) (by decide +kernel)
theorem w_13 : (Cond.instanceMethod yX_init) ∈ gW := gw_t 13 (by decide +kernel) (by decide +kernel)
theorem w_14 : (Cond.code yX_init cX_init 2 none) ∈ gW := gw_t 14 (by decide +kernel) (by decide +kernel)
theorem w_15 : (Cond.methodLink R_X 3 objectInit) ∈ gW := gw_t 15 (by decide +kernel) (by decide +kernel)
theorem w_16 : (Cond.instanceMethod objectInit) ∈ gW := gw_t 16 (by decide +kernel) (by decide +kernel)
theorem w_17 : (Cond.code objectInit object_method_1_code 1 none) ∈ gW := gw_t 17 (by decide +kernel) (by decide +kernel)
theorem w_18 : (Cond.fieldLink R_X 9 "ParityDisks" "cells" "[J") ∈ gW := gw_t 18 (by decide +kernel) (by decide +kernel)
theorem w_19 : (Cond.fieldLink R_X 13 "ParityDisks" "usedUpTo" "[I") ∈ gW := gw_t 19 (by decide +kernel) (by decide +kernel)
theorem w_20 : (Cond.laysFinal "ParityDisks" "ParityDisks" "cells" "[J") ∈ gW := gw_t 20 (by decide +kernel) (by decide +kernel)
theorem w_22 : (Cond.laysFinal "ParityDisks" "ParityDisks" "usedUpTo" "[I") ∈ gW := gw_t 22 (by decide +kernel) (by decide +kernel)
theorem w_25 : (Cond.arrayClass .long) ∈ gW := gw_t 25 (by decide +kernel) (by decide +kernel)
theorem w_26 : (Cond.arrayClass .int) ∈ gW := gw_t 26 (by decide +kernel) (by decide +kernel)
theorem w_27 : (Cond.methodLink R_L 84 yX_scrub) ∈ gW := gw_t 27 (by decide +kernel) (by decide +kernel)
theorem w_28 : (Cond.instanceMethod yX_scrub) ∈ gW := gw_t 28 (by decide +kernel) (by decide +kernel)
theorem w_29 : (Cond.selects R_X yX_scrub yX_scrub) ∈ gW := gw_t 29 (by decide +kernel) (by decide +kernel)
theorem w_30 : (Cond.code yX_scrub cX_scrub 3 (some .int)) ∈ gW := gw_t 30 (by decide +kernel) (by decide +kernel)
theorem w_31 : (Cond.methodLink R_X 87 yX_allCanBeUsed) ∈ gW := gw_t 31 (by decide +kernel) (by decide +kernel)
theorem w_33 : (Cond.instanceMethod yX_allCanBeUsed) ∈ gW := gw_t 33 (by decide +kernel) (by decide +kernel)
theorem w_34 : (Cond.code yX_allCanBeUsed cX_allCanBeUsed 3 (some .boolean)) ∈ gW := gw_t 34 (by decide +kernel) (by decide +kernel)
theorem w_35 : (Cond.methodLink R_X 48 yX_parityDiskOf) ∈ gW := gw_t 35 (by decide +kernel) (by decide +kernel)
theorem w_36 : (Cond.static yX_parityDiskOf) ∈ gW := gw_t 36 (by decide +kernel) (by decide +kernel)
theorem w_37 : (Cond.code yX_parityDiskOf cX_parityDiskOf 1 (some .int)) ∈ gW := gw_t 37 (by decide +kernel) (by decide +kernel)
theorem w_38 : (Cond.methodLink R_X 51 yX_canBeUsed) ∈ gW := gw_t 38 (by decide +kernel) (by decide +kernel)
theorem w_40 : (Cond.instanceMethod yX_canBeUsed) ∈ gW := gw_t 40 (by decide +kernel) (by decide +kernel)
theorem w_41 : (Cond.code yX_canBeUsed cX_canBeUsed 3 (some .boolean)) ∈ gW := gw_t 41 (by decide +kernel) (by decide +kernel)
theorem w_42 : (Cond.methodLink R_X 107 yX_othersCanBeUsed) ∈ gW := gw_t 42 (by decide +kernel) (by decide +kernel)
theorem w_44 : (Cond.instanceMethod yX_othersCanBeUsed) ∈ gW := gw_t 44 (by decide +kernel) (by decide +kernel)
theorem w_45 : (Cond.code yX_othersCanBeUsed cX_othersCanBeUsed 4 (some .boolean)) ∈ gW := gw_t 45 (by decide +kernel) (by decide +kernel)
theorem w_46 : (Cond.methodLink R_X 91 yX_mendParity) ∈ gW := gw_t 46 (by decide +kernel) (by decide +kernel)
theorem w_48 : (Cond.instanceMethod yX_mendParity) ∈ gW := gw_t 48 (by decide +kernel) (by decide +kernel)
theorem w_49 : (Cond.code yX_mendParity cX_mendParity 8 (some .boolean)) ∈ gW := gw_t 49 (by decide +kernel) (by decide +kernel)
theorem w_50 : (Cond.methodLink R_X 54 yX_cellOf) ∈ gW := gw_t 50 (by decide +kernel) (by decide +kernel)
theorem w_51 : (Cond.static yX_cellOf) ∈ gW := gw_t 51 (by decide +kernel) (by decide +kernel)
theorem w_52 : (Cond.code yX_cellOf cX_cellOf 3 (some .int)) ∈ gW := gw_t 52 (by decide +kernel) (by decide +kernel)
theorem w_53 : (Cond.methodLink R_X 110 yX_xorOfOthers) ∈ gW := gw_t 53 (by decide +kernel) (by decide +kernel)
theorem w_55 : (Cond.instanceMethod yX_xorOfOthers) ∈ gW := gw_t 55 (by decide +kernel) (by decide +kernel)
theorem w_56 : (Cond.code yX_xorOfOthers cX_xorOfOthers 7 (some .long)) ∈ gW := gw_t 56 (by decide +kernel) (by decide +kernel)
theorem w_57 : (Cond.methodLink R_L 92 yX_lost) ∈ gW := gw_t 57 (by decide +kernel) (by decide +kernel)
theorem w_58 : (Cond.instanceMethod yX_lost) ∈ gW := gw_t 58 (by decide +kernel) (by decide +kernel)
theorem w_59 : (Cond.selects R_X yX_lost yX_lost) ∈ gW := gw_t 59 (by decide +kernel) (by decide +kernel)
theorem w_60 : (Cond.code yX_lost cX_lost 3 (some .int)) ∈ gW := gw_t 60 (by decide +kernel) (by decide +kernel)
theorem w_61 : (Cond.methodLink R_X 28 yX_diskOf) ∈ gW := gw_t 61 (by decide +kernel) (by decide +kernel)
theorem w_62 : (Cond.static yX_diskOf) ∈ gW := gw_t 62 (by decide +kernel) (by decide +kernel)
theorem w_63 : (Cond.code yX_diskOf cX_diskOf 2 (some .int)) ∈ gW := gw_t 63 (by decide +kernel) (by decide +kernel)
theorem w_64 : (Cond.methodLink R_X 24 yX_stripeOf) ∈ gW := gw_t 64 (by decide +kernel) (by decide +kernel)
theorem w_65 : (Cond.static yX_stripeOf) ∈ gW := gw_t 65 (by decide +kernel) (by decide +kernel)
theorem w_66 : (Cond.code yX_stripeOf cX_stripeOf 1 (some .int)) ∈ gW := gw_t 66 (by decide +kernel) (by decide +kernel)
theorem w_67 : (Cond.methodLink R_X 31 yX_isLost) ∈ gW := gw_t 67 (by decide +kernel) (by decide +kernel)
theorem w_69 : (Cond.instanceMethod yX_isLost) ∈ gW := gw_t 69 (by decide +kernel) (by decide +kernel)
theorem w_70 : (Cond.code yX_isLost cX_isLost 3 (some .boolean)) ∈ gW := gw_t 70 (by decide +kernel) (by decide +kernel)
theorem w_71 : (Cond.methodLink R_L 50 yL_read) ∈ gW := gw_t 71 (by decide +kernel) (by decide +kernel)
theorem w_72 : (Cond.static yL_read) ∈ gW := gw_t 72 (by decide +kernel) (by decide +kernel)
theorem w_73 : (Cond.codeWith yL_read cL_read 5 (some .int) [(0, 9, 12, 13), (0, 9, 16, 15)]) ∈ gW := gw_t 73 (by decide +kernel) (by decide +kernel)
theorem w_74 : (Cond.classLink R_L 13 "java/lang/IllegalArgumentException") ∈ gW := gw_t 74 (by decide +kernel) (by decide +kernel)
theorem w_75 : (Cond.classLink R_L 15 "java/lang/UnsupportedOperationException") ∈ gW := gw_t 75 (by decide +kernel) (by decide +kernel)
theorem w_76 : (Cond.methodLink R_L 7 yX_read) ∈ gW := gw_t 76 (by decide +kernel) (by decide +kernel)
theorem w_77 : (Cond.instanceMethod yX_read) ∈ gW := gw_t 77 (by decide +kernel) (by decide +kernel)
theorem w_78 : (Cond.selects R_X yX_read yX_read) ∈ gW := gw_t 78 (by decide +kernel) (by decide +kernel)
theorem w_79 : (Cond.code yX_read cX_read 5 (some .long)) ∈ gW := gw_t 79 (by decide +kernel) (by decide +kernel)
theorem w_80 : (Cond.methodLink R_X 17 yX_checkPlace) ∈ gW := gw_t 80 (by decide +kernel) (by decide +kernel)
theorem w_81 : (Cond.static yX_checkPlace) ∈ gW := gw_t 81 (by decide +kernel) (by decide +kernel)
theorem w_82 : (Cond.code yX_checkPlace cX_checkPlace 1 none) ∈ gW := gw_t 82 (by decide +kernel) (by decide +kernel)
theorem w_83 : (Cond.classLink R_X 66 "java/lang/IllegalArgumentException") ∈ gW := gw_t 83 (by decide +kernel) (by decide +kernel)
theorem w_84 : (Cond.instantiable "java/lang/IllegalArgumentException" 6) ∈ gW := gw_t 84 (by decide +kernel) (by decide +kernel)
theorem w_92 : (Cond.selects "java/lang/IllegalArgumentException" ⟨"java/lang/Throwable", "fillInStackTrace", "(I)Ljava/lang/Throwable;"⟩ ⟨"java/lang/Throwable", "fillInStackTrace", "(I)Ljava/lang/Throwable;"⟩) ∈ gW := gw_t 92 (by decide +kernel) (by decide +kernel)
theorem w_93 : (Cond.selects "java/lang/IllegalArgumentException" ⟨"java/lang/Throwable", "fillInStackTrace", "()Ljava/lang/Throwable;"⟩ ⟨"java/lang/Throwable", "fillInStackTrace", "()Ljava/lang/Throwable;"⟩) ∈ gW := gw_t 93 (by decide +kernel) (by decide +kernel)
theorem w_94 : (Cond.lays "java/lang/IllegalArgumentException" "java/lang/Throwable" "cause" "Ljava/lang/Throwable;") ∈ gW := gw_t 94 (by decide +kernel) (by decide +kernel)
theorem w_95 : (Cond.lays "java/lang/Throwable" "java/lang/Throwable" "cause" "Ljava/lang/Throwable;") ∈ gW := gw_t 95 (by decide +kernel) (by decide +kernel)
theorem w_96 : (Cond.lays "java/lang/IllegalArgumentException" "java/lang/Throwable" "stackTrace" "[Ljava/lang/StackTraceElement;") ∈ gW := gw_t 96 (by decide +kernel) (by decide +kernel)
theorem w_97 : (Cond.lays "java/lang/Throwable" "java/lang/Throwable" "stackTrace" "[Ljava/lang/StackTraceElement;") ∈ gW := gw_t 97 (by decide +kernel) (by decide +kernel)
theorem w_98 : (Cond.lays "java/lang/IllegalArgumentException" "java/lang/Throwable" "suppressedExceptions" "Ljava/util/List;") ∈ gW := gw_t 98 (by decide +kernel) (by decide +kernel)
theorem w_99 : (Cond.lays "java/lang/Throwable" "java/lang/Throwable" "suppressedExceptions" "Ljava/util/List;") ∈ gW := gw_t 99 (by decide +kernel) (by decide +kernel)
theorem w_100 : (Cond.lays "java/lang/IllegalArgumentException" "java/lang/Throwable" "detailMessage" "Ljava/lang/String;") ∈ gW := gw_t 100 (by decide +kernel) (by decide +kernel)
theorem w_101 : (Cond.lays "java/lang/Throwable" "java/lang/Throwable" "detailMessage" "Ljava/lang/String;") ∈ gW := gw_t 101 (by decide +kernel) (by decide +kernel)
theorem w_102 : (Cond.lays "java/lang/IllegalArgumentException" "java/lang/Throwable" "backtrace" "Ljava/lang/Object;") ∈ gW := gw_t 102 (by decide +kernel) (by decide +kernel)
theorem w_103 : (Cond.lays "java/lang/Throwable" "java/lang/Throwable" "backtrace" "Ljava/lang/Object;") ∈ gW := gw_t 103 (by decide +kernel) (by decide +kernel)
theorem w_104 : (Cond.fieldLink "java/lang/Throwable" 198 "java/lang/Throwable" "backtrace" "Ljava/lang/Object;") ∈ gW := gw_t 104 (by decide +kernel) (by decide +kernel)
theorem w_106 : (Cond.instanceMethod ⟨"java/lang/Throwable", "<init>", "()V"⟩) ∈ gW := gw_t 106 (by decide +kernel) (by decide +kernel)
theorem w_107 : (Cond.code ⟨"java/lang/Throwable", "<init>", "()V"⟩ prog_10_method_1_code 1 none) ∈ gW := gw_t 107 (by decide +kernel) (by decide +kernel)
theorem w_108 : (Cond.methodLink "java/lang/Throwable" 1 objectInit) ∈ gW := gw_t 108 (by decide +kernel) (by decide +kernel)
theorem w_109 : (Cond.fieldLink "java/lang/Throwable" 13 "java/lang/Throwable" "UNASSIGNED_STACK" "[Ljava/lang/StackTraceElement;") ∈ gW := gw_t 109 (by decide +kernel) (by decide +kernel)
theorem w_111 : (Cond.fieldLink "java/lang/Throwable" 20 "java/lang/Throwable" "SUPPRESSED_SENTINEL" "Ljava/util/List;") ∈ gW := gw_t 111 (by decide +kernel) (by decide +kernel)
theorem w_113 : (Cond.methodLink "java/lang/Throwable" 27 ⟨"java/lang/Throwable", "fillInStackTrace", "()Ljava/lang/Throwable;"⟩) ∈ gW := gw_t 113 (by decide +kernel) (by decide +kernel)
theorem w_114 : (Cond.instanceMethod ⟨"java/lang/Throwable", "fillInStackTrace", "()Ljava/lang/Throwable;"⟩) ∈ gW := gw_t 114 (by decide +kernel) (by decide +kernel)
theorem w_116 : (Cond.selects "java/lang/IllegalStateException" ⟨"java/lang/Throwable", "fillInStackTrace", "()Ljava/lang/Throwable;"⟩ ⟨"java/lang/Throwable", "fillInStackTrace", "()Ljava/lang/Throwable;"⟩) ∈ gW := gw_t 116 (by decide +kernel) (by decide +kernel)
theorem w_117 : (Cond.selects "java/lang/UnsupportedOperationException" ⟨"java/lang/Throwable", "fillInStackTrace", "()Ljava/lang/Throwable;"⟩ ⟨"java/lang/Throwable", "fillInStackTrace", "()Ljava/lang/Throwable;"⟩) ∈ gW := gw_t 117 (by decide +kernel) (by decide +kernel)
theorem w_119 : (Cond.methodLink "java/lang/Throwable" 202 ⟨"java/lang/Throwable", "fillInStackTrace", "(I)Ljava/lang/Throwable;"⟩) ∈ gW := gw_t 119 (by decide +kernel) (by decide +kernel)
theorem w_121 : (Cond.instanceMethod ⟨"java/lang/Throwable", "fillInStackTrace", "(I)Ljava/lang/Throwable;"⟩) ∈ gW := gw_t 121 (by decide +kernel) (by decide +kernel)
theorem w_122 : (Cond.instantiable "java/lang/Throwable" 6) ∈ gW := gw_t 122 (by decide +kernel) (by decide +kernel)
theorem w_125 : (Cond.methodLink R_X 70 ⟨"java/lang/IllegalArgumentException", "<init>", "(Ljava/lang/String;)V"⟩) ∈ gW := gw_t 125 (by decide +kernel) (by decide +kernel)
theorem w_126 : (Cond.instanceMethod ⟨"java/lang/IllegalArgumentException", "<init>", "(Ljava/lang/String;)V"⟩) ∈ gW := gw_t 126 (by decide +kernel) (by decide +kernel)
theorem w_127 : (Cond.code ⟨"java/lang/IllegalArgumentException", "<init>", "(Ljava/lang/String;)V"⟩ prog_5_method_2_code 2 none) ∈ gW := gw_t 127 (by decide +kernel) (by decide +kernel)
theorem w_128 : (Cond.methodLink "java/lang/IllegalArgumentException" 7 ⟨"java/lang/RuntimeException", "<init>", "(Ljava/lang/String;)V"⟩) ∈ gW := gw_t 128 (by decide +kernel) (by decide +kernel)
theorem w_129 : (Cond.instanceMethod ⟨"java/lang/RuntimeException", "<init>", "(Ljava/lang/String;)V"⟩) ∈ gW := gw_t 129 (by decide +kernel) (by decide +kernel)
theorem w_130 : (Cond.code ⟨"java/lang/RuntimeException", "<init>", "(Ljava/lang/String;)V"⟩ prog_8_method_2_code 2 none) ∈ gW := gw_t 130 (by decide +kernel) (by decide +kernel)
theorem w_131 : (Cond.methodLink "java/lang/RuntimeException" 7 ⟨"java/lang/Exception", "<init>", "(Ljava/lang/String;)V"⟩) ∈ gW := gw_t 131 (by decide +kernel) (by decide +kernel)
theorem w_132 : (Cond.instanceMethod ⟨"java/lang/Exception", "<init>", "(Ljava/lang/String;)V"⟩) ∈ gW := gw_t 132 (by decide +kernel) (by decide +kernel)
theorem w_133 : (Cond.code ⟨"java/lang/Exception", "<init>", "(Ljava/lang/String;)V"⟩ prog_4_method_2_code 2 none) ∈ gW := gw_t 133 (by decide +kernel) (by decide +kernel)
theorem w_134 : (Cond.methodLink "java/lang/Exception" 7 ⟨"java/lang/Throwable", "<init>", "(Ljava/lang/String;)V"⟩) ∈ gW := gw_t 134 (by decide +kernel) (by decide +kernel)
theorem w_135 : (Cond.instanceMethod ⟨"java/lang/Throwable", "<init>", "(Ljava/lang/String;)V"⟩) ∈ gW := gw_t 135 (by decide +kernel) (by decide +kernel)
theorem w_136 : (Cond.code ⟨"java/lang/Throwable", "<init>", "(Ljava/lang/String;)V"⟩ prog_10_method_2_code 2 none) ∈ gW := gw_t 136 (by decide +kernel) (by decide +kernel)
theorem w_137 : (Cond.fieldLink "java/lang/Throwable" 198 "java/lang/Throwable" "backtrace" "Ljava/lang/Object;") ∈ gW := gw_t 137 (by decide +kernel) (by decide +kernel)
theorem w_138 : (Cond.fieldLink "java/lang/Throwable" 31 "java/lang/Throwable" "detailMessage" "Ljava/lang/String;") ∈ gW := gw_t 138 (by decide +kernel) (by decide +kernel)
theorem w_139 : (Cond.fieldLink "java/lang/Throwable" 7 "java/lang/Throwable" "cause" "Ljava/lang/Throwable;") ∈ gW := gw_t 139 (by decide +kernel) (by decide +kernel)
theorem w_140 : (Cond.fieldLink "java/lang/Throwable" 17 "java/lang/Throwable" "stackTrace" "[Ljava/lang/StackTraceElement;") ∈ gW := gw_t 140 (by decide +kernel) (by decide +kernel)
theorem w_141 : (Cond.fieldLink "java/lang/Throwable" 24 "java/lang/Throwable" "suppressedExceptions" "Ljava/util/List;") ∈ gW := gw_t 141 (by decide +kernel) (by decide +kernel)
theorem w_146 : (Cond.lays "java/lang/IllegalArgumentException" "java/lang/Throwable" "depth" "I") ∈ gW := gw_t 146 (by decide +kernel) (by decide +kernel)
theorem w_150 : (Cond.arrayClass .byte) ∈ gW := gw_t 150 (by decide +kernel) (by decide +kernel)
theorem w_151 : (Cond.methodLink R_X 21 yX_checkHalf) ∈ gW := gw_t 151 (by decide +kernel) (by decide +kernel)
theorem w_152 : (Cond.static yX_checkHalf) ∈ gW := gw_t 152 (by decide +kernel) (by decide +kernel)
theorem w_153 : (Cond.code yX_checkHalf cX_checkHalf 1 none) ∈ gW := gw_t 153 (by decide +kernel) (by decide +kernel)
theorem w_155 : (Cond.classLink R_X 35 "java/lang/UnsupportedOperationException") ∈ gW := gw_t 155 (by decide +kernel) (by decide +kernel)
theorem w_156 : (Cond.instantiable "java/lang/UnsupportedOperationException" 6) ∈ gW := gw_t 156 (by decide +kernel) (by decide +kernel)
theorem w_158 : (Cond.selects "java/lang/UnsupportedOperationException" ⟨"java/lang/Throwable", "fillInStackTrace", "(I)Ljava/lang/Throwable;"⟩ ⟨"java/lang/Throwable", "fillInStackTrace", "(I)Ljava/lang/Throwable;"⟩) ∈ gW := gw_t 158 (by decide +kernel) (by decide +kernel)
theorem w_159 : (Cond.lays "java/lang/UnsupportedOperationException" "java/lang/Throwable" "cause" "Ljava/lang/Throwable;") ∈ gW := gw_t 159 (by decide +kernel) (by decide +kernel)
theorem w_160 : (Cond.lays "java/lang/UnsupportedOperationException" "java/lang/Throwable" "stackTrace" "[Ljava/lang/StackTraceElement;") ∈ gW := gw_t 160 (by decide +kernel) (by decide +kernel)
theorem w_161 : (Cond.lays "java/lang/UnsupportedOperationException" "java/lang/Throwable" "suppressedExceptions" "Ljava/util/List;") ∈ gW := gw_t 161 (by decide +kernel) (by decide +kernel)
theorem w_162 : (Cond.lays "java/lang/UnsupportedOperationException" "java/lang/Throwable" "detailMessage" "Ljava/lang/String;") ∈ gW := gw_t 162 (by decide +kernel) (by decide +kernel)
theorem w_163 : (Cond.lays "java/lang/UnsupportedOperationException" "java/lang/Throwable" "backtrace" "Ljava/lang/Object;") ∈ gW := gw_t 163 (by decide +kernel) (by decide +kernel)
theorem w_165 : (Cond.methodLink R_X 39 ⟨"java/lang/UnsupportedOperationException", "<init>", "(Ljava/lang/String;)V"⟩) ∈ gW := gw_t 165 (by decide +kernel) (by decide +kernel)
theorem w_166 : (Cond.instanceMethod ⟨"java/lang/UnsupportedOperationException", "<init>", "(Ljava/lang/String;)V"⟩) ∈ gW := gw_t 166 (by decide +kernel) (by decide +kernel)
theorem w_167 : (Cond.code ⟨"java/lang/UnsupportedOperationException", "<init>", "(Ljava/lang/String;)V"⟩ prog_11_method_2_code 2 none) ∈ gW := gw_t 167 (by decide +kernel) (by decide +kernel)
theorem w_168 : (Cond.methodLink "java/lang/UnsupportedOperationException" 7 ⟨"java/lang/RuntimeException", "<init>", "(Ljava/lang/String;)V"⟩) ∈ gW := gw_t 168 (by decide +kernel) (by decide +kernel)
theorem w_169 : (Cond.lays "java/lang/UnsupportedOperationException" "java/lang/Throwable" "depth" "I") ∈ gW := gw_t 169 (by decide +kernel) (by decide +kernel)
theorem w_171 : (Cond.methodLink R_X 42 yX_whatItHas) ∈ gW := gw_t 171 (by decide +kernel) (by decide +kernel)
theorem w_173 : (Cond.instanceMethod yX_whatItHas) ∈ gW := gw_t 173 (by decide +kernel) (by decide +kernel)
theorem w_174 : (Cond.code yX_whatItHas cX_whatItHas 4 (some .long)) ∈ gW := gw_t 174 (by decide +kernel) (by decide +kernel)
theorem w_175 : (Cond.methodLink R_L 62 yL_write) ∈ gW := gw_t 175 (by decide +kernel) (by decide +kernel)
theorem w_176 : (Cond.static yL_write) ∈ gW := gw_t 176 (by decide +kernel) (by decide +kernel)
theorem w_177 : (Cond.codeWith yL_write cL_write 6 (some .int) [(0, 7, 10, 13), (0, 7, 14, 15)]) ∈ gW := gw_t 177 (by decide +kernel) (by decide +kernel)
theorem w_178 : (Cond.methodLink R_L 17 yX_write) ∈ gW := gw_t 178 (by decide +kernel) (by decide +kernel)
theorem w_179 : (Cond.instanceMethod yX_write) ∈ gW := gw_t 179 (by decide +kernel) (by decide +kernel)
theorem w_180 : (Cond.selects R_X yX_write yX_write) ∈ gW := gw_t 180 (by decide +kernel) (by decide +kernel)
theorem w_181 : (Cond.code yX_write cX_write 10 none) ∈ gW := gw_t 181 (by decide +kernel) (by decide +kernel)
theorem w_183 : (Cond.methodLink R_L 66 yL_fail) ∈ gW := gw_t 183 (by decide +kernel) (by decide +kernel)
theorem w_184 : (Cond.static yL_fail) ∈ gW := gw_t 184 (by decide +kernel) (by decide +kernel)
theorem w_185 : (Cond.codeWith yL_fail cL_fail 3 (some .int) [(0, 5, 8, 13)]) ∈ gW := gw_t 185 (by decide +kernel) (by decide +kernel)
theorem w_186 : (Cond.methodLink R_L 21 yX_fail) ∈ gW := gw_t 186 (by decide +kernel) (by decide +kernel)
theorem w_187 : (Cond.instanceMethod yX_fail) ∈ gW := gw_t 187 (by decide +kernel) (by decide +kernel)
theorem w_188 : (Cond.selects R_X yX_fail yX_fail) ∈ gW := gw_t 188 (by decide +kernel) (by decide +kernel)
theorem w_189 : (Cond.code yX_fail cX_fail 2 none) ∈ gW := gw_t 189 (by decide +kernel) (by decide +kernel)
theorem w_190 : (Cond.methodLink R_X 58 yX_checkDisk) ∈ gW := gw_t 190 (by decide +kernel) (by decide +kernel)
theorem w_191 : (Cond.static yX_checkDisk) ∈ gW := gw_t 191 (by decide +kernel) (by decide +kernel)
theorem w_192 : (Cond.code yX_checkDisk cX_checkDisk 1 none) ∈ gW := gw_t 192 (by decide +kernel) (by decide +kernel)
theorem w_194 : (Cond.methodLink R_L 70 yL_replace) ∈ gW := gw_t 194 (by decide +kernel) (by decide +kernel)
theorem w_195 : (Cond.static yL_replace) ∈ gW := gw_t 195 (by decide +kernel) (by decide +kernel)
theorem w_196 : (Cond.codeWith yL_replace cL_replace 3 (some .int) [(0, 5, 8, 13), (0, 5, 11, 28)]) ∈ gW := gw_t 196 (by decide +kernel) (by decide +kernel)
theorem w_197 : (Cond.classLink R_L 28 "java/lang/IllegalStateException") ∈ gW := gw_t 197 (by decide +kernel) (by decide +kernel)
theorem w_198 : (Cond.methodLink R_L 25 yX_replace) ∈ gW := gw_t 198 (by decide +kernel) (by decide +kernel)
theorem w_199 : (Cond.instanceMethod yX_replace) ∈ gW := gw_t 199 (by decide +kernel) (by decide +kernel)
theorem w_200 : (Cond.selects R_X yX_replace yX_replace) ∈ gW := gw_t 200 (by decide +kernel) (by decide +kernel)
theorem w_201 : (Cond.code yX_replace cX_replace 4 none) ∈ gW := gw_t 201 (by decide +kernel) (by decide +kernel)
theorem w_202 : (Cond.classLink R_X 61 "java/lang/IllegalStateException") ∈ gW := gw_t 202 (by decide +kernel) (by decide +kernel)
theorem w_203 : (Cond.instantiable "java/lang/IllegalStateException" 6) ∈ gW := gw_t 203 (by decide +kernel) (by decide +kernel)
theorem w_205 : (Cond.selects "java/lang/IllegalStateException" ⟨"java/lang/Throwable", "fillInStackTrace", "(I)Ljava/lang/Throwable;"⟩ ⟨"java/lang/Throwable", "fillInStackTrace", "(I)Ljava/lang/Throwable;"⟩) ∈ gW := gw_t 205 (by decide +kernel) (by decide +kernel)
theorem w_206 : (Cond.lays "java/lang/IllegalStateException" "java/lang/Throwable" "cause" "Ljava/lang/Throwable;") ∈ gW := gw_t 206 (by decide +kernel) (by decide +kernel)
theorem w_207 : (Cond.lays "java/lang/IllegalStateException" "java/lang/Throwable" "stackTrace" "[Ljava/lang/StackTraceElement;") ∈ gW := gw_t 207 (by decide +kernel) (by decide +kernel)
theorem w_208 : (Cond.lays "java/lang/IllegalStateException" "java/lang/Throwable" "suppressedExceptions" "Ljava/util/List;") ∈ gW := gw_t 208 (by decide +kernel) (by decide +kernel)
theorem w_209 : (Cond.lays "java/lang/IllegalStateException" "java/lang/Throwable" "detailMessage" "Ljava/lang/String;") ∈ gW := gw_t 209 (by decide +kernel) (by decide +kernel)
theorem w_210 : (Cond.lays "java/lang/IllegalStateException" "java/lang/Throwable" "backtrace" "Ljava/lang/Object;") ∈ gW := gw_t 210 (by decide +kernel) (by decide +kernel)
theorem w_212 : (Cond.methodLink R_X 65 ⟨"java/lang/IllegalStateException", "<init>", "(Ljava/lang/String;)V"⟩) ∈ gW := gw_t 212 (by decide +kernel) (by decide +kernel)
theorem w_213 : (Cond.instanceMethod ⟨"java/lang/IllegalStateException", "<init>", "(Ljava/lang/String;)V"⟩) ∈ gW := gw_t 213 (by decide +kernel) (by decide +kernel)
theorem w_214 : (Cond.code ⟨"java/lang/IllegalStateException", "<init>", "(Ljava/lang/String;)V"⟩ prog_6_method_2_code 2 none) ∈ gW := gw_t 214 (by decide +kernel) (by decide +kernel)
theorem w_215 : (Cond.methodLink "java/lang/IllegalStateException" 7 ⟨"java/lang/RuntimeException", "<init>", "(Ljava/lang/String;)V"⟩) ∈ gW := gw_t 215 (by decide +kernel) (by decide +kernel)
theorem w_216 : (Cond.lays "java/lang/IllegalStateException" "java/lang/Throwable" "depth" "I") ∈ gW := gw_t 216 (by decide +kernel) (by decide +kernel)
theorem w_218 : (Cond.methodLink R_L 73 yL_rebuild) ∈ gW := gw_t 218 (by decide +kernel) (by decide +kernel)
theorem w_219 : (Cond.static yL_rebuild) ∈ gW := gw_t 219 (by decide +kernel) (by decide +kernel)
theorem w_220 : (Cond.codeWith yL_rebuild cL_rebuild 5 (some .int) [(0, 10, 13, 13), (0, 10, 17, 28)]) ∈ gW := gw_t 220 (by decide +kernel) (by decide +kernel)
theorem w_221 : (Cond.methodLink R_L 30 yX_rebuild) ∈ gW := gw_t 221 (by decide +kernel) (by decide +kernel)
theorem w_222 : (Cond.instanceMethod yX_rebuild) ∈ gW := gw_t 222 (by decide +kernel) (by decide +kernel)
theorem w_223 : (Cond.selects R_X yX_rebuild yX_rebuild) ∈ gW := gw_t 223 (by decide +kernel) (by decide +kernel)
theorem w_224 : (Cond.code yX_rebuild cX_rebuild 6 (some .int)) ∈ gW := gw_t 224 (by decide +kernel) (by decide +kernel)
theorem w_227 : (Cond.methodLink R_X 73 Lib.Math.min.name) ∈ gW := gw_t 227 (by decide +kernel) (by decide +kernel)
theorem w_228 : (Cond.static Lib.Math.min.name) ∈ gW := gw_t 228 (by decide +kernel) (by decide +kernel)
theorem w_229 : (Cond.code Lib.Math.min.name prog_7_method_69_code 2 (some .int)) ∈ gW := gw_t 229 (by decide +kernel) (by decide +kernel)
theorem w_230 : (Cond.methodLink R_X 79 yX_rebuildBlock) ∈ gW := gw_t 230 (by decide +kernel) (by decide +kernel)
theorem w_232 : (Cond.instanceMethod yX_rebuildBlock) ∈ gW := gw_t 232 (by decide +kernel) (by decide +kernel)
theorem w_233 : (Cond.code yX_rebuildBlock cX_rebuildBlock 4 none) ∈ gW := gw_t 233 (by decide +kernel) (by decide +kernel)
theorem w_234 : (Cond.methodLink R_L 76 yL_flip) ∈ gW := gw_t 234 (by decide +kernel) (by decide +kernel)
theorem w_235 : (Cond.static yL_flip) ∈ gW := gw_t 235 (by decide +kernel) (by decide +kernel)
theorem w_236 : (Cond.codeWith yL_flip cL_flip 7 (some .int) [(0, 9, 12, 13), (0, 9, 16, 28)]) ∈ gW := gw_t 236 (by decide +kernel) (by decide +kernel)
theorem w_237 : (Cond.methodLink R_L 34 yX_flip) ∈ gW := gw_t 237 (by decide +kernel) (by decide +kernel)
theorem w_238 : (Cond.instanceMethod yX_flip) ∈ gW := gw_t 238 (by decide +kernel) (by decide +kernel)
theorem w_239 : (Cond.selects R_X yX_flip yX_flip) ∈ gW := gw_t 239 (by decide +kernel) (by decide +kernel)
theorem w_240 : (Cond.code yX_flip cX_flip 6 none) ∈ gW := gw_t 240 (by decide +kernel) (by decide +kernel)
theorem w_241 : (Cond.methodLink R_X 83 yX_checkStanding) ∈ gW := gw_t 241 (by decide +kernel) (by decide +kernel)
theorem w_243 : (Cond.instanceMethod yX_checkStanding) ∈ gW := gw_t 243 (by decide +kernel) (by decide +kernel)
theorem w_244 : (Cond.code yX_checkStanding cX_checkStanding 4 none) ∈ gW := gw_t 244 (by decide +kernel) (by decide +kernel)
theorem w_245 : (Cond.methodLink R_X 102 yX_checkBlock) ∈ gW := gw_t 245 (by decide +kernel) (by decide +kernel)
theorem w_246 : (Cond.static yX_checkBlock) ∈ gW := gw_t 246 (by decide +kernel) (by decide +kernel)
theorem w_247 : (Cond.code yX_checkBlock cX_checkBlock 1 none) ∈ gW := gw_t 247 (by decide +kernel) (by decide +kernel)
theorem w_250 : (Cond.methodLink R_L 80 yL_block) ∈ gW := gw_t 250 (by decide +kernel) (by decide +kernel)
theorem w_251 : (Cond.static yL_block) ∈ gW := gw_t 251 (by decide +kernel) (by decide +kernel)
theorem w_252 : (Cond.codeWith yL_block cL_block 6 (some .int) [(0, 11, 14, 13), (0, 11, 18, 28)]) ∈ gW := gw_t 252 (by decide +kernel) (by decide +kernel)
theorem w_253 : (Cond.methodLink R_L 38 yX_block) ∈ gW := gw_t 253 (by decide +kernel) (by decide +kernel)
theorem w_254 : (Cond.instanceMethod yX_block) ∈ gW := gw_t 254 (by decide +kernel) (by decide +kernel)
theorem w_255 : (Cond.selects R_X yX_block yX_block) ∈ gW := gw_t 255 (by decide +kernel) (by decide +kernel)
theorem w_256 : (Cond.code yX_block cX_block 4 (some .long)) ∈ gW := gw_t 256 (by decide +kernel) (by decide +kernel)
theorem w_257 : (Cond.methodLink R_L 88 yL_state) ∈ gW := gw_t 257 (by decide +kernel) (by decide +kernel)
theorem w_258 : (Cond.static yL_state) ∈ gW := gw_t 258 (by decide +kernel) (by decide +kernel)
theorem w_259 : (Cond.codeWith yL_state cL_state 4 (some .int) [(0, 9, 12, 13)]) ∈ gW := gw_t 259 (by decide +kernel) (by decide +kernel)
theorem w_260 : (Cond.methodLink R_L 42 yX_state) ∈ gW := gw_t 260 (by decide +kernel) (by decide +kernel)
theorem w_261 : (Cond.instanceMethod yX_state) ∈ gW := gw_t 261 (by decide +kernel) (by decide +kernel)
theorem w_262 : (Cond.selects R_X yX_state yX_state) ∈ gW := gw_t 262 (by decide +kernel) (by decide +kernel)
theorem w_263 : (Cond.code yX_state cX_state 3 (some .int)) ∈ gW := gw_t 263 (by decide +kernel) (by decide +kernel)
theorem w_264 : (Cond.classLink R_L 47 R_M) ∈ gW := gw_t 264 (by decide +kernel) (by decide +kernel)
theorem w_265 : (Cond.instantiable R_M 3) ∈ gW := gw_t 265 (by decide +kernel) (by decide +kernel)
theorem w_266 : (Cond.methodLink R_L 49 yM_init) ∈ gW := gw_t 266 (by decide +kernel) (by decide +kernel)
theorem w_267 : (Cond.instanceMethod yM_init) ∈ gW := gw_t 267 (by decide +kernel) (by decide +kernel)
theorem w_268 : (Cond.code yM_init cM_init 2 none) ∈ gW := gw_t 268 (by decide +kernel) (by decide +kernel)
theorem w_269 : (Cond.methodLink R_M 1 objectInit) ∈ gW := gw_t 269 (by decide +kernel) (by decide +kernel)
theorem w_270 : (Cond.fieldLink R_M 17 "ParityDisksModel" "err" "I") ∈ gW := gw_t 270 (by decide +kernel) (by decide +kernel)
theorem w_271 : (Cond.fieldLink R_M 7 "ParityDisksModel" "stands" "[J") ∈ gW := gw_t 271 (by decide +kernel) (by decide +kernel)
theorem w_272 : (Cond.fieldLink R_M 13 "ParityDisksModel" "up" "[I") ∈ gW := gw_t 272 (by decide +kernel) (by decide +kernel)
theorem w_273 : (Cond.lays "ParityDisksModel" "ParityDisksModel" "err" "I") ∈ gW := gw_t 273 (by decide +kernel) (by decide +kernel)
theorem w_275 : (Cond.laysFinal "ParityDisksModel" "ParityDisksModel" "stands" "[J") ∈ gW := gw_t 275 (by decide +kernel) (by decide +kernel)
theorem w_277 : (Cond.laysFinal "ParityDisksModel" "ParityDisksModel" "up" "[I") ∈ gW := gw_t 277 (by decide +kernel) (by decide +kernel)
theorem w_280 : (Cond.methodLink R_L 56 yM_thrown) ∈ gW := gw_t 280 (by decide +kernel) (by decide +kernel)
theorem w_281 : (Cond.instanceMethod yM_thrown) ∈ gW := gw_t 281 (by decide +kernel) (by decide +kernel)
theorem w_282 : (Cond.selects R_M yM_thrown yM_thrown) ∈ gW := gw_t 282 (by decide +kernel) (by decide +kernel)
theorem w_283 : (Cond.code yM_thrown cM_thrown 1 (some .int)) ∈ gW := gw_t 283 (by decide +kernel) (by decide +kernel)
theorem w_284 : (Cond.methodLink R_L 55 yM_read) ∈ gW := gw_t 284 (by decide +kernel) (by decide +kernel)
theorem w_285 : (Cond.instanceMethod yM_read) ∈ gW := gw_t 285 (by decide +kernel) (by decide +kernel)
theorem w_286 : (Cond.selects R_M yM_read yM_read) ∈ gW := gw_t 286 (by decide +kernel) (by decide +kernel)
theorem w_287 : (Cond.code yM_read cM_read 5 (some .long)) ∈ gW := gw_t 287 (by decide +kernel) (by decide +kernel)
theorem w_288 : (Cond.methodLink R_M 33 yM_noPlace) ∈ gW := gw_t 288 (by decide +kernel) (by decide +kernel)
theorem w_290 : (Cond.instanceMethod yM_noPlace) ∈ gW := gw_t 290 (by decide +kernel) (by decide +kernel)
theorem w_291 : (Cond.code yM_noPlace cM_noPlace 3 (some .boolean)) ∈ gW := gw_t 291 (by decide +kernel) (by decide +kernel)
theorem w_292 : (Cond.methodLink R_M 36 yM_fails) ∈ gW := gw_t 292 (by decide +kernel) (by decide +kernel)
theorem w_294 : (Cond.instanceMethod yM_fails) ∈ gW := gw_t 294 (by decide +kernel) (by decide +kernel)
theorem w_295 : (Cond.code yM_fails cM_fails 3 (some .boolean)) ∈ gW := gw_t 295 (by decide +kernel) (by decide +kernel)
theorem w_296 : (Cond.methodLink R_M 40 yM_disk) ∈ gW := gw_t 296 (by decide +kernel) (by decide +kernel)
theorem w_297 : (Cond.static yM_disk) ∈ gW := gw_t 297 (by decide +kernel) (by decide +kernel)
theorem w_298 : (Cond.code yM_disk cM_disk 3 (some .int)) ∈ gW := gw_t 298 (by decide +kernel) (by decide +kernel)
theorem w_299 : (Cond.methodLink R_M 44 yM_gone) ∈ gW := gw_t 299 (by decide +kernel) (by decide +kernel)
theorem w_301 : (Cond.instanceMethod yM_gone) ∈ gW := gw_t 301 (by decide +kernel) (by decide +kernel)
theorem w_302 : (Cond.code yM_gone cM_gone 4 (some .boolean)) ∈ gW := gw_t 302 (by decide +kernel) (by decide +kernel)
theorem w_303 : (Cond.methodLink R_M 21 yM_usable) ∈ gW := gw_t 303 (by decide +kernel) (by decide +kernel)
theorem w_305 : (Cond.instanceMethod yM_usable) ∈ gW := gw_t 305 (by decide +kernel) (by decide +kernel)
theorem w_306 : (Cond.code yM_usable cM_usable 3 (some .boolean)) ∈ gW := gw_t 306 (by decide +kernel) (by decide +kernel)
theorem w_307 : (Cond.methodLink R_M 47 yM_has) ∈ gW := gw_t 307 (by decide +kernel) (by decide +kernel)
theorem w_309 : (Cond.instanceMethod yM_has) ∈ gW := gw_t 309 (by decide +kernel) (by decide +kernel)
theorem w_310 : (Cond.code yM_has cM_has 4 (some .long)) ∈ gW := gw_t 310 (by decide +kernel) (by decide +kernel)
theorem w_311 : (Cond.methodLink R_M 25 yM_at) ∈ gW := gw_t 311 (by decide +kernel) (by decide +kernel)
theorem w_312 : (Cond.static yM_at) ∈ gW := gw_t 312 (by decide +kernel) (by decide +kernel)
theorem w_313 : (Cond.code yM_at cM_at 3 (some .int)) ∈ gW := gw_t 313 (by decide +kernel) (by decide +kernel)
theorem w_314 : (Cond.methodLink R_M 29 yM_others) ∈ gW := gw_t 314 (by decide +kernel) (by decide +kernel)
theorem w_316 : (Cond.instanceMethod yM_others) ∈ gW := gw_t 316 (by decide +kernel) (by decide +kernel)
theorem w_317 : (Cond.code yM_others cM_others 7 (some .long)) ∈ gW := gw_t 317 (by decide +kernel) (by decide +kernel)
theorem w_318 : (Cond.methodLink R_L 65 yM_write) ∈ gW := gw_t 318 (by decide +kernel) (by decide +kernel)
theorem w_319 : (Cond.instanceMethod yM_write) ∈ gW := gw_t 319 (by decide +kernel) (by decide +kernel)
theorem w_320 : (Cond.selects R_M yM_write yM_write) ∈ gW := gw_t 320 (by decide +kernel) (by decide +kernel)
theorem w_321 : (Cond.code yM_write cM_write 10 none) ∈ gW := gw_t 321 (by decide +kernel) (by decide +kernel)
theorem w_322 : (Cond.methodLink R_L 69 yM_fail) ∈ gW := gw_t 322 (by decide +kernel) (by decide +kernel)
theorem w_323 : (Cond.instanceMethod yM_fail) ∈ gW := gw_t 323 (by decide +kernel) (by decide +kernel)
theorem w_324 : (Cond.selects R_M yM_fail yM_fail) ∈ gW := gw_t 324 (by decide +kernel) (by decide +kernel)
theorem w_325 : (Cond.code yM_fail cM_fail 2 none) ∈ gW := gw_t 325 (by decide +kernel) (by decide +kernel)
theorem w_326 : (Cond.methodLink R_M 50 yM_none) ∈ gW := gw_t 326 (by decide +kernel) (by decide +kernel)
theorem w_327 : (Cond.static yM_none) ∈ gW := gw_t 327 (by decide +kernel) (by decide +kernel)
theorem w_328 : (Cond.code yM_none cM_none 1 (some .boolean)) ∈ gW := gw_t 328 (by decide +kernel) (by decide +kernel)
theorem w_329 : (Cond.methodLink R_L 72 yM_replace) ∈ gW := gw_t 329 (by decide +kernel) (by decide +kernel)
theorem w_330 : (Cond.instanceMethod yM_replace) ∈ gW := gw_t 330 (by decide +kernel) (by decide +kernel)
theorem w_331 : (Cond.selects R_M yM_replace yM_replace) ∈ gW := gw_t 331 (by decide +kernel) (by decide +kernel)
theorem w_332 : (Cond.code yM_replace cM_replace 3 none) ∈ gW := gw_t 332 (by decide +kernel) (by decide +kernel)
theorem w_333 : (Cond.methodLink R_L 75 yM_rebuild) ∈ gW := gw_t 333 (by decide +kernel) (by decide +kernel)
theorem w_334 : (Cond.instanceMethod yM_rebuild) ∈ gW := gw_t 334 (by decide +kernel) (by decide +kernel)
theorem w_335 : (Cond.selects R_M yM_rebuild yM_rebuild) ∈ gW := gw_t 335 (by decide +kernel) (by decide +kernel)
theorem w_336 : (Cond.code yM_rebuild cM_rebuild 5 (some .int)) ∈ gW := gw_t 336 (by decide +kernel) (by decide +kernel)
theorem w_337 : (Cond.methodLink R_L 79 yM_flip) ∈ gW := gw_t 337 (by decide +kernel) (by decide +kernel)
theorem w_338 : (Cond.instanceMethod yM_flip) ∈ gW := gw_t 338 (by decide +kernel) (by decide +kernel)
theorem w_339 : (Cond.selects R_M yM_flip yM_flip) ∈ gW := gw_t 339 (by decide +kernel) (by decide +kernel)
theorem w_340 : (Cond.code yM_flip cM_flip 6 none) ∈ gW := gw_t 340 (by decide +kernel) (by decide +kernel)
theorem w_341 : (Cond.methodLink R_M 54 yM_noBlock) ∈ gW := gw_t 341 (by decide +kernel) (by decide +kernel)
theorem w_343 : (Cond.instanceMethod yM_noBlock) ∈ gW := gw_t 343 (by decide +kernel) (by decide +kernel)
theorem w_344 : (Cond.code yM_noBlock cM_noBlock 4 (some .boolean)) ∈ gW := gw_t 344 (by decide +kernel) (by decide +kernel)
theorem w_345 : (Cond.methodLink R_L 83 yM_block) ∈ gW := gw_t 345 (by decide +kernel) (by decide +kernel)
theorem w_346 : (Cond.instanceMethod yM_block) ∈ gW := gw_t 346 (by decide +kernel) (by decide +kernel)
theorem w_347 : (Cond.selects R_M yM_block yM_block) ∈ gW := gw_t 347 (by decide +kernel) (by decide +kernel)
theorem w_348 : (Cond.code yM_block cM_block 4 (some .long)) ∈ gW := gw_t 348 (by decide +kernel) (by decide +kernel)
theorem w_349 : (Cond.methodLink R_L 87 yM_scrub) ∈ gW := gw_t 349 (by decide +kernel) (by decide +kernel)
theorem w_350 : (Cond.instanceMethod yM_scrub) ∈ gW := gw_t 350 (by decide +kernel) (by decide +kernel)
theorem w_351 : (Cond.selects R_M yM_scrub yM_scrub) ∈ gW := gw_t 351 (by decide +kernel) (by decide +kernel)
theorem w_352 : (Cond.code yM_scrub cM_scrub 6 (some .int)) ∈ gW := gw_t 352 (by decide +kernel) (by decide +kernel)
theorem w_353 : (Cond.methodLink R_L 91 yM_state) ∈ gW := gw_t 353 (by decide +kernel) (by decide +kernel)
theorem w_354 : (Cond.instanceMethod yM_state) ∈ gW := gw_t 354 (by decide +kernel) (by decide +kernel)
theorem w_355 : (Cond.selects R_M yM_state yM_state) ∈ gW := gw_t 355 (by decide +kernel) (by decide +kernel)
theorem w_356 : (Cond.code yM_state cM_state 2 (some .int)) ∈ gW := gw_t 356 (by decide +kernel) (by decide +kernel)
theorem w_357 : (Cond.methodLink R_L 95 yM_lost) ∈ gW := gw_t 357 (by decide +kernel) (by decide +kernel)
theorem w_358 : (Cond.instanceMethod yM_lost) ∈ gW := gw_t 358 (by decide +kernel) (by decide +kernel)
theorem w_359 : (Cond.selects R_M yM_lost yM_lost) ∈ gW := gw_t 359 (by decide +kernel) (by decide +kernel)
theorem w_360 : (Cond.code yM_lost cM_lost 3 (some .int)) ∈ gW := gw_t 360 (by decide +kernel) (by decide +kernel)
theorem w_361 : (Cond.constantLong R_L 60 4294967295) ∈ gW := gw_t 361 (by decide +kernel) (by decide +kernel)
theorem v_0 : (Cond.selects R_X yX_allCanBeUsed yX_allCanBeUsed) ∈ gW := gw_p 0 (by decide +kernel) (by decide +kernel)
theorem v_1 : (Cond.selects R_X yX_canBeUsed yX_canBeUsed) ∈ gW := gw_p 1 (by decide +kernel) (by decide +kernel)
theorem v_2 : (Cond.selects R_X yX_othersCanBeUsed yX_othersCanBeUsed) ∈ gW := gw_p 2 (by decide +kernel) (by decide +kernel)
theorem v_3 : (Cond.selects R_X yX_mendParity yX_mendParity) ∈ gW := gw_p 3 (by decide +kernel) (by decide +kernel)
theorem v_4 : (Cond.selects R_X yX_xorOfOthers yX_xorOfOthers) ∈ gW := gw_p 4 (by decide +kernel) (by decide +kernel)
theorem v_5 : (Cond.selects R_X yX_isLost yX_isLost) ∈ gW := gw_p 5 (by decide +kernel) (by decide +kernel)
theorem v_7 : (Cond.selects R_X yX_whatItHas yX_whatItHas) ∈ gW := gw_p 7 (by decide +kernel) (by decide +kernel)
theorem v_8 : (Cond.selects R_X yX_rebuildBlock yX_rebuildBlock) ∈ gW := gw_p 8 (by decide +kernel) (by decide +kernel)
theorem v_9 : (Cond.selects R_X yX_checkStanding yX_checkStanding) ∈ gW := gw_p 9 (by decide +kernel) (by decide +kernel)
theorem v_10 : (Cond.selects R_M yM_noPlace yM_noPlace) ∈ gW := gw_p 10 (by decide +kernel) (by decide +kernel)
theorem v_11 : (Cond.selects R_M yM_fails yM_fails) ∈ gW := gw_p 11 (by decide +kernel) (by decide +kernel)
theorem v_12 : (Cond.selects R_M yM_gone yM_gone) ∈ gW := gw_p 12 (by decide +kernel) (by decide +kernel)
theorem v_13 : (Cond.selects R_M yM_usable yM_usable) ∈ gW := gw_p 13 (by decide +kernel) (by decide +kernel)
theorem v_14 : (Cond.selects R_M yM_has yM_has) ∈ gW := gw_p 14 (by decide +kernel) (by decide +kernel)
theorem v_15 : (Cond.selects R_M yM_others yM_others) ∈ gW := gw_p 15 (by decide +kernel) (by decide +kernel)
theorem v_16 : (Cond.selects R_M yM_noBlock yM_noBlock) ∈ gW := gw_p 16 (by decide +kernel) (by decide +kernel)
end
section
/-! wrappers: named numbers, array rows by Nat places, calls over the one list of words -/
/-- the cells of an object of the class: the object, its long[1000], its int[5] -/
abbrev wX (o a b : Nat) (cA iA : ClassId) (cf : Nat → Int64) (uf : Nat → Int32) : va_W := [(o, .inr (0, [.ref a, .ref b])), (a, .inl (cA, 1000, .inr (.inl cf))), (b, .inl (iA, 5, .inl uf))]
/-- the cells of an object of the reference -/
abbrev wM (o a b : Nat) (cA iA : ClassId) (er : Int32) (cf : Nat → Int64) (uf : Nat → Int32) : va_W := [(o, .inr (1, [.int er, .ref a, .ref b])), (a, .inl (cA, 1000, .inr (.inl cf))), (b, .inl (iA, 5, .inl uf))]
abbrev kT (cA iA : ClassId) : List (ClassId × FieldType) := [(cA, .long), (iA, .int)]
theorem uX_in : ∀ w ∈ u_ws R_X T_X 2, w ∈ gW := by
  intro w h
  have e : u_ws R_X T_X 2 = [Cond.laysFinal "ParityDisks" "ParityDisks" "cells" "[J", Cond.laysFinal "ParityDisks" "ParityDisks" "usedUpTo" "[I"] := by decide +kernel
  rw [e] at h
  rcases List.mem_cons.mp h with h | h
  · rw [h]; exact w_20
  · rw [List.mem_singleton.mp h]; exact w_22
theorem uM_in : ∀ w ∈ u_ws R_M T_M 3, w ∈ gW := by
  intro w h
  have e : u_ws R_M T_M 3 = [Cond.lays "ParityDisksModel" "ParityDisksModel" "err" "I", Cond.laysFinal "ParityDisksModel" "ParityDisksModel" "stands" "[J", Cond.laysFinal "ParityDisksModel" "ParityDisksModel" "up" "[I"] := by decide +kernel
  rw [e] at h
  rcases List.mem_cons.mp h with h | h
  · rw [h]; exact w_273
  · rcases List.mem_cons.mp h with h | h
    · rw [h]; exact w_275
    · rw [List.mem_singleton.mp h]; exact w_277
/-- a contract's start: the arguments, the world, the classes -/
def pW (D : va_G) (ws : va_W) (tys : List (ClassId × FieldType)) (av : List Value) : Array Value → State → Prop := va_Pc av (fun U => va_P D cls_ ws U.heap ∧ va_K D cls_ tys U)
theorem pW_blind {D : va_G} {ws : va_W} {tys : List (ClassId × FieldType)} {av : List Value} : FrameBlind (pW D ws tys av) := fun a U g mk q => ⟨q.1, q.2.1, va_K.moved (u := U) (U := U.calling g mk a) (Vm.Alike.refl U.vm) q.2.2⟩
/-- .. of a writer: and its cells are apart -/
def pWs (D : va_G) (ws : va_W) (tys : List (ClassId × FieldType)) (sz : Nat) (av : List Value) : Array Value → State → Prop := va_Pc av (fun U => U.heap.size = sz ∧ va_P D cls_ ws U.heap ∧ va_K D cls_ tys U ∧ va_D (fun _ => True) ws)
theorem pWs_blind {D : va_G} {ws : va_W} {tys : List (ClassId × FieldType)} {sz : Nat} {av : List Value} : FrameBlind (pWs D ws tys sz av) := fun a U g mk q => ⟨q.1, q.2.1, q.2.2.1, va_K.moved (u := U) (U := U.calling g mk a) (Vm.Alike.refl U.vm) q.2.2.2.1, q.2.2.2.2⟩
/-- a static one that looks at nothing -/
def pN (av : List Value) : Array Value → State → Prop := va_Pc av (fun _ => True)
theorem pN_blind {av : List Value} : FrameBlind (pN av) := fun _ _ _ _ q => q
abbrev QI (r0 : Int32) (D : va_G) (ws' : va_W) (A : Nat → Prop) := va_Qi (fun (r : Int32) (_ : Unit) => r = r0) (fun _ t => va_P D cls_ ws' t.heap) A
abbrev QL (r0 : Int64) (D : va_G) (ws' : va_W) (A : Nat → Prop) := va_Ql (fun (r : Int64) (_ : Unit) => r = r0) (fun _ t => va_P D cls_ ws' t.heap) A
abbrev QV (D : va_G) (ws' : va_W) (A : Nat → Prop) := va_Qv (fun (_ : Unit) => True) (fun _ t => va_P D cls_ ws' t.heap) A
theorem adr_of {ws ws' : va_W} (h : ws'.map Prod.fst = ws.map Prod.fst) {k : Nat} {q : Nat × va_E} (hk : ws'[k]? = some q) : ∃ q0, ws[k]? = some q0 ∧ q0.1 = q.1 := by
  have h1 : (ws'.map Prod.fst)[k]? = some q.1 := by rw [List.getElem?_map, hk]; rfl
  rw [h, List.getElem?_map] at h1
  cases hw : ws[k]? with
  | none => rw [hw] at h1; cases h1
  | some q0 => rw [hw] at h1; exact ⟨q0, rfl, Option.some.inj h1⟩
theorem vD_adr {ws ws' : va_W} {A : Nat → Prop} (h : ws'.map Prod.fst = ws.map Prod.fst) (hD : va_D A ws) : va_D A ws' := by
  refine ⟨fun i j x y hi hj hxy => ?_, fun k q hk => ?_⟩
  · obtain ⟨x0, h1, h2⟩ := adr_of h hi
    obtain ⟨y0, h3, h4⟩ := adr_of h hj
    exact hD.1 i j x0 y0 h1 h3 (h2.trans (hxy.trans h4.symm))
  · obtain ⟨q0, h1, h2⟩ := adr_of h hk
    rw [← h2]; exact hD.2 k q0 h1
theorem vA_free {ws : va_W} {A : Nat → Prop} {H0 H : Heap} {locs : List Loc} (hD : va_D A ws) (hS : va_S A H0 H locs) (hA : ∀ q, H0.size ≤ q → A q) : ∀ q, va_A ws H.size q → A q := fun q h => h.elim (fun ⟨k, e, hk⟩ => hD.2 k (q, e) hk) (fun h => hA q (Nat.le_trans hS.1 h))
theorem incI (n : Nat) : nI n + Int32.ofInt 1 = nI (n + 1) := by
  have e : Int32.ofInt 1 = 1 := by decide
  rw [e]; exact nI_1 n
section
variable {p : Program} {l : Launch} {e : Env} {R : Room} {s : State} {m : MethodId} {args : Array Value} {below : List Frame} {meth : Method} {c : Code} {H : Heap} {locs : List Loc} {cells slots : Nat} {Q : State → Prop} {pc : Nat} {ls : Array Slot} {rest st0 : List Value} {cc : ByteArray} {D : va_G} {ws ws' : va_W} {tys : List (ClassId × FieldType)} {A : Nat → Prop} {H0 : Heap}
theorem tI {x y : Int32} (h : x = y) (k : W p l e R s m args below meth c H locs cells slots Q (F0 m pc ls (.int y :: rest))) : W p l e R s m args below meth c H locs cells slots Q (F0 m pc ls (.int x :: rest)) := by
  subst h; exact k
theorem tL {x y : Int64} (h : x = y) (k : W p l e R s m args below meth c H locs cells slots Q (F0 m pc ls (.long y :: rest))) : W p l e R s m args below meth c H locs cells slots Q (F0 m pc ls (.long x :: rest)) := by
  subst h; exact k
theorem aI (hx : p.tables.exec = Jvm.exec) (hb : c.code = cc) (hK : va_K D cls_ tys s) (hP : va_P D cls_ ws H) (q0 t0 : Nat) {a : Nat} {cA : ClassId} {n i : Nat} {f : Nat → Int32} (ha : ws[q0]? = some (a, .inl (cA, n, .inl f))) (ht : tys[t0]? = some (cA, .int)) (hi : i < n) (hn : n < 2 ^ 31) (hdg : decode cc pc = .ok (.iaload, 1))
    (kk : W p l e R s m args below meth c H locs cells slots Q (F0 m (pc + 1) ls (.int (f i) :: rest))) : W p l e R s m args below meth c H locs cells slots Q (F0 m pc ls (.int (nI i) :: .ref a :: rest)) :=
  va_iald hx hb hK hP q0 t0 ha ht (nI_in hi hn) hdg (by rw [nI_clamp (Nat.lt_trans hi hn)]; exact kk)
theorem aL (hx : p.tables.exec = Jvm.exec) (hb : c.code = cc) (hK : va_K D cls_ tys s) (hP : va_P D cls_ ws H) (q0 t0 : Nat) {a : Nat} {cA : ClassId} {n i : Nat} {f : Nat → Int64} (ha : ws[q0]? = some (a, .inl (cA, n, .inr (.inl f)))) (ht : tys[t0]? = some (cA, .long)) (hi : i < n) (hn : n < 2 ^ 31) (hdg : decode cc pc = .ok (.laload, 1))
    (kk : W p l e R s m args below meth c H locs cells slots Q (F0 m (pc + 1) ls (.long (f i) :: rest))) : W p l e R s m args below meth c H locs cells slots Q (F0 m pc ls (.int (nI i) :: .ref a :: rest)) :=
  va_lald hx hb hK hP q0 t0 ha ht (nI_in hi hn) hdg (by rw [nI_clamp (Nat.lt_trans hi hn)]; exact kk)
theorem sI (hx : p.tables.exec = Jvm.exec) (hb : c.code = cc) (hK : va_K D cls_ tys s) (hP : va_P D cls_ ws H) (hD : va_D A ws) (hS : va_S A H0 H locs) (q0 t0 : Nat) {a : Nat} {cA : ClassId} {n i : Nat} {f : Nat → Int32} (ha : ws[q0]? = some (a, .inl (cA, n, .inl f))) (ht : tys[t0]? = some (cA, .int)) {x : Int32} (hi : i < n) (hn : n < 2 ^ 31) (hdg : decode cc pc = .ok (.iastore, 1))
    (kk : ∀ (H1 : Heap) (locs1 : List Loc), va_P D cls_ (ws.set q0 (a, .inl (cA, n, .inl (upd f i x)))) H1 → va_D A (ws.set q0 (a, .inl (cA, n, .inl (upd f i x)))) → va_S A H0 H1 locs1 → W p l e R s m args below meth c H1 locs1 cells slots Q (F0 m (pc + 1) ls rest)) : W p l e R s m args below meth c H locs cells slots Q (F0 m pc ls (.int x :: .int (nI i) :: .ref a :: rest)) :=
  va_iast hx hb hK hP hD hS q0 t0 ha ht (nI_in hi hn) hdg (by rw [nI_clamp (Nat.lt_trans hi hn)]; exact kk)
theorem sL (hx : p.tables.exec = Jvm.exec) (hb : c.code = cc) (hK : va_K D cls_ tys s) (hP : va_P D cls_ ws H) (hD : va_D A ws) (hS : va_S A H0 H locs) (q0 t0 : Nat) {a : Nat} {cA : ClassId} {n i : Nat} {f : Nat → Int64} (ha : ws[q0]? = some (a, .inl (cA, n, .inr (.inl f)))) (ht : tys[t0]? = some (cA, .long)) {x : Int64} (hi : i < n) (hn : n < 2 ^ 31) (hdg : decode cc pc = .ok (.lastore, 1))
    (kk : ∀ (H1 : Heap) (locs1 : List Loc), va_P D cls_ (ws.set q0 (a, .inl (cA, n, .inr (.inl (vp_updL f i x))))) H1 → va_D A (ws.set q0 (a, .inl (cA, n, .inr (.inl (vp_updL f i x))))) → va_S A H0 H1 locs1 → W p l e R s m args below meth c H1 locs1 cells slots Q (F0 m (pc + 1) ls rest)) : W p l e R s m args below meth c H locs cells slots Q (F0 m pc ls (.long x :: .int (nI i) :: .ref a :: rest)) :=
  va_last hx hb hK hP hD hS q0 t0 ha ht (nI_in hi hn) hdg (by rw [nI_clamp (Nat.lt_trans hi hn)]; exact kk)
variable {own C : String} {index maxL n nL : Nat} {y : MethodName} {bytes : ByteArray} {ret : Option FieldType} {rm : Room} {b : Nat} {As : List Value} {w0 : Cond}
abbrev hD_ (y : MethodName) (C : String) (n : Nat) : Prop := y.cls = C ∧ y.cls ≠ "java/lang/invoke/MethodHandle" ∧ y.cls ≠ "java/lang/invoke/VarHandle" ∧ (parseMethodDescriptor y.desc).map (fun d => d.parameters.length) = some n
theorem gV (h1 : Cond.methodLink own index y ∈ gW) (h2 : Cond.instanceMethod y ∈ gW) (h3 : Cond.selects C y y ∈ gW) (h4 : Cond.initialized C ∈ gW) (h5 : Cond.code y bytes maxL ret ∈ gW) : GoodIn (w0 :: gW) (wsV own index C y (Cond.code y bytes maxL ret :: gW)) := by
  unfold wsV
  refine gw_in2 (w2 := w0) (fun w hw => ?_) (gw_in h5)
  simp only [List.mem_cons, List.not_mem_nil, or_false] at hw
  rcases hw with h | h | h | h <;> rw [h] <;> assumption
theorem gS (h1 : Cond.methodLink own index y ∈ gW) (h2 : Cond.static y ∈ gW) (h4 : Cond.initialized own ∈ gW) (h5 : Cond.code y bytes maxL ret ∈ gW) : GoodIn (w0 :: gW) (wsS own index y (Cond.code y bytes maxL ret :: gW)) := by
  unfold wsS
  refine gw_in2 (w2 := w0) (fun w hw => ?_) (gw_in h5)
  simp only [List.mem_cons, List.not_mem_nil, or_false] at hw
  rcases hw with h | h | h <;> rw [h] <;> assumption
/-- a call that looks and changes nothing -/
theorem kV {r : Value} (S : CallFix p m c cc nL s args (w0 :: gW) own) (hM : Met l y (Cond.code y bytes maxL ret :: gW) rm (pW D ws tys (.ref b :: As)) (k2_QcV r) 0 0 (fun _ => False))
    (h1 : Cond.methodLink own index y ∈ gW) (h2 : Cond.instanceMethod y ∈ gW) (h3 : Cond.selects C y y ∈ gW) (h4 : Cond.initialized C ∈ gW) (h5 : Cond.code y bytes maxL ret ∈ gW)
    (hd : hD_ y C n) (hrm : rm.cells = 0 ∧ rm.slots = 0) (hR : rm.frames + 1 ≤ R.frames ∧ 8 + (maxL + 11) + rm.locals ≤ R.locals)
    (hP : va_P D cls_ ws H) (hK : va_K D cls_ tys s) (ci q0 : Nat) {T : u_T} {N : Nat} {fs : List Value} (hc : cls_[ci]? = some (C, T, N)) (he : ws[q0]? = some (b, .inr (ci, fs)))
    (hn : As.length = n) (hsz : ls.size = nL) (hst : st0 = As.reverse ++ .ref b :: rest) (hW : (rest.map fun v => v.category).sum ≤ 8) (hdg : decode cc pc = .ok (.invokevirtual index, 3)) (hcs : cells ≤ R.cells ∧ slots ≤ R.slots)
    (kk : W p l e R s m args below meth c H locs cells slots Q (F0 m (pc + 3) ls (r :: rest))) : W p l e R s m args below meth c H locs cells slots Q (F0 m pc ls st0) :=
  W.callV (g := F0 m pc ls st0) (rest := rest) (W.runV (g := F0 m pc ls st0) (rest := rest) S hM (cwV n S.2.2.2.2 (gV h1 h2 h3 h4 h5) rfl hrm.1 hrm.2 hd hR) ⟨pW_blind, va_recv hK hP hc he, fun U hU hW => ⟨rfl, by rw [hU]; exact hP, va_K.moved hW.alike hK⟩⟩ rfl hn hsz hst (lv_room hW) hdg hcs) kk
theorem kS {r : Value} (S : CallFix p m c cc nL s args (w0 :: gW) own) (hM : Met l y (Cond.code y bytes maxL ret :: gW) rm (pN As) (k2_QcV r) 0 0 (fun _ => False))
    (h1 : Cond.methodLink own index y ∈ gW) (h2 : Cond.static y ∈ gW) (h4 : Cond.initialized own ∈ gW) (h5 : Cond.code y bytes maxL ret ∈ gW)
    (hd : hD_ y own n) (hrm : rm.cells = 0 ∧ rm.slots = 0) (hR : rm.frames + 1 ≤ R.frames ∧ 8 + (maxL + 11) + rm.locals ≤ R.locals)
    (hn : As.length = n) (hsz : ls.size = nL) (hst : st0 = As.reverse ++ rest) (hW : (rest.map fun v => v.category).sum ≤ 8) (hdg : decode cc pc = .ok (.invokestatic index, 3)) (hcs : cells ≤ R.cells ∧ slots ≤ R.slots)
    (kk : W p l e R s m args below meth c H locs cells slots Q (F0 m (pc + 3) ls (r :: rest))) : W p l e R s m args below meth c H locs cells slots Q (F0 m pc ls st0) :=
  W.callV (g := F0 m pc ls st0) (rest := rest) (W.runS (g := F0 m pc ls st0) (rest := rest) S hM (cwS n S.2.2.2.2 (gS h1 h2 h4 h5) rfl hrm.1 hrm.2 hd hR) ⟨pN_blind, fun _ _ _ => ⟨rfl, trivial⟩⟩ rfl hn hsz hst (lv_room hW) hdg hcs) kk
def QN : Array Value → State → Outcome → State → Prop := fun _ st o t => o = .returned none ∧ t.heap = st.heap
theorem callN {g : JFrame} {a : Array Value} (hr : CallRun p l e R s m args below meth c H locs cells slots 0 0 g rest (QN a) (fun _ => False)) (kk : W p l e R s m args below meth c H locs cells slots Q { g with pc := g.pc + 3, stack := rest }) : W p l e R s m args below meth c H locs cells slots Q g := by
  intro T hT X
  obtain ⟨v, st₀, t, T', L, h0, X', hL, e1, ⟨hv, hh⟩, st⟩ := hr T hT X
  cases hv
  obtain ⟨t2, a1, b1⟩ := kk T' (by rw [e1, hh, h0]) (Stand.forget X' (fun q h => (hL q h).elim))
  exact ⟨t2, st t2 a1, b1⟩
theorem kVn (S : CallFix p m c cc nL s args (w0 :: gW) own) (hM : Met l y (Cond.code y bytes maxL ret :: gW) rm (pW D ws tys (.ref b :: As)) QN 0 0 (fun _ => False))
    (h1 : Cond.methodLink own index y ∈ gW) (h2 : Cond.instanceMethod y ∈ gW) (h3 : Cond.selects C y y ∈ gW) (h4 : Cond.initialized C ∈ gW) (h5 : Cond.code y bytes maxL ret ∈ gW)
    (hd : hD_ y C n) (hrm : rm.cells = 0 ∧ rm.slots = 0) (hR : rm.frames + 1 ≤ R.frames ∧ 8 + (maxL + 11) + rm.locals ≤ R.locals)
    (hP : va_P D cls_ ws H) (hK : va_K D cls_ tys s) (ci q0 : Nat) {T : u_T} {N : Nat} {fs : List Value} (hc : cls_[ci]? = some (C, T, N)) (he : ws[q0]? = some (b, .inr (ci, fs)))
    (hn : As.length = n) (hsz : ls.size = nL) (hst : st0 = As.reverse ++ .ref b :: rest) (hW : (rest.map fun v => v.category).sum ≤ 8) (hdg : decode cc pc = .ok (.invokevirtual index, 3)) (hcs : cells ≤ R.cells ∧ slots ≤ R.slots)
    (kk : W p l e R s m args below meth c H locs cells slots Q (F0 m (pc + 3) ls rest)) : W p l e R s m args below meth c H locs cells slots Q (F0 m pc ls st0) :=
  callN (g := F0 m pc ls st0) (rest := rest) (W.runV (g := F0 m pc ls st0) (rest := rest) S hM (cwV n S.2.2.2.2 (gV h1 h2 h3 h4 h5) rfl hrm.1 hrm.2 hd hR) ⟨pW_blind, va_recv hK hP hc he, fun U hU hW => ⟨rfl, by rw [hU]; exact hP, va_K.moved hW.alike hK⟩⟩ rfl hn hsz hst (lv_room hW) hdg hcs) kk
theorem kSn (S : CallFix p m c cc nL s args (w0 :: gW) own) (hM : Met l y (Cond.code y bytes maxL ret :: gW) rm (pN As) QN 0 0 (fun _ => False))
    (h1 : Cond.methodLink own index y ∈ gW) (h2 : Cond.static y ∈ gW) (h4 : Cond.initialized own ∈ gW) (h5 : Cond.code y bytes maxL ret ∈ gW)
    (hd : hD_ y own n) (hrm : rm.cells = 0 ∧ rm.slots = 0) (hR : rm.frames + 1 ≤ R.frames ∧ 8 + (maxL + 11) + rm.locals ≤ R.locals)
    (hn : As.length = n) (hsz : ls.size = nL) (hst : st0 = As.reverse ++ rest) (hW : (rest.map fun v => v.category).sum ≤ 8) (hdg : decode cc pc = .ok (.invokestatic index, 3)) (hcs : cells ≤ R.cells ∧ slots ≤ R.slots)
    (kk : W p l e R s m args below meth c H locs cells slots Q (F0 m (pc + 3) ls rest)) : W p l e R s m args below meth c H locs cells slots Q (F0 m pc ls st0) :=
  callN (g := F0 m pc ls st0) (rest := rest) (W.runS (g := F0 m pc ls st0) (rest := rest) S hM (cwS n S.2.2.2.2 (gS h1 h2 h4 h5) rfl hrm.1 hrm.2 hd hR) ⟨pN_blind, fun _ _ _ => ⟨rfl, trivial⟩⟩ rfl hn hsz hst (lv_room hW) hdg hcs) kk
/-- a call that writes, its world all of the caller's: an int comes back -/
theorem kVi {r0 : Int32} (S : CallFix p m c cc nL s args (w0 :: gW) own) (hM : Met l y (Cond.code y bytes maxL ret :: gW) rm (pWs D ws tys H.size (.ref b :: As)) (QI r0 D ws' (va_A ws H.size)) 0 0 (va_A ws H.size))
    (h1 : Cond.methodLink own index y ∈ gW) (h2 : Cond.instanceMethod y ∈ gW) (h3 : Cond.selects C y y ∈ gW) (h4 : Cond.initialized C ∈ gW) (h5 : Cond.code y bytes maxL ret ∈ gW)
    (hd : hD_ y C n) (hrm : rm.cells = 0 ∧ rm.slots = 0) (hR : rm.frames + 1 ≤ R.frames ∧ 8 + (maxL + 11) + rm.locals ≤ R.locals)
    (hP : va_P D cls_ ws H) (hK : va_K D cls_ tys s) (hDD : va_D A ws) (hS : va_S A H0 H locs) (hA : ∀ q, H0.size ≤ q → A q) (hadr : ws'.map Prod.fst = ws.map Prod.fst) (ci q0 : Nat) {T : u_T} {N : Nat} {fs : List Value} (hc : cls_[ci]? = some (C, T, N)) (he : ws[q0]? = some (b, .inr (ci, fs)))
    (hn : As.length = n) (hsz : ls.size = nL) (hst : st0 = As.reverse ++ .ref b :: rest) (hW : (rest.map fun v => v.category).sum ≤ 8) (hdg : decode cc pc = .ok (.invokevirtual index, 3)) (hcs : cells ≤ R.cells ∧ slots ≤ R.slots)
    (kk : ∀ (H1 : Heap) (locs1 : List Loc), va_P D cls_ ws' H1 → va_D A ws' → va_S A H0 H1 locs1 → W p l e R s m args below meth c H1 locs1 cells slots Q (F0 m (pc + 3) ls (.int r0 :: rest))) : W p l e R s m args below meth c H locs cells slots Q (F0 m pc ls st0) :=
  va_calli (va_runV (g := F0 m pc ls st0) (rest := rest) S hM (cwV n S.2.2.2.2 (gV h1 h2 h3 h4 h5) rfl hrm.1 hrm.2 hd hR) ⟨pWs_blind, va_recv hK hP hc he, fun U hU hW => ⟨rfl, by rw [hU], by rw [hU]; exact hP, va_K.moved hW.alike hK, hDD.weaken (fun _ _ _ _ => trivial)⟩⟩ rfl hn hsz hst (lv_room hW) hdg hcs) hS (fun q _ h => vA_free hDD hS hA q h) (vA_free hDD hS hA)
    (fun r _ t H1 locs1 ht _ hr hB _ _ hS1 => by have hr9 : r = r0 := hr; rw [hr9]; exact kk H1 locs1 (by rw [← ht]; exact hB) (vD_adr hadr hDD) hS1)
/-- .. nothing comes back -/
theorem kVv (S : CallFix p m c cc nL s args (w0 :: gW) own) (hM : Met l y (Cond.code y bytes maxL ret :: gW) rm (pWs D ws tys H.size (.ref b :: As)) (QV D ws' (va_A ws H.size)) 0 0 (va_A ws H.size))
    (h1 : Cond.methodLink own index y ∈ gW) (h2 : Cond.instanceMethod y ∈ gW) (h3 : Cond.selects C y y ∈ gW) (h4 : Cond.initialized C ∈ gW) (h5 : Cond.code y bytes maxL ret ∈ gW)
    (hd : hD_ y C n) (hrm : rm.cells = 0 ∧ rm.slots = 0) (hR : rm.frames + 1 ≤ R.frames ∧ 8 + (maxL + 11) + rm.locals ≤ R.locals)
    (hP : va_P D cls_ ws H) (hK : va_K D cls_ tys s) (hDD : va_D A ws) (hS : va_S A H0 H locs) (hA : ∀ q, H0.size ≤ q → A q) (hadr : ws'.map Prod.fst = ws.map Prod.fst) (ci q0 : Nat) {T : u_T} {N : Nat} {fs : List Value} (hc : cls_[ci]? = some (C, T, N)) (he : ws[q0]? = some (b, .inr (ci, fs)))
    (hn : As.length = n) (hsz : ls.size = nL) (hst : st0 = As.reverse ++ .ref b :: rest) (hW : (rest.map fun v => v.category).sum ≤ 8) (hdg : decode cc pc = .ok (.invokevirtual index, 3)) (hcs : cells ≤ R.cells ∧ slots ≤ R.slots)
    (kk : ∀ (H1 : Heap) (locs1 : List Loc), va_P D cls_ ws' H1 → va_D A ws' → va_S A H0 H1 locs1 → W p l e R s m args below meth c H1 locs1 cells slots Q (F0 m (pc + 3) ls rest)) : W p l e R s m args below meth c H locs cells slots Q (F0 m pc ls st0) :=
  va_callv (va_runV (g := F0 m pc ls st0) (rest := rest) S hM (cwV n S.2.2.2.2 (gV h1 h2 h3 h4 h5) rfl hrm.1 hrm.2 hd hR) ⟨pWs_blind, va_recv hK hP hc he, fun U hU hW => ⟨rfl, by rw [hU], by rw [hU]; exact hP, va_K.moved hW.alike hK, hDD.weaken (fun _ _ _ _ => trivial)⟩⟩ rfl hn hsz hst (lv_room hW) hdg hcs) hS (fun q _ h => vA_free hDD hS hA q h) (vA_free hDD hS hA)
    (fun _ t H1 locs1 ht _ _ hB _ _ hS1 => kk H1 locs1 (by rw [← ht]; exact hB) (vD_adr hadr hDD) hS1)
end
end
section
/-! the meaning: what both classes compute, over the cells (cf) and the marks (uf) -/
def bi (b : Bool) : Int32 := if b = true then nI 1 else nI 0
theorem bi_t : bi true = nI 1 := rfl
theorem bi_f : bi false = nI 0 := rfl
theorem bi_0 {b : Bool} (h : bi b = 0) : b = false := by
  cases b
  · rfl
  · exact absurd h (by decide +kernel)
theorem bi_1 {b : Bool} (h : ¬ bi b = 0) : b = true := by
  cases b
  · exact absurd (by decide +kernel : bi false = 0) h
  · rfl
theorem nar_0 : narrow .boolean (.int (nI 0)) = .int (nI 0) := by first | rfl | decide +kernel
theorem nar_1 : narrow .boolean (.int (nI 1)) = .int (nI 1) := by first | rfl | decide +kernel
theorem bi_narrow (b : Bool) : narrow .boolean (.int (bi b)) = .int (bi b) := by
  cases b
  · exact nar_0
  · exact nar_1
/-- the place of a half of a block -/
def ix (d s h : Nat) : Nat := (d * 100 + s) * 2 + h
theorem ix_lt {d s h : Nat} (hd : d < 5) (hs : s < 100) (hh : h < 2) : ix d s h < 1000 := by unfold ix; omega
/-- can be used -/
def cu (uf : Nat → Int32) (d s : Nat) : Bool := decide (nI s < uf d)
/-- .. all but d, from disk 5 - n on -/
def ocN (uf : Nat → Int32) (d s : Nat) : Nat → Bool
  | 0 => true
  | n + 1 => (decide (4 - n = d) || cu uf (4 - n) s) && ocN uf d s n
def oc (uf : Nat → Int32) (d s : Nat) : Bool := ocN uf d s 5
def il (uf : Nat → Int32) (d s : Nat) : Bool := !cu uf d s && !oc uf d s
/-- the xor of all but d, below disk k -/
def xoN (cf : Nat → Int64) (d s h : Nat) : Nat → Int64
  | 0 => 0
  | k + 1 => if k = d then xoN cf d s h k else xoN cf d s h k ^^^ cf (ix k s h)
def xo (cf : Nat → Int64) (d s h : Nat) : Int64 := xoN cf d s h 5
def wh (cf : Nat → Int64) (uf : Nat → Int32) (d s h : Nat) : Int64 := if cu uf d s = true then cf (ix d s h) else xo cf d s h
def dk (p : Nat) : Nat := if p % 4 < p / 4 % 5 then p % 4 else p % 4 + 1
theorem dk_lt (p : Nat) : dk p < 5 := by unfold dk; split <;> omega
theorem dk_ne (p : Nat) : dk p ≠ p / 4 % 5 := by unfold dk; split <;> omega
/-- a number in 0 .. n - 1 -/
def inR (x : Int32) (n : Nat) : Bool := decide (¬ x < 0 ∧ x < nI n)
theorem inR_nat {x : Int32} {n : Nat} (hn : n < 2 ^ 31) (h : inR x n = true) : ∃ k, k < n ∧ x = nI k := by
  obtain ⟨h1, h2⟩ := of_decide_eq_true h
  obtain ⟨j, hj, rfl⟩ := nI_of h1
  exact ⟨j, (nI_ltI hj hn).mp h2, rfl⟩
theorem inR_of {k n : Nat} (hn : n < 2 ^ 31) (h : k < n) : inR (nI k) n = true := decide_eq_true ⟨nI_pos (Nat.lt_trans h hn), nI_lt h hn⟩
theorem inR_f {x : Int32} {n : Nat} (h : inR x n = false) (h1 : ¬ x < 0) : ¬ x < nI n := fun h2 => of_decide_eq_false h ⟨h1, h2⟩
/-- cells of a block of a disk by the others, in both halves -/
def rbB (cf : Nat → Int64) (d s : Nat) : Nat → Int64 :=
  vp_updL (vp_updL cf (ix d s 0) (xo cf d s 0)) (ix d s 1) (xo (vp_updL cf (ix d s 0) (xo cf d s 0)) d s 1)
/-- the parity of a stripe was right -/
def good (cf : Nat → Int64) (s : Nat) : Bool := decide (cf (ix (s % 5) s 0) = xo cf (s % 5) s 0) && decide (cf (ix (s % 5) s 1) = xo cf (s % 5) s 1)
def allU (uf : Nat → Int32) (s : Nat) : Bool := cu uf (s % 5) s && oc uf (s % 5) s
/-- scrub: the stripes below k -/
def scF (cf : Nat → Int64) (uf : Nat → Int32) : Nat → (Nat → Int64) × Nat
  | 0 => (cf, 0)
  | k + 1 => if allU uf k = true then (rbB (scF cf uf k).1 (k % 5) k, if good (scF cf uf k).1 k = true then (scF cf uf k).2 else (scF cf uf k).2 + 1) else scF cf uf k
/-- lost: the places below k -/
def loF (uf : Nat → Int32) : Nat → Nat
  | 0 => 0
  | k + 1 => if il uf (dk k) (k / 4) = true then loF uf k + 1 else loF uf k
/-- rebuild: at most m stripes from st on -/
def rbF (uf : Nat → Int32) (d : Nat) : Nat → (Nat → Int64) → Nat → (Nat → Int64) × Nat
  | 0, cf, st => (cf, st)
  | m + 1, cf, st => if oc uf d st = true then rbF uf d m (rbB cf d st) (st + 1) else (cf, st)
/-- replace: the disk's cells below stripe k are 0 -/
def zr (cf : Nat → Int64) (d k : Nat) : Nat → Int64 := fun i => if d * 200 ≤ i ∧ i < d * 200 + 2 * k then 0 else cf i
theorem zr_0 (cf : Nat → Int64) (d : Nat) : zr cf d 0 = cf := by
  funext i
  unfold zr
  rw [if_neg (by omega)]
theorem zr_s (cf : Nat → Int64) (d k : Nat) : vp_updL (vp_updL (zr cf d k) (ix d k 0) 0) (ix d k 1) 0 = zr cf d (k + 1) := by
  funext i
  unfold vp_updL zr ix
  by_cases h1 : i = (d * 100 + k) * 2 + 1
  · rw [if_pos h1, if_pos (by omega)]
  · rw [if_neg h1]
    by_cases h0 : i = (d * 100 + k) * 2 + 0
    · rw [if_pos h0, if_pos (by omega)]
    · rw [if_neg h0]
      by_cases h : d * 200 ≤ i ∧ i < d * 200 + 2 * k
      · rw [if_pos h, if_pos (by omega)]
      · rw [if_neg h, if_neg (by omega)]
/-- the marks are in -1 .. 100 -/
def uOk (uf : Nat → Int32) : Prop := ∀ d, d < 5 → uf d = -1 ∨ ∃ k, k ≤ 100 ∧ uf d = nI k
theorem uOk_upd {uf : Nat → Int32} (h : uOk uf) (d : Nat) {x : Int32} (hx : x = -1 ∨ ∃ k, k ≤ 100 ∧ x = nI k) : uOk (upd uf d x) := by
  intro j hj
  unfold upd
  by_cases e : j = d
  · rw [if_pos e]; exact hx
  · rw [if_neg e]; exact h j hj
theorem nI_nm1 {k : Nat} (h : k < 2 ^ 31) : nI k ≠ -1 := fun e => nI_pos h (by rw [e]; decide)
theorem updL_self (f : Nat → Int64) (i : Nat) : vp_updL f i (f i) = f := by
  funext j
  unfold vp_updL
  by_cases h : j = i
  · rw [if_pos h, h]
  · rw [if_neg h]
theorem updL_ne {f : Nat → Int64} {i j : Nat} {x : Int64} (h : j ≠ i) : vp_updL f i x j = f j := if_neg h
theorem updL_eq {f : Nat → Int64} {i : Nat} {x : Int64} : vp_updL f i x i = x := if_pos rfl
/-- the others don't look at the other half -/
theorem xoN_other {cf : Nat → Int64} {d s h i : Nat} {x : Int64} (hi : ∀ k, k < 5 → ix k s h ≠ i) : ∀ k, k ≤ 5 → xoN (vp_updL cf i x) d s h k = xoN cf d s h k
  | 0, _ => rfl
  | k + 1, hk => by
    simp only [xoN]
    rw [xoN_other hi k (by omega), updL_ne (hi k (by omega))]
theorem xo_half {cf : Nat → Int64} {p d s : Nat} {x : Int64} (hs : s < 100) : xo (vp_updL cf (ix p s 0) x) d s 1 = xo cf d s 1 := xoN_other (fun k _ => by unfold ix; omega) 5 (Nat.le_refl _)
/-- a right parity stays -/
theorem rbB_good {cf : Nat → Int64} {s : Nat} (hs : s < 100) (h : good cf s = true) : rbB cf (s % 5) s = cf := by
  unfold good at h
  rw [Bool.and_eq_true] at h
  have h0 := of_decide_eq_true h.1
  have h1 := of_decide_eq_true h.2
  unfold rbB
  rw [xo_half hs, ← h0, updL_self, ← h1, updL_self]
theorem ocN_upd {uf : Nat → Int32} {d s : Nat} {x : Int32} (n : Nat) : ocN (upd uf d x) d s n = ocN uf d s n := by
  induction n with
  | zero => rfl
  | succ n ih =>
    simp only [ocN]
    rw [ih]
    by_cases e : 4 - n = d
    · rw [decide_eq_true e, Bool.true_or, Bool.true_or]
    · have e2 : cu (upd uf d x) (4 - n) s = cu uf (4 - n) s := by unfold cu upd; rw [if_neg e]
      rw [e2]
theorem oc_upd {uf : Nat → Int32} {d s : Nat} {x : Int32} : oc (upd uf d x) d s = oc uf d s := ocN_upd 5
theorem oc_of {uf : Nat → Int32} {d s : Nat} (h : oc uf d s = true) : ∀ k, k < 5 → k ≠ d → cu uf k s = true := by
  have key : ∀ n, n ≤ 5 → ocN uf d s n = true → ∀ k, 5 - n ≤ k → k < 5 → k ≠ d → cu uf k s = true := by
    intro n
    induction n with
    | zero => intro _ _ k h1 h2; omega
    | succ n ih =>
      intro hn hh k h1 h2 h3
      simp only [ocN, Bool.and_eq_true, Bool.or_eq_true] at hh
      by_cases e : k = 4 - n
      · rcases hh.1 with h4 | h4
        · exact absurd (e.trans (of_decide_eq_true h4)) h3
        · rw [e]; exact h4
      · exact ih (by omega) hh.2 k (by omega) h2 h3
  exact fun k hk hd => key 5 (Nat.le_refl _) h k (by omega) hk hd
theorem oc_not {uf : Nat → Int32} {d s : Nat} (h : oc uf d s = false) : ∃ k, k < 5 ∧ k ≠ d ∧ cu uf k s = false := by
  have key : ∀ n, n ≤ 5 → ocN uf d s n = false → ∃ k, k < 5 ∧ k ≠ d ∧ cu uf k s = false := by
    intro n
    induction n with
    | zero => intro _ hh; cases hh
    | succ n ih =>
      intro hn hh
      simp only [ocN, Bool.and_eq_false_iff, Bool.or_eq_false_iff] at hh
      rcases hh with h4 | h4
      · exact ⟨4 - n, by omega, of_decide_eq_false h4.1, h4.2⟩
      · exact ih (by omega) h4
  exact key 5 (Nat.le_refl _) h
theorem cu_t {uf : Nat → Int32} {d s : Nat} (h : ¬ uf d ≤ nI s) : cu uf d s = true := decide_eq_true (Int32.not_le.mp h)
theorem cu_f {uf : Nat → Int32} {d s : Nat} (h : uf d ≤ nI s) : cu uf d s = false := decide_eq_false (Int32.not_lt.mpr h)
theorem nt_f {b : Bool} (h : b = false) : ¬ b = true := fun e => Bool.noConfusion (h.symm.trans e)
theorem wh_t {cf : Nat → Int64} {uf : Nat → Int32} {d s h : Nat} (e : cu uf d s = true) : wh cf uf d s h = cf (ix d s h) := if_pos e
theorem wh_f {cf : Nat → Int64} {uf : Nat → Int32} {d s h : Nat} (e : cu uf d s = false) : wh cf uf d s h = xo cf d s h := if_neg (nt_f e)
theorem loF_t {uf : Nat → Int32} {k : Nat} (h : il uf (dk k) (k / 4) = true) : loF uf (k + 1) = loF uf k + 1 := if_pos h
theorem loF_f {uf : Nat → Int32} {k : Nat} (h : il uf (dk k) (k / 4) = false) : loF uf (k + 1) = loF uf k := if_neg (nt_f h)
theorem xoN_p {cf : Nat → Int64} {d s h k : Nat} (e : k = d) : xoN cf d s h (k + 1) = xoN cf d s h k := if_pos e
theorem xoN_n {cf : Nat → Int64} {d s h k : Nat} (e : ¬ k = d) : xoN cf d s h (k + 1) = xoN cf d s h k ^^^ cf (ix k s h) := if_neg e
theorem scF_n {cf : Nat → Int64} {uf : Nat → Int32} {k : Nat} (h : allU uf k = false) : scF cf uf (k + 1) = scF cf uf k := if_neg (nt_f h)
theorem scF_g {cf : Nat → Int64} {uf : Nat → Int32} {k : Nat} (h : allU uf k = true) (hk : k < 100) (g : good (scF cf uf k).1 k = true) : scF cf uf (k + 1) = ((scF cf uf k).1, (scF cf uf k).2) := by
  have e : scF cf uf (k + 1) = (rbB (scF cf uf k).1 (k % 5) k, if good (scF cf uf k).1 k = true then (scF cf uf k).2 else (scF cf uf k).2 + 1) := if_pos h
  rw [e, rbB_good hk g, if_pos g]
theorem scF_b {cf : Nat → Int64} {uf : Nat → Int32} {k : Nat} (h : allU uf k = true) (g : good (scF cf uf k).1 k = false) : scF cf uf (k + 1) = (rbB (scF cf uf k).1 (k % 5) k, (scF cf uf k).2 + 1) := by
  have e : scF cf uf (k + 1) = (rbB (scF cf uf k).1 (k % 5) k, if good (scF cf uf k).1 k = true then (scF cf uf k).2 else (scF cf uf k).2 + 1) := if_pos h
  rw [e, if_neg (nt_f g)]
theorem scF_r {cf : Nat → Int64} {uf : Nat → Int32} {k : Nat} (h : allU uf k = true) : (scF cf uf (k + 1)).1 = rbB (scF cf uf k).1 (k % 5) k := by
  have e : scF cf uf (k + 1) = (rbB (scF cf uf k).1 (k % 5) k, if good (scF cf uf k).1 k = true then (scF cf uf k).2 else (scF cf uf k).2 + 1) := if_pos h
  rw [e]
theorem rbF_t {uf : Nat → Int32} {d m st : Nat} {cf : Nat → Int64} (h : oc uf d st = true) : rbF uf d (m + 1) cf st = rbF uf d m (rbB cf d st) (st + 1) := if_pos h
theorem rbF_f {uf : Nat → Int32} {d m st : Nat} {cf : Nat → Int64} (h : oc uf d st = false) : rbF uf d (m + 1) cf st = (cf, st) := if_neg (nt_f h)
theorem good_i {cf : Nat → Int64} {s : Nat} (h0 : cf (ix (s % 5) s 0) = xo cf (s % 5) s 0) (h1 : cf (ix (s % 5) s 1) = xo cf (s % 5) s 1) : good cf s = true := by
  unfold good; rw [decide_eq_true h0, decide_eq_true h1]; rfl
theorem good_n0 {cf : Nat → Int64} {s : Nat} (h0 : ¬ cf (ix (s % 5) s 0) = xo cf (s % 5) s 0) : good cf s = false := by
  unfold good; rw [decide_eq_false h0]; rfl
theorem good_n1 {cf : Nat → Int64} {s : Nat} (h1 : ¬ cf (ix (s % 5) s 1) = xo cf (s % 5) s 1) : good cf s = false := by
  unfold good; rw [decide_eq_false h1, Bool.and_false]
theorem ix_01 (d s : Nat) : ix d s 1 ≠ ix d s 0 := by unfold ix; omega
theorem bi_z {b : Bool} (h : b = false) : bi b = 0 := by rw [h]; decide +kernel
theorem bi_nz {b : Bool} (h : b = true) : ¬ bi b = 0 := by rw [h]; decide +kernel
theorem scF_2n {cf : Nat → Int64} {uf : Nat → Int32} {k : Nat} (h : allU uf k = true) (g : good (scF cf uf k).1 k = true) : (scF cf uf (k + 1)).2 = (scF cf uf k).2 := by
  have e : scF cf uf (k + 1) = (rbB (scF cf uf k).1 (k % 5) k, if good (scF cf uf k).1 k = true then (scF cf uf k).2 else (scF cf uf k).2 + 1) := if_pos h
  rw [e, if_pos g]
theorem scF_2b {cf : Nat → Int64} {uf : Nat → Int32} {k : Nat} (h : allU uf k = true) (g : good (scF cf uf k).1 k = false) : (scF cf uf (k + 1)).2 = (scF cf uf k).2 + 1 := by rw [scF_b h g]
theorem nb_t {b : Bool} (h : (!b) = false) : b = true := by cases b <;> first | rfl | exact h.symm
theorem nb_f {b : Bool} (h : (!b) = true) : b = false := by cases b <;> first | rfl | exact Bool.noConfusion h
/-- what state answers for a mark -/
def sv (x : Int32) : Int32 := if x = nI 100 then nI 0 else if x = -1 then nI 1 else nI 2 + x
/-- the cells behind a write: first the parity, then the block -/
def wP (cf : Nat → Int64) (uf : Nat → Int32) (q h : Nat) (v : Int64) : Nat → Int64 :=
  if cu uf (q / 4 % 5) (q / 4) = true then vp_updL cf (ix (q / 4 % 5) (q / 4) h) (cf (ix (q / 4 % 5) (q / 4) h) ^^^ (wh cf uf (dk q) (q / 4) h ^^^ v)) else cf
def wN (cf : Nat → Int64) (uf : Nat → Int32) (q h : Nat) (v : Int64) : Nat → Int64 :=
  if cu uf (dk q) (q / 4) = true then vp_updL (wP cf uf q h v) (ix (dk q) (q / 4) h) v else wP cf uf q h v
theorem il_oc {uf : Nat → Int32} {d s : Nat} (h : cu uf d s = false) : il uf d s = !oc uf d s := by rw [il, h]; rfl
theorem min_n {a b : Nat} (ha : a < 2 ^ 31) (hb : b < 2 ^ 31) : (if nI b < nI a then nI b else nI a) = nI (min a b) := by
  by_cases h : b < a
  · rw [if_pos (nI_lt h ha), Nat.min_eq_right (Nat.le_of_lt h)]
  · rw [if_neg (nI_nlt (Nat.le_of_not_lt h) hb), Nat.min_eq_left (Nat.le_of_not_lt h)]
theorem b9t {b : Bool} (h : b = true) : bi b = nI 1 := by rw [h]; rfl
theorem b9f {b : Bool} (h : b = false) : bi b = nI 0 := by rw [h]; rfl
theorem inR_t {x : Int32} {n : Nat} (h1 : ¬ x < 0) (h2 : ¬ nI n ≤ x) : inR x n = true := decide_eq_true ⟨h1, Int32.not_le.mp h2⟩
theorem inR_t' {x : Int32} {n : Nat} (h1 : ¬ x < 0) (h2 : x < nI n) : inR x n = true := decide_eq_true ⟨h1, h2⟩
theorem inR_neg {x : Int32} {n : Nat} (h : x < 0) : inR x n = false := decide_eq_false (fun z => z.1 h)
theorem inR_ge {x : Int32} {n : Nat} (h : nI n ≤ x) : inR x n = false := decide_eq_false (fun z => Int32.not_lt.mpr h z.2)
theorem inR_nl {x : Int32} {n : Nat} (h : ¬ x < nI n) : inR x n = false := decide_eq_false (fun z => h z.2)
theorem le1_lt2 (y : Int32) : y ≤ nI 1 ↔ y < nI 2 := by
  rw [Int32.le_iff_toInt_le, Int32.lt_iff_toInt_lt, nI_toInt (by decide), nI_toInt (by decide)]
  omega
theorem inR_1 {y : Int32} (h1 : ¬ y < 0) (h : y ≤ nI 1) : inR y 2 = true := inR_t' h1 ((le1_lt2 y).mp h)
theorem inR_n1 {y : Int32} (h : ¬ y ≤ nI 1) : inR y 2 = false := inR_nl (fun z => h ((le1_lt2 y).mpr z))
def auN (uf : Nat → Int32) (t : Nat) : Nat → Bool
  | 0 => true
  | k + 1 => auN uf t k && cu uf k t
theorem auN_t {uf : Nat → Int32} {t k : Nat} (h : cu uf k t = true) : auN uf t (k + 1) = auN uf t k := by simp [auN, h]
theorem auN_f {uf : Nat → Int32} {t k : Nat} (h : cu uf k t = false) : auN uf t (k + 1) = false := by simp [auN, h]
theorem auN_of {uf : Nat → Int32} {t : Nat} : ∀ n, auN uf t n = true ↔ ∀ k, k < n → cu uf k t = true
  | 0 => ⟨fun _ k hk => absurd hk (Nat.not_lt_zero k), fun _ => rfl⟩
  | n + 1 => by
    rw [auN, Bool.and_eq_true, auN_of n]
    constructor
    · intro h k hk
      by_cases e : k = n
      · rw [e]; exact h.2
      · exact h.1 k (by omega)
    · intro h
      exact ⟨fun k hk => h k (by omega), h n (by omega)⟩
theorem auN_5 (uf : Nat → Int32) (t : Nat) : auN uf t 5 = allU uf t := by
  have h1 : auN uf t 5 = true ↔ allU uf t = true := by
    rw [auN_of, allU, Bool.and_eq_true]
    constructor
    · intro h
      refine ⟨h _ (by omega), ?_⟩
      cases ho : oc uf (t % 5) t with
      | true => rfl
      | false =>
        obtain ⟨k, h1, -, h3⟩ := oc_not ho
        rw [h k h1] at h3
        cases h3
    · intro h k hk
      by_cases e : k = t % 5
      · rw [e]; exact h.1
      · exact oc_of h.2 k hk e
  cases h2 : auN uf t 5 <;> cases h3 : allU uf t
  · rfl
  · exact absurd (h1.mpr h3) (by rw [h2]; decide)
  · exact absurd (h1.mp h2) (by rw [h3]; decide)
  · rfl
theorem scF_1g {cf : Nat → Int64} {uf : Nat → Int32} {k : Nat} (h : allU uf k = true) (hk : k < 100) (g : good (scF cf uf k).1 k = true) : (scF cf uf (k + 1)).1 = (scF cf uf k).1 := by rw [scF_g h hk g]
theorem upd_eq {uf : Nat → Int32} {d : Nat} {x : Int32} : upd uf d x d = x := if_pos rfl
theorem upd_self (uf : Nat → Int32) (d : Nat) : upd uf d (uf d) = uf := by
  funext j
  unfold upd
  by_cases h : j = d
  · rw [if_pos h, h]
  · rw [if_neg h]
theorem upd_upd {uf : Nat → Int32} {d : Nat} {x y : Int32} : upd (upd uf d x) d y = upd uf d y := by
  funext j
  unfold upd
  by_cases h : j = d
  · rw [if_pos h, if_pos h]
  · rw [if_neg h, if_neg h, if_neg h]
theorem cu_upd_self {uf : Nat → Int32} {d j : Nat} : cu (upd uf d (nI j)) d j = false := decide_eq_false (by rw [upd_eq]; exact Int32.lt_irrefl)
theorem cu_p {uf : Nat → Int32} {q : Nat} (h : il uf (dk q) (q / 4) = false) (hc : cu uf (dk q) (q / 4) = false) : cu uf (q / 4 % 5) (q / 4) = true := by
  rw [il_oc hc] at h
  exact oc_of (nb_t h) _ (by omega) (fun e => dk_ne q e.symm)
end
section
set_option maxHeartbeats 4000000 in
set_option maxRecDepth 100000 in
theorem mX_stripeOf (l : Launch) (q : Nat) (hq : q < 400) : Met l yX_stripeOf (.code yX_stripeOf cX_stripeOf 1 (some .int) :: gW) ({ frames := 0, cells := 0, slots := 0, locals := 0 }) (pN [.int (nI q)]) (k2_QcV (.int (nI (q / 4)))) 0 0 (fun _ => False) := by
  refine Met.ofW (cc := cX_stripeOf) (maxL := 1) (ret := (some .int)) (by decide) rfl ?_
  intro p e s m args below meth c s₁ B hml hv
  obtain ⟨rfl, -⟩ := hv
  have hx := B.exec
  have hb := B.bytes
  have hr := B.returns
  have hts := atoms_spec (ws := (.code yX_stripeOf cX_stripeOf 1 (some .int) :: gW)) B.pre
  have hg : ∀ w ∈ gW, w.before ([.int (nI q)]).toArray s = true := fun w h => hts w (List.mem_cons_of_mem _ h)
  have hown : s.vm.findClass R_X = some m.cls := findClass_of_methodNamed B.named
  have hlocks := B.notSynchronized
  have hl := lv_entry ([.int (nI q)]) (n := 1) (Nat.le_of_ble_eq_true rfl)
  rw [lg_entry_eq]
  generalize (lg_sl ([.int (nI q)]) ++ List.replicate (1 - (lg_sl ([.int (nI q)])).length) Slot.unset).toArray = ls at hl ⊢
  have hl : lv_has ls 1 [(0, .int (nI q))] := hl
  refine lv_iload_n hx hb dX_stripeOf_0 rfl (lv_at hl 0 rfl) ?_
  refine lv_iconst (v := nI 4) hx hb dX_stripeOf_1 (by decide +kernel) ?_
  refine lv_idiv hx hb dX_stripeOf_2 (by decide +kernel) ?_
  refine tI (pk_div (by omega) (by decide) (by decide)) ?_
  exact W.iret (v := nI (q / 4)) hx hb hr (fun t9 ht9 _ => ⟨by rfl, ht9⟩) (fun _ h9 => nomatch h9) dX_stripeOf_3
set_option maxHeartbeats 4000000 in
set_option maxRecDepth 100000 in
theorem mX_parityDiskOf (l : Launch) (t : Nat) (ht : t < 100) : Met l yX_parityDiskOf (.code yX_parityDiskOf cX_parityDiskOf 1 (some .int) :: gW) ({ frames := 0, cells := 0, slots := 0, locals := 0 }) (pN [.int (nI t)]) (k2_QcV (.int (nI (t % 5)))) 0 0 (fun _ => False) := by
  refine Met.ofW (cc := cX_parityDiskOf) (maxL := 1) (ret := (some .int)) (by decide) rfl ?_
  intro p e s m args below meth c s₁ B hml hv
  obtain ⟨rfl, -⟩ := hv
  have hx := B.exec
  have hb := B.bytes
  have hr := B.returns
  have hts := atoms_spec (ws := (.code yX_parityDiskOf cX_parityDiskOf 1 (some .int) :: gW)) B.pre
  have hg : ∀ w ∈ gW, w.before ([.int (nI t)]).toArray s = true := fun w h => hts w (List.mem_cons_of_mem _ h)
  have hown : s.vm.findClass R_X = some m.cls := findClass_of_methodNamed B.named
  have hlocks := B.notSynchronized
  have hl := lv_entry ([.int (nI t)]) (n := 1) (Nat.le_of_ble_eq_true rfl)
  rw [lg_entry_eq]
  generalize (lg_sl ([.int (nI t)]) ++ List.replicate (1 - (lg_sl ([.int (nI t)])).length) Slot.unset).toArray = ls at hl ⊢
  have hl : lv_has ls 1 [(0, .int (nI t))] := hl
  refine lv_iload_n hx hb dX_parityDiskOf_0 rfl (lv_at hl 0 rfl) ?_
  refine lv_iconst (v := nI 5) hx hb dX_parityDiskOf_1 (by decide +kernel) ?_
  refine lv_irem hx hb dX_parityDiskOf_2 (by decide +kernel) ?_
  refine tI (pk_rem (by omega) (by decide) (by decide)) ?_
  exact W.iret (v := nI (t % 5)) hx hb hr (fun t9 ht9 _ => ⟨by rfl, ht9⟩) (fun _ h9 => nomatch h9) dX_parityDiskOf_3
set_option maxHeartbeats 4000000 in
set_option maxRecDepth 100000 in
theorem mX_diskOf (l : Launch) (q : Nat) (hq : q < 400) : Met l yX_diskOf (.code yX_diskOf cX_diskOf 2 (some .int) :: gW) ({ frames := 1, cells := 0, slots := 0, locals := 20 }) (pN [.int (nI q)]) (k2_QcV (.int (nI (dk q)))) 0 0 (fun _ => False) := by
  refine Met.ofW (cc := cX_diskOf) (maxL := 2) (ret := (some .int)) (by decide) rfl ?_
  intro p e s m args below meth c s₁ B hml hv
  obtain ⟨rfl, -⟩ := hv
  have hx := B.exec
  have hb := B.bytes
  have hr := B.returns
  have hts := atoms_spec (ws := (.code yX_diskOf cX_diskOf 2 (some .int) :: gW)) B.pre
  have hg : ∀ w ∈ gW, w.before ([.int (nI q)]).toArray s = true := fun w h => hts w (List.mem_cons_of_mem _ h)
  have hown : s.vm.findClass R_X = some m.cls := findClass_of_methodNamed B.named
  have hlocks := B.notSynchronized
  have hl := lv_entry ([.int (nI q)]) (n := 2) (Nat.le_of_ble_eq_true rfl)
  rw [lg_entry_eq]
  generalize (lg_sl ([.int (nI q)]) ++ List.replicate (2 - (lg_sl ([.int (nI q)])).length) Slot.unset).toArray = ls at hl ⊢
  have hl : lv_has ls 2 [(0, .int (nI q))] := hl
  refine lv_iload_n hx hb dX_diskOf_0 rfl (lv_at hl 0 rfl) ?_
  refine lv_iconst (v := nI 4) hx hb dX_diskOf_1 (by decide +kernel) ?_
  refine lv_irem hx hb dX_diskOf_2 (by decide +kernel) ?_
  refine tI (pk_rem (by omega) (by decide) (by decide)) ?_
  refine lv_istore_n hx hb dX_diskOf_3 rfl hl (by decide) rfl (fun ls hl => ?_)
  have hl : lv_has ls 2 [(1, .int (nI (q % 4))), (0, .int (nI q))] := hl
  refine lv_iload_n hx hb dX_diskOf_4 rfl (lv_at hl 0 rfl) ?_
  refine lv_iload_n hx hb dX_diskOf_5 rfl (lv_at hl 1 rfl) ?_
  refine kS (n := 1) (As := [.int (nI q)]) (rest := [.int (nI (q % 4))]) ⟨hx, hb, hml, hown, hts⟩ (mX_stripeOf l q (by omega)) w_64 w_65 w_1 w_66 (by decide +kernel) ⟨rfl, rfl⟩ ⟨(Nat.le_of_ble_eq_true rfl), (Nat.le_of_ble_eq_true rfl)⟩ rfl hl.1 rfl (Nat.le_of_ble_eq_true rfl) dX_diskOf_6 ⟨Nat.zero_le _, Nat.zero_le _⟩ ?_
  refine kS (n := 1) (As := [.int (nI (q / 4))]) (rest := [.int (nI (q % 4))]) ⟨hx, hb, hml, hown, hts⟩ (mX_parityDiskOf l (q / 4) (by omega)) w_35 w_36 w_1 w_37 (by decide +kernel) ⟨rfl, rfl⟩ ⟨(Nat.le_of_ble_eq_true rfl), (Nat.le_of_ble_eq_true rfl)⟩ rfl hl.1 rfl (Nat.le_of_ble_eq_true rfl) dX_diskOf_9 ⟨Nat.zero_le _, Nat.zero_le _⟩ ?_
  refine lv_icmp_ge (tgt := 19) hx hb dX_diskOf_12 (by decide) (fun h12 => ?_) (fun h12 => ?_)
  · have e9 : ¬ q % 4 < q / 4 % 5 := fun z => nI_ge z (by omega) h12
    refine lv_iload_n hx hb dX_diskOf_19 rfl (lv_at hl 0 rfl) ?_
    refine lv_iconst (v := nI 1) hx hb dX_diskOf_20 (by decide +kernel) ?_
    refine lv_iadd hx hb dX_diskOf_21 ?_
    refine tI (nI_add _ _) ?_
    exact W.iret (v := nI ((q % 4) + 1)) hx hb hr (fun t9 ht9 _ => ⟨by rw [dk, if_neg e9], ht9⟩) (fun _ h9 => nomatch h9) dX_diskOf_22
  · have e9 : q % 4 < q / 4 % 5 := Nat.lt_of_not_le (fun z => h12 (nI_le z (by omega)))
    refine lv_iload_n hx hb dX_diskOf_15 rfl (lv_at hl 0 rfl) ?_
    refine lv_goto (tgt := 22) hx hb dX_diskOf_16 (by decide) ?_
    exact W.iret (v := nI (q % 4)) hx hb hr (fun t9 ht9 _ => ⟨by rw [dk, if_pos e9], ht9⟩) (fun _ h9 => nomatch h9) dX_diskOf_22
set_option maxHeartbeats 4000000 in
set_option maxRecDepth 100000 in
theorem mX_cellOf (l : Launch) (d t h : Nat) : Met l yX_cellOf (.code yX_cellOf cX_cellOf 3 (some .int) :: gW) ({ frames := 0, cells := 0, slots := 0, locals := 0 }) (pN [.int (nI d), .int (nI t), .int (nI h)]) (k2_QcV (.int (nI (ix d t h)))) 0 0 (fun _ => False) := by
  refine Met.ofW (cc := cX_cellOf) (maxL := 3) (ret := (some .int)) (by decide) rfl ?_
  intro p e s m args below meth c s₁ B hml hv
  obtain ⟨rfl, -⟩ := hv
  have hx := B.exec
  have hb := B.bytes
  have hr := B.returns
  have hts := atoms_spec (ws := (.code yX_cellOf cX_cellOf 3 (some .int) :: gW)) B.pre
  have hg : ∀ w ∈ gW, w.before ([.int (nI d), .int (nI t), .int (nI h)]).toArray s = true := fun w h => hts w (List.mem_cons_of_mem _ h)
  have hown : s.vm.findClass R_X = some m.cls := findClass_of_methodNamed B.named
  have hlocks := B.notSynchronized
  have hl := lv_entry ([.int (nI d), .int (nI t), .int (nI h)]) (n := 3) (Nat.le_of_ble_eq_true rfl)
  rw [lg_entry_eq]
  generalize (lg_sl ([.int (nI d), .int (nI t), .int (nI h)]) ++ List.replicate (3 - (lg_sl ([.int (nI d), .int (nI t), .int (nI h)])).length) Slot.unset).toArray = ls at hl ⊢
  have hl : lv_has ls 3 [(0, .int (nI d)), (1, .int (nI t)), (2, .int (nI h))] := hl
  refine lv_iload_n hx hb dX_cellOf_0 rfl (lv_at hl 0 rfl) ?_
  refine lv_bipush (v := nI 100) hx hb dX_cellOf_1 (by decide +kernel) ?_
  refine lv_imul hx hb dX_cellOf_3 ?_
  refine tI (pk_mul _ _) ?_
  refine lv_iload_n hx hb dX_cellOf_4 rfl (lv_at hl 1 rfl) ?_
  refine lv_iadd hx hb dX_cellOf_5 ?_
  refine tI (nI_add _ _) ?_
  refine lv_iconst (v := nI 2) hx hb dX_cellOf_6 (by decide +kernel) ?_
  refine lv_imul hx hb dX_cellOf_7 ?_
  refine tI (pk_mul _ _) ?_
  refine lv_iload_n hx hb dX_cellOf_8 rfl (lv_at hl 2 rfl) ?_
  refine lv_iadd hx hb dX_cellOf_9 ?_
  refine tI (nI_add _ _) ?_
  exact W.iret (v := nI ((((d * 100) + t) * 2) + h)) hx hb hr (fun t9 ht9 _ => ⟨by rfl, ht9⟩) (fun _ h9 => nomatch h9) dX_cellOf_10
set_option maxHeartbeats 4000000 in
set_option maxRecDepth 100000 in
theorem mX_canBeUsed (l : Launch) (D : va_G) (o a b : Nat) (cA iA : ClassId) (cf : Nat → Int64) (uf : Nat → Int32) (d t : Nat) (hd : d < 5) (ht : t < 100) : Met l yX_canBeUsed (.code yX_canBeUsed cX_canBeUsed 3 (some .boolean) :: gW) ({ frames := 0, cells := 0, slots := 0, locals := 0 }) (pW D (wX o a b cA iA cf uf) (kT cA iA) [.ref o, .int (nI d), .int (nI t)]) (k2_QcV (.int (bi (cu uf d t)))) 0 0 (fun _ => False) := by
  refine Met.ofW (cc := cX_canBeUsed) (maxL := 3) (ret := (some .boolean)) (by decide) rfl ?_
  intro p e s m args below meth c s₁ B hml hv
  obtain ⟨rfl, hP, hK⟩ := hv
  have hx := B.exec
  have hb := B.bytes
  have hr := B.returns
  have hts := atoms_spec (ws := (.code yX_canBeUsed cX_canBeUsed 3 (some .boolean) :: gW)) B.pre
  have hg : ∀ w ∈ gW, w.before ([.ref o, .int (nI d), .int (nI t)]).toArray s = true := fun w h => hts w (List.mem_cons_of_mem _ h)
  have hown : s.vm.findClass R_X = some m.cls := findClass_of_methodNamed B.named
  have hlocks := B.notSynchronized
  have hl := lv_entry ([.ref o, .int (nI d), .int (nI t)]) (n := 3) (Nat.le_of_ble_eq_true rfl)
  rw [lg_entry_eq]
  generalize (lg_sl ([.ref o, .int (nI d), .int (nI t)]) ++ List.replicate (3 - (lg_sl ([.ref o, .int (nI d), .int (nI t)])).length) Slot.unset).toArray = ls at hl ⊢
  have hl : lv_has ls 3 [(0, .ref o), (1, .int (nI d)), (2, .int (nI t))] := hl
  refine lv_iload_n hx hb dX_canBeUsed_0 rfl (lv_at hl 2 rfl) ?_
  refine lv_aload_n hx hb dX_canBeUsed_1 rfl (lv_at hl 0 rfl) ?_
  refine va_get (D := D) (ci := 0) (v := .ref b) (C := R_X) (T := T_X) (N := 2) hx hb hg uX_in hown hK hP 0 rfl rfl 1 (by decide) (hg _ w_19) (fun _ h9 => h9) rfl dX_canBeUsed_2 ?_
  refine lv_iload_n hx hb dX_canBeUsed_5 rfl (lv_at hl 1 rfl) ?_
  refine aI hx hb hK hP 2 1 rfl rfl (by omega) (by decide) dX_canBeUsed_6 ?_
  refine lv_icmp_ge (tgt := 14) hx hb dX_canBeUsed_7 (by decide) (fun h7 => ?_) (fun h7 => ?_)
  · refine lv_iconst (v := nI 0) hx hb dX_canBeUsed_14 (by decide +kernel) ?_
    exact W.zret (v := nI 0) (ty := .boolean) hx hb hr nar_0 (fun t9 ht9 _ => ⟨by rw [cu_f h7]; rfl, ht9⟩) (fun _ h9 => nomatch h9) dX_canBeUsed_15
  · refine lv_iconst (v := nI 1) hx hb dX_canBeUsed_10 (by decide +kernel) ?_
    refine lv_goto (tgt := 15) hx hb dX_canBeUsed_11 (by decide) ?_
    exact W.zret (v := nI 1) (ty := .boolean) hx hb hr nar_1 (fun t9 ht9 _ => ⟨by rw [cu_t h7]; rfl, ht9⟩) (fun _ h9 => nomatch h9) dX_canBeUsed_15
set_option maxHeartbeats 4000000 in
set_option maxRecDepth 100000 in
theorem mX_othersCanBeUsed (l : Launch) (D : va_G) (o a b : Nat) (cA iA : ClassId) (cf : Nat → Int64) (uf : Nat → Int32) (d t : Nat) (hd : d < 5) (ht : t < 100) : Met l yX_othersCanBeUsed (.code yX_othersCanBeUsed cX_othersCanBeUsed 4 (some .boolean) :: gW) ({ frames := 1, cells := 0, slots := 0, locals := 22 }) (pW D (wX o a b cA iA cf uf) (kT cA iA) [.ref o, .int (nI d), .int (nI t)]) (k2_QcV (.int (bi (oc uf d t)))) 0 0 (fun _ => False) := by
  refine Met.ofW (cc := cX_othersCanBeUsed) (maxL := 4) (ret := (some .boolean)) (by decide) rfl ?_
  intro p e s m args below meth c s₁ B hml hv
  obtain ⟨rfl, hP, hK⟩ := hv
  have hx := B.exec
  have hb := B.bytes
  have hr := B.returns
  have hts := atoms_spec (ws := (.code yX_othersCanBeUsed cX_othersCanBeUsed 4 (some .boolean) :: gW)) B.pre
  have hg : ∀ w ∈ gW, w.before ([.ref o, .int (nI d), .int (nI t)]).toArray s = true := fun w h => hts w (List.mem_cons_of_mem _ h)
  have hown : s.vm.findClass R_X = some m.cls := findClass_of_methodNamed B.named
  have hlocks := B.notSynchronized
  have hl := lv_entry ([.ref o, .int (nI d), .int (nI t)]) (n := 4) (Nat.le_of_ble_eq_true rfl)
  rw [lg_entry_eq]
  generalize (lg_sl ([.ref o, .int (nI d), .int (nI t)]) ++ List.replicate (4 - (lg_sl ([.ref o, .int (nI d), .int (nI t)])).length) Slot.unset).toArray = ls at hl ⊢
  have hl : lv_has ls 4 [(0, .ref o), (1, .int (nI d)), (2, .int (nI t))] := hl
  refine lv_iconst (v := nI 0) hx hb dX_othersCanBeUsed_0 (by decide +kernel) ?_
  refine lv_istore_n hx hb dX_othersCanBeUsed_1 rfl hl (by decide) rfl (fun ls hl => ?_)
  have hl : lv_has ls 4 [(3, .int (nI 0)), (0, .ref o), (1, .int (nI d)), (2, .int (nI t))] := hl
  have key : ∀ n j : Nat, j + n = 5 → oc uf d t = ocN uf d t n → ∀ ls : Array Slot, lv_has ls 4 [(3, .int (nI j)), (0, .ref o), (1, .int (nI d)), (2, .int (nI t))] → W p l e (headSpec (.code yX_othersCanBeUsed cX_othersCanBeUsed 4 (some .boolean) :: gW) ({ frames := 1, cells := 0, slots := 0, locals := 22 })).room s m ([.ref o, .int (nI d), .int (nI t)]).toArray below meth c s.heap [] 0 0 (MQ below (k2_QcV (.int (bi (oc uf d t)))) ([.ref o, .int (nI d), .int (nI t)]).toArray s 0 0 (fun _ => False)) (F0 m 2 ls []) := by
    intro n
    induction n with
    | zero =>
      intro j hj hi ls hl
      obtain rfl : j = 5 := by omega
      refine lv_iload_n hx hb dX_othersCanBeUsed_2 rfl (lv_at hl 0 rfl) ?_
      refine lv_iconst (v := nI 5) hx hb dX_othersCanBeUsed_3 (by decide +kernel) ?_
      refine lv_icmp_ge (tgt := 29) hx hb dX_othersCanBeUsed_4 (by decide) (fun h4 => ?_) (fun h4 => absurd (nI_le (Nat.le_refl 5) (by decide)) h4)
      refine lv_iconst (v := nI 1) hx hb dX_othersCanBeUsed_29 (by decide +kernel) ?_
      exact W.zret (v := nI 1) (ty := .boolean) hx hb hr nar_1 (fun t9 ht9 _ => ⟨by rw [hi]; rfl, ht9⟩) (fun _ h9 => nomatch h9) dX_othersCanBeUsed_30
    | succ n ih =>
      intro j hj hi ls hl
      have e4 : 4 - n = j := by omega
      refine lv_iload_n hx hb dX_othersCanBeUsed_2 rfl (lv_at hl 0 rfl) ?_
      refine lv_iconst (v := nI 5) hx hb dX_othersCanBeUsed_3 (by decide +kernel) ?_
      refine lv_icmp_ge (tgt := 29) hx hb dX_othersCanBeUsed_4 (by decide) (fun h4 => absurd h4 (nI_ge (by omega) (by decide))) (fun h4 => ?_)
      refine lv_iload_n hx hb dX_othersCanBeUsed_7 rfl (lv_at hl 0 rfl) ?_
      refine lv_iload_n hx hb dX_othersCanBeUsed_8 rfl (lv_at hl 2 rfl) ?_
      refine lv_icmp_eq (tgt := 23) hx hb dX_othersCanBeUsed_9 (by decide) (fun h9 => ?_) (fun h9 => ?_)
      · have e9 : j = d := (nI_eq (by omega) (by omega)).mp h9
        refine lv_iinc (k := 0) (v := nI (j + 1)) hx hb dX_othersCanBeUsed_23 hl rfl (incI _)  (by decide) rfl (fun ls hl => ?_)
        have hl : lv_has ls 4 [(3, .int (nI (j + 1))), (0, .ref o), (1, .int (nI d)), (2, .int (nI t))] := hl
        refine lv_goto (tgt := 2) hx hb dX_othersCanBeUsed_26 (by decide) ?_
        exact ih (j + 1) (by omega) (by rw [hi]; simp [ocN, e4, e9]) ls hl
      · have e9 : ¬ j = d := fun z => h9 (by rw [z])
        refine lv_aload_n hx hb dX_othersCanBeUsed_12 rfl (lv_at hl 1 rfl) ?_
        refine lv_iload_n hx hb dX_othersCanBeUsed_13 rfl (lv_at hl 0 rfl) ?_
        refine lv_iload_n hx hb dX_othersCanBeUsed_14 rfl (lv_at hl 3 rfl) ?_
        refine kV (n := 2) (As := [.int (nI j), .int (nI t)]) (rest := []) ⟨hx, hb, hml, hown, hts⟩ (mX_canBeUsed l D o a b cA iA cf uf j t (by omega) (by omega)) w_38 w_40 v_1 w_1 w_41 (by decide +kernel) ⟨rfl, rfl⟩ ⟨(Nat.le_of_ble_eq_true rfl), (Nat.le_of_ble_eq_true rfl)⟩ hP hK 0 0 rfl rfl rfl hl.1 rfl (Nat.le_of_ble_eq_true rfl) dX_othersCanBeUsed_15 ⟨Nat.zero_le _, Nat.zero_le _⟩ ?_
        refine lv_if_ne (tgt := 23) hx hb dX_othersCanBeUsed_18 (by decide) (fun h18 => ?_) (fun h18 => ?_)
        · refine lv_iinc (k := 0) (v := nI (j + 1)) hx hb dX_othersCanBeUsed_23 hl rfl (incI _)  (by decide) rfl (fun ls hl => ?_)
          have hl : lv_has ls 4 [(3, .int (nI (j + 1))), (0, .ref o), (1, .int (nI d)), (2, .int (nI t))] := hl
          refine lv_goto (tgt := 2) hx hb dX_othersCanBeUsed_26 (by decide) ?_
          exact ih (j + 1) (by omega) (by rw [hi]; simp [ocN, e4, bi_1 h18]) ls hl
        · refine lv_iconst (v := nI 0) hx hb dX_othersCanBeUsed_21 (by decide +kernel) ?_
          exact W.zret (v := nI 0) (ty := .boolean) hx hb hr nar_0 (fun t9 ht9 _ => ⟨by rw [show oc uf d t = false by rw [hi]; simp [ocN, e4, e9, bi_0 h18]]; rfl, ht9⟩) (fun _ h9 => nomatch h9) dX_othersCanBeUsed_22
  exact key 5 0 rfl rfl ls hl
set_option maxHeartbeats 4000000 in
set_option maxRecDepth 100000 in
theorem mX_allCanBeUsed (l : Launch) (D : va_G) (o a b : Nat) (cA iA : ClassId) (cf : Nat → Int64) (uf : Nat → Int32) (t : Nat) (ht : t < 100) : Met l yX_allCanBeUsed (.code yX_allCanBeUsed cX_allCanBeUsed 3 (some .boolean) :: gW) ({ frames := 2, cells := 0, slots := 0, locals := 45 }) (pW D (wX o a b cA iA cf uf) (kT cA iA) [.ref o, .int (nI t)]) (k2_QcV (.int (bi (allU uf t)))) 0 0 (fun _ => False) := by
  refine Met.ofW (cc := cX_allCanBeUsed) (maxL := 3) (ret := (some .boolean)) (by decide) rfl ?_
  intro p e s m args below meth c s₁ B hml hv
  obtain ⟨rfl, hP, hK⟩ := hv
  have hx := B.exec
  have hb := B.bytes
  have hr := B.returns
  have hts := atoms_spec (ws := (.code yX_allCanBeUsed cX_allCanBeUsed 3 (some .boolean) :: gW)) B.pre
  have hg : ∀ w ∈ gW, w.before ([.ref o, .int (nI t)]).toArray s = true := fun w h => hts w (List.mem_cons_of_mem _ h)
  have hown : s.vm.findClass R_X = some m.cls := findClass_of_methodNamed B.named
  have hlocks := B.notSynchronized
  have hl := lv_entry ([.ref o, .int (nI t)]) (n := 3) (Nat.le_of_ble_eq_true rfl)
  rw [lg_entry_eq]
  generalize (lg_sl ([.ref o, .int (nI t)]) ++ List.replicate (3 - (lg_sl ([.ref o, .int (nI t)])).length) Slot.unset).toArray = ls at hl ⊢
  have hl : lv_has ls 3 [(0, .ref o), (1, .int (nI t))] := hl
  refine lv_iload_n hx hb dX_allCanBeUsed_0 rfl (lv_at hl 1 rfl) ?_
  refine kS (n := 1) (As := [.int (nI t)]) (rest := []) ⟨hx, hb, hml, hown, hts⟩ (mX_parityDiskOf l t (by omega)) w_35 w_36 w_1 w_37 (by decide +kernel) ⟨rfl, rfl⟩ ⟨(Nat.le_of_ble_eq_true rfl), (Nat.le_of_ble_eq_true rfl)⟩ rfl hl.1 rfl (Nat.le_of_ble_eq_true rfl) dX_allCanBeUsed_1 ⟨Nat.zero_le _, Nat.zero_le _⟩ ?_
  refine lv_istore_n hx hb dX_allCanBeUsed_4 rfl hl (by decide) rfl (fun ls hl => ?_)
  have hl : lv_has ls 3 [(2, .int (nI (t % 5))), (0, .ref o), (1, .int (nI t))] := hl
  refine lv_aload_n hx hb dX_allCanBeUsed_5 rfl (lv_at hl 1 rfl) ?_
  refine lv_iload_n hx hb dX_allCanBeUsed_6 rfl (lv_at hl 0 rfl) ?_
  refine lv_iload_n hx hb dX_allCanBeUsed_7 rfl (lv_at hl 2 rfl) ?_
  refine kV (n := 2) (As := [.int (nI (t % 5)), .int (nI t)]) (rest := []) ⟨hx, hb, hml, hown, hts⟩ (mX_canBeUsed l D o a b cA iA cf uf (t % 5) t (by omega) (by omega)) w_38 w_40 v_1 w_1 w_41 (by decide +kernel) ⟨rfl, rfl⟩ ⟨(Nat.le_of_ble_eq_true rfl), (Nat.le_of_ble_eq_true rfl)⟩ hP hK 0 0 rfl rfl rfl hl.1 rfl (Nat.le_of_ble_eq_true rfl) dX_allCanBeUsed_8 ⟨Nat.zero_le _, Nat.zero_le _⟩ ?_
  refine lv_if_eq (tgt := 27) hx hb dX_allCanBeUsed_11 (by decide) (fun h11 => ?_) (fun h11 => ?_)
  · refine lv_iconst (v := nI 0) hx hb dX_allCanBeUsed_27 (by decide +kernel) ?_
    exact W.zret (v := nI 0) (ty := .boolean) hx hb hr nar_0 (fun t9 ht9 _ => ⟨by rw [allU, bi_0 h11]; rfl, ht9⟩) (fun _ h9 => nomatch h9) dX_allCanBeUsed_28
  · refine lv_aload_n hx hb dX_allCanBeUsed_14 rfl (lv_at hl 1 rfl) ?_
    refine lv_iload_n hx hb dX_allCanBeUsed_15 rfl (lv_at hl 0 rfl) ?_
    refine lv_iload_n hx hb dX_allCanBeUsed_16 rfl (lv_at hl 2 rfl) ?_
    refine kV (n := 2) (As := [.int (nI (t % 5)), .int (nI t)]) (rest := []) ⟨hx, hb, hml, hown, hts⟩ (mX_othersCanBeUsed l D o a b cA iA cf uf (t % 5) t (by omega) (by omega)) w_42 w_44 v_2 w_1 w_45 (by decide +kernel) ⟨rfl, rfl⟩ ⟨(Nat.le_of_ble_eq_true rfl), (Nat.le_of_ble_eq_true rfl)⟩ hP hK 0 0 rfl rfl rfl hl.1 rfl (Nat.le_of_ble_eq_true rfl) dX_allCanBeUsed_17 ⟨Nat.zero_le _, Nat.zero_le _⟩ ?_
    refine lv_if_eq (tgt := 27) hx hb dX_allCanBeUsed_20 (by decide) (fun h20 => ?_) (fun h20 => ?_)
    · refine lv_iconst (v := nI 0) hx hb dX_allCanBeUsed_27 (by decide +kernel) ?_
      exact W.zret (v := nI 0) (ty := .boolean) hx hb hr nar_0 (fun t9 ht9 _ => ⟨by rw [allU, bi_1 h11, bi_0 h20]; rfl, ht9⟩) (fun _ h9 => nomatch h9) dX_allCanBeUsed_28
    · refine lv_iconst (v := nI 1) hx hb dX_allCanBeUsed_23 (by decide +kernel) ?_
      refine lv_goto (tgt := 28) hx hb dX_allCanBeUsed_24 (by decide) ?_
      exact W.zret (v := nI 1) (ty := .boolean) hx hb hr nar_1 (fun t9 ht9 _ => ⟨by rw [allU, bi_1 h11, bi_1 h20]; rfl, ht9⟩) (fun _ h9 => nomatch h9) dX_allCanBeUsed_28
set_option maxHeartbeats 4000000 in
set_option maxRecDepth 100000 in
theorem mX_isLost (l : Launch) (D : va_G) (o a b : Nat) (cA iA : ClassId) (cf : Nat → Int64) (uf : Nat → Int32) (d t : Nat) (hd : d < 5) (ht : t < 100) : Met l yX_isLost (.code yX_isLost cX_isLost 3 (some .boolean) :: gW) ({ frames := 2, cells := 0, slots := 0, locals := 45 }) (pW D (wX o a b cA iA cf uf) (kT cA iA) [.ref o, .int (nI d), .int (nI t)]) (k2_QcV (.int (bi (il uf d t)))) 0 0 (fun _ => False) := by
  refine Met.ofW (cc := cX_isLost) (maxL := 3) (ret := (some .boolean)) (by decide) rfl ?_
  intro p e s m args below meth c s₁ B hml hv
  obtain ⟨rfl, hP, hK⟩ := hv
  have hx := B.exec
  have hb := B.bytes
  have hr := B.returns
  have hts := atoms_spec (ws := (.code yX_isLost cX_isLost 3 (some .boolean) :: gW)) B.pre
  have hg : ∀ w ∈ gW, w.before ([.ref o, .int (nI d), .int (nI t)]).toArray s = true := fun w h => hts w (List.mem_cons_of_mem _ h)
  have hown : s.vm.findClass R_X = some m.cls := findClass_of_methodNamed B.named
  have hlocks := B.notSynchronized
  have hl := lv_entry ([.ref o, .int (nI d), .int (nI t)]) (n := 3) (Nat.le_of_ble_eq_true rfl)
  rw [lg_entry_eq]
  generalize (lg_sl ([.ref o, .int (nI d), .int (nI t)]) ++ List.replicate (3 - (lg_sl ([.ref o, .int (nI d), .int (nI t)])).length) Slot.unset).toArray = ls at hl ⊢
  have hl : lv_has ls 3 [(0, .ref o), (1, .int (nI d)), (2, .int (nI t))] := hl
  refine lv_aload_n hx hb dX_isLost_0 rfl (lv_at hl 0 rfl) ?_
  refine lv_iload_n hx hb dX_isLost_1 rfl (lv_at hl 1 rfl) ?_
  refine lv_iload_n hx hb dX_isLost_2 rfl (lv_at hl 2 rfl) ?_
  refine kV (n := 2) (As := [.int (nI d), .int (nI t)]) (rest := []) ⟨hx, hb, hml, hown, hts⟩ (mX_canBeUsed l D o a b cA iA cf uf d t (by omega) (by omega)) w_38 w_40 v_1 w_1 w_41 (by decide +kernel) ⟨rfl, rfl⟩ ⟨(Nat.le_of_ble_eq_true rfl), (Nat.le_of_ble_eq_true rfl)⟩ hP hK 0 0 rfl rfl rfl hl.1 rfl (Nat.le_of_ble_eq_true rfl) dX_isLost_3 ⟨Nat.zero_le _, Nat.zero_le _⟩ ?_
  refine lv_if_ne (tgt := 22) hx hb dX_isLost_6 (by decide) (fun h6 => ?_) (fun h6 => ?_)
  · refine lv_iconst (v := nI 0) hx hb dX_isLost_22 (by decide +kernel) ?_
    exact W.zret (v := nI 0) (ty := .boolean) hx hb hr nar_0 (fun t9 ht9 _ => ⟨by rw [il, bi_1 h6]; rfl, ht9⟩) (fun _ h9 => nomatch h9) dX_isLost_23
  · refine lv_aload_n hx hb dX_isLost_9 rfl (lv_at hl 0 rfl) ?_
    refine lv_iload_n hx hb dX_isLost_10 rfl (lv_at hl 1 rfl) ?_
    refine lv_iload_n hx hb dX_isLost_11 rfl (lv_at hl 2 rfl) ?_
    refine kV (n := 2) (As := [.int (nI d), .int (nI t)]) (rest := []) ⟨hx, hb, hml, hown, hts⟩ (mX_othersCanBeUsed l D o a b cA iA cf uf d t (by omega) (by omega)) w_42 w_44 v_2 w_1 w_45 (by decide +kernel) ⟨rfl, rfl⟩ ⟨(Nat.le_of_ble_eq_true rfl), (Nat.le_of_ble_eq_true rfl)⟩ hP hK 0 0 rfl rfl rfl hl.1 rfl (Nat.le_of_ble_eq_true rfl) dX_isLost_12 ⟨Nat.zero_le _, Nat.zero_le _⟩ ?_
    refine lv_if_ne (tgt := 22) hx hb dX_isLost_15 (by decide) (fun h15 => ?_) (fun h15 => ?_)
    · refine lv_iconst (v := nI 0) hx hb dX_isLost_22 (by decide +kernel) ?_
      exact W.zret (v := nI 0) (ty := .boolean) hx hb hr nar_0 (fun t9 ht9 _ => ⟨by rw [il, bi_0 h6, bi_1 h15]; rfl, ht9⟩) (fun _ h9 => nomatch h9) dX_isLost_23
    · refine lv_iconst (v := nI 1) hx hb dX_isLost_18 (by decide +kernel) ?_
      refine lv_goto (tgt := 23) hx hb dX_isLost_19 (by decide) ?_
      exact W.zret (v := nI 1) (ty := .boolean) hx hb hr nar_1 (fun t9 ht9 _ => ⟨by rw [il, bi_0 h6, bi_0 h15]; rfl, ht9⟩) (fun _ h9 => nomatch h9) dX_isLost_23
set_option maxHeartbeats 4000000 in
set_option maxRecDepth 100000 in
theorem mX_xorOfOthers (l : Launch) (D : va_G) (o a b : Nat) (cA iA : ClassId) (cf : Nat → Int64) (uf : Nat → Int32) (d t h : Nat) (hd : d < 5) (ht : t < 100) (hh : h < 2) : Met l yX_xorOfOthers (.code yX_xorOfOthers cX_xorOfOthers 7 (some .long) :: gW) ({ frames := 1, cells := 0, slots := 0, locals := 22 }) (pW D (wX o a b cA iA cf uf) (kT cA iA) [.ref o, .int (nI d), .int (nI t), .int (nI h)]) (k2_QcV (.long (xo cf d t h))) 0 0 (fun _ => False) := by
  refine Met.ofW (cc := cX_xorOfOthers) (maxL := 7) (ret := (some .long)) (by decide) rfl ?_
  intro p e s m args below meth c s₁ B hml hv
  obtain ⟨rfl, hP, hK⟩ := hv
  have hx := B.exec
  have hb := B.bytes
  have hr := B.returns
  have hts := atoms_spec (ws := (.code yX_xorOfOthers cX_xorOfOthers 7 (some .long) :: gW)) B.pre
  have hg : ∀ w ∈ gW, w.before ([.ref o, .int (nI d), .int (nI t), .int (nI h)]).toArray s = true := fun w h => hts w (List.mem_cons_of_mem _ h)
  have hown : s.vm.findClass R_X = some m.cls := findClass_of_methodNamed B.named
  have hlocks := B.notSynchronized
  have hl := lv_entry ([.ref o, .int (nI d), .int (nI t), .int (nI h)]) (n := 7) (Nat.le_of_ble_eq_true rfl)
  rw [lg_entry_eq]
  generalize (lg_sl ([.ref o, .int (nI d), .int (nI t), .int (nI h)]) ++ List.replicate (7 - (lg_sl ([.ref o, .int (nI d), .int (nI t), .int (nI h)])).length) Slot.unset).toArray = ls at hl ⊢
  have hl : lv_has ls 7 [(0, .ref o), (1, .int (nI d)), (2, .int (nI t)), (3, .int (nI h))] := hl
  refine lv_lconst (v := 0) hx hb dX_xorOfOthers_0 (by decide +kernel) ?_
  refine lv_lstore hx hb dX_xorOfOthers_1 hl (by decide) rfl (fun ls hl => ?_)
  have hl : lv_has ls 7 [(4, .long 0), (0, .ref o), (1, .int (nI d)), (2, .int (nI t)), (3, .int (nI h))] := hl
  refine lv_iconst (v := nI 0) hx hb dX_xorOfOthers_3 (by decide +kernel) ?_
  refine lv_istore hx hb dX_xorOfOthers_4 hl (by decide) rfl (fun ls hl => ?_)
  have hl : lv_has ls 7 [(6, .int (nI 0)), (4, .long 0), (0, .ref o), (1, .int (nI d)), (2, .int (nI t)), (3, .int (nI h))] := hl
  have key : ∀ n j : Nat, j + n = 5 → ∀ ls : Array Slot, lv_has ls 7 [(6, .int (nI j)), (4, .long (xoN cf d t h j)), (0, .ref o), (1, .int (nI d)), (2, .int (nI t)), (3, .int (nI h))] → W p l e (headSpec (.code yX_xorOfOthers cX_xorOfOthers 7 (some .long) :: gW) ({ frames := 1, cells := 0, slots := 0, locals := 22 })).room s m ([.ref o, .int (nI d), .int (nI t), .int (nI h)]).toArray below meth c s.heap [] 0 0 (MQ below (k2_QcV (.long (xo cf d t h))) ([.ref o, .int (nI d), .int (nI t), .int (nI h)]).toArray s 0 0 (fun _ => False)) (F0 m 6 ls []) := by
    intro n
    induction n with
    | zero =>
      intro j hj ls hl
      obtain rfl : j = 5 := by omega
      refine lv_iload hx hb dX_xorOfOthers_6 (lv_at hl 0 rfl) ?_
      refine lv_iconst (v := nI 5) hx hb dX_xorOfOthers_8 (by decide +kernel) ?_
      refine lv_icmp_ge (tgt := 41) hx hb dX_xorOfOthers_9 (by decide) (fun h9 => ?_) (fun h9 => absurd (nI_le (Nat.le_refl 5) (by decide)) h9)
      refine lv_lload hx hb dX_xorOfOthers_41 (lv_at hl 1 rfl) ?_
      exact W.lret (v := xoN cf d t h 5) hx hb hr (fun t9 ht9 _ => ⟨by rfl, ht9⟩) (fun _ h9 => nomatch h9) dX_xorOfOthers_43
    | succ n ih =>
      intro j hj ls hl
      refine lv_iload hx hb dX_xorOfOthers_6 (lv_at hl 0 rfl) ?_
      refine lv_iconst (v := nI 5) hx hb dX_xorOfOthers_8 (by decide +kernel) ?_
      refine lv_icmp_ge (tgt := 41) hx hb dX_xorOfOthers_9 (by decide) (fun h9 => absurd h9 (nI_ge (by omega) (by decide))) (fun h9 => ?_)
      refine lv_iload hx hb dX_xorOfOthers_12 (lv_at hl 0 rfl) ?_
      refine lv_iload_n hx hb dX_xorOfOthers_14 rfl (lv_at hl 3 rfl) ?_
      refine lv_icmp_eq (tgt := 35) hx hb dX_xorOfOthers_15 (by decide) (fun h15 => ?_) (fun h15 => ?_)
      · have e15 : j = d := (nI_eq (by omega) (by omega)).mp h15
        refine lv_iinc (k := 0) (v := nI (j + 1)) hx hb dX_xorOfOthers_35 hl rfl (incI _)  (by decide) rfl (fun ls hl => ?_)
        have hl : lv_has ls 7 [(6, .int (nI (j + 1))), (4, .long (xoN cf d t h j)), (0, .ref o), (1, .int (nI d)), (2, .int (nI t)), (3, .int (nI h))] := hl
        refine lv_goto (tgt := 6) hx hb dX_xorOfOthers_38 (by decide) ?_
        rw [← xoN_p (cf := cf) (s := t) (h := h) e15] at hl
        exact ih (j + 1) (by omega) ls hl
      · have e15 : ¬ j = d := fun z => h15 (by rw [z])
        refine lv_lload hx hb dX_xorOfOthers_18 (lv_at hl 1 rfl) ?_
        refine lv_aload_n hx hb dX_xorOfOthers_20 rfl (lv_at hl 2 rfl) ?_
        refine va_get (D := D) (ci := 0) (v := .ref a) (C := R_X) (T := T_X) (N := 2) hx hb hg uX_in hown hK hP 0 rfl rfl 0 (by decide) (hg _ w_18) (fun _ h9 => h9) rfl dX_xorOfOthers_21 ?_
        refine lv_iload hx hb dX_xorOfOthers_24 (lv_at hl 0 rfl) ?_
        refine lv_iload_n hx hb dX_xorOfOthers_26 rfl (lv_at hl 4 rfl) ?_
        refine lv_iload_n hx hb dX_xorOfOthers_27 rfl (lv_at hl 5 rfl) ?_
        refine kS (n := 3) (As := [.int (nI j), .int (nI t), .int (nI h)]) (rest := [.ref a, .long (xoN cf d t h j)]) ⟨hx, hb, hml, hown, hts⟩ (mX_cellOf l j t h) w_50 w_51 w_1 w_52 (by decide +kernel) ⟨rfl, rfl⟩ ⟨(Nat.le_of_ble_eq_true rfl), (Nat.le_of_ble_eq_true rfl)⟩ rfl hl.1 rfl (Nat.le_of_ble_eq_true rfl) dX_xorOfOthers_28 ⟨Nat.zero_le _, Nat.zero_le _⟩ ?_
        refine aL hx hb hK hP 1 0 rfl rfl (ix_lt (by omega) (by omega) (by omega)) (by decide) dX_xorOfOthers_31 ?_
        refine lv_lxor hx hb dX_xorOfOthers_32 ?_
        refine tL (xoN_n e15).symm ?_
        refine lv_lstore hx hb dX_xorOfOthers_33 hl (by decide) rfl (fun ls hl => ?_)
        have hl : lv_has ls 7 [(4, .long (xoN cf d t h (j + 1))), (6, .int (nI j)), (0, .ref o), (1, .int (nI d)), (2, .int (nI t)), (3, .int (nI h))] := hl
        refine lv_iinc (k := 1) (v := nI (j + 1)) hx hb dX_xorOfOthers_35 hl rfl (incI _)  (by decide) rfl (fun ls hl => ?_)
        have hl : lv_has ls 7 [(6, .int (nI (j + 1))), (4, .long (xoN cf d t h (j + 1))), (0, .ref o), (1, .int (nI d)), (2, .int (nI t)), (3, .int (nI h))] := hl
        refine lv_goto (tgt := 6) hx hb dX_xorOfOthers_38 (by decide) ?_
        exact ih (j + 1) (by omega) ls hl
  exact key 5 0 rfl ls hl
set_option maxHeartbeats 4000000 in
set_option maxRecDepth 100000 in
theorem mX_whatItHas (l : Launch) (D : va_G) (o a b : Nat) (cA iA : ClassId) (cf : Nat → Int64) (uf : Nat → Int32) (d t h : Nat) (hd : d < 5) (ht : t < 100) (hh : h < 2) : Met l yX_whatItHas (.code yX_whatItHas cX_whatItHas 4 (some .long) :: gW) ({ frames := 2, cells := 0, slots := 0, locals := 48 }) (pW D (wX o a b cA iA cf uf) (kT cA iA) [.ref o, .int (nI d), .int (nI t), .int (nI h)]) (k2_QcV (.long (wh cf uf d t h))) 0 0 (fun _ => False) := by
  refine Met.ofW (cc := cX_whatItHas) (maxL := 4) (ret := (some .long)) (by decide) rfl ?_
  intro p e s m args below meth c s₁ B hml hv
  obtain ⟨rfl, hP, hK⟩ := hv
  have hx := B.exec
  have hb := B.bytes
  have hr := B.returns
  have hts := atoms_spec (ws := (.code yX_whatItHas cX_whatItHas 4 (some .long) :: gW)) B.pre
  have hg : ∀ w ∈ gW, w.before ([.ref o, .int (nI d), .int (nI t), .int (nI h)]).toArray s = true := fun w h => hts w (List.mem_cons_of_mem _ h)
  have hown : s.vm.findClass R_X = some m.cls := findClass_of_methodNamed B.named
  have hlocks := B.notSynchronized
  have hl := lv_entry ([.ref o, .int (nI d), .int (nI t), .int (nI h)]) (n := 4) (Nat.le_of_ble_eq_true rfl)
  rw [lg_entry_eq]
  generalize (lg_sl ([.ref o, .int (nI d), .int (nI t), .int (nI h)]) ++ List.replicate (4 - (lg_sl ([.ref o, .int (nI d), .int (nI t), .int (nI h)])).length) Slot.unset).toArray = ls at hl ⊢
  have hl : lv_has ls 4 [(0, .ref o), (1, .int (nI d)), (2, .int (nI t)), (3, .int (nI h))] := hl
  refine lv_aload_n hx hb dX_whatItHas_0 rfl (lv_at hl 0 rfl) ?_
  refine lv_iload_n hx hb dX_whatItHas_1 rfl (lv_at hl 1 rfl) ?_
  refine lv_iload_n hx hb dX_whatItHas_2 rfl (lv_at hl 2 rfl) ?_
  refine kV (n := 2) (As := [.int (nI d), .int (nI t)]) (rest := []) ⟨hx, hb, hml, hown, hts⟩ (mX_canBeUsed l D o a b cA iA cf uf d t (by omega) (by omega)) w_38 w_40 v_1 w_1 w_41 (by decide +kernel) ⟨rfl, rfl⟩ ⟨(Nat.le_of_ble_eq_true rfl), (Nat.le_of_ble_eq_true rfl)⟩ hP hK 0 0 rfl rfl rfl hl.1 rfl (Nat.le_of_ble_eq_true rfl) dX_whatItHas_3 ⟨Nat.zero_le _, Nat.zero_le _⟩ ?_
  refine lv_if_eq (tgt := 21) hx hb dX_whatItHas_6 (by decide) (fun h6 => ?_) (fun h6 => ?_)
  · refine lv_aload_n hx hb dX_whatItHas_21 rfl (lv_at hl 0 rfl) ?_
    refine lv_iload_n hx hb dX_whatItHas_22 rfl (lv_at hl 1 rfl) ?_
    refine lv_iload_n hx hb dX_whatItHas_23 rfl (lv_at hl 2 rfl) ?_
    refine lv_iload_n hx hb dX_whatItHas_24 rfl (lv_at hl 3 rfl) ?_
    refine kV (n := 3) (As := [.int (nI d), .int (nI t), .int (nI h)]) (rest := []) ⟨hx, hb, hml, hown, hts⟩ (mX_xorOfOthers l D o a b cA iA cf uf d t h (by omega) (by omega) (by omega)) w_53 w_55 v_4 w_1 w_56 (by decide +kernel) ⟨rfl, rfl⟩ ⟨(Nat.le_of_ble_eq_true rfl), (Nat.le_of_ble_eq_true rfl)⟩ hP hK 0 0 rfl rfl rfl hl.1 rfl (Nat.le_of_ble_eq_true rfl) dX_whatItHas_25 ⟨Nat.zero_le _, Nat.zero_le _⟩ ?_
    exact W.lret (v := xo cf d t h) hx hb hr (fun t9 ht9 _ => ⟨by rw [wh_f (bi_0 h6)], ht9⟩) (fun _ h9 => nomatch h9) dX_whatItHas_28
  · refine lv_aload_n hx hb dX_whatItHas_9 rfl (lv_at hl 0 rfl) ?_
    refine va_get (D := D) (ci := 0) (v := .ref a) (C := R_X) (T := T_X) (N := 2) hx hb hg uX_in hown hK hP 0 rfl rfl 0 (by decide) (hg _ w_18) (fun _ h9 => h9) rfl dX_whatItHas_10 ?_
    refine lv_iload_n hx hb dX_whatItHas_13 rfl (lv_at hl 1 rfl) ?_
    refine lv_iload_n hx hb dX_whatItHas_14 rfl (lv_at hl 2 rfl) ?_
    refine lv_iload_n hx hb dX_whatItHas_15 rfl (lv_at hl 3 rfl) ?_
    refine kS (n := 3) (As := [.int (nI d), .int (nI t), .int (nI h)]) (rest := [.ref a]) ⟨hx, hb, hml, hown, hts⟩ (mX_cellOf l d t h) w_50 w_51 w_1 w_52 (by decide +kernel) ⟨rfl, rfl⟩ ⟨(Nat.le_of_ble_eq_true rfl), (Nat.le_of_ble_eq_true rfl)⟩ rfl hl.1 rfl (Nat.le_of_ble_eq_true rfl) dX_whatItHas_16 ⟨Nat.zero_le _, Nat.zero_le _⟩ ?_
    refine aL hx hb hK hP 1 0 rfl rfl (ix_lt (by omega) (by omega) (by omega)) (by decide) dX_whatItHas_19 ?_
    exact W.lret (v := cf (ix d t h)) hx hb hr (fun t9 ht9 _ => ⟨by rw [wh_t (bi_1 h6)], ht9⟩) (fun _ h9 => nomatch h9) dX_whatItHas_20
set_option maxHeartbeats 4000000 in
set_option maxRecDepth 100000 in
theorem mX_lost (l : Launch) (D : va_G) (o a b : Nat) (cA iA : ClassId) (cf : Nat → Int64) (uf : Nat → Int32)  : Met l yX_lost (.code yX_lost cX_lost 3 (some .int) :: gW) ({ frames := 3, cells := 0, slots := 0, locals := 67 }) (pW D (wX o a b cA iA cf uf) (kT cA iA) [.ref o]) (k2_QcV (.int (nI (loF uf 400)))) 0 0 (fun _ => False) := by
  refine Met.ofW (cc := cX_lost) (maxL := 3) (ret := (some .int)) (by decide) rfl ?_
  intro p e s m args below meth c s₁ B hml hv
  obtain ⟨rfl, hP, hK⟩ := hv
  have hx := B.exec
  have hb := B.bytes
  have hr := B.returns
  have hts := atoms_spec (ws := (.code yX_lost cX_lost 3 (some .int) :: gW)) B.pre
  have hg : ∀ w ∈ gW, w.before ([.ref o]).toArray s = true := fun w h => hts w (List.mem_cons_of_mem _ h)
  have hown : s.vm.findClass R_X = some m.cls := findClass_of_methodNamed B.named
  have hlocks := B.notSynchronized
  have hl := lv_entry ([.ref o]) (n := 3) (Nat.le_of_ble_eq_true rfl)
  rw [lg_entry_eq]
  generalize (lg_sl ([.ref o]) ++ List.replicate (3 - (lg_sl ([.ref o])).length) Slot.unset).toArray = ls at hl ⊢
  have hl : lv_has ls 3 [(0, .ref o)] := hl
  refine lv_iconst (v := nI 0) hx hb dX_lost_0 (by decide +kernel) ?_
  refine lv_istore_n hx hb dX_lost_1 rfl hl (by decide) rfl (fun ls hl => ?_)
  have hl : lv_has ls 3 [(1, .int (nI 0)), (0, .ref o)] := hl
  refine lv_iconst (v := nI 0) hx hb dX_lost_2 (by decide +kernel) ?_
  refine lv_istore_n hx hb dX_lost_3 rfl hl (by decide) rfl (fun ls hl => ?_)
  have hl : lv_has ls 3 [(2, .int (nI 0)), (1, .int (nI 0)), (0, .ref o)] := hl
  have key : ∀ n j : Nat, j + n = 400 → ∀ ls : Array Slot, lv_has ls 3 [(2, .int (nI j)), (1, .int (nI (loF uf j))), (0, .ref o)] → W p l e (headSpec (.code yX_lost cX_lost 3 (some .int) :: gW) ({ frames := 3, cells := 0, slots := 0, locals := 67 })).room s m ([.ref o]).toArray below meth c s.heap [] 0 0 (MQ below (k2_QcV (.int (nI (loF uf 400)))) ([.ref o]).toArray s 0 0 (fun _ => False)) (F0 m 4 ls []) := by
    intro n
    induction n with
    | zero =>
      intro j hj ls hl
      obtain rfl : j = 400 := by omega
      refine lv_iload_n hx hb dX_lost_4 rfl (lv_at hl 0 rfl) ?_
      refine lv_sipush (v := nI 400) hx hb dX_lost_5 (by decide +kernel) ?_
      refine lv_icmp_ge (tgt := 35) hx hb dX_lost_8 (by decide) (fun h8 => ?_) (fun h8 => absurd (nI_le (Nat.le_refl 400) (by decide)) h8)
      refine lv_iload_n hx hb dX_lost_35 rfl (lv_at hl 1 rfl) ?_
      exact W.iret (v := nI (loF uf 400)) hx hb hr (fun t9 ht9 _ => ⟨by rfl, ht9⟩) (fun _ h9 => nomatch h9) dX_lost_36
    | succ n ih =>
      intro j hj ls hl
      refine lv_iload_n hx hb dX_lost_4 rfl (lv_at hl 0 rfl) ?_
      refine lv_sipush (v := nI 400) hx hb dX_lost_5 (by decide +kernel) ?_
      refine lv_icmp_ge (tgt := 35) hx hb dX_lost_8 (by decide) (fun h8 => absurd h8 (nI_ge (by omega) (by decide))) (fun h8 => ?_)
      refine lv_aload_n hx hb dX_lost_11 rfl (lv_at hl 2 rfl) ?_
      refine lv_iload_n hx hb dX_lost_12 rfl (lv_at hl 0 rfl) ?_
      refine kS (n := 1) (As := [.int (nI j)]) (rest := [.ref o]) ⟨hx, hb, hml, hown, hts⟩ (mX_diskOf l j (by omega)) w_61 w_62 w_1 w_63 (by decide +kernel) ⟨rfl, rfl⟩ ⟨(Nat.le_of_ble_eq_true rfl), (Nat.le_of_ble_eq_true rfl)⟩ rfl hl.1 rfl (Nat.le_of_ble_eq_true rfl) dX_lost_13 ⟨Nat.zero_le _, Nat.zero_le _⟩ ?_
      refine lv_iload_n hx hb dX_lost_16 rfl (lv_at hl 0 rfl) ?_
      refine kS (n := 1) (As := [.int (nI j)]) (rest := [.int (nI (dk j)), .ref o]) ⟨hx, hb, hml, hown, hts⟩ (mX_stripeOf l j (by omega)) w_64 w_65 w_1 w_66 (by decide +kernel) ⟨rfl, rfl⟩ ⟨(Nat.le_of_ble_eq_true rfl), (Nat.le_of_ble_eq_true rfl)⟩ rfl hl.1 rfl (Nat.le_of_ble_eq_true rfl) dX_lost_17 ⟨Nat.zero_le _, Nat.zero_le _⟩ ?_
      refine kV (n := 2) (As := [.int (nI (dk j)), .int (nI (j / 4))]) (rest := []) ⟨hx, hb, hml, hown, hts⟩ (mX_isLost l D o a b cA iA cf uf (dk j) (j / 4) (dk_lt _) (by omega)) w_67 w_69 v_5 w_1 w_70 (by decide +kernel) ⟨rfl, rfl⟩ ⟨(Nat.le_of_ble_eq_true rfl), (Nat.le_of_ble_eq_true rfl)⟩ hP hK 0 0 rfl rfl rfl hl.1 rfl (Nat.le_of_ble_eq_true rfl) dX_lost_20 ⟨Nat.zero_le _, Nat.zero_le _⟩ ?_
      refine lv_if_eq (tgt := 29) hx hb dX_lost_23 (by decide) (fun h23 => ?_) (fun h23 => ?_)
      · have e9 := loF_f (bi_0 h23)
        refine lv_iinc (k := 0) (v := nI (j + 1)) hx hb dX_lost_29 hl rfl (incI _)  (by decide) rfl (fun ls hl => ?_)
        have hl : lv_has ls 3 [(2, .int (nI (j + 1))), (1, .int (nI (loF uf j))), (0, .ref o)] := hl
        refine lv_goto (tgt := 4) hx hb dX_lost_32 (by decide) ?_
        rw [← e9] at hl
        exact ih (j + 1) (by omega) ls hl
      · have e9 := loF_t (bi_1 h23)
        refine lv_iinc (k := 1) (v := nI (loF uf j + 1)) hx hb dX_lost_26 hl rfl (incI _)  (by decide) rfl (fun ls hl => ?_)
        have hl : lv_has ls 3 [(1, .int (nI (loF uf j + 1))), (2, .int (nI j)), (0, .ref o)] := hl
        refine lv_iinc (k := 1) (v := nI (j + 1)) hx hb dX_lost_29 hl rfl (incI _)  (by decide) rfl (fun ls hl => ?_)
        have hl : lv_has ls 3 [(2, .int (nI (j + 1))), (1, .int (nI (loF uf j + 1))), (0, .ref o)] := hl
        refine lv_goto (tgt := 4) hx hb dX_lost_32 (by decide) ?_
        rw [← e9] at hl
        exact ih (j + 1) (by omega) ls hl
  exact key 400 0 rfl ls hl
end
section
/-! throws: what they need of the state beside good words; a row for a throw, rows for an exception that passes through a caller -/
abbrev IAE : String := "java/lang/IllegalArgumentException"
abbrev UOE : String := "java/lang/UnsupportedOperationException"
abbrev ISE : String := "java/lang/IllegalStateException"
abbrev upN : List String := ["java/lang/RuntimeException", "java/lang/Exception"]
def strs : List (Nat × String) := [(37, "the place is lost"), (46, "the write is refused"), (63, "the disk did not fail"), (68, "n is below 0"), (71, "the disk is not being rebuilt"), (94, "disk is not 0..4"), (96, "place is not 0..399"), (98, "half is not 0..1"), (100, "block is not 0..99"), (105, "the disk failed")]
def eBad (E : String) : List Cond := [.castable E E, .declares ⟨"java/lang/RuntimeException", "<init>", "(Ljava/lang/String;)V"⟩, .declares ⟨"java/lang/Exception", "<init>", "(Ljava/lang/String;)V"⟩, .declares ⟨"java/lang/Throwable", "<init>", "(Ljava/lang/String;)V"⟩]
theorem eBad_ot (E : String) : ∀ w ∈ eBad E, w.onTables = true := by
  intro w h
  simp only [eBad, List.mem_cons, List.not_mem_nil, or_false] at h
  rcases h with h | h | h | h <;> rw [h] <;> rfl
theorem eBad_warm {E : String} {w : Cond} {s U : State} (h : w ∈ eBad E) (hW : s.WarmedH U.vm) (hz : va_Nw w s) : va_Nw w U := by
  simp only [eBad, List.mem_cons, List.not_mem_nil, or_false] at h
  rcases h with h | h | h | h <;> rw [h] at hz ⊢
  · exact va_Nw.warmC hW hz
  · exact va_Nw.warmD hW hz
  · exact va_Nw.warmD hW hz
  · exact va_Nw.warmD hW hz
def xF (U : State) : Prop := (∀ E ∈ [IAE, UOE, ISE], ∀ w ∈ eBad E, va_Nw w U) ∧ vx_Zq Bundle.tN "UNASSIGNED_STACK" Bundle.steD (fun _ => False) U U.heap ∧ vx_Zq Bundle.tN "SUPPRESSED_SENTINEL" Bundle.listD (fun _ => False) U U.heap ∧ ∀ q ∈ strs, ∃ a, vk_R R_X q.1 q.2 a U
theorem xF_warm {s U : State} (hW : s.WarmedH U.vm) (hh : U.heap = s.heap) (h : xF s) : xF U := by
  obtain ⟨h1, h2, h3, h4⟩ := h
  refine ⟨fun E hE w hw => eBad_warm hw hW (h1 E hE w hw), ?_, ?_, fun q hq => ?_⟩
  · rw [hh]; exact vx_Zq.moved hW.alike h2
  · rw [hh]; exact vx_Zq.moved hW.alike h3
  · obtain ⟨a, ha⟩ := h4 q hq
    exact ⟨a, vk_R.warm hW ha⟩
theorem xF_calling {U : State} {g : JFrame} {mk : MethodId} {a : Array Value} (h : xF U) : xF (U.calling g mk a) := by
  obtain ⟨h1, h2, h3, h4⟩ := h
  refine ⟨fun E hE w hw => va_Nw.same (u := U) (eBad_ot E w hw) rfl (h1 E hE w hw), vx_Zq.moved (u := U) (U := U.calling g mk a) (Vm.Alike.refl U.vm) h2, vx_Zq.moved (u := U) (U := U.calling g mk a) (Vm.Alike.refl U.vm) h3, fun q hq => ?_⟩
  obtain ⟨b, hb⟩ := h4 q hq
  exact ⟨b, vk_R.same (u := U) rfl hb⟩
def pT (av : List Value) : Array Value → State → Prop := va_Pc av xF
theorem pT_blind {av : List Value} : FrameBlind (pT av) := fun _ _ _ _ q => ⟨q.1, xF_calling q.2⟩
def pTW (D : va_G) (ws : va_W) (tys : List (ClassId × FieldType)) (av : List Value) : Array Value → State → Prop := va_Pc av (fun U => xF U ∧ va_P D cls_ ws U.heap ∧ va_K D cls_ tys U)
theorem pTW_blind {D : va_G} {ws : va_W} {tys : List (ClassId × FieldType)} {av : List Value} : FrameBlind (pTW D ws tys av) := fun a U g mk q => ⟨q.1, xF_calling q.2.1, q.2.2.1, va_K.moved (u := U) (U := U.calling g mk a) (Vm.Alike.refl U.vm) q.2.2.2⟩
/-- E was thrown and nothing old has changed -/
abbrev XE (E0 : String) : String → State → State → Prop := vx_X (S := Unit) (fun _ => True) (fun E _ _ => E = E0) (fun _ => False)
abbrev qNv : Array Value → State → Outcome → State → Prop := va_Qv (fun _ : Unit => False) (fun _ _ => True) (fun _ => False)
abbrev qNi : Array Value → State → Outcome → State → Prop := va_Qi (fun (_ : Int32) (_ : Unit) => False) (fun _ _ => True) (fun _ => False)
abbrev qNl : Array Value → State → Outcome → State → Prop := va_Ql (fun (_ : Int64) (_ : Unit) => False) (fun _ _ => True) (fun _ => False)
set_option maxRecDepth 100000 in
theorem atG_U : ∀ w ∈ (vx_atS R_X 39 UOE upN).filter goodWord, w ∈ gW := by decide +kernel
set_option maxRecDepth 100000 in
theorem atG_S : ∀ w ∈ (vx_atS R_X 65 ISE upN).filter goodWord, w ∈ gW := by decide +kernel
set_option maxRecDepth 100000 in
theorem atG_A : ∀ w ∈ (vx_atS R_X 70 IAE upN).filter goodWord, w ∈ gW := by decide +kernel
theorem atB_U : ∀ w ∈ (vx_atS R_X 39 UOE upN).filter (fun w => !goodWord w), w ∈ eBad UOE := by decide +kernel
theorem atB_S : ∀ w ∈ (vx_atS R_X 65 ISE upN).filter (fun w => !goodWord w), w ∈ eBad ISE := by decide +kernel
theorem atB_A : ∀ w ∈ (vx_atS R_X 70 IAE upN).filter (fun w => !goodWord w), w ∈ eBad IAE := by decide +kernel
theorem atO_U : ∀ w ∈ Cond.classLink R_X 35 UOE :: Cond.initialized UOE :: vx_atS R_X 39 UOE upN, vx_ot w = true := by decide +kernel
theorem atO_S : ∀ w ∈ Cond.classLink R_X 61 ISE :: Cond.initialized ISE :: vx_atS R_X 65 ISE upN, vx_ot w = true := by decide +kernel
theorem atO_A : ∀ w ∈ Cond.classLink R_X 66 IAE :: Cond.initialized IAE :: vx_atS R_X 70 IAE upN, vx_ot w = true := by decide +kernel
section
variable {p : Program} {l : Launch} {e : Env} {R : Room} {s : State} {m : MethodId} {args : Array Value} {below : List Frame} {meth : Method} {c : Code} {pc : Nat} {ls : Array Slot} {rest st0 : List Value} {cc : ByteArray} {D : va_G} {ws ws' : va_W} {tys : List (ClassId × FieldType)} {Qc : Array Value → State → Outcome → State → Prop} {free : Addr → Prop}
theorem thr {E tx : String} {ik is ic : Nat} (hx : p.tables.exec = Jvm.exec) (hb : c.code = cc) (hls : l.stackTraces = false) (hF : xF s) (hown : s.vm.findClass R_X = some m.cls) (hg : ∀ w ∈ gW, w.before args s = true) (hE : E ∈ [IAE, UOE, ISE]) (hfit : Bundle.fit E = true)
    (hk : Cond.classLink R_X ik E ∈ gW) (hini : Cond.initialized E ∈ gW) (hG : ∀ w ∈ (vx_atS R_X ic E upN).filter goodWord, w ∈ gW) (hB : ∀ w ∈ (vx_atS R_X ic E upN).filter (fun w => !goodWord w), w ∈ eBad E) (hO : ∀ w ∈ Cond.classLink R_X ik E :: Cond.initialized E :: vx_atS R_X ic E upN, vx_ot w = true)
    (hq : (is, tx) ∈ strs) (hsize : ls.size = c.maxLocals)
    (d0 : decode cc pc = .ok (.new ik, 3)) (d3 : decode cc (pc + 3) = .ok (.dup, 1)) (d4 : decode cc (pc + 4) = .ok (.ldc is, 2)) (d6 : decode cc (pc + 6) = .ok (.invokespecial ic, 3)) (d9 : decode cc (pc + 9) = .ok (.athrow, 1))
    (htab : ∀ x ∈ c.exceptionTable.toList, False) (hR : 5 < R.frames ∧ 82 ≤ R.locals ∧ 1 ≤ R.cells ∧ 6 ≤ R.slots) (hlocks : meth.locks = false) :
    W p l e R s m args below meth c s.heap [] 0 0 (vx_MQ below Qc (XE E) args s 1 6 free) (F0 m pc ls []) := by
  obtain ⟨sa, hsa⟩ := hF.2.2.2 (is, tx) hq
  exact vx_throwS (rest := []) (names := upN) (A := fun _ => False) hx hb hls hown hfit (by decide +kernel) (hg _ hk) (hg _ hini) hsa
    (vx_hat (L := vx_atS R_X ic E upN) (B := eBad E) (fun w hw => hg w (hG w hw)) hB (fun w hw => va_Nw.use (eBad_ot E w hw) (hF.1 E hE w hw))) hO hF.2.1 hF.2.2.1 va_S.rf hsize d0 d3 d4 d6 d9 (fun x h => (htab x h).elim)
    (Nat.lt_of_le_of_lt (by decide) hR.1) (Nat.le_trans (by decide) hR.2.1) hR.2.2.1 hR.2.2.2 hlocks (fun t _ hz hk => ⟨(), trivial, rfl, hz, fun q h _ => hk q h⟩) (fun _ h => nomatch h) (Nat.le_refl _) (Nat.le_refl _)
theorem xOut {E E' : String} {ce : Cell} {q9 : Addr} {H1 : Heap} {locs1 : List Loc} (htab : ∀ x ∈ c.exceptionTable.toList, False) (hlocks : meth.locks = false) (hE : E' = E) (hz : s.heap.size ≤ H1.size) (hk : ∀ q : Nat, q < s.heap.size → ¬ False → H1[q]? = s.heap[q]?) (hS : va_S (fun _ => False) s.heap H1 locs1) (hc : H1[q9]? = some ce) (hv : ce.vm = .none) (hcl : s.vm.findClass E' = some ce.cls) :
    vx_W p l e R s m args below meth c H1 locs1 (0 + 1) (0 + 6) (vx_MQ below Qc (XE E) args s 1 6 free) (F0 m pc ls rest) q9 := by
  subst hE
  exact vx_out (fun x h => (htab x h).elim) hlocks hc hv hcl (fun t' ht' _ => ⟨(), trivial, rfl, by rw [ht']; exact hz, fun q h _ => by rw [ht']; exact hk q h id⟩) (fun z hz => (hS.2.2 z hz).elim) (Nat.le_refl _) (Nat.le_refl _)
variable {own C E : String} {index maxL n nL : Nat} {y : MethodName} {bytes : ByteArray} {ret : Option FieldType} {rm : Room} {b : Nat} {As : List Value} {w0 : Cond}
theorem passS (S : CallFix p m c cc nL s args (w0 :: gW) own) (hM : vx_Met l y (Cond.code y bytes maxL ret :: gW) rm (pT As) qNv (XE E) 1 6 (fun _ => False))
    (h1 : Cond.methodLink own index y ∈ gW) (h2 : Cond.static y ∈ gW) (h4 : Cond.initialized own ∈ gW) (h5 : Cond.code y bytes maxL ret ∈ gW)
    (hd : hD_ y own n) (hrm : rm.cells = 1 ∧ rm.slots = 6) (hR : rm.frames + 1 ≤ R.frames ∧ 8 + (maxL + 11) + rm.locals ≤ R.locals) (hF : xF s)
    (hn : As.length = n) (hsz : ls.size = nL) (hst : st0 = As.reverse ++ rest) (hW : (rest.map fun v => v.category).sum ≤ 8) (hdg : decode cc pc = .ok (.invokestatic index, 3)) (hcs : 0 + 1 ≤ R.cells ∧ 0 + 6 ≤ R.slots)
    (htab : ∀ x ∈ c.exceptionTable.toList, False) (hlocks : meth.locks = false) : W p l e R s m args below meth c s.heap [] 0 0 (vx_MQ below Qc (XE E) args s 1 6 free) (F0 m pc ls st0) :=
  vx_callv (A0 := fun _ => False) (H0 := s.heap) (vx_runS (g := F0 m pc ls st0) (rest := rest) S hM (cwS n S.2.2.2.2 (gS h1 h2 h4 h5) rfl hrm.1 hrm.2 hd hR) ⟨pT_blind, fun U hU hW => ⟨rfl, xF_warm hW hU hF⟩⟩ rfl hn hsz hst (lv_room hW) hdg hcs) va_S.rf (fun _ _ h => h) (fun _ h => h) (fun _ _ h => h)
    (fun E' ce q9 u t H1 locs1 ht _ _ hE hz hk hS hc hv hcl => xOut htab hlocks hE hz hk hS hc hv hcl) (fun u t H1 locs1 _ _ hp => hp.elim)
theorem passV (S : CallFix p m c cc nL s args (w0 :: gW) own) (hM : vx_Met l y (Cond.code y bytes maxL ret :: gW) rm (pTW D ws tys (.ref b :: As)) qNv (XE E) 1 6 (fun _ => False))
    (h1 : Cond.methodLink own index y ∈ gW) (h2 : Cond.instanceMethod y ∈ gW) (h3 : Cond.selects C y y ∈ gW) (h4 : Cond.initialized C ∈ gW) (h5 : Cond.code y bytes maxL ret ∈ gW)
    (hd : hD_ y C n) (hrm : rm.cells = 1 ∧ rm.slots = 6) (hR : rm.frames + 1 ≤ R.frames ∧ 8 + (maxL + 11) + rm.locals ≤ R.locals) (hF : xF s)
    (hP : va_P D cls_ ws s.heap) (hK : va_K D cls_ tys s) (ci q0 : Nat) {T : u_T} {N : Nat} {fs : List Value} (hc : cls_[ci]? = some (C, T, N)) (he : ws[q0]? = some (b, .inr (ci, fs)))
    (hn : As.length = n) (hsz : ls.size = nL) (hst : st0 = As.reverse ++ .ref b :: rest) (hW : (rest.map fun v => v.category).sum ≤ 8) (hdg : decode cc pc = .ok (.invokevirtual index, 3)) (hcs : 0 + 1 ≤ R.cells ∧ 0 + 6 ≤ R.slots)
    (htab : ∀ x ∈ c.exceptionTable.toList, False) (hlocks : meth.locks = false) : W p l e R s m args below meth c s.heap [] 0 0 (vx_MQ below Qc (XE E) args s 1 6 free) (F0 m pc ls st0) :=
  vx_callv (A0 := fun _ => False) (H0 := s.heap) (vx_runV (g := F0 m pc ls st0) (rest := rest) S hM (cwV n S.2.2.2.2 (gV h1 h2 h3 h4 h5) rfl hrm.1 hrm.2 hd hR) ⟨pTW_blind, va_recv hK hP hc he, fun U hU hW => ⟨rfl, xF_warm hW hU hF, by rw [hU]; exact hP, va_K.moved hW.alike hK⟩⟩ rfl hn hsz hst (lv_room hW) hdg hcs) va_S.rf (fun _ _ h => h) (fun _ h => h) (fun _ _ h => h)
    (fun E' ce q9 u t H1 locs1 ht _ _ hE hz hk hS hc hv hcl => xOut htab hlocks hE hz hk hS hc hv hcl) (fun u t H1 locs1 _ _ hp => hp.elim)
end
end
section
set_option maxHeartbeats 4000000 in
set_option maxRecDepth 100000 in
theorem mX_checkDisk_ok (l : Launch) (k : Nat) (hk : k < 5) : Met l yX_checkDisk (.code yX_checkDisk cX_checkDisk 1 none :: gW) ({ frames := 6, cells := 0, slots := 0, locals := 96 }) (pN [.int (nI k)]) (QN) 0 0 (fun _ => False) := by
  refine Met.ofW (cc := cX_checkDisk) (maxL := 1) (ret := none) (by decide) rfl ?_
  intro p e s m args below meth c s₁ B hml hv
  obtain ⟨rfl, -⟩ := hv
  have hx := B.exec
  have hb := B.bytes
  have hr := B.returns
  have hts := atoms_spec (ws := (.code yX_checkDisk cX_checkDisk 1 none :: gW)) B.pre
  have hg : ∀ w ∈ gW, w.before ([.int (nI k)]).toArray s = true := fun w h => hts w (List.mem_cons_of_mem _ h)
  have hown : s.vm.findClass R_X = some m.cls := findClass_of_methodNamed B.named
  have hlocks := B.notSynchronized
  have hl := lv_entry ([.int (nI k)]) (n := 1) (Nat.le_of_ble_eq_true rfl)
  rw [lg_entry_eq]
  generalize (lg_sl ([.int (nI k)]) ++ List.replicate (1 - (lg_sl ([.int (nI k)])).length) Slot.unset).toArray = ls at hl ⊢
  have hl : lv_has ls 1 [(0, .int (nI k))] := hl
  refine lv_iload_n hx hb dX_checkDisk_0 rfl (lv_at hl 0 rfl) ?_
  refine lv_if_lt (tgt := 9) hx hb dX_checkDisk_1 (by decide) (fun h1 => absurd h1 (nI_pos (by omega))) (fun h1 => ?_)
  refine lv_iload_n hx hb dX_checkDisk_4 rfl (lv_at hl 0 rfl) ?_
  refine lv_iconst (v := nI 5) hx hb dX_checkDisk_5 (by decide +kernel) ?_
  refine lv_icmp_lt (tgt := 19) hx hb dX_checkDisk_6 (by decide) (fun h6 => ?_) (fun h6 => absurd (nI_lt hk (by decide)) h6)
  exact W.vret hx hb hr (fun t9 ht9 _ => ⟨rfl, ht9⟩) (fun _ h9 => nomatch h9) dX_checkDisk_19
set_option maxHeartbeats 4000000 in
set_option maxRecDepth 100000 in
theorem mX_checkDisk_bad (l : Launch) (hls : l.stackTraces = false) (x : Int32) (hbad : inR x 5 = false) : vx_Met l yX_checkDisk (.code yX_checkDisk cX_checkDisk 1 none :: gW) ({ frames := 6, cells := 1, slots := 6, locals := 96 }) (pT [.int x]) qNv (XE IAE) 1 6 (fun _ => False) := by
  refine vx_ofW (cc := cX_checkDisk) (maxL := 1) (ret := none) (by decide) rfl ?_
  intro p e s m args below meth c s₁ B hml htab hv
  obtain ⟨rfl, hF⟩ := hv
  have hx := B.exec
  have hb := B.bytes
  have hr := B.returns
  have hts := atoms_spec (ws := (.code yX_checkDisk cX_checkDisk 1 none :: gW)) B.pre
  have hg : ∀ w ∈ gW, w.before ([.int x]).toArray s = true := fun w h => hts w (List.mem_cons_of_mem _ h)
  have hown : s.vm.findClass R_X = some m.cls := findClass_of_methodNamed B.named
  have hlocks := B.notSynchronized
  have hl := lv_entry ([.int x]) (n := 1) (Nat.le_of_ble_eq_true rfl)
  rw [lg_entry_eq]
  generalize (lg_sl ([.int x]) ++ List.replicate (1 - (lg_sl ([.int x])).length) Slot.unset).toArray = ls at hl ⊢
  have hl : lv_has ls 1 [(0, .int x)] := hl
  refine lv_iload_n hx hb dX_checkDisk_0 rfl (lv_at hl 0 rfl) ?_
  refine lv_if_lt (tgt := 9) hx hb dX_checkDisk_1 (by decide) (fun h1 => ?_) (fun h1 => ?_)
  · exact thr (E := IAE) (tx := "disk is not 0..4") hx hb hls hF hown hg (by decide +kernel) (by decide +kernel) w_83 w_6 atG_A atB_A atO_A (by decide +kernel) (hl.1.trans hml.symm) dX_checkDisk_9 dX_checkDisk_12 dX_checkDisk_13 dX_checkDisk_15 dX_checkDisk_18 htab ⟨(Nat.le_of_ble_eq_true rfl), (Nat.le_of_ble_eq_true rfl), (Nat.le_of_ble_eq_true rfl), (Nat.le_of_ble_eq_true rfl)⟩ hlocks
  · refine lv_iload_n hx hb dX_checkDisk_4 rfl (lv_at hl 0 rfl) ?_
    refine lv_iconst (v := nI 5) hx hb dX_checkDisk_5 (by decide +kernel) ?_
    refine lv_icmp_lt (tgt := 19) hx hb dX_checkDisk_6 (by decide) (fun h6 => absurd h6 (inR_f hbad h1)) (fun h6 => ?_)
    exact thr (E := IAE) (tx := "disk is not 0..4") hx hb hls hF hown hg (by decide +kernel) (by decide +kernel) w_83 w_6 atG_A atB_A atO_A (by decide +kernel) (hl.1.trans hml.symm) dX_checkDisk_9 dX_checkDisk_12 dX_checkDisk_13 dX_checkDisk_15 dX_checkDisk_18 htab ⟨(Nat.le_of_ble_eq_true rfl), (Nat.le_of_ble_eq_true rfl), (Nat.le_of_ble_eq_true rfl), (Nat.le_of_ble_eq_true rfl)⟩ hlocks
set_option maxHeartbeats 4000000 in
set_option maxRecDepth 100000 in
theorem mX_checkPlace_ok (l : Launch) (k : Nat) (hk : k < 400) : Met l yX_checkPlace (.code yX_checkPlace cX_checkPlace 1 none :: gW) ({ frames := 6, cells := 0, slots := 0, locals := 96 }) (pN [.int (nI k)]) (QN) 0 0 (fun _ => False) := by
  refine Met.ofW (cc := cX_checkPlace) (maxL := 1) (ret := none) (by decide) rfl ?_
  intro p e s m args below meth c s₁ B hml hv
  obtain ⟨rfl, -⟩ := hv
  have hx := B.exec
  have hb := B.bytes
  have hr := B.returns
  have hts := atoms_spec (ws := (.code yX_checkPlace cX_checkPlace 1 none :: gW)) B.pre
  have hg : ∀ w ∈ gW, w.before ([.int (nI k)]).toArray s = true := fun w h => hts w (List.mem_cons_of_mem _ h)
  have hown : s.vm.findClass R_X = some m.cls := findClass_of_methodNamed B.named
  have hlocks := B.notSynchronized
  have hl := lv_entry ([.int (nI k)]) (n := 1) (Nat.le_of_ble_eq_true rfl)
  rw [lg_entry_eq]
  generalize (lg_sl ([.int (nI k)]) ++ List.replicate (1 - (lg_sl ([.int (nI k)])).length) Slot.unset).toArray = ls at hl ⊢
  have hl : lv_has ls 1 [(0, .int (nI k))] := hl
  refine lv_iload_n hx hb dX_checkPlace_0 rfl (lv_at hl 0 rfl) ?_
  refine lv_if_lt (tgt := 11) hx hb dX_checkPlace_1 (by decide) (fun h1 => absurd h1 (nI_pos (by omega))) (fun h1 => ?_)
  refine lv_iload_n hx hb dX_checkPlace_4 rfl (lv_at hl 0 rfl) ?_
  refine lv_sipush (v := nI 400) hx hb dX_checkPlace_5 (by decide +kernel) ?_
  refine lv_icmp_lt (tgt := 21) hx hb dX_checkPlace_8 (by decide) (fun h8 => ?_) (fun h8 => absurd (nI_lt hk (by decide)) h8)
  exact W.vret hx hb hr (fun t9 ht9 _ => ⟨rfl, ht9⟩) (fun _ h9 => nomatch h9) dX_checkPlace_21
set_option maxHeartbeats 4000000 in
set_option maxRecDepth 100000 in
theorem mX_checkPlace_bad (l : Launch) (hls : l.stackTraces = false) (x : Int32) (hbad : inR x 400 = false) : vx_Met l yX_checkPlace (.code yX_checkPlace cX_checkPlace 1 none :: gW) ({ frames := 6, cells := 1, slots := 6, locals := 96 }) (pT [.int x]) qNv (XE IAE) 1 6 (fun _ => False) := by
  refine vx_ofW (cc := cX_checkPlace) (maxL := 1) (ret := none) (by decide) rfl ?_
  intro p e s m args below meth c s₁ B hml htab hv
  obtain ⟨rfl, hF⟩ := hv
  have hx := B.exec
  have hb := B.bytes
  have hr := B.returns
  have hts := atoms_spec (ws := (.code yX_checkPlace cX_checkPlace 1 none :: gW)) B.pre
  have hg : ∀ w ∈ gW, w.before ([.int x]).toArray s = true := fun w h => hts w (List.mem_cons_of_mem _ h)
  have hown : s.vm.findClass R_X = some m.cls := findClass_of_methodNamed B.named
  have hlocks := B.notSynchronized
  have hl := lv_entry ([.int x]) (n := 1) (Nat.le_of_ble_eq_true rfl)
  rw [lg_entry_eq]
  generalize (lg_sl ([.int x]) ++ List.replicate (1 - (lg_sl ([.int x])).length) Slot.unset).toArray = ls at hl ⊢
  have hl : lv_has ls 1 [(0, .int x)] := hl
  refine lv_iload_n hx hb dX_checkPlace_0 rfl (lv_at hl 0 rfl) ?_
  refine lv_if_lt (tgt := 11) hx hb dX_checkPlace_1 (by decide) (fun h1 => ?_) (fun h1 => ?_)
  · exact thr (E := IAE) (tx := "place is not 0..399") hx hb hls hF hown hg (by decide +kernel) (by decide +kernel) w_83 w_6 atG_A atB_A atO_A (by decide +kernel) (hl.1.trans hml.symm) dX_checkPlace_11 dX_checkPlace_14 dX_checkPlace_15 dX_checkPlace_17 dX_checkPlace_20 htab ⟨(Nat.le_of_ble_eq_true rfl), (Nat.le_of_ble_eq_true rfl), (Nat.le_of_ble_eq_true rfl), (Nat.le_of_ble_eq_true rfl)⟩ hlocks
  · refine lv_iload_n hx hb dX_checkPlace_4 rfl (lv_at hl 0 rfl) ?_
    refine lv_sipush (v := nI 400) hx hb dX_checkPlace_5 (by decide +kernel) ?_
    refine lv_icmp_lt (tgt := 21) hx hb dX_checkPlace_8 (by decide) (fun h8 => absurd h8 (inR_f hbad h1)) (fun h8 => ?_)
    exact thr (E := IAE) (tx := "place is not 0..399") hx hb hls hF hown hg (by decide +kernel) (by decide +kernel) w_83 w_6 atG_A atB_A atO_A (by decide +kernel) (hl.1.trans hml.symm) dX_checkPlace_11 dX_checkPlace_14 dX_checkPlace_15 dX_checkPlace_17 dX_checkPlace_20 htab ⟨(Nat.le_of_ble_eq_true rfl), (Nat.le_of_ble_eq_true rfl), (Nat.le_of_ble_eq_true rfl), (Nat.le_of_ble_eq_true rfl)⟩ hlocks
set_option maxHeartbeats 4000000 in
set_option maxRecDepth 100000 in
theorem mX_checkHalf_ok (l : Launch) (k : Nat) (hk : k < 2) : Met l yX_checkHalf (.code yX_checkHalf cX_checkHalf 1 none :: gW) ({ frames := 6, cells := 0, slots := 0, locals := 96 }) (pN [.int (nI k)]) (QN) 0 0 (fun _ => False) := by
  refine Met.ofW (cc := cX_checkHalf) (maxL := 1) (ret := none) (by decide) rfl ?_
  intro p e s m args below meth c s₁ B hml hv
  obtain ⟨rfl, -⟩ := hv
  have hx := B.exec
  have hb := B.bytes
  have hr := B.returns
  have hts := atoms_spec (ws := (.code yX_checkHalf cX_checkHalf 1 none :: gW)) B.pre
  have hg : ∀ w ∈ gW, w.before ([.int (nI k)]).toArray s = true := fun w h => hts w (List.mem_cons_of_mem _ h)
  have hown : s.vm.findClass R_X = some m.cls := findClass_of_methodNamed B.named
  have hlocks := B.notSynchronized
  have hl := lv_entry ([.int (nI k)]) (n := 1) (Nat.le_of_ble_eq_true rfl)
  rw [lg_entry_eq]
  generalize (lg_sl ([.int (nI k)]) ++ List.replicate (1 - (lg_sl ([.int (nI k)])).length) Slot.unset).toArray = ls at hl ⊢
  have hl : lv_has ls 1 [(0, .int (nI k))] := hl
  refine lv_iload_n hx hb dX_checkHalf_0 rfl (lv_at hl 0 rfl) ?_
  refine lv_if_lt (tgt := 9) hx hb dX_checkHalf_1 (by decide) (fun h1 => absurd h1 (nI_pos (by omega))) (fun h1 => ?_)
  refine lv_iload_n hx hb dX_checkHalf_4 rfl (lv_at hl 0 rfl) ?_
  refine lv_iconst (v := nI 2) hx hb dX_checkHalf_5 (by decide +kernel) ?_
  refine lv_icmp_lt (tgt := 19) hx hb dX_checkHalf_6 (by decide) (fun h6 => ?_) (fun h6 => absurd (nI_lt hk (by decide)) h6)
  exact W.vret hx hb hr (fun t9 ht9 _ => ⟨rfl, ht9⟩) (fun _ h9 => nomatch h9) dX_checkHalf_19
set_option maxHeartbeats 4000000 in
set_option maxRecDepth 100000 in
theorem mX_checkHalf_bad (l : Launch) (hls : l.stackTraces = false) (x : Int32) (hbad : inR x 2 = false) : vx_Met l yX_checkHalf (.code yX_checkHalf cX_checkHalf 1 none :: gW) ({ frames := 6, cells := 1, slots := 6, locals := 96 }) (pT [.int x]) qNv (XE IAE) 1 6 (fun _ => False) := by
  refine vx_ofW (cc := cX_checkHalf) (maxL := 1) (ret := none) (by decide) rfl ?_
  intro p e s m args below meth c s₁ B hml htab hv
  obtain ⟨rfl, hF⟩ := hv
  have hx := B.exec
  have hb := B.bytes
  have hr := B.returns
  have hts := atoms_spec (ws := (.code yX_checkHalf cX_checkHalf 1 none :: gW)) B.pre
  have hg : ∀ w ∈ gW, w.before ([.int x]).toArray s = true := fun w h => hts w (List.mem_cons_of_mem _ h)
  have hown : s.vm.findClass R_X = some m.cls := findClass_of_methodNamed B.named
  have hlocks := B.notSynchronized
  have hl := lv_entry ([.int x]) (n := 1) (Nat.le_of_ble_eq_true rfl)
  rw [lg_entry_eq]
  generalize (lg_sl ([.int x]) ++ List.replicate (1 - (lg_sl ([.int x])).length) Slot.unset).toArray = ls at hl ⊢
  have hl : lv_has ls 1 [(0, .int x)] := hl
  refine lv_iload_n hx hb dX_checkHalf_0 rfl (lv_at hl 0 rfl) ?_
  refine lv_if_lt (tgt := 9) hx hb dX_checkHalf_1 (by decide) (fun h1 => ?_) (fun h1 => ?_)
  · exact thr (E := IAE) (tx := "half is not 0..1") hx hb hls hF hown hg (by decide +kernel) (by decide +kernel) w_83 w_6 atG_A atB_A atO_A (by decide +kernel) (hl.1.trans hml.symm) dX_checkHalf_9 dX_checkHalf_12 dX_checkHalf_13 dX_checkHalf_15 dX_checkHalf_18 htab ⟨(Nat.le_of_ble_eq_true rfl), (Nat.le_of_ble_eq_true rfl), (Nat.le_of_ble_eq_true rfl), (Nat.le_of_ble_eq_true rfl)⟩ hlocks
  · refine lv_iload_n hx hb dX_checkHalf_4 rfl (lv_at hl 0 rfl) ?_
    refine lv_iconst (v := nI 2) hx hb dX_checkHalf_5 (by decide +kernel) ?_
    refine lv_icmp_lt (tgt := 19) hx hb dX_checkHalf_6 (by decide) (fun h6 => absurd h6 (inR_f hbad h1)) (fun h6 => ?_)
    exact thr (E := IAE) (tx := "half is not 0..1") hx hb hls hF hown hg (by decide +kernel) (by decide +kernel) w_83 w_6 atG_A atB_A atO_A (by decide +kernel) (hl.1.trans hml.symm) dX_checkHalf_9 dX_checkHalf_12 dX_checkHalf_13 dX_checkHalf_15 dX_checkHalf_18 htab ⟨(Nat.le_of_ble_eq_true rfl), (Nat.le_of_ble_eq_true rfl), (Nat.le_of_ble_eq_true rfl), (Nat.le_of_ble_eq_true rfl)⟩ hlocks
set_option maxHeartbeats 4000000 in
set_option maxRecDepth 100000 in
theorem mX_checkBlock_ok (l : Launch) (k : Nat) (hk : k < 100) : Met l yX_checkBlock (.code yX_checkBlock cX_checkBlock 1 none :: gW) ({ frames := 6, cells := 0, slots := 0, locals := 96 }) (pN [.int (nI k)]) (QN) 0 0 (fun _ => False) := by
  refine Met.ofW (cc := cX_checkBlock) (maxL := 1) (ret := none) (by decide) rfl ?_
  intro p e s m args below meth c s₁ B hml hv
  obtain ⟨rfl, -⟩ := hv
  have hx := B.exec
  have hb := B.bytes
  have hr := B.returns
  have hts := atoms_spec (ws := (.code yX_checkBlock cX_checkBlock 1 none :: gW)) B.pre
  have hg : ∀ w ∈ gW, w.before ([.int (nI k)]).toArray s = true := fun w h => hts w (List.mem_cons_of_mem _ h)
  have hown : s.vm.findClass R_X = some m.cls := findClass_of_methodNamed B.named
  have hlocks := B.notSynchronized
  have hl := lv_entry ([.int (nI k)]) (n := 1) (Nat.le_of_ble_eq_true rfl)
  rw [lg_entry_eq]
  generalize (lg_sl ([.int (nI k)]) ++ List.replicate (1 - (lg_sl ([.int (nI k)])).length) Slot.unset).toArray = ls at hl ⊢
  have hl : lv_has ls 1 [(0, .int (nI k))] := hl
  refine lv_iload_n hx hb dX_checkBlock_0 rfl (lv_at hl 0 rfl) ?_
  refine lv_if_lt (tgt := 10) hx hb dX_checkBlock_1 (by decide) (fun h1 => absurd h1 (nI_pos (by omega))) (fun h1 => ?_)
  refine lv_iload_n hx hb dX_checkBlock_4 rfl (lv_at hl 0 rfl) ?_
  refine lv_bipush (v := nI 100) hx hb dX_checkBlock_5 (by decide +kernel) ?_
  refine lv_icmp_lt (tgt := 20) hx hb dX_checkBlock_7 (by decide) (fun h7 => ?_) (fun h7 => absurd (nI_lt hk (by decide)) h7)
  exact W.vret hx hb hr (fun t9 ht9 _ => ⟨rfl, ht9⟩) (fun _ h9 => nomatch h9) dX_checkBlock_20
set_option maxHeartbeats 4000000 in
set_option maxRecDepth 100000 in
theorem mX_checkBlock_bad (l : Launch) (hls : l.stackTraces = false) (x : Int32) (hbad : inR x 100 = false) : vx_Met l yX_checkBlock (.code yX_checkBlock cX_checkBlock 1 none :: gW) ({ frames := 6, cells := 1, slots := 6, locals := 96 }) (pT [.int x]) qNv (XE IAE) 1 6 (fun _ => False) := by
  refine vx_ofW (cc := cX_checkBlock) (maxL := 1) (ret := none) (by decide) rfl ?_
  intro p e s m args below meth c s₁ B hml htab hv
  obtain ⟨rfl, hF⟩ := hv
  have hx := B.exec
  have hb := B.bytes
  have hr := B.returns
  have hts := atoms_spec (ws := (.code yX_checkBlock cX_checkBlock 1 none :: gW)) B.pre
  have hg : ∀ w ∈ gW, w.before ([.int x]).toArray s = true := fun w h => hts w (List.mem_cons_of_mem _ h)
  have hown : s.vm.findClass R_X = some m.cls := findClass_of_methodNamed B.named
  have hlocks := B.notSynchronized
  have hl := lv_entry ([.int x]) (n := 1) (Nat.le_of_ble_eq_true rfl)
  rw [lg_entry_eq]
  generalize (lg_sl ([.int x]) ++ List.replicate (1 - (lg_sl ([.int x])).length) Slot.unset).toArray = ls at hl ⊢
  have hl : lv_has ls 1 [(0, .int x)] := hl
  refine lv_iload_n hx hb dX_checkBlock_0 rfl (lv_at hl 0 rfl) ?_
  refine lv_if_lt (tgt := 10) hx hb dX_checkBlock_1 (by decide) (fun h1 => ?_) (fun h1 => ?_)
  · exact thr (E := IAE) (tx := "block is not 0..99") hx hb hls hF hown hg (by decide +kernel) (by decide +kernel) w_83 w_6 atG_A atB_A atO_A (by decide +kernel) (hl.1.trans hml.symm) dX_checkBlock_10 dX_checkBlock_13 dX_checkBlock_14 dX_checkBlock_16 dX_checkBlock_19 htab ⟨(Nat.le_of_ble_eq_true rfl), (Nat.le_of_ble_eq_true rfl), (Nat.le_of_ble_eq_true rfl), (Nat.le_of_ble_eq_true rfl)⟩ hlocks
  · refine lv_iload_n hx hb dX_checkBlock_4 rfl (lv_at hl 0 rfl) ?_
    refine lv_bipush (v := nI 100) hx hb dX_checkBlock_5 (by decide +kernel) ?_
    refine lv_icmp_lt (tgt := 20) hx hb dX_checkBlock_7 (by decide) (fun h7 => absurd h7 (inR_f hbad h1)) (fun h7 => ?_)
    exact thr (E := IAE) (tx := "block is not 0..99") hx hb hls hF hown hg (by decide +kernel) (by decide +kernel) w_83 w_6 atG_A atB_A atO_A (by decide +kernel) (hl.1.trans hml.symm) dX_checkBlock_10 dX_checkBlock_13 dX_checkBlock_14 dX_checkBlock_16 dX_checkBlock_19 htab ⟨(Nat.le_of_ble_eq_true rfl), (Nat.le_of_ble_eq_true rfl), (Nat.le_of_ble_eq_true rfl), (Nat.le_of_ble_eq_true rfl)⟩ hlocks
set_option maxHeartbeats 4000000 in
set_option maxRecDepth 100000 in
theorem mX_checkStanding_ok (l : Launch) (D : va_G) (o a b : Nat) (cA iA : ClassId) (cf : Nat → Int64) (uf : Nat → Int32) (d t h : Nat) (hd : d < 5) (ht : t < 100) (hh : h < 2) (hu : ¬ uf d = -1) : Met l yX_checkStanding (.code yX_checkStanding cX_checkStanding 4 none :: gW) ({ frames := 7, cells := 0, slots := 0, locals := 116 }) (pW D (wX o a b cA iA cf uf) (kT cA iA) [.ref o, .int (nI d), .int (nI t), .int (nI h)]) (QN) 0 0 (fun _ => False) := by
  refine Met.ofW (cc := cX_checkStanding) (maxL := 4) (ret := none) (by decide) rfl ?_
  intro p e s m args below meth c s₁ B hml hv
  obtain ⟨rfl, hP, hK⟩ := hv
  have hx := B.exec
  have hb := B.bytes
  have hr := B.returns
  have hts := atoms_spec (ws := (.code yX_checkStanding cX_checkStanding 4 none :: gW)) B.pre
  have hg : ∀ w ∈ gW, w.before ([.ref o, .int (nI d), .int (nI t), .int (nI h)]).toArray s = true := fun w h => hts w (List.mem_cons_of_mem _ h)
  have hown : s.vm.findClass R_X = some m.cls := findClass_of_methodNamed B.named
  have hlocks := B.notSynchronized
  have hl := lv_entry ([.ref o, .int (nI d), .int (nI t), .int (nI h)]) (n := 4) (Nat.le_of_ble_eq_true rfl)
  rw [lg_entry_eq]
  generalize (lg_sl ([.ref o, .int (nI d), .int (nI t), .int (nI h)]) ++ List.replicate (4 - (lg_sl ([.ref o, .int (nI d), .int (nI t), .int (nI h)])).length) Slot.unset).toArray = ls at hl ⊢
  have hl : lv_has ls 4 [(0, .ref o), (1, .int (nI d)), (2, .int (nI t)), (3, .int (nI h))] := hl
  refine lv_iload_n hx hb dX_checkStanding_0 rfl (lv_at hl 1 rfl) ?_
  refine kSn (n := 1) (As := [.int (nI d)]) (rest := []) ⟨hx, hb, hml, hown, hts⟩ (mX_checkDisk_ok l d (by omega)) w_190 w_191 w_1 w_192 (by decide +kernel) ⟨rfl, rfl⟩ ⟨(Nat.le_of_ble_eq_true rfl), (Nat.le_of_ble_eq_true rfl)⟩ rfl hl.1 rfl (Nat.le_of_ble_eq_true rfl) dX_checkStanding_1 ⟨Nat.zero_le _, Nat.zero_le _⟩ ?_
  refine lv_iload_n hx hb dX_checkStanding_4 rfl (lv_at hl 2 rfl) ?_
  refine kSn (n := 1) (As := [.int (nI t)]) (rest := []) ⟨hx, hb, hml, hown, hts⟩ (mX_checkBlock_ok l t (by omega)) w_245 w_246 w_1 w_247 (by decide +kernel) ⟨rfl, rfl⟩ ⟨(Nat.le_of_ble_eq_true rfl), (Nat.le_of_ble_eq_true rfl)⟩ rfl hl.1 rfl (Nat.le_of_ble_eq_true rfl) dX_checkStanding_5 ⟨Nat.zero_le _, Nat.zero_le _⟩ ?_
  refine lv_iload_n hx hb dX_checkStanding_8 rfl (lv_at hl 3 rfl) ?_
  refine kSn (n := 1) (As := [.int (nI h)]) (rest := []) ⟨hx, hb, hml, hown, hts⟩ (mX_checkHalf_ok l h (by omega)) w_151 w_152 w_1 w_153 (by decide +kernel) ⟨rfl, rfl⟩ ⟨(Nat.le_of_ble_eq_true rfl), (Nat.le_of_ble_eq_true rfl)⟩ rfl hl.1 rfl (Nat.le_of_ble_eq_true rfl) dX_checkStanding_9 ⟨Nat.zero_le _, Nat.zero_le _⟩ ?_
  refine lv_aload_n hx hb dX_checkStanding_12 rfl (lv_at hl 0 rfl) ?_
  refine va_get (D := D) (ci := 0) (v := .ref b) (C := R_X) (T := T_X) (N := 2) hx hb hg uX_in hown hK hP 0 rfl rfl 1 (by decide) (hg _ w_19) (fun _ h9 => h9) rfl dX_checkStanding_13 ?_
  refine lv_iload_n hx hb dX_checkStanding_16 rfl (lv_at hl 1 rfl) ?_
  refine aI hx hb hK hP 2 1 rfl rfl (by omega) (by decide) dX_checkStanding_17 ?_
  refine lv_iconst (v := -1) hx hb dX_checkStanding_18 (by decide +kernel) ?_
  refine lv_icmp_ne (tgt := 32) hx hb dX_checkStanding_19 (by decide) (fun h19 => ?_) (fun h19 => absurd h19 hu)
  exact W.vret hx hb hr (fun t9 ht9 _ => ⟨rfl, ht9⟩) (fun _ h9 => nomatch h9) dX_checkStanding_32
set_option maxHeartbeats 4000000 in
set_option maxRecDepth 100000 in
theorem mX_checkStanding_a (l : Launch) (hls : l.stackTraces = false) (D : va_G) (o a b : Nat) (cA iA : ClassId) (cf : Nat → Int64) (uf : Nat → Int32) (x y z : Int32) (hbad : (inR x 5 && (inR y 100 && inR z 2)) = false) : vx_Met l yX_checkStanding (.code yX_checkStanding cX_checkStanding 4 none :: gW) ({ frames := 7, cells := 1, slots := 6, locals := 116 }) (pTW D (wX o a b cA iA cf uf) (kT cA iA) [.ref o, .int x, .int y, .int z]) qNv (XE IAE) 1 6 (fun _ => False) := by
  refine vx_ofW (cc := cX_checkStanding) (maxL := 4) (ret := none) (by decide) rfl ?_
  intro p e s m args below meth c s₁ B hml htab hv
  obtain ⟨rfl, hF, hP, hK⟩ := hv
  have hx := B.exec
  have hb := B.bytes
  have hr := B.returns
  have hts := atoms_spec (ws := (.code yX_checkStanding cX_checkStanding 4 none :: gW)) B.pre
  have hg : ∀ w ∈ gW, w.before ([.ref o, .int x, .int y, .int z]).toArray s = true := fun w h => hts w (List.mem_cons_of_mem _ h)
  have hown : s.vm.findClass R_X = some m.cls := findClass_of_methodNamed B.named
  have hlocks := B.notSynchronized
  have hl := lv_entry ([.ref o, .int x, .int y, .int z]) (n := 4) (Nat.le_of_ble_eq_true rfl)
  rw [lg_entry_eq]
  generalize (lg_sl ([.ref o, .int x, .int y, .int z]) ++ List.replicate (4 - (lg_sl ([.ref o, .int x, .int y, .int z])).length) Slot.unset).toArray = ls at hl ⊢
  have hl : lv_has ls 4 [(0, .ref o), (1, .int x), (2, .int y), (3, .int z)] := hl
  refine lv_iload_n hx hb dX_checkStanding_0 rfl (lv_at hl 1 rfl) ?_
  by_cases c1 : inR x 5 = true
  · obtain ⟨d, hd, rfl⟩ := inR_nat (by decide) c1
    refine kSn (n := 1) (As := [.int (nI d)]) (rest := []) ⟨hx, hb, hml, hown, hts⟩ (mX_checkDisk_ok l d (by omega)) w_190 w_191 w_1 w_192 (by decide +kernel) ⟨rfl, rfl⟩ ⟨(Nat.le_of_ble_eq_true rfl), (Nat.le_of_ble_eq_true rfl)⟩ rfl hl.1 rfl (Nat.le_of_ble_eq_true rfl) dX_checkStanding_1 ⟨Nat.zero_le _, Nat.zero_le _⟩ ?_
    refine lv_iload_n hx hb dX_checkStanding_4 rfl (lv_at hl 2 rfl) ?_
    by_cases c5 : inR y 100 = true
    · obtain ⟨t, ht, rfl⟩ := inR_nat (by decide) c5
      refine kSn (n := 1) (As := [.int (nI t)]) (rest := []) ⟨hx, hb, hml, hown, hts⟩ (mX_checkBlock_ok l t (by omega)) w_245 w_246 w_1 w_247 (by decide +kernel) ⟨rfl, rfl⟩ ⟨(Nat.le_of_ble_eq_true rfl), (Nat.le_of_ble_eq_true rfl)⟩ rfl hl.1 rfl (Nat.le_of_ble_eq_true rfl) dX_checkStanding_5 ⟨Nat.zero_le _, Nat.zero_le _⟩ ?_
      refine lv_iload_n hx hb dX_checkStanding_8 rfl (lv_at hl 3 rfl) ?_
      by_cases c9 : inR z 2 = true
      · obtain ⟨h, hh, rfl⟩ := inR_nat (by decide) c9
        refine kSn (n := 1) (As := [.int (nI h)]) (rest := []) ⟨hx, hb, hml, hown, hts⟩ (mX_checkHalf_ok l h (by omega)) w_151 w_152 w_1 w_153 (by decide +kernel) ⟨rfl, rfl⟩ ⟨(Nat.le_of_ble_eq_true rfl), (Nat.le_of_ble_eq_true rfl)⟩ rfl hl.1 rfl (Nat.le_of_ble_eq_true rfl) dX_checkStanding_9 ⟨Nat.zero_le _, Nat.zero_le _⟩ ?_
        rw [c1, c5, c9] at hbad
        exact Bool.noConfusion hbad
      · exact passS (n := 1) (As := [.int z]) (rest := []) ⟨hx, hb, hml, hown, hts⟩ (mX_checkHalf_bad l hls z (Bool.eq_false_iff.mpr c9)) w_151 w_152 w_1 w_153 (by decide +kernel) ⟨rfl, rfl⟩ ⟨(Nat.le_of_ble_eq_true rfl), (Nat.le_of_ble_eq_true rfl)⟩ hF rfl hl.1 rfl (Nat.le_of_ble_eq_true rfl) dX_checkStanding_9 ⟨(Nat.le_of_ble_eq_true rfl), (Nat.le_of_ble_eq_true rfl)⟩ htab hlocks
    · exact passS (n := 1) (As := [.int y]) (rest := []) ⟨hx, hb, hml, hown, hts⟩ (mX_checkBlock_bad l hls y (Bool.eq_false_iff.mpr c5)) w_245 w_246 w_1 w_247 (by decide +kernel) ⟨rfl, rfl⟩ ⟨(Nat.le_of_ble_eq_true rfl), (Nat.le_of_ble_eq_true rfl)⟩ hF rfl hl.1 rfl (Nat.le_of_ble_eq_true rfl) dX_checkStanding_5 ⟨(Nat.le_of_ble_eq_true rfl), (Nat.le_of_ble_eq_true rfl)⟩ htab hlocks
  · exact passS (n := 1) (As := [.int x]) (rest := []) ⟨hx, hb, hml, hown, hts⟩ (mX_checkDisk_bad l hls x (Bool.eq_false_iff.mpr c1)) w_190 w_191 w_1 w_192 (by decide +kernel) ⟨rfl, rfl⟩ ⟨(Nat.le_of_ble_eq_true rfl), (Nat.le_of_ble_eq_true rfl)⟩ hF rfl hl.1 rfl (Nat.le_of_ble_eq_true rfl) dX_checkStanding_1 ⟨(Nat.le_of_ble_eq_true rfl), (Nat.le_of_ble_eq_true rfl)⟩ htab hlocks
set_option maxHeartbeats 4000000 in
set_option maxRecDepth 100000 in
theorem mX_checkStanding_s (l : Launch) (hls : l.stackTraces = false) (D : va_G) (o a b : Nat) (cA iA : ClassId) (cf : Nat → Int64) (uf : Nat → Int32) (d t h : Nat) (hd : d < 5) (ht : t < 100) (hh : h < 2) (hu : uf d = -1) : vx_Met l yX_checkStanding (.code yX_checkStanding cX_checkStanding 4 none :: gW) ({ frames := 7, cells := 1, slots := 6, locals := 116 }) (pTW D (wX o a b cA iA cf uf) (kT cA iA) [.ref o, .int (nI d), .int (nI t), .int (nI h)]) qNv (XE ISE) 1 6 (fun _ => False) := by
  refine vx_ofW (cc := cX_checkStanding) (maxL := 4) (ret := none) (by decide) rfl ?_
  intro p e s m args below meth c s₁ B hml htab hv
  obtain ⟨rfl, hF, hP, hK⟩ := hv
  have hx := B.exec
  have hb := B.bytes
  have hr := B.returns
  have hts := atoms_spec (ws := (.code yX_checkStanding cX_checkStanding 4 none :: gW)) B.pre
  have hg : ∀ w ∈ gW, w.before ([.ref o, .int (nI d), .int (nI t), .int (nI h)]).toArray s = true := fun w h => hts w (List.mem_cons_of_mem _ h)
  have hown : s.vm.findClass R_X = some m.cls := findClass_of_methodNamed B.named
  have hlocks := B.notSynchronized
  have hl := lv_entry ([.ref o, .int (nI d), .int (nI t), .int (nI h)]) (n := 4) (Nat.le_of_ble_eq_true rfl)
  rw [lg_entry_eq]
  generalize (lg_sl ([.ref o, .int (nI d), .int (nI t), .int (nI h)]) ++ List.replicate (4 - (lg_sl ([.ref o, .int (nI d), .int (nI t), .int (nI h)])).length) Slot.unset).toArray = ls at hl ⊢
  have hl : lv_has ls 4 [(0, .ref o), (1, .int (nI d)), (2, .int (nI t)), (3, .int (nI h))] := hl
  refine lv_iload_n hx hb dX_checkStanding_0 rfl (lv_at hl 1 rfl) ?_
  refine kSn (n := 1) (As := [.int (nI d)]) (rest := []) ⟨hx, hb, hml, hown, hts⟩ (mX_checkDisk_ok l d (by omega)) w_190 w_191 w_1 w_192 (by decide +kernel) ⟨rfl, rfl⟩ ⟨(Nat.le_of_ble_eq_true rfl), (Nat.le_of_ble_eq_true rfl)⟩ rfl hl.1 rfl (Nat.le_of_ble_eq_true rfl) dX_checkStanding_1 ⟨Nat.zero_le _, Nat.zero_le _⟩ ?_
  refine lv_iload_n hx hb dX_checkStanding_4 rfl (lv_at hl 2 rfl) ?_
  refine kSn (n := 1) (As := [.int (nI t)]) (rest := []) ⟨hx, hb, hml, hown, hts⟩ (mX_checkBlock_ok l t (by omega)) w_245 w_246 w_1 w_247 (by decide +kernel) ⟨rfl, rfl⟩ ⟨(Nat.le_of_ble_eq_true rfl), (Nat.le_of_ble_eq_true rfl)⟩ rfl hl.1 rfl (Nat.le_of_ble_eq_true rfl) dX_checkStanding_5 ⟨Nat.zero_le _, Nat.zero_le _⟩ ?_
  refine lv_iload_n hx hb dX_checkStanding_8 rfl (lv_at hl 3 rfl) ?_
  refine kSn (n := 1) (As := [.int (nI h)]) (rest := []) ⟨hx, hb, hml, hown, hts⟩ (mX_checkHalf_ok l h (by omega)) w_151 w_152 w_1 w_153 (by decide +kernel) ⟨rfl, rfl⟩ ⟨(Nat.le_of_ble_eq_true rfl), (Nat.le_of_ble_eq_true rfl)⟩ rfl hl.1 rfl (Nat.le_of_ble_eq_true rfl) dX_checkStanding_9 ⟨Nat.zero_le _, Nat.zero_le _⟩ ?_
  refine lv_aload_n hx hb dX_checkStanding_12 rfl (lv_at hl 0 rfl) ?_
  refine va_get (D := D) (ci := 0) (v := .ref b) (C := R_X) (T := T_X) (N := 2) hx hb hg uX_in hown hK hP 0 rfl rfl 1 (by decide) (hg _ w_19) (fun _ h9 => h9) rfl dX_checkStanding_13 ?_
  refine lv_iload_n hx hb dX_checkStanding_16 rfl (lv_at hl 1 rfl) ?_
  refine aI hx hb hK hP 2 1 rfl rfl (by omega) (by decide) dX_checkStanding_17 ?_
  refine lv_iconst (v := -1) hx hb dX_checkStanding_18 (by decide +kernel) ?_
  refine lv_icmp_ne (tgt := 32) hx hb dX_checkStanding_19 (by decide) (fun h19 => absurd h19 (fun z => z hu)) (fun h19 => ?_)
  exact thr (E := ISE) (tx := "the disk failed") hx hb hls hF hown hg (by decide +kernel) (by decide +kernel) w_202 w_8 atG_S atB_S atO_S (by decide +kernel) (hl.1.trans hml.symm) dX_checkStanding_22 dX_checkStanding_25 dX_checkStanding_26 dX_checkStanding_28 dX_checkStanding_31 htab ⟨(Nat.le_of_ble_eq_true rfl), (Nat.le_of_ble_eq_true rfl), (Nat.le_of_ble_eq_true rfl), (Nat.le_of_ble_eq_true rfl)⟩ hlocks
end
section
set_option maxHeartbeats 4000000 in
set_option maxRecDepth 100000 in
theorem mX_read_a (l : Launch) (hls : l.stackTraces = false) (D : va_G) (o a b : Nat) (cA iA : ClassId) (cf : Nat → Int64) (uf : Nat → Int32) (x y : Int32) (hbad : (inR x 400 && inR y 2) = false) : vx_Met l yX_read (.code yX_read cX_read 5 (some .long) :: gW) ({ frames := 7, cells := 1, slots := 6, locals := 116 }) (pTW D (wX o a b cA iA cf uf) (kT cA iA) [.ref o, .int x, .int y]) qNl (XE IAE) 1 6 (fun _ => False) := by
  refine vx_ofW (cc := cX_read) (maxL := 5) (ret := (some .long)) (by decide) rfl ?_
  intro p e s m args below meth c s₁ B hml htab hv
  obtain ⟨rfl, hF, hP, hK⟩ := hv
  have hx := B.exec
  have hb := B.bytes
  have hr := B.returns
  have hts := atoms_spec (ws := (.code yX_read cX_read 5 (some .long) :: gW)) B.pre
  have hg : ∀ w ∈ gW, w.before ([.ref o, .int x, .int y]).toArray s = true := fun w h => hts w (List.mem_cons_of_mem _ h)
  have hown : s.vm.findClass R_X = some m.cls := findClass_of_methodNamed B.named
  have hlocks := B.notSynchronized
  have hl := lv_entry ([.ref o, .int x, .int y]) (n := 5) (Nat.le_of_ble_eq_true rfl)
  rw [lg_entry_eq]
  generalize (lg_sl ([.ref o, .int x, .int y]) ++ List.replicate (5 - (lg_sl ([.ref o, .int x, .int y])).length) Slot.unset).toArray = ls at hl ⊢
  have hl : lv_has ls 5 [(0, .ref o), (1, .int x), (2, .int y)] := hl
  refine lv_iload_n hx hb dX_read_0 rfl (lv_at hl 1 rfl) ?_
  by_cases c1 : inR x 400 = true
  · obtain ⟨q, hq, rfl⟩ := inR_nat (by decide) c1
    refine kSn (n := 1) (As := [.int (nI q)]) (rest := []) ⟨hx, hb, hml, hown, hts⟩ (mX_checkPlace_ok l q (by omega)) w_80 w_81 w_1 w_82 (by decide +kernel) ⟨rfl, rfl⟩ ⟨(Nat.le_of_ble_eq_true rfl), (Nat.le_of_ble_eq_true rfl)⟩ rfl hl.1 rfl (Nat.le_of_ble_eq_true rfl) dX_read_1 ⟨Nat.zero_le _, Nat.zero_le _⟩ ?_
    refine lv_iload_n hx hb dX_read_4 rfl (lv_at hl 2 rfl) ?_
    by_cases c5 : inR y 2 = true
    · obtain ⟨h, hh, rfl⟩ := inR_nat (by decide) c5
      refine kSn (n := 1) (As := [.int (nI h)]) (rest := []) ⟨hx, hb, hml, hown, hts⟩ (mX_checkHalf_ok l h (by omega)) w_151 w_152 w_1 w_153 (by decide +kernel) ⟨rfl, rfl⟩ ⟨(Nat.le_of_ble_eq_true rfl), (Nat.le_of_ble_eq_true rfl)⟩ rfl hl.1 rfl (Nat.le_of_ble_eq_true rfl) dX_read_5 ⟨Nat.zero_le _, Nat.zero_le _⟩ ?_
      rw [c1, c5] at hbad
      exact Bool.noConfusion hbad
    · exact passS (n := 1) (As := [.int y]) (rest := []) ⟨hx, hb, hml, hown, hts⟩ (mX_checkHalf_bad l hls y (Bool.eq_false_iff.mpr c5)) w_151 w_152 w_1 w_153 (by decide +kernel) ⟨rfl, rfl⟩ ⟨(Nat.le_of_ble_eq_true rfl), (Nat.le_of_ble_eq_true rfl)⟩ hF rfl hl.1 rfl (Nat.le_of_ble_eq_true rfl) dX_read_5 ⟨(Nat.le_of_ble_eq_true rfl), (Nat.le_of_ble_eq_true rfl)⟩ htab hlocks
  · exact passS (n := 1) (As := [.int x]) (rest := []) ⟨hx, hb, hml, hown, hts⟩ (mX_checkPlace_bad l hls x (Bool.eq_false_iff.mpr c1)) w_80 w_81 w_1 w_82 (by decide +kernel) ⟨rfl, rfl⟩ ⟨(Nat.le_of_ble_eq_true rfl), (Nat.le_of_ble_eq_true rfl)⟩ hF rfl hl.1 rfl (Nat.le_of_ble_eq_true rfl) dX_read_1 ⟨(Nat.le_of_ble_eq_true rfl), (Nat.le_of_ble_eq_true rfl)⟩ htab hlocks
set_option maxHeartbeats 4000000 in
set_option maxRecDepth 100000 in
theorem mX_read_u (l : Launch) (hls : l.stackTraces = false) (D : va_G) (o a b : Nat) (cA iA : ClassId) (cf : Nat → Int64) (uf : Nat → Int32) (q h : Nat) (hq : q < 400) (hh : h < 2) (hil : il uf (dk q) (q / 4) = true) : vx_Met l yX_read (.code yX_read cX_read 5 (some .long) :: gW) ({ frames := 7, cells := 1, slots := 6, locals := 116 }) (pTW D (wX o a b cA iA cf uf) (kT cA iA) [.ref o, .int (nI q), .int (nI h)]) qNl (XE UOE) 1 6 (fun _ => False) := by
  refine vx_ofW (cc := cX_read) (maxL := 5) (ret := (some .long)) (by decide) rfl ?_
  intro p e s m args below meth c s₁ B hml htab hv
  obtain ⟨rfl, hF, hP, hK⟩ := hv
  have hx := B.exec
  have hb := B.bytes
  have hr := B.returns
  have hts := atoms_spec (ws := (.code yX_read cX_read 5 (some .long) :: gW)) B.pre
  have hg : ∀ w ∈ gW, w.before ([.ref o, .int (nI q), .int (nI h)]).toArray s = true := fun w h => hts w (List.mem_cons_of_mem _ h)
  have hown : s.vm.findClass R_X = some m.cls := findClass_of_methodNamed B.named
  have hlocks := B.notSynchronized
  have hl := lv_entry ([.ref o, .int (nI q), .int (nI h)]) (n := 5) (Nat.le_of_ble_eq_true rfl)
  rw [lg_entry_eq]
  generalize (lg_sl ([.ref o, .int (nI q), .int (nI h)]) ++ List.replicate (5 - (lg_sl ([.ref o, .int (nI q), .int (nI h)])).length) Slot.unset).toArray = ls at hl ⊢
  have hl : lv_has ls 5 [(0, .ref o), (1, .int (nI q)), (2, .int (nI h))] := hl
  refine lv_iload_n hx hb dX_read_0 rfl (lv_at hl 1 rfl) ?_
  refine kSn (n := 1) (As := [.int (nI q)]) (rest := []) ⟨hx, hb, hml, hown, hts⟩ (mX_checkPlace_ok l q (by omega)) w_80 w_81 w_1 w_82 (by decide +kernel) ⟨rfl, rfl⟩ ⟨(Nat.le_of_ble_eq_true rfl), (Nat.le_of_ble_eq_true rfl)⟩ rfl hl.1 rfl (Nat.le_of_ble_eq_true rfl) dX_read_1 ⟨Nat.zero_le _, Nat.zero_le _⟩ ?_
  refine lv_iload_n hx hb dX_read_4 rfl (lv_at hl 2 rfl) ?_
  refine kSn (n := 1) (As := [.int (nI h)]) (rest := []) ⟨hx, hb, hml, hown, hts⟩ (mX_checkHalf_ok l h (by omega)) w_151 w_152 w_1 w_153 (by decide +kernel) ⟨rfl, rfl⟩ ⟨(Nat.le_of_ble_eq_true rfl), (Nat.le_of_ble_eq_true rfl)⟩ rfl hl.1 rfl (Nat.le_of_ble_eq_true rfl) dX_read_5 ⟨Nat.zero_le _, Nat.zero_le _⟩ ?_
  refine lv_iload_n hx hb dX_read_8 rfl (lv_at hl 1 rfl) ?_
  refine kS (n := 1) (As := [.int (nI q)]) (rest := []) ⟨hx, hb, hml, hown, hts⟩ (mX_stripeOf l q (by omega)) w_64 w_65 w_1 w_66 (by decide +kernel) ⟨rfl, rfl⟩ ⟨(Nat.le_of_ble_eq_true rfl), (Nat.le_of_ble_eq_true rfl)⟩ rfl hl.1 rfl (Nat.le_of_ble_eq_true rfl) dX_read_9 ⟨Nat.zero_le _, Nat.zero_le _⟩ ?_
  refine lv_istore_n hx hb dX_read_12 rfl hl (by decide) rfl (fun ls hl => ?_)
  have hl : lv_has ls 5 [(3, .int (nI (q / 4))), (0, .ref o), (1, .int (nI q)), (2, .int (nI h))] := hl
  refine lv_iload_n hx hb dX_read_13 rfl (lv_at hl 2 rfl) ?_
  refine kS (n := 1) (As := [.int (nI q)]) (rest := []) ⟨hx, hb, hml, hown, hts⟩ (mX_diskOf l q (by omega)) w_61 w_62 w_1 w_63 (by decide +kernel) ⟨rfl, rfl⟩ ⟨(Nat.le_of_ble_eq_true rfl), (Nat.le_of_ble_eq_true rfl)⟩ rfl hl.1 rfl (Nat.le_of_ble_eq_true rfl) dX_read_14 ⟨Nat.zero_le _, Nat.zero_le _⟩ ?_
  refine lv_istore hx hb dX_read_17 hl (by decide) rfl (fun ls hl => ?_)
  have hl : lv_has ls 5 [(4, .int (nI (dk q))), (3, .int (nI (q / 4))), (0, .ref o), (1, .int (nI q)), (2, .int (nI h))] := hl
  refine lv_aload_n hx hb dX_read_19 rfl (lv_at hl 2 rfl) ?_
  refine lv_iload hx hb dX_read_20 (lv_at hl 0 rfl) ?_
  refine lv_iload_n hx hb dX_read_22 rfl (lv_at hl 1 rfl) ?_
  refine kV (n := 2) (As := [.int (nI (dk q)), .int (nI (q / 4))]) (rest := []) ⟨hx, hb, hml, hown, hts⟩ (mX_isLost l D o a b cA iA cf uf (dk q) (q / 4) (dk_lt _) (by omega)) w_67 w_69 v_5 w_1 w_70 (by decide +kernel) ⟨rfl, rfl⟩ ⟨(Nat.le_of_ble_eq_true rfl), (Nat.le_of_ble_eq_true rfl)⟩ hP hK 0 0 rfl rfl rfl hl.1 rfl (Nat.le_of_ble_eq_true rfl) dX_read_23 ⟨Nat.zero_le _, Nat.zero_le _⟩ ?_
  refine lv_if_eq (tgt := 39) hx hb dX_read_26 (by decide) (fun h26 => absurd h26 (bi_nz hil)) (fun h26 => ?_)
  exact thr (E := UOE) (tx := "the place is lost") hx hb hls hF hown hg (by decide +kernel) (by decide +kernel) w_155 w_7 atG_U atB_U atO_U (by decide +kernel) (hl.1.trans hml.symm) dX_read_29 dX_read_32 dX_read_33 dX_read_35 dX_read_38 htab ⟨(Nat.le_of_ble_eq_true rfl), (Nat.le_of_ble_eq_true rfl), (Nat.le_of_ble_eq_true rfl), (Nat.le_of_ble_eq_true rfl)⟩ hlocks
set_option maxHeartbeats 4000000 in
set_option maxRecDepth 100000 in
theorem mX_write_a (l : Launch) (hls : l.stackTraces = false) (D : va_G) (o a b : Nat) (cA iA : ClassId) (cf : Nat → Int64) (uf : Nat → Int32) (x y : Int32) (v : Int64) (hbad : (inR x 400 && inR y 2) = false) : vx_Met l yX_write (.code yX_write cX_write 10 none :: gW) ({ frames := 7, cells := 1, slots := 6, locals := 116 }) (pTW D (wX o a b cA iA cf uf) (kT cA iA) [.ref o, .int x, .int y, .long v]) qNv (XE IAE) 1 6 (fun _ => False) := by
  refine vx_ofW (cc := cX_write) (maxL := 10) (ret := none) (by decide) rfl ?_
  intro p e s m args below meth c s₁ B hml htab hv
  obtain ⟨rfl, hF, hP, hK⟩ := hv
  have hx := B.exec
  have hb := B.bytes
  have hr := B.returns
  have hts := atoms_spec (ws := (.code yX_write cX_write 10 none :: gW)) B.pre
  have hg : ∀ w ∈ gW, w.before ([.ref o, .int x, .int y, .long v]).toArray s = true := fun w h => hts w (List.mem_cons_of_mem _ h)
  have hown : s.vm.findClass R_X = some m.cls := findClass_of_methodNamed B.named
  have hlocks := B.notSynchronized
  have hl := lv_entry ([.ref o, .int x, .int y, .long v]) (n := 10) (Nat.le_of_ble_eq_true rfl)
  rw [lg_entry_eq]
  generalize (lg_sl ([.ref o, .int x, .int y, .long v]) ++ List.replicate (10 - (lg_sl ([.ref o, .int x, .int y, .long v])).length) Slot.unset).toArray = ls at hl ⊢
  have hl : lv_has ls 10 [(0, .ref o), (1, .int x), (2, .int y), (3, .long v)] := hl
  refine lv_iload_n hx hb dX_write_0 rfl (lv_at hl 1 rfl) ?_
  by_cases c1 : inR x 400 = true
  · obtain ⟨q, hq, rfl⟩ := inR_nat (by decide) c1
    refine kSn (n := 1) (As := [.int (nI q)]) (rest := []) ⟨hx, hb, hml, hown, hts⟩ (mX_checkPlace_ok l q (by omega)) w_80 w_81 w_1 w_82 (by decide +kernel) ⟨rfl, rfl⟩ ⟨(Nat.le_of_ble_eq_true rfl), (Nat.le_of_ble_eq_true rfl)⟩ rfl hl.1 rfl (Nat.le_of_ble_eq_true rfl) dX_write_1 ⟨Nat.zero_le _, Nat.zero_le _⟩ ?_
    refine lv_iload_n hx hb dX_write_4 rfl (lv_at hl 2 rfl) ?_
    by_cases c5 : inR y 2 = true
    · obtain ⟨h, hh, rfl⟩ := inR_nat (by decide) c5
      refine kSn (n := 1) (As := [.int (nI h)]) (rest := []) ⟨hx, hb, hml, hown, hts⟩ (mX_checkHalf_ok l h (by omega)) w_151 w_152 w_1 w_153 (by decide +kernel) ⟨rfl, rfl⟩ ⟨(Nat.le_of_ble_eq_true rfl), (Nat.le_of_ble_eq_true rfl)⟩ rfl hl.1 rfl (Nat.le_of_ble_eq_true rfl) dX_write_5 ⟨Nat.zero_le _, Nat.zero_le _⟩ ?_
      rw [c1, c5] at hbad
      exact Bool.noConfusion hbad
    · exact passS (n := 1) (As := [.int y]) (rest := []) ⟨hx, hb, hml, hown, hts⟩ (mX_checkHalf_bad l hls y (Bool.eq_false_iff.mpr c5)) w_151 w_152 w_1 w_153 (by decide +kernel) ⟨rfl, rfl⟩ ⟨(Nat.le_of_ble_eq_true rfl), (Nat.le_of_ble_eq_true rfl)⟩ hF rfl hl.1 rfl (Nat.le_of_ble_eq_true rfl) dX_write_5 ⟨(Nat.le_of_ble_eq_true rfl), (Nat.le_of_ble_eq_true rfl)⟩ htab hlocks
  · exact passS (n := 1) (As := [.int x]) (rest := []) ⟨hx, hb, hml, hown, hts⟩ (mX_checkPlace_bad l hls x (Bool.eq_false_iff.mpr c1)) w_80 w_81 w_1 w_82 (by decide +kernel) ⟨rfl, rfl⟩ ⟨(Nat.le_of_ble_eq_true rfl), (Nat.le_of_ble_eq_true rfl)⟩ hF rfl hl.1 rfl (Nat.le_of_ble_eq_true rfl) dX_write_1 ⟨(Nat.le_of_ble_eq_true rfl), (Nat.le_of_ble_eq_true rfl)⟩ htab hlocks
set_option maxHeartbeats 4000000 in
set_option maxRecDepth 100000 in
theorem mX_write_u (l : Launch) (hls : l.stackTraces = false) (D : va_G) (o a b : Nat) (cA iA : ClassId) (cf : Nat → Int64) (uf : Nat → Int32) (q h : Nat) (hq : q < 400) (hh : h < 2) (v : Int64) (hil : il uf (dk q) (q / 4) = true) : vx_Met l yX_write (.code yX_write cX_write 10 none :: gW) ({ frames := 7, cells := 1, slots := 6, locals := 116 }) (pTW D (wX o a b cA iA cf uf) (kT cA iA) [.ref o, .int (nI q), .int (nI h), .long v]) qNv (XE UOE) 1 6 (fun _ => False) := by
  refine vx_ofW (cc := cX_write) (maxL := 10) (ret := none) (by decide) rfl ?_
  intro p e s m args below meth c s₁ B hml htab hv
  obtain ⟨rfl, hF, hP, hK⟩ := hv
  have hx := B.exec
  have hb := B.bytes
  have hr := B.returns
  have hts := atoms_spec (ws := (.code yX_write cX_write 10 none :: gW)) B.pre
  have hg : ∀ w ∈ gW, w.before ([.ref o, .int (nI q), .int (nI h), .long v]).toArray s = true := fun w h => hts w (List.mem_cons_of_mem _ h)
  have hown : s.vm.findClass R_X = some m.cls := findClass_of_methodNamed B.named
  have hlocks := B.notSynchronized
  have hl := lv_entry ([.ref o, .int (nI q), .int (nI h), .long v]) (n := 10) (Nat.le_of_ble_eq_true rfl)
  rw [lg_entry_eq]
  generalize (lg_sl ([.ref o, .int (nI q), .int (nI h), .long v]) ++ List.replicate (10 - (lg_sl ([.ref o, .int (nI q), .int (nI h), .long v])).length) Slot.unset).toArray = ls at hl ⊢
  have hl : lv_has ls 10 [(0, .ref o), (1, .int (nI q)), (2, .int (nI h)), (3, .long v)] := hl
  refine lv_iload_n hx hb dX_write_0 rfl (lv_at hl 1 rfl) ?_
  refine kSn (n := 1) (As := [.int (nI q)]) (rest := []) ⟨hx, hb, hml, hown, hts⟩ (mX_checkPlace_ok l q (by omega)) w_80 w_81 w_1 w_82 (by decide +kernel) ⟨rfl, rfl⟩ ⟨(Nat.le_of_ble_eq_true rfl), (Nat.le_of_ble_eq_true rfl)⟩ rfl hl.1 rfl (Nat.le_of_ble_eq_true rfl) dX_write_1 ⟨Nat.zero_le _, Nat.zero_le _⟩ ?_
  refine lv_iload_n hx hb dX_write_4 rfl (lv_at hl 2 rfl) ?_
  refine kSn (n := 1) (As := [.int (nI h)]) (rest := []) ⟨hx, hb, hml, hown, hts⟩ (mX_checkHalf_ok l h (by omega)) w_151 w_152 w_1 w_153 (by decide +kernel) ⟨rfl, rfl⟩ ⟨(Nat.le_of_ble_eq_true rfl), (Nat.le_of_ble_eq_true rfl)⟩ rfl hl.1 rfl (Nat.le_of_ble_eq_true rfl) dX_write_5 ⟨Nat.zero_le _, Nat.zero_le _⟩ ?_
  refine lv_iload_n hx hb dX_write_8 rfl (lv_at hl 1 rfl) ?_
  refine kS (n := 1) (As := [.int (nI q)]) (rest := []) ⟨hx, hb, hml, hown, hts⟩ (mX_stripeOf l q (by omega)) w_64 w_65 w_1 w_66 (by decide +kernel) ⟨rfl, rfl⟩ ⟨(Nat.le_of_ble_eq_true rfl), (Nat.le_of_ble_eq_true rfl)⟩ rfl hl.1 rfl (Nat.le_of_ble_eq_true rfl) dX_write_9 ⟨Nat.zero_le _, Nat.zero_le _⟩ ?_
  refine lv_istore hx hb dX_write_12 hl (by decide) rfl (fun ls hl => ?_)
  have hl : lv_has ls 10 [(5, .int (nI (q / 4))), (0, .ref o), (1, .int (nI q)), (2, .int (nI h)), (3, .long v)] := hl
  refine lv_iload_n hx hb dX_write_14 rfl (lv_at hl 2 rfl) ?_
  refine kS (n := 1) (As := [.int (nI q)]) (rest := []) ⟨hx, hb, hml, hown, hts⟩ (mX_diskOf l q (by omega)) w_61 w_62 w_1 w_63 (by decide +kernel) ⟨rfl, rfl⟩ ⟨(Nat.le_of_ble_eq_true rfl), (Nat.le_of_ble_eq_true rfl)⟩ rfl hl.1 rfl (Nat.le_of_ble_eq_true rfl) dX_write_15 ⟨Nat.zero_le _, Nat.zero_le _⟩ ?_
  refine lv_istore hx hb dX_write_18 hl (by decide) rfl (fun ls hl => ?_)
  have hl : lv_has ls 10 [(6, .int (nI (dk q))), (5, .int (nI (q / 4))), (0, .ref o), (1, .int (nI q)), (2, .int (nI h)), (3, .long v)] := hl
  refine lv_aload_n hx hb dX_write_20 rfl (lv_at hl 2 rfl) ?_
  refine lv_iload hx hb dX_write_21 (lv_at hl 0 rfl) ?_
  refine lv_iload hx hb dX_write_23 (lv_at hl 1 rfl) ?_
  refine kV (n := 2) (As := [.int (nI (dk q)), .int (nI (q / 4))]) (rest := []) ⟨hx, hb, hml, hown, hts⟩ (mX_isLost l D o a b cA iA cf uf (dk q) (q / 4) (dk_lt _) (by omega)) w_67 w_69 v_5 w_1 w_70 (by decide +kernel) ⟨rfl, rfl⟩ ⟨(Nat.le_of_ble_eq_true rfl), (Nat.le_of_ble_eq_true rfl)⟩ hP hK 0 0 rfl rfl rfl hl.1 rfl (Nat.le_of_ble_eq_true rfl) dX_write_25 ⟨Nat.zero_le _, Nat.zero_le _⟩ ?_
  refine lv_if_eq (tgt := 41) hx hb dX_write_28 (by decide) (fun h28 => absurd h28 (bi_nz hil)) (fun h28 => ?_)
  exact thr (E := UOE) (tx := "the write is refused") hx hb hls hF hown hg (by decide +kernel) (by decide +kernel) w_155 w_7 atG_U atB_U atO_U (by decide +kernel) (hl.1.trans hml.symm) dX_write_31 dX_write_34 dX_write_35 dX_write_37 dX_write_40 htab ⟨(Nat.le_of_ble_eq_true rfl), (Nat.le_of_ble_eq_true rfl), (Nat.le_of_ble_eq_true rfl), (Nat.le_of_ble_eq_true rfl)⟩ hlocks
set_option maxHeartbeats 4000000 in
set_option maxRecDepth 100000 in
theorem mX_fail_a (l : Launch) (hls : l.stackTraces = false) (D : va_G) (o a b : Nat) (cA iA : ClassId) (cf : Nat → Int64) (uf : Nat → Int32) (x : Int32) (hbad : inR x 5 = false) : vx_Met l yX_fail (.code yX_fail cX_fail 2 none :: gW) ({ frames := 7, cells := 1, slots := 6, locals := 116 }) (pTW D (wX o a b cA iA cf uf) (kT cA iA) [.ref o, .int x]) qNv (XE IAE) 1 6 (fun _ => False) := by
  refine vx_ofW (cc := cX_fail) (maxL := 2) (ret := none) (by decide) rfl ?_
  intro p e s m args below meth c s₁ B hml htab hv
  obtain ⟨rfl, hF, hP, hK⟩ := hv
  have hx := B.exec
  have hb := B.bytes
  have hr := B.returns
  have hts := atoms_spec (ws := (.code yX_fail cX_fail 2 none :: gW)) B.pre
  have hg : ∀ w ∈ gW, w.before ([.ref o, .int x]).toArray s = true := fun w h => hts w (List.mem_cons_of_mem _ h)
  have hown : s.vm.findClass R_X = some m.cls := findClass_of_methodNamed B.named
  have hlocks := B.notSynchronized
  have hl := lv_entry ([.ref o, .int x]) (n := 2) (Nat.le_of_ble_eq_true rfl)
  rw [lg_entry_eq]
  generalize (lg_sl ([.ref o, .int x]) ++ List.replicate (2 - (lg_sl ([.ref o, .int x])).length) Slot.unset).toArray = ls at hl ⊢
  have hl : lv_has ls 2 [(0, .ref o), (1, .int x)] := hl
  refine lv_iload_n hx hb dX_fail_0 rfl (lv_at hl 1 rfl) ?_
  by_cases c1 : inR x 5 = true
  · obtain ⟨d, hd, rfl⟩ := inR_nat (by decide) c1
    refine kSn (n := 1) (As := [.int (nI d)]) (rest := []) ⟨hx, hb, hml, hown, hts⟩ (mX_checkDisk_ok l d (by omega)) w_190 w_191 w_1 w_192 (by decide +kernel) ⟨rfl, rfl⟩ ⟨(Nat.le_of_ble_eq_true rfl), (Nat.le_of_ble_eq_true rfl)⟩ rfl hl.1 rfl (Nat.le_of_ble_eq_true rfl) dX_fail_1 ⟨Nat.zero_le _, Nat.zero_le _⟩ ?_
    exact absurd (c1.symm.trans hbad) Bool.noConfusion
  · exact passS (n := 1) (As := [.int x]) (rest := []) ⟨hx, hb, hml, hown, hts⟩ (mX_checkDisk_bad l hls x (Bool.eq_false_iff.mpr c1)) w_190 w_191 w_1 w_192 (by decide +kernel) ⟨rfl, rfl⟩ ⟨(Nat.le_of_ble_eq_true rfl), (Nat.le_of_ble_eq_true rfl)⟩ hF rfl hl.1 rfl (Nat.le_of_ble_eq_true rfl) dX_fail_1 ⟨(Nat.le_of_ble_eq_true rfl), (Nat.le_of_ble_eq_true rfl)⟩ htab hlocks
set_option maxHeartbeats 4000000 in
set_option maxRecDepth 100000 in
theorem mX_replace_a (l : Launch) (hls : l.stackTraces = false) (D : va_G) (o a b : Nat) (cA iA : ClassId) (cf : Nat → Int64) (uf : Nat → Int32) (x : Int32) (hbad : inR x 5 = false) : vx_Met l yX_replace (.code yX_replace cX_replace 4 none :: gW) ({ frames := 7, cells := 1, slots := 6, locals := 116 }) (pTW D (wX o a b cA iA cf uf) (kT cA iA) [.ref o, .int x]) qNv (XE IAE) 1 6 (fun _ => False) := by
  refine vx_ofW (cc := cX_replace) (maxL := 4) (ret := none) (by decide) rfl ?_
  intro p e s m args below meth c s₁ B hml htab hv
  obtain ⟨rfl, hF, hP, hK⟩ := hv
  have hx := B.exec
  have hb := B.bytes
  have hr := B.returns
  have hts := atoms_spec (ws := (.code yX_replace cX_replace 4 none :: gW)) B.pre
  have hg : ∀ w ∈ gW, w.before ([.ref o, .int x]).toArray s = true := fun w h => hts w (List.mem_cons_of_mem _ h)
  have hown : s.vm.findClass R_X = some m.cls := findClass_of_methodNamed B.named
  have hlocks := B.notSynchronized
  have hl := lv_entry ([.ref o, .int x]) (n := 4) (Nat.le_of_ble_eq_true rfl)
  rw [lg_entry_eq]
  generalize (lg_sl ([.ref o, .int x]) ++ List.replicate (4 - (lg_sl ([.ref o, .int x])).length) Slot.unset).toArray = ls at hl ⊢
  have hl : lv_has ls 4 [(0, .ref o), (1, .int x)] := hl
  refine lv_iload_n hx hb dX_replace_0 rfl (lv_at hl 1 rfl) ?_
  by_cases c1 : inR x 5 = true
  · obtain ⟨d, hd, rfl⟩ := inR_nat (by decide) c1
    refine kSn (n := 1) (As := [.int (nI d)]) (rest := []) ⟨hx, hb, hml, hown, hts⟩ (mX_checkDisk_ok l d (by omega)) w_190 w_191 w_1 w_192 (by decide +kernel) ⟨rfl, rfl⟩ ⟨(Nat.le_of_ble_eq_true rfl), (Nat.le_of_ble_eq_true rfl)⟩ rfl hl.1 rfl (Nat.le_of_ble_eq_true rfl) dX_replace_1 ⟨Nat.zero_le _, Nat.zero_le _⟩ ?_
    exact absurd (c1.symm.trans hbad) Bool.noConfusion
  · exact passS (n := 1) (As := [.int x]) (rest := []) ⟨hx, hb, hml, hown, hts⟩ (mX_checkDisk_bad l hls x (Bool.eq_false_iff.mpr c1)) w_190 w_191 w_1 w_192 (by decide +kernel) ⟨rfl, rfl⟩ ⟨(Nat.le_of_ble_eq_true rfl), (Nat.le_of_ble_eq_true rfl)⟩ hF rfl hl.1 rfl (Nat.le_of_ble_eq_true rfl) dX_replace_1 ⟨(Nat.le_of_ble_eq_true rfl), (Nat.le_of_ble_eq_true rfl)⟩ htab hlocks
set_option maxHeartbeats 4000000 in
set_option maxRecDepth 100000 in
theorem mX_state_a (l : Launch) (hls : l.stackTraces = false) (D : va_G) (o a b : Nat) (cA iA : ClassId) (cf : Nat → Int64) (uf : Nat → Int32) (x : Int32) (hbad : inR x 5 = false) : vx_Met l yX_state (.code yX_state cX_state 3 (some .int) :: gW) ({ frames := 7, cells := 1, slots := 6, locals := 116 }) (pTW D (wX o a b cA iA cf uf) (kT cA iA) [.ref o, .int x]) qNi (XE IAE) 1 6 (fun _ => False) := by
  refine vx_ofW (cc := cX_state) (maxL := 3) (ret := (some .int)) (by decide) rfl ?_
  intro p e s m args below meth c s₁ B hml htab hv
  obtain ⟨rfl, hF, hP, hK⟩ := hv
  have hx := B.exec
  have hb := B.bytes
  have hr := B.returns
  have hts := atoms_spec (ws := (.code yX_state cX_state 3 (some .int) :: gW)) B.pre
  have hg : ∀ w ∈ gW, w.before ([.ref o, .int x]).toArray s = true := fun w h => hts w (List.mem_cons_of_mem _ h)
  have hown : s.vm.findClass R_X = some m.cls := findClass_of_methodNamed B.named
  have hlocks := B.notSynchronized
  have hl := lv_entry ([.ref o, .int x]) (n := 3) (Nat.le_of_ble_eq_true rfl)
  rw [lg_entry_eq]
  generalize (lg_sl ([.ref o, .int x]) ++ List.replicate (3 - (lg_sl ([.ref o, .int x])).length) Slot.unset).toArray = ls at hl ⊢
  have hl : lv_has ls 3 [(0, .ref o), (1, .int x)] := hl
  refine lv_iload_n hx hb dX_state_0 rfl (lv_at hl 1 rfl) ?_
  by_cases c1 : inR x 5 = true
  · obtain ⟨d, hd, rfl⟩ := inR_nat (by decide) c1
    refine kSn (n := 1) (As := [.int (nI d)]) (rest := []) ⟨hx, hb, hml, hown, hts⟩ (mX_checkDisk_ok l d (by omega)) w_190 w_191 w_1 w_192 (by decide +kernel) ⟨rfl, rfl⟩ ⟨(Nat.le_of_ble_eq_true rfl), (Nat.le_of_ble_eq_true rfl)⟩ rfl hl.1 rfl (Nat.le_of_ble_eq_true rfl) dX_state_1 ⟨Nat.zero_le _, Nat.zero_le _⟩ ?_
    exact absurd (c1.symm.trans hbad) Bool.noConfusion
  · exact passS (n := 1) (As := [.int x]) (rest := []) ⟨hx, hb, hml, hown, hts⟩ (mX_checkDisk_bad l hls x (Bool.eq_false_iff.mpr c1)) w_190 w_191 w_1 w_192 (by decide +kernel) ⟨rfl, rfl⟩ ⟨(Nat.le_of_ble_eq_true rfl), (Nat.le_of_ble_eq_true rfl)⟩ hF rfl hl.1 rfl (Nat.le_of_ble_eq_true rfl) dX_state_1 ⟨(Nat.le_of_ble_eq_true rfl), (Nat.le_of_ble_eq_true rfl)⟩ htab hlocks
set_option maxHeartbeats 4000000 in
set_option maxRecDepth 100000 in
theorem mX_replace_s (l : Launch) (hls : l.stackTraces = false) (D : va_G) (o a b : Nat) (cA iA : ClassId) (cf : Nat → Int64) (uf : Nat → Int32) (d : Nat) (hd : d < 5) (hu : ¬ uf d = -1) : vx_Met l yX_replace (.code yX_replace cX_replace 4 none :: gW) ({ frames := 7, cells := 1, slots := 6, locals := 116 }) (pTW D (wX o a b cA iA cf uf) (kT cA iA) [.ref o, .int (nI d)]) qNv (XE ISE) 1 6 (fun _ => False) := by
  refine vx_ofW (cc := cX_replace) (maxL := 4) (ret := none) (by decide) rfl ?_
  intro p e s m args below meth c s₁ B hml htab hv
  obtain ⟨rfl, hF, hP, hK⟩ := hv
  have hx := B.exec
  have hb := B.bytes
  have hr := B.returns
  have hts := atoms_spec (ws := (.code yX_replace cX_replace 4 none :: gW)) B.pre
  have hg : ∀ w ∈ gW, w.before ([.ref o, .int (nI d)]).toArray s = true := fun w h => hts w (List.mem_cons_of_mem _ h)
  have hown : s.vm.findClass R_X = some m.cls := findClass_of_methodNamed B.named
  have hlocks := B.notSynchronized
  have hl := lv_entry ([.ref o, .int (nI d)]) (n := 4) (Nat.le_of_ble_eq_true rfl)
  rw [lg_entry_eq]
  generalize (lg_sl ([.ref o, .int (nI d)]) ++ List.replicate (4 - (lg_sl ([.ref o, .int (nI d)])).length) Slot.unset).toArray = ls at hl ⊢
  have hl : lv_has ls 4 [(0, .ref o), (1, .int (nI d))] := hl
  refine lv_iload_n hx hb dX_replace_0 rfl (lv_at hl 1 rfl) ?_
  refine kSn (n := 1) (As := [.int (nI d)]) (rest := []) ⟨hx, hb, hml, hown, hts⟩ (mX_checkDisk_ok l d (by omega)) w_190 w_191 w_1 w_192 (by decide +kernel) ⟨rfl, rfl⟩ ⟨(Nat.le_of_ble_eq_true rfl), (Nat.le_of_ble_eq_true rfl)⟩ rfl hl.1 rfl (Nat.le_of_ble_eq_true rfl) dX_replace_1 ⟨Nat.zero_le _, Nat.zero_le _⟩ ?_
  refine lv_aload_n hx hb dX_replace_4 rfl (lv_at hl 0 rfl) ?_
  refine va_get (D := D) (ci := 0) (v := .ref b) (C := R_X) (T := T_X) (N := 2) hx hb hg uX_in hown hK hP 0 rfl rfl 1 (by decide) (hg _ w_19) (fun _ h9 => h9) rfl dX_replace_5 ?_
  refine lv_iload_n hx hb dX_replace_8 rfl (lv_at hl 1 rfl) ?_
  refine aI hx hb hK hP 2 1 rfl rfl (by omega) (by decide) dX_replace_9 ?_
  refine lv_iconst (v := -1) hx hb dX_replace_10 (by decide +kernel) ?_
  refine lv_icmp_eq (tgt := 24) hx hb dX_replace_11 (by decide) (fun h11 => absurd h11 hu) (fun h11 => ?_)
  exact thr (E := ISE) (tx := "the disk did not fail") hx hb hls hF hown hg (by decide +kernel) (by decide +kernel) w_202 w_8 atG_S atB_S atO_S (by decide +kernel) (hl.1.trans hml.symm) dX_replace_14 dX_replace_17 dX_replace_18 dX_replace_20 dX_replace_23 htab ⟨(Nat.le_of_ble_eq_true rfl), (Nat.le_of_ble_eq_true rfl), (Nat.le_of_ble_eq_true rfl), (Nat.le_of_ble_eq_true rfl)⟩ hlocks
set_option maxHeartbeats 4000000 in
set_option maxRecDepth 100000 in
theorem mX_rebuild_a (l : Launch) (hls : l.stackTraces = false) (D : va_G) (o a b : Nat) (cA iA : ClassId) (cf : Nat → Int64) (uf : Nat → Int32) (x n : Int32) (hbad : (inR x 5 && !decide (n < 0)) = false) : vx_Met l yX_rebuild (.code yX_rebuild cX_rebuild 6 (some .int) :: gW) ({ frames := 7, cells := 1, slots := 6, locals := 116 }) (pTW D (wX o a b cA iA cf uf) (kT cA iA) [.ref o, .int x, .int n]) qNi (XE IAE) 1 6 (fun _ => False) := by
  refine vx_ofW (cc := cX_rebuild) (maxL := 6) (ret := (some .int)) (by decide) rfl ?_
  intro p e s m args below meth c s₁ B hml htab hv
  obtain ⟨rfl, hF, hP, hK⟩ := hv
  have hx := B.exec
  have hb := B.bytes
  have hr := B.returns
  have hts := atoms_spec (ws := (.code yX_rebuild cX_rebuild 6 (some .int) :: gW)) B.pre
  have hg : ∀ w ∈ gW, w.before ([.ref o, .int x, .int n]).toArray s = true := fun w h => hts w (List.mem_cons_of_mem _ h)
  have hown : s.vm.findClass R_X = some m.cls := findClass_of_methodNamed B.named
  have hlocks := B.notSynchronized
  have hl := lv_entry ([.ref o, .int x, .int n]) (n := 6) (Nat.le_of_ble_eq_true rfl)
  rw [lg_entry_eq]
  generalize (lg_sl ([.ref o, .int x, .int n]) ++ List.replicate (6 - (lg_sl ([.ref o, .int x, .int n])).length) Slot.unset).toArray = ls at hl ⊢
  have hl : lv_has ls 6 [(0, .ref o), (1, .int x), (2, .int n)] := hl
  refine lv_iload_n hx hb dX_rebuild_0 rfl (lv_at hl 1 rfl) ?_
  by_cases c1 : inR x 5 = true
  · obtain ⟨d, hd, rfl⟩ := inR_nat (by decide) c1
    refine kSn (n := 1) (As := [.int (nI d)]) (rest := []) ⟨hx, hb, hml, hown, hts⟩ (mX_checkDisk_ok l d (by omega)) w_190 w_191 w_1 w_192 (by decide +kernel) ⟨rfl, rfl⟩ ⟨(Nat.le_of_ble_eq_true rfl), (Nat.le_of_ble_eq_true rfl)⟩ rfl hl.1 rfl (Nat.le_of_ble_eq_true rfl) dX_rebuild_1 ⟨Nat.zero_le _, Nat.zero_le _⟩ ?_
    refine lv_iload_n hx hb dX_rebuild_4 rfl (lv_at hl 2 rfl) ?_
    refine lv_if_ge (tgt := 18) hx hb dX_rebuild_5 (by decide) (fun h5 => absurd h5 (fun z => by rw [c1, decide_eq_false (Int32.not_lt.mpr z)] at hbad; exact Bool.noConfusion hbad)) (fun h5 => ?_)
    exact thr (E := IAE) (tx := "n is below 0") hx hb hls hF hown hg (by decide +kernel) (by decide +kernel) w_83 w_6 atG_A atB_A atO_A (by decide +kernel) (hl.1.trans hml.symm) dX_rebuild_8 dX_rebuild_11 dX_rebuild_12 dX_rebuild_14 dX_rebuild_17 htab ⟨(Nat.le_of_ble_eq_true rfl), (Nat.le_of_ble_eq_true rfl), (Nat.le_of_ble_eq_true rfl), (Nat.le_of_ble_eq_true rfl)⟩ hlocks
  · exact passS (n := 1) (As := [.int x]) (rest := []) ⟨hx, hb, hml, hown, hts⟩ (mX_checkDisk_bad l hls x (Bool.eq_false_iff.mpr c1)) w_190 w_191 w_1 w_192 (by decide +kernel) ⟨rfl, rfl⟩ ⟨(Nat.le_of_ble_eq_true rfl), (Nat.le_of_ble_eq_true rfl)⟩ hF rfl hl.1 rfl (Nat.le_of_ble_eq_true rfl) dX_rebuild_1 ⟨(Nat.le_of_ble_eq_true rfl), (Nat.le_of_ble_eq_true rfl)⟩ htab hlocks
set_option maxHeartbeats 4000000 in
set_option maxRecDepth 100000 in
theorem mX_rebuild_s (l : Launch) (hls : l.stackTraces = false) (D : va_G) (o a b : Nat) (cA iA : ClassId) (cf : Nat → Int64) (uf : Nat → Int32) (d : Nat) (n : Int32) (hd : d < 5) (hn : 0 ≤ n) (hu : uf d = nI 100 ∨ uf d = -1) : vx_Met l yX_rebuild (.code yX_rebuild cX_rebuild 6 (some .int) :: gW) ({ frames := 7, cells := 1, slots := 6, locals := 116 }) (pTW D (wX o a b cA iA cf uf) (kT cA iA) [.ref o, .int (nI d), .int n]) qNi (XE ISE) 1 6 (fun _ => False) := by
  refine vx_ofW (cc := cX_rebuild) (maxL := 6) (ret := (some .int)) (by decide) rfl ?_
  intro p e s m args below meth c s₁ B hml htab hv
  obtain ⟨rfl, hF, hP, hK⟩ := hv
  have hx := B.exec
  have hb := B.bytes
  have hr := B.returns
  have hts := atoms_spec (ws := (.code yX_rebuild cX_rebuild 6 (some .int) :: gW)) B.pre
  have hg : ∀ w ∈ gW, w.before ([.ref o, .int (nI d), .int n]).toArray s = true := fun w h => hts w (List.mem_cons_of_mem _ h)
  have hown : s.vm.findClass R_X = some m.cls := findClass_of_methodNamed B.named
  have hlocks := B.notSynchronized
  have hl := lv_entry ([.ref o, .int (nI d), .int n]) (n := 6) (Nat.le_of_ble_eq_true rfl)
  rw [lg_entry_eq]
  generalize (lg_sl ([.ref o, .int (nI d), .int n]) ++ List.replicate (6 - (lg_sl ([.ref o, .int (nI d), .int n])).length) Slot.unset).toArray = ls at hl ⊢
  have hl : lv_has ls 6 [(0, .ref o), (1, .int (nI d)), (2, .int n)] := hl
  refine lv_iload_n hx hb dX_rebuild_0 rfl (lv_at hl 1 rfl) ?_
  refine kSn (n := 1) (As := [.int (nI d)]) (rest := []) ⟨hx, hb, hml, hown, hts⟩ (mX_checkDisk_ok l d (by omega)) w_190 w_191 w_1 w_192 (by decide +kernel) ⟨rfl, rfl⟩ ⟨(Nat.le_of_ble_eq_true rfl), (Nat.le_of_ble_eq_true rfl)⟩ rfl hl.1 rfl (Nat.le_of_ble_eq_true rfl) dX_rebuild_1 ⟨Nat.zero_le _, Nat.zero_le _⟩ ?_
  refine lv_iload_n hx hb dX_rebuild_4 rfl (lv_at hl 2 rfl) ?_
  refine lv_if_ge (tgt := 18) hx hb dX_rebuild_5 (by decide) (fun h5 => ?_) (fun h5 => absurd hn h5)
  refine lv_aload_n hx hb dX_rebuild_18 rfl (lv_at hl 0 rfl) ?_
  refine va_get (D := D) (ci := 0) (v := .ref b) (C := R_X) (T := T_X) (N := 2) hx hb hg uX_in hown hK hP 0 rfl rfl 1 (by decide) (hg _ w_19) (fun _ h9 => h9) rfl dX_rebuild_19 ?_
  refine lv_iload_n hx hb dX_rebuild_22 rfl (lv_at hl 1 rfl) ?_
  refine aI hx hb hK hP 2 1 rfl rfl (by omega) (by decide) dX_rebuild_23 ?_
  refine lv_istore_n hx hb dX_rebuild_24 rfl hl (by decide) rfl (fun ls hl => ?_)
  have hl : lv_has ls 6 [(3, .int (uf d)), (0, .ref o), (1, .int (nI d)), (2, .int n)] := hl
  refine lv_iload_n hx hb dX_rebuild_25 rfl (lv_at hl 0 rfl) ?_
  refine lv_bipush (v := nI 100) hx hb dX_rebuild_26 (by decide +kernel) ?_
  refine lv_icmp_eq (tgt := 36) hx hb dX_rebuild_28 (by decide) (fun h28 => ?_) (fun h28 => ?_)
  · exact thr (E := ISE) (tx := "the disk is not being rebuilt") hx hb hls hF hown hg (by decide +kernel) (by decide +kernel) w_202 w_8 atG_S atB_S atO_S (by decide +kernel) (hl.1.trans hml.symm) dX_rebuild_36 dX_rebuild_39 dX_rebuild_40 dX_rebuild_42 dX_rebuild_45 htab ⟨(Nat.le_of_ble_eq_true rfl), (Nat.le_of_ble_eq_true rfl), (Nat.le_of_ble_eq_true rfl), (Nat.le_of_ble_eq_true rfl)⟩ hlocks
  · refine lv_iload_n hx hb dX_rebuild_31 rfl (lv_at hl 0 rfl) ?_
    refine lv_iconst (v := -1) hx hb dX_rebuild_32 (by decide +kernel) ?_
    refine lv_icmp_ne (tgt := 46) hx hb dX_rebuild_33 (by decide) (fun h33 => absurd h33 (fun z => z (hu.resolve_left h28))) (fun h33 => ?_)
    exact thr (E := ISE) (tx := "the disk is not being rebuilt") hx hb hls hF hown hg (by decide +kernel) (by decide +kernel) w_202 w_8 atG_S atB_S atO_S (by decide +kernel) (hl.1.trans hml.symm) dX_rebuild_36 dX_rebuild_39 dX_rebuild_40 dX_rebuild_42 dX_rebuild_45 htab ⟨(Nat.le_of_ble_eq_true rfl), (Nat.le_of_ble_eq_true rfl), (Nat.le_of_ble_eq_true rfl), (Nat.le_of_ble_eq_true rfl)⟩ hlocks
set_option maxHeartbeats 4000000 in
set_option maxRecDepth 100000 in
theorem mX_flip_a (l : Launch) (hls : l.stackTraces = false) (D : va_G) (o a b : Nat) (cA iA : ClassId) (cf : Nat → Int64) (uf : Nat → Int32) (x y z : Int32) (v : Int64) (hbad : (inR x 5 && (inR y 100 && inR z 2)) = false) : vx_Met l yX_flip (.code yX_flip cX_flip 6 none :: gW) ({ frames := 8, cells := 1, slots := 6, locals := 139 }) (pTW D (wX o a b cA iA cf uf) (kT cA iA) [.ref o, .int x, .int y, .int z, .long v]) qNv (XE IAE) 1 6 (fun _ => False) := by
  refine vx_ofW (cc := cX_flip) (maxL := 6) (ret := none) (by decide) rfl ?_
  intro p e s m args below meth c s₁ B hml htab hv
  obtain ⟨rfl, hF, hP, hK⟩ := hv
  have hx := B.exec
  have hb := B.bytes
  have hr := B.returns
  have hts := atoms_spec (ws := (.code yX_flip cX_flip 6 none :: gW)) B.pre
  have hg : ∀ w ∈ gW, w.before ([.ref o, .int x, .int y, .int z, .long v]).toArray s = true := fun w h => hts w (List.mem_cons_of_mem _ h)
  have hown : s.vm.findClass R_X = some m.cls := findClass_of_methodNamed B.named
  have hlocks := B.notSynchronized
  have hl := lv_entry ([.ref o, .int x, .int y, .int z, .long v]) (n := 6) (Nat.le_of_ble_eq_true rfl)
  rw [lg_entry_eq]
  generalize (lg_sl ([.ref o, .int x, .int y, .int z, .long v]) ++ List.replicate (6 - (lg_sl ([.ref o, .int x, .int y, .int z, .long v])).length) Slot.unset).toArray = ls at hl ⊢
  have hl : lv_has ls 6 [(0, .ref o), (1, .int x), (2, .int y), (3, .int z), (4, .long v)] := hl
  refine lv_aload_n hx hb dX_flip_0 rfl (lv_at hl 0 rfl) ?_
  refine lv_iload_n hx hb dX_flip_1 rfl (lv_at hl 1 rfl) ?_
  refine lv_iload_n hx hb dX_flip_2 rfl (lv_at hl 2 rfl) ?_
  refine lv_iload_n hx hb dX_flip_3 rfl (lv_at hl 3 rfl) ?_
  exact passV (n := 3) (As := [.int x, .int y, .int z]) (rest := []) ⟨hx, hb, hml, hown, hts⟩ (mX_checkStanding_a l hls D o a b cA iA cf uf x y z hbad) w_241 w_243 v_9 w_1 w_244 (by decide +kernel) ⟨rfl, rfl⟩ ⟨(Nat.le_of_ble_eq_true rfl), (Nat.le_of_ble_eq_true rfl)⟩ hF hP hK 0 0 rfl rfl rfl hl.1 rfl (Nat.le_of_ble_eq_true rfl) dX_flip_4 ⟨(Nat.le_of_ble_eq_true rfl), (Nat.le_of_ble_eq_true rfl)⟩ htab hlocks
set_option maxHeartbeats 4000000 in
set_option maxRecDepth 100000 in
theorem mX_flip_s (l : Launch) (hls : l.stackTraces = false) (D : va_G) (o a b : Nat) (cA iA : ClassId) (cf : Nat → Int64) (uf : Nat → Int32) (d t h : Nat) (hd : d < 5) (ht : t < 100) (hh : h < 2) (v : Int64) (hu : uf d = -1) : vx_Met l yX_flip (.code yX_flip cX_flip 6 none :: gW) ({ frames := 8, cells := 1, slots := 6, locals := 139 }) (pTW D (wX o a b cA iA cf uf) (kT cA iA) [.ref o, .int (nI d), .int (nI t), .int (nI h), .long v]) qNv (XE ISE) 1 6 (fun _ => False) := by
  refine vx_ofW (cc := cX_flip) (maxL := 6) (ret := none) (by decide) rfl ?_
  intro p e s m args below meth c s₁ B hml htab hv
  obtain ⟨rfl, hF, hP, hK⟩ := hv
  have hx := B.exec
  have hb := B.bytes
  have hr := B.returns
  have hts := atoms_spec (ws := (.code yX_flip cX_flip 6 none :: gW)) B.pre
  have hg : ∀ w ∈ gW, w.before ([.ref o, .int (nI d), .int (nI t), .int (nI h), .long v]).toArray s = true := fun w h => hts w (List.mem_cons_of_mem _ h)
  have hown : s.vm.findClass R_X = some m.cls := findClass_of_methodNamed B.named
  have hlocks := B.notSynchronized
  have hl := lv_entry ([.ref o, .int (nI d), .int (nI t), .int (nI h), .long v]) (n := 6) (Nat.le_of_ble_eq_true rfl)
  rw [lg_entry_eq]
  generalize (lg_sl ([.ref o, .int (nI d), .int (nI t), .int (nI h), .long v]) ++ List.replicate (6 - (lg_sl ([.ref o, .int (nI d), .int (nI t), .int (nI h), .long v])).length) Slot.unset).toArray = ls at hl ⊢
  have hl : lv_has ls 6 [(0, .ref o), (1, .int (nI d)), (2, .int (nI t)), (3, .int (nI h)), (4, .long v)] := hl
  refine lv_aload_n hx hb dX_flip_0 rfl (lv_at hl 0 rfl) ?_
  refine lv_iload_n hx hb dX_flip_1 rfl (lv_at hl 1 rfl) ?_
  refine lv_iload_n hx hb dX_flip_2 rfl (lv_at hl 2 rfl) ?_
  refine lv_iload_n hx hb dX_flip_3 rfl (lv_at hl 3 rfl) ?_
  exact passV (n := 3) (As := [.int (nI d), .int (nI t), .int (nI h)]) (rest := []) ⟨hx, hb, hml, hown, hts⟩ (mX_checkStanding_s l hls D o a b cA iA cf uf d t h hd ht hh hu) w_241 w_243 v_9 w_1 w_244 (by decide +kernel) ⟨rfl, rfl⟩ ⟨(Nat.le_of_ble_eq_true rfl), (Nat.le_of_ble_eq_true rfl)⟩ hF hP hK 0 0 rfl rfl rfl hl.1 rfl (Nat.le_of_ble_eq_true rfl) dX_flip_4 ⟨(Nat.le_of_ble_eq_true rfl), (Nat.le_of_ble_eq_true rfl)⟩ htab hlocks
set_option maxHeartbeats 4000000 in
set_option maxRecDepth 100000 in
theorem mX_block_a (l : Launch) (hls : l.stackTraces = false) (D : va_G) (o a b : Nat) (cA iA : ClassId) (cf : Nat → Int64) (uf : Nat → Int32) (x y z : Int32) (hbad : (inR x 5 && (inR y 100 && inR z 2)) = false) : vx_Met l yX_block (.code yX_block cX_block 4 (some .long) :: gW) ({ frames := 8, cells := 1, slots := 6, locals := 139 }) (pTW D (wX o a b cA iA cf uf) (kT cA iA) [.ref o, .int x, .int y, .int z]) qNl (XE IAE) 1 6 (fun _ => False) := by
  refine vx_ofW (cc := cX_block) (maxL := 4) (ret := (some .long)) (by decide) rfl ?_
  intro p e s m args below meth c s₁ B hml htab hv
  obtain ⟨rfl, hF, hP, hK⟩ := hv
  have hx := B.exec
  have hb := B.bytes
  have hr := B.returns
  have hts := atoms_spec (ws := (.code yX_block cX_block 4 (some .long) :: gW)) B.pre
  have hg : ∀ w ∈ gW, w.before ([.ref o, .int x, .int y, .int z]).toArray s = true := fun w h => hts w (List.mem_cons_of_mem _ h)
  have hown : s.vm.findClass R_X = some m.cls := findClass_of_methodNamed B.named
  have hlocks := B.notSynchronized
  have hl := lv_entry ([.ref o, .int x, .int y, .int z]) (n := 4) (Nat.le_of_ble_eq_true rfl)
  rw [lg_entry_eq]
  generalize (lg_sl ([.ref o, .int x, .int y, .int z]) ++ List.replicate (4 - (lg_sl ([.ref o, .int x, .int y, .int z])).length) Slot.unset).toArray = ls at hl ⊢
  have hl : lv_has ls 4 [(0, .ref o), (1, .int x), (2, .int y), (3, .int z)] := hl
  refine lv_aload_n hx hb dX_block_0 rfl (lv_at hl 0 rfl) ?_
  refine lv_iload_n hx hb dX_block_1 rfl (lv_at hl 1 rfl) ?_
  refine lv_iload_n hx hb dX_block_2 rfl (lv_at hl 2 rfl) ?_
  refine lv_iload_n hx hb dX_block_3 rfl (lv_at hl 3 rfl) ?_
  exact passV (n := 3) (As := [.int x, .int y, .int z]) (rest := []) ⟨hx, hb, hml, hown, hts⟩ (mX_checkStanding_a l hls D o a b cA iA cf uf x y z hbad) w_241 w_243 v_9 w_1 w_244 (by decide +kernel) ⟨rfl, rfl⟩ ⟨(Nat.le_of_ble_eq_true rfl), (Nat.le_of_ble_eq_true rfl)⟩ hF hP hK 0 0 rfl rfl rfl hl.1 rfl (Nat.le_of_ble_eq_true rfl) dX_block_4 ⟨(Nat.le_of_ble_eq_true rfl), (Nat.le_of_ble_eq_true rfl)⟩ htab hlocks
set_option maxHeartbeats 4000000 in
set_option maxRecDepth 100000 in
theorem mX_block_s (l : Launch) (hls : l.stackTraces = false) (D : va_G) (o a b : Nat) (cA iA : ClassId) (cf : Nat → Int64) (uf : Nat → Int32) (d t h : Nat) (hd : d < 5) (ht : t < 100) (hh : h < 2) (hu : uf d = -1) : vx_Met l yX_block (.code yX_block cX_block 4 (some .long) :: gW) ({ frames := 8, cells := 1, slots := 6, locals := 139 }) (pTW D (wX o a b cA iA cf uf) (kT cA iA) [.ref o, .int (nI d), .int (nI t), .int (nI h)]) qNl (XE ISE) 1 6 (fun _ => False) := by
  refine vx_ofW (cc := cX_block) (maxL := 4) (ret := (some .long)) (by decide) rfl ?_
  intro p e s m args below meth c s₁ B hml htab hv
  obtain ⟨rfl, hF, hP, hK⟩ := hv
  have hx := B.exec
  have hb := B.bytes
  have hr := B.returns
  have hts := atoms_spec (ws := (.code yX_block cX_block 4 (some .long) :: gW)) B.pre
  have hg : ∀ w ∈ gW, w.before ([.ref o, .int (nI d), .int (nI t), .int (nI h)]).toArray s = true := fun w h => hts w (List.mem_cons_of_mem _ h)
  have hown : s.vm.findClass R_X = some m.cls := findClass_of_methodNamed B.named
  have hlocks := B.notSynchronized
  have hl := lv_entry ([.ref o, .int (nI d), .int (nI t), .int (nI h)]) (n := 4) (Nat.le_of_ble_eq_true rfl)
  rw [lg_entry_eq]
  generalize (lg_sl ([.ref o, .int (nI d), .int (nI t), .int (nI h)]) ++ List.replicate (4 - (lg_sl ([.ref o, .int (nI d), .int (nI t), .int (nI h)])).length) Slot.unset).toArray = ls at hl ⊢
  have hl : lv_has ls 4 [(0, .ref o), (1, .int (nI d)), (2, .int (nI t)), (3, .int (nI h))] := hl
  refine lv_aload_n hx hb dX_block_0 rfl (lv_at hl 0 rfl) ?_
  refine lv_iload_n hx hb dX_block_1 rfl (lv_at hl 1 rfl) ?_
  refine lv_iload_n hx hb dX_block_2 rfl (lv_at hl 2 rfl) ?_
  refine lv_iload_n hx hb dX_block_3 rfl (lv_at hl 3 rfl) ?_
  exact passV (n := 3) (As := [.int (nI d), .int (nI t), .int (nI h)]) (rest := []) ⟨hx, hb, hml, hown, hts⟩ (mX_checkStanding_s l hls D o a b cA iA cf uf d t h hd ht hh hu) w_241 w_243 v_9 w_1 w_244 (by decide +kernel) ⟨rfl, rfl⟩ ⟨(Nat.le_of_ble_eq_true rfl), (Nat.le_of_ble_eq_true rfl)⟩ hF hP hK 0 0 rfl rfl rfl hl.1 rfl (Nat.le_of_ble_eq_true rfl) dX_block_4 ⟨(Nat.le_of_ble_eq_true rfl), (Nat.le_of_ble_eq_true rfl)⟩ htab hlocks
end
section
set_option maxHeartbeats 4000000 in
set_option maxRecDepth 100000 in
theorem mX_read_ok (l : Launch) (D : va_G) (o a b : Nat) (cA iA : ClassId) (cf : Nat → Int64) (uf : Nat → Int32) (q h : Nat) (hq : q < 400) (hh : h < 2) (hil : il uf (dk q) (q / 4) = false) : Met l yX_read (.code yX_read cX_read 5 (some .long) :: gW) ({ frames := 7, cells := 0, slots := 0, locals := 116 }) (pW D (wX o a b cA iA cf uf) (kT cA iA) [.ref o, .int (nI q), .int (nI h)]) (k2_QcV (.long (wh cf uf (dk q) (q / 4) h))) 0 0 (fun _ => False) := by
  refine Met.ofW (cc := cX_read) (maxL := 5) (ret := (some .long)) (by decide) rfl ?_
  intro p e s m args below meth c s₁ B hml hv
  obtain ⟨rfl, hP, hK⟩ := hv
  have hx := B.exec
  have hb := B.bytes
  have hr := B.returns
  have hts := atoms_spec (ws := (.code yX_read cX_read 5 (some .long) :: gW)) B.pre
  have hg : ∀ w ∈ gW, w.before ([.ref o, .int (nI q), .int (nI h)]).toArray s = true := fun w h => hts w (List.mem_cons_of_mem _ h)
  have hown : s.vm.findClass R_X = some m.cls := findClass_of_methodNamed B.named
  have hlocks := B.notSynchronized
  have hl := lv_entry ([.ref o, .int (nI q), .int (nI h)]) (n := 5) (Nat.le_of_ble_eq_true rfl)
  rw [lg_entry_eq]
  generalize (lg_sl ([.ref o, .int (nI q), .int (nI h)]) ++ List.replicate (5 - (lg_sl ([.ref o, .int (nI q), .int (nI h)])).length) Slot.unset).toArray = ls at hl ⊢
  have hl : lv_has ls 5 [(0, .ref o), (1, .int (nI q)), (2, .int (nI h))] := hl
  refine lv_iload_n hx hb dX_read_0 rfl (lv_at hl 1 rfl) ?_
  refine kSn (n := 1) (As := [.int (nI q)]) (rest := []) ⟨hx, hb, hml, hown, hts⟩ (mX_checkPlace_ok l q (by omega)) w_80 w_81 w_1 w_82 (by decide +kernel) ⟨rfl, rfl⟩ ⟨(Nat.le_of_ble_eq_true rfl), (Nat.le_of_ble_eq_true rfl)⟩ rfl hl.1 rfl (Nat.le_of_ble_eq_true rfl) dX_read_1 ⟨Nat.zero_le _, Nat.zero_le _⟩ ?_
  refine lv_iload_n hx hb dX_read_4 rfl (lv_at hl 2 rfl) ?_
  refine kSn (n := 1) (As := [.int (nI h)]) (rest := []) ⟨hx, hb, hml, hown, hts⟩ (mX_checkHalf_ok l h (by omega)) w_151 w_152 w_1 w_153 (by decide +kernel) ⟨rfl, rfl⟩ ⟨(Nat.le_of_ble_eq_true rfl), (Nat.le_of_ble_eq_true rfl)⟩ rfl hl.1 rfl (Nat.le_of_ble_eq_true rfl) dX_read_5 ⟨Nat.zero_le _, Nat.zero_le _⟩ ?_
  refine lv_iload_n hx hb dX_read_8 rfl (lv_at hl 1 rfl) ?_
  refine kS (n := 1) (As := [.int (nI q)]) (rest := []) ⟨hx, hb, hml, hown, hts⟩ (mX_stripeOf l q (by omega)) w_64 w_65 w_1 w_66 (by decide +kernel) ⟨rfl, rfl⟩ ⟨(Nat.le_of_ble_eq_true rfl), (Nat.le_of_ble_eq_true rfl)⟩ rfl hl.1 rfl (Nat.le_of_ble_eq_true rfl) dX_read_9 ⟨Nat.zero_le _, Nat.zero_le _⟩ ?_
  refine lv_istore_n hx hb dX_read_12 rfl hl (by decide) rfl (fun ls hl => ?_)
  have hl : lv_has ls 5 [(3, .int (nI (q / 4))), (0, .ref o), (1, .int (nI q)), (2, .int (nI h))] := hl
  refine lv_iload_n hx hb dX_read_13 rfl (lv_at hl 2 rfl) ?_
  refine kS (n := 1) (As := [.int (nI q)]) (rest := []) ⟨hx, hb, hml, hown, hts⟩ (mX_diskOf l q (by omega)) w_61 w_62 w_1 w_63 (by decide +kernel) ⟨rfl, rfl⟩ ⟨(Nat.le_of_ble_eq_true rfl), (Nat.le_of_ble_eq_true rfl)⟩ rfl hl.1 rfl (Nat.le_of_ble_eq_true rfl) dX_read_14 ⟨Nat.zero_le _, Nat.zero_le _⟩ ?_
  refine lv_istore hx hb dX_read_17 hl (by decide) rfl (fun ls hl => ?_)
  have hl : lv_has ls 5 [(4, .int (nI (dk q))), (3, .int (nI (q / 4))), (0, .ref o), (1, .int (nI q)), (2, .int (nI h))] := hl
  refine lv_aload_n hx hb dX_read_19 rfl (lv_at hl 2 rfl) ?_
  refine lv_iload hx hb dX_read_20 (lv_at hl 0 rfl) ?_
  refine lv_iload_n hx hb dX_read_22 rfl (lv_at hl 1 rfl) ?_
  refine kV (n := 2) (As := [.int (nI (dk q)), .int (nI (q / 4))]) (rest := []) ⟨hx, hb, hml, hown, hts⟩ (mX_isLost l D o a b cA iA cf uf (dk q) (q / 4) (dk_lt _) (by omega)) w_67 w_69 v_5 w_1 w_70 (by decide +kernel) ⟨rfl, rfl⟩ ⟨(Nat.le_of_ble_eq_true rfl), (Nat.le_of_ble_eq_true rfl)⟩ hP hK 0 0 rfl rfl rfl hl.1 rfl (Nat.le_of_ble_eq_true rfl) dX_read_23 ⟨Nat.zero_le _, Nat.zero_le _⟩ ?_
  refine lv_if_eq (tgt := 39) hx hb dX_read_26 (by decide) (fun h26 => ?_) (fun h26 => absurd (bi_z hil) h26)
  refine lv_aload_n hx hb dX_read_39 rfl (lv_at hl 2 rfl) ?_
  refine lv_iload hx hb dX_read_40 (lv_at hl 0 rfl) ?_
  refine lv_iload_n hx hb dX_read_42 rfl (lv_at hl 1 rfl) ?_
  refine lv_iload_n hx hb dX_read_43 rfl (lv_at hl 4 rfl) ?_
  refine kV (n := 3) (As := [.int (nI (dk q)), .int (nI (q / 4)), .int (nI h)]) (rest := []) ⟨hx, hb, hml, hown, hts⟩ (mX_whatItHas l D o a b cA iA cf uf (dk q) (q / 4) h (dk_lt _) (by omega) (by omega)) w_171 w_173 v_7 w_1 w_174 (by decide +kernel) ⟨rfl, rfl⟩ ⟨(Nat.le_of_ble_eq_true rfl), (Nat.le_of_ble_eq_true rfl)⟩ hP hK 0 0 rfl rfl rfl hl.1 rfl (Nat.le_of_ble_eq_true rfl) dX_read_44 ⟨Nat.zero_le _, Nat.zero_le _⟩ ?_
  exact W.lret (v := wh cf uf (dk q) (q / 4) h) hx hb hr (fun t9 ht9 _ => ⟨by rfl, ht9⟩) (fun _ h9 => nomatch h9) dX_read_47
set_option maxHeartbeats 4000000 in
set_option maxRecDepth 100000 in
theorem mX_block_ok (l : Launch) (D : va_G) (o a b : Nat) (cA iA : ClassId) (cf : Nat → Int64) (uf : Nat → Int32) (d t h : Nat) (hd : d < 5) (ht : t < 100) (hh : h < 2) (hu : ¬ uf d = -1) : Met l yX_block (.code yX_block cX_block 4 (some .long) :: gW) ({ frames := 8, cells := 0, slots := 0, locals := 139 }) (pW D (wX o a b cA iA cf uf) (kT cA iA) [.ref o, .int (nI d), .int (nI t), .int (nI h)]) (k2_QcV (.long (cf (ix d t h)))) 0 0 (fun _ => False) := by
  refine Met.ofW (cc := cX_block) (maxL := 4) (ret := (some .long)) (by decide) rfl ?_
  intro p e s m args below meth c s₁ B hml hv
  obtain ⟨rfl, hP, hK⟩ := hv
  have hx := B.exec
  have hb := B.bytes
  have hr := B.returns
  have hts := atoms_spec (ws := (.code yX_block cX_block 4 (some .long) :: gW)) B.pre
  have hg : ∀ w ∈ gW, w.before ([.ref o, .int (nI d), .int (nI t), .int (nI h)]).toArray s = true := fun w h => hts w (List.mem_cons_of_mem _ h)
  have hown : s.vm.findClass R_X = some m.cls := findClass_of_methodNamed B.named
  have hlocks := B.notSynchronized
  have hl := lv_entry ([.ref o, .int (nI d), .int (nI t), .int (nI h)]) (n := 4) (Nat.le_of_ble_eq_true rfl)
  rw [lg_entry_eq]
  generalize (lg_sl ([.ref o, .int (nI d), .int (nI t), .int (nI h)]) ++ List.replicate (4 - (lg_sl ([.ref o, .int (nI d), .int (nI t), .int (nI h)])).length) Slot.unset).toArray = ls at hl ⊢
  have hl : lv_has ls 4 [(0, .ref o), (1, .int (nI d)), (2, .int (nI t)), (3, .int (nI h))] := hl
  refine lv_aload_n hx hb dX_block_0 rfl (lv_at hl 0 rfl) ?_
  refine lv_iload_n hx hb dX_block_1 rfl (lv_at hl 1 rfl) ?_
  refine lv_iload_n hx hb dX_block_2 rfl (lv_at hl 2 rfl) ?_
  refine lv_iload_n hx hb dX_block_3 rfl (lv_at hl 3 rfl) ?_
  refine kVn (n := 3) (As := [.int (nI d), .int (nI t), .int (nI h)]) (rest := []) ⟨hx, hb, hml, hown, hts⟩ (mX_checkStanding_ok l D o a b cA iA cf uf d t h (by omega) (by omega) (by omega) hu) w_241 w_243 v_9 w_1 w_244 (by decide +kernel) ⟨rfl, rfl⟩ ⟨(Nat.le_of_ble_eq_true rfl), (Nat.le_of_ble_eq_true rfl)⟩ hP hK 0 0 rfl rfl rfl hl.1 rfl (Nat.le_of_ble_eq_true rfl) dX_block_4 ⟨Nat.zero_le _, Nat.zero_le _⟩ ?_
  refine lv_aload_n hx hb dX_block_7 rfl (lv_at hl 0 rfl) ?_
  refine va_get (D := D) (ci := 0) (v := .ref a) (C := R_X) (T := T_X) (N := 2) hx hb hg uX_in hown hK hP 0 rfl rfl 0 (by decide) (hg _ w_18) (fun _ h9 => h9) rfl dX_block_8 ?_
  refine lv_iload_n hx hb dX_block_11 rfl (lv_at hl 1 rfl) ?_
  refine lv_iload_n hx hb dX_block_12 rfl (lv_at hl 2 rfl) ?_
  refine lv_iload_n hx hb dX_block_13 rfl (lv_at hl 3 rfl) ?_
  refine kS (n := 3) (As := [.int (nI d), .int (nI t), .int (nI h)]) (rest := [.ref a]) ⟨hx, hb, hml, hown, hts⟩ (mX_cellOf l d t h) w_50 w_51 w_1 w_52 (by decide +kernel) ⟨rfl, rfl⟩ ⟨(Nat.le_of_ble_eq_true rfl), (Nat.le_of_ble_eq_true rfl)⟩ rfl hl.1 rfl (Nat.le_of_ble_eq_true rfl) dX_block_14 ⟨Nat.zero_le _, Nat.zero_le _⟩ ?_
  refine aL hx hb hK hP 1 0 rfl rfl (ix_lt (by omega) (by omega) (by omega)) (by decide) dX_block_17 ?_
  exact W.lret (v := cf (ix d t h)) hx hb hr (fun t9 ht9 _ => ⟨by rfl, ht9⟩) (fun _ h9 => nomatch h9) dX_block_18
set_option maxHeartbeats 4000000 in
set_option maxRecDepth 100000 in
theorem mX_state_ok (l : Launch) (D : va_G) (o a b : Nat) (cA iA : ClassId) (cf : Nat → Int64) (uf : Nat → Int32) (d : Nat) (hd : d < 5) : Met l yX_state (.code yX_state cX_state 3 (some .int) :: gW) ({ frames := 7, cells := 0, slots := 0, locals := 116 }) (pW D (wX o a b cA iA cf uf) (kT cA iA) [.ref o, .int (nI d)]) (k2_QcV (.int (sv (uf d)))) 0 0 (fun _ => False) := by
  refine Met.ofW (cc := cX_state) (maxL := 3) (ret := (some .int)) (by decide) rfl ?_
  intro p e s m args below meth c s₁ B hml hv
  obtain ⟨rfl, hP, hK⟩ := hv
  have hx := B.exec
  have hb := B.bytes
  have hr := B.returns
  have hts := atoms_spec (ws := (.code yX_state cX_state 3 (some .int) :: gW)) B.pre
  have hg : ∀ w ∈ gW, w.before ([.ref o, .int (nI d)]).toArray s = true := fun w h => hts w (List.mem_cons_of_mem _ h)
  have hown : s.vm.findClass R_X = some m.cls := findClass_of_methodNamed B.named
  have hlocks := B.notSynchronized
  have hl := lv_entry ([.ref o, .int (nI d)]) (n := 3) (Nat.le_of_ble_eq_true rfl)
  rw [lg_entry_eq]
  generalize (lg_sl ([.ref o, .int (nI d)]) ++ List.replicate (3 - (lg_sl ([.ref o, .int (nI d)])).length) Slot.unset).toArray = ls at hl ⊢
  have hl : lv_has ls 3 [(0, .ref o), (1, .int (nI d))] := hl
  refine lv_iload_n hx hb dX_state_0 rfl (lv_at hl 1 rfl) ?_
  refine kSn (n := 1) (As := [.int (nI d)]) (rest := []) ⟨hx, hb, hml, hown, hts⟩ (mX_checkDisk_ok l d (by omega)) w_190 w_191 w_1 w_192 (by decide +kernel) ⟨rfl, rfl⟩ ⟨(Nat.le_of_ble_eq_true rfl), (Nat.le_of_ble_eq_true rfl)⟩ rfl hl.1 rfl (Nat.le_of_ble_eq_true rfl) dX_state_1 ⟨Nat.zero_le _, Nat.zero_le _⟩ ?_
  refine lv_aload_n hx hb dX_state_4 rfl (lv_at hl 0 rfl) ?_
  refine va_get (D := D) (ci := 0) (v := .ref b) (C := R_X) (T := T_X) (N := 2) hx hb hg uX_in hown hK hP 0 rfl rfl 1 (by decide) (hg _ w_19) (fun _ h9 => h9) rfl dX_state_5 ?_
  refine lv_iload_n hx hb dX_state_8 rfl (lv_at hl 1 rfl) ?_
  refine aI hx hb hK hP 2 1 rfl rfl (by omega) (by decide) dX_state_9 ?_
  refine lv_istore_n hx hb dX_state_10 rfl hl (by decide) rfl (fun ls hl => ?_)
  have hl : lv_has ls 3 [(2, .int (uf d)), (0, .ref o), (1, .int (nI d))] := hl
  refine lv_iload_n hx hb dX_state_11 rfl (lv_at hl 0 rfl) ?_
  refine lv_bipush (v := nI 100) hx hb dX_state_12 (by decide +kernel) ?_
  refine lv_icmp_ne (tgt := 19) hx hb dX_state_14 (by decide) (fun h14 => ?_) (fun h14 => ?_)
  · refine lv_iload_n hx hb dX_state_19 rfl (lv_at hl 0 rfl) ?_
    refine lv_iconst (v := -1) hx hb dX_state_20 (by decide +kernel) ?_
    refine lv_icmp_ne (tgt := 26) hx hb dX_state_21 (by decide) (fun h21 => ?_) (fun h21 => ?_)
    · refine lv_iconst (v := nI 2) hx hb dX_state_26 (by decide +kernel) ?_
      refine lv_iload_n hx hb dX_state_27 rfl (lv_at hl 0 rfl) ?_
      refine lv_iadd hx hb dX_state_28 ?_
      exact W.iret (v := (nI 2) + (uf d)) hx hb hr (fun t9 ht9 _ => ⟨by rw [sv, if_neg h14, if_neg h21], ht9⟩) (fun _ h9 => nomatch h9) dX_state_29
    · refine lv_iconst (v := nI 1) hx hb dX_state_24 (by decide +kernel) ?_
      exact W.iret (v := nI 1) hx hb hr (fun t9 ht9 _ => ⟨by rw [sv, if_neg h14, if_pos h21], ht9⟩) (fun _ h9 => nomatch h9) dX_state_25
  · refine lv_iconst (v := nI 0) hx hb dX_state_17 (by decide +kernel) ?_
    exact W.iret (v := nI 0) hx hb hr (fun t9 ht9 _ => ⟨by rw [sv, if_pos h14], ht9⟩) (fun _ h9 => nomatch h9) dX_state_18
set_option maxHeartbeats 4000000 in
set_option maxRecDepth 100000 in
theorem mX_rebuildBlock (l : Launch) (D : va_G) (o a b : Nat) (cA iA : ClassId) (cf : Nat → Int64) (uf : Nat → Int32) (sz : Nat) (d t : Nat) (hd : d < 5) (ht : t < 100) : Met l yX_rebuildBlock (.code yX_rebuildBlock cX_rebuildBlock 4 none :: gW) ({ frames := 2, cells := 0, slots := 0, locals := 48 }) (pWs D (wX o a b cA iA cf uf) (kT cA iA) sz [.ref o, .int (nI d), .int (nI t)]) (QV D (wX o a b cA iA (rbB cf d t) uf) (va_A (wX o a b cA iA cf uf) sz)) 0 0 (va_A (wX o a b cA iA cf uf) sz) := by
  refine Met.ofW (cc := cX_rebuildBlock) (maxL := 4) (ret := none) (by decide) rfl ?_
  intro p e s m args below meth c s₁ B hml hv
  obtain ⟨rfl, hsz, hP, hK, hD0⟩ := hv
  have hx := B.exec
  have hb := B.bytes
  have hr := B.returns
  have hts := atoms_spec (ws := (.code yX_rebuildBlock cX_rebuildBlock 4 none :: gW)) B.pre
  have hg : ∀ w ∈ gW, w.before ([.ref o, .int (nI d), .int (nI t)]).toArray s = true := fun w h => hts w (List.mem_cons_of_mem _ h)
  have hown : s.vm.findClass R_X = some m.cls := findClass_of_methodNamed B.named
  have hlocks := B.notSynchronized
  subst hsz
  have hD := hD0.self (sz := s.heap.size)
  generalize hAe : va_A (wX o a b cA iA cf uf) s.heap.size = A at hD ⊢
  have hA : ∀ q : Nat, s.heap.size ≤ q → A q := fun q h => by rw [← hAe]; exact Or.inr h
  have hS : va_S A s.heap s.heap [] := va_S.rf
  have hP : va_P D cls_ (wX o a b cA iA cf uf) s.heap := hP
  have hl := lv_entry ([.ref o, .int (nI d), .int (nI t)]) (n := 4) (Nat.le_of_ble_eq_true rfl)
  rw [lg_entry_eq]
  generalize (lg_sl ([.ref o, .int (nI d), .int (nI t)]) ++ List.replicate (4 - (lg_sl ([.ref o, .int (nI d), .int (nI t)])).length) Slot.unset).toArray = ls at hl ⊢
  have hl : lv_has ls 4 [(0, .ref o), (1, .int (nI d)), (2, .int (nI t))] := hl
  refine lv_iconst (v := nI 0) hx hb dX_rebuildBlock_0 (by decide +kernel) ?_
  refine lv_istore_n hx hb dX_rebuildBlock_1 rfl hl (by decide) rfl (fun ls hl => ?_)
  have hl : lv_has ls 4 [(3, .int (nI 0)), (0, .ref o), (1, .int (nI d)), (2, .int (nI t))] := hl
  refine lv_iload_n hx hb dX_rebuildBlock_2 rfl (lv_at hl 0 rfl) ?_
  refine lv_iconst (v := nI 2) hx hb dX_rebuildBlock_3 (by decide +kernel) ?_
  refine lv_icmp_ge (tgt := 31) hx hb dX_rebuildBlock_4 (by decide) (fun h4 => absurd h4 (by decide +kernel)) (fun h4 => ?_)
  refine lv_aload_n hx hb dX_rebuildBlock_7 rfl (lv_at hl 1 rfl) ?_
  refine va_get (D := D) (ci := 0) (v := .ref a) (C := R_X) (T := T_X) (N := 2) hx hb hg uX_in hown hK hP 0 rfl rfl 0 (by decide) (hg _ w_18) (fun _ h9 => h9) rfl dX_rebuildBlock_8 ?_
  refine lv_iload_n hx hb dX_rebuildBlock_11 rfl (lv_at hl 2 rfl) ?_
  refine lv_iload_n hx hb dX_rebuildBlock_12 rfl (lv_at hl 3 rfl) ?_
  refine lv_iload_n hx hb dX_rebuildBlock_13 rfl (lv_at hl 0 rfl) ?_
  refine kS (n := 3) (As := [.int (nI d), .int (nI t), .int (nI 0)]) (rest := [.ref a]) ⟨hx, hb, hml, hown, hts⟩ (mX_cellOf l d t 0) w_50 w_51 w_1 w_52 (by decide +kernel) ⟨rfl, rfl⟩ ⟨(Nat.le_of_ble_eq_true rfl), (Nat.le_of_ble_eq_true rfl)⟩ rfl hl.1 rfl (Nat.le_of_ble_eq_true rfl) dX_rebuildBlock_14 ⟨Nat.zero_le _, Nat.zero_le _⟩ ?_
  refine lv_aload_n hx hb dX_rebuildBlock_17 rfl (lv_at hl 1 rfl) ?_
  refine lv_iload_n hx hb dX_rebuildBlock_18 rfl (lv_at hl 2 rfl) ?_
  refine lv_iload_n hx hb dX_rebuildBlock_19 rfl (lv_at hl 3 rfl) ?_
  refine lv_iload_n hx hb dX_rebuildBlock_20 rfl (lv_at hl 0 rfl) ?_
  refine kV (n := 3) (As := [.int (nI d), .int (nI t), .int (nI 0)]) (rest := [.int (nI (ix d t 0)), .ref a]) ⟨hx, hb, hml, hown, hts⟩ (mX_xorOfOthers l D o a b cA iA cf uf d t 0 (by omega) (by omega) (by omega)) w_53 w_55 v_4 w_1 w_56 (by decide +kernel) ⟨rfl, rfl⟩ ⟨(Nat.le_of_ble_eq_true rfl), (Nat.le_of_ble_eq_true rfl)⟩ hP hK 0 0 rfl rfl rfl hl.1 rfl (Nat.le_of_ble_eq_true rfl) dX_rebuildBlock_21 ⟨Nat.zero_le _, Nat.zero_le _⟩ ?_
  refine sL hx hb hK hP hD hS 1 0 rfl rfl (ix_lt (by omega) (by omega) (by omega)) (by decide) dX_rebuildBlock_24 (fun H locs hP hD hS => ?_)
  have hP : va_P D cls_ (wX o a b cA iA (vp_updL cf (ix d t 0) (xo cf d t 0)) uf) H := hP
  have hD : va_D A (wX o a b cA iA (vp_updL cf (ix d t 0) (xo cf d t 0)) uf) := hD
  refine lv_iinc (k := 0) (v := nI 1) hx hb dX_rebuildBlock_25 hl rfl (by decide +kernel)  (by decide) rfl (fun ls hl => ?_)
  have hl : lv_has ls 4 [(3, .int (nI 1)), (0, .ref o), (1, .int (nI d)), (2, .int (nI t))] := hl
  refine lv_goto (tgt := 2) hx hb dX_rebuildBlock_28 (by decide) ?_
  refine lv_iload_n hx hb dX_rebuildBlock_2 rfl (lv_at hl 0 rfl) ?_
  refine lv_iconst (v := nI 2) hx hb dX_rebuildBlock_3 (by decide +kernel) ?_
  refine lv_icmp_ge (tgt := 31) hx hb dX_rebuildBlock_4 (by decide) (fun h4 => absurd h4 (by decide +kernel)) (fun h4 => ?_)
  refine lv_aload_n hx hb dX_rebuildBlock_7 rfl (lv_at hl 1 rfl) ?_
  refine va_get (D := D) (ci := 0) (v := .ref a) (C := R_X) (T := T_X) (N := 2) hx hb hg uX_in hown hK hP 0 rfl rfl 0 (by decide) (hg _ w_18) (fun _ h9 => h9) rfl dX_rebuildBlock_8 ?_
  refine lv_iload_n hx hb dX_rebuildBlock_11 rfl (lv_at hl 2 rfl) ?_
  refine lv_iload_n hx hb dX_rebuildBlock_12 rfl (lv_at hl 3 rfl) ?_
  refine lv_iload_n hx hb dX_rebuildBlock_13 rfl (lv_at hl 0 rfl) ?_
  refine kS (n := 3) (As := [.int (nI d), .int (nI t), .int (nI 1)]) (rest := [.ref a]) ⟨hx, hb, hml, hown, hts⟩ (mX_cellOf l d t 1) w_50 w_51 w_1 w_52 (by decide +kernel) ⟨rfl, rfl⟩ ⟨(Nat.le_of_ble_eq_true rfl), (Nat.le_of_ble_eq_true rfl)⟩ rfl hl.1 rfl (Nat.le_of_ble_eq_true rfl) dX_rebuildBlock_14 ⟨Nat.zero_le _, Nat.zero_le _⟩ ?_
  refine lv_aload_n hx hb dX_rebuildBlock_17 rfl (lv_at hl 1 rfl) ?_
  refine lv_iload_n hx hb dX_rebuildBlock_18 rfl (lv_at hl 2 rfl) ?_
  refine lv_iload_n hx hb dX_rebuildBlock_19 rfl (lv_at hl 3 rfl) ?_
  refine lv_iload_n hx hb dX_rebuildBlock_20 rfl (lv_at hl 0 rfl) ?_
  refine kV (n := 3) (As := [.int (nI d), .int (nI t), .int (nI 1)]) (rest := [.int (nI (ix d t 1)), .ref a]) ⟨hx, hb, hml, hown, hts⟩ (mX_xorOfOthers l D o a b cA iA (vp_updL cf (ix d t 0) (xo cf d t 0)) uf d t 1 (by omega) (by omega) (by omega)) w_53 w_55 v_4 w_1 w_56 (by decide +kernel) ⟨rfl, rfl⟩ ⟨(Nat.le_of_ble_eq_true rfl), (Nat.le_of_ble_eq_true rfl)⟩ hP hK 0 0 rfl rfl rfl hl.1 rfl (Nat.le_of_ble_eq_true rfl) dX_rebuildBlock_21 ⟨Nat.zero_le _, Nat.zero_le _⟩ ?_
  refine sL hx hb hK hP hD hS 1 0 rfl rfl (ix_lt (by omega) (by omega) (by omega)) (by decide) dX_rebuildBlock_24 (fun H locs hP hD hS => ?_)
  have hP : va_P D cls_ (wX o a b cA iA (vp_updL (vp_updL cf (ix d t 0) (xo cf d t 0)) (ix d t 1) (xo (vp_updL cf (ix d t 0) (xo cf d t 0)) d t 1)) uf) H := hP
  have hD : va_D A (wX o a b cA iA (vp_updL (vp_updL cf (ix d t 0) (xo cf d t 0)) (ix d t 1) (xo (vp_updL cf (ix d t 0) (xo cf d t 0)) d t 1)) uf) := hD
  refine lv_iinc (k := 0) (v := nI 2) hx hb dX_rebuildBlock_25 hl rfl (by decide +kernel)  (by decide) rfl (fun ls hl => ?_)
  have hl : lv_has ls 4 [(3, .int (nI 2)), (0, .ref o), (1, .int (nI d)), (2, .int (nI t))] := hl
  refine lv_goto (tgt := 2) hx hb dX_rebuildBlock_28 (by decide) ?_
  refine lv_iload_n hx hb dX_rebuildBlock_2 rfl (lv_at hl 0 rfl) ?_
  refine lv_iconst (v := nI 2) hx hb dX_rebuildBlock_3 (by decide +kernel) ?_
  refine lv_icmp_ge (tgt := 31) hx hb dX_rebuildBlock_4 (by decide) (fun h4 => ?_) (fun h4 => absurd (by decide +kernel) h4)
  exact W.vret hx hb hr (fun t9 ht9 _ => ⟨⟨(), rfl, trivial, by show va_P _ _ _ t9.heap; rw [ht9]; exact hP⟩, hS.F ht9⟩) hS.2.2 dX_rebuildBlock_31
set_option maxHeartbeats 4000000 in
set_option maxRecDepth 100000 in
theorem mX_mendParity (l : Launch) (D : va_G) (o a b : Nat) (cA iA : ClassId) (cf : Nat → Int64) (uf : Nat → Int32) (sz : Nat) (t : Nat) (ht : t < 100) : Met l yX_mendParity (.code yX_mendParity cX_mendParity 8 (some .boolean) :: gW) ({ frames := 2, cells := 0, slots := 0, locals := 48 }) (pWs D (wX o a b cA iA cf uf) (kT cA iA) sz [.ref o, .int (nI t)]) (QI (bi (!good cf t)) D (wX o a b cA iA (rbB cf (t % 5) t) uf) (va_A (wX o a b cA iA cf uf) sz)) 0 0 (va_A (wX o a b cA iA cf uf) sz) := by
  refine Met.ofW (cc := cX_mendParity) (maxL := 8) (ret := (some .boolean)) (by decide) rfl ?_
  intro p e s m args below meth c s₁ B hml hv
  obtain ⟨rfl, hsz, hP, hK, hD0⟩ := hv
  have hx := B.exec
  have hb := B.bytes
  have hr := B.returns
  have hts := atoms_spec (ws := (.code yX_mendParity cX_mendParity 8 (some .boolean) :: gW)) B.pre
  have hg : ∀ w ∈ gW, w.before ([.ref o, .int (nI t)]).toArray s = true := fun w h => hts w (List.mem_cons_of_mem _ h)
  have hown : s.vm.findClass R_X = some m.cls := findClass_of_methodNamed B.named
  have hlocks := B.notSynchronized
  subst hsz
  have hD := hD0.self (sz := s.heap.size)
  generalize hAe : va_A (wX o a b cA iA cf uf) s.heap.size = A at hD ⊢
  have hA : ∀ q : Nat, s.heap.size ≤ q → A q := fun q h => by rw [← hAe]; exact Or.inr h
  have hS : va_S A s.heap s.heap [] := va_S.rf
  have hP : va_P D cls_ (wX o a b cA iA cf uf) s.heap := hP
  have hl := lv_entry ([.ref o, .int (nI t)]) (n := 8) (Nat.le_of_ble_eq_true rfl)
  rw [lg_entry_eq]
  generalize (lg_sl ([.ref o, .int (nI t)]) ++ List.replicate (8 - (lg_sl ([.ref o, .int (nI t)])).length) Slot.unset).toArray = ls at hl ⊢
  have hl : lv_has ls 8 [(0, .ref o), (1, .int (nI t))] := hl
  refine lv_iload_n hx hb dX_mendParity_0 rfl (lv_at hl 1 rfl) ?_
  refine kS (n := 1) (As := [.int (nI t)]) (rest := []) ⟨hx, hb, hml, hown, hts⟩ (mX_parityDiskOf l t (by omega)) w_35 w_36 w_1 w_37 (by decide +kernel) ⟨rfl, rfl⟩ ⟨(Nat.le_of_ble_eq_true rfl), (Nat.le_of_ble_eq_true rfl)⟩ rfl hl.1 rfl (Nat.le_of_ble_eq_true rfl) dX_mendParity_1 ⟨Nat.zero_le _, Nat.zero_le _⟩ ?_
  refine lv_istore_n hx hb dX_mendParity_4 rfl hl (by decide) rfl (fun ls hl => ?_)
  have hl : lv_has ls 8 [(2, .int (nI (t % 5))), (0, .ref o), (1, .int (nI t))] := hl
  refine lv_iconst (v := nI 0) hx hb dX_mendParity_5 (by decide +kernel) ?_
  refine lv_istore_n hx hb dX_mendParity_6 rfl hl (by decide) rfl (fun ls hl => ?_)
  have hl : lv_has ls 8 [(3, .int (nI 0)), (2, .int (nI (t % 5))), (0, .ref o), (1, .int (nI t))] := hl
  refine lv_iconst (v := nI 0) hx hb dX_mendParity_7 (by decide +kernel) ?_
  refine lv_istore hx hb dX_mendParity_8 hl (by decide) rfl (fun ls hl => ?_)
  have hl : lv_has ls 8 [(4, .int (nI 0)), (3, .int (nI 0)), (2, .int (nI (t % 5))), (0, .ref o), (1, .int (nI t))] := hl
  refine lv_iload hx hb dX_mendParity_10 (lv_at hl 0 rfl) ?_
  refine lv_iconst (v := nI 2) hx hb dX_mendParity_12 (by decide +kernel) ?_
  refine lv_icmp_ge (tgt := 65) hx hb dX_mendParity_13 (by decide) (fun h13 => absurd h13 (by decide +kernel)) (fun h13 => ?_)
  refine lv_iload_n hx hb dX_mendParity_16 rfl (lv_at hl 2 rfl) ?_
  refine lv_iload_n hx hb dX_mendParity_17 rfl (lv_at hl 4 rfl) ?_
  refine lv_iload hx hb dX_mendParity_18 (lv_at hl 0 rfl) ?_
  refine kS (n := 3) (As := [.int (nI (t % 5)), .int (nI t), .int (nI 0)]) (rest := []) ⟨hx, hb, hml, hown, hts⟩ (mX_cellOf l (t % 5) t 0) w_50 w_51 w_1 w_52 (by decide +kernel) ⟨rfl, rfl⟩ ⟨(Nat.le_of_ble_eq_true rfl), (Nat.le_of_ble_eq_true rfl)⟩ rfl hl.1 rfl (Nat.le_of_ble_eq_true rfl) dX_mendParity_20 ⟨Nat.zero_le _, Nat.zero_le _⟩ ?_
  refine lv_istore hx hb dX_mendParity_23 hl (by decide) rfl (fun ls hl => ?_)
  have hl : lv_has ls 8 [(5, .int (nI (ix (t % 5) t 0))), (4, .int (nI 0)), (3, .int (nI 0)), (2, .int (nI (t % 5))), (0, .ref o), (1, .int (nI t))] := hl
  refine lv_aload_n hx hb dX_mendParity_25 rfl (lv_at hl 4 rfl) ?_
  refine lv_iload_n hx hb dX_mendParity_26 rfl (lv_at hl 3 rfl) ?_
  refine lv_iload_n hx hb dX_mendParity_27 rfl (lv_at hl 5 rfl) ?_
  refine lv_iload hx hb dX_mendParity_28 (lv_at hl 1 rfl) ?_
  refine kV (n := 3) (As := [.int (nI (t % 5)), .int (nI t), .int (nI 0)]) (rest := []) ⟨hx, hb, hml, hown, hts⟩ (mX_xorOfOthers l D o a b cA iA cf uf (t % 5) t 0 (by omega) (by omega) (by omega)) w_53 w_55 v_4 w_1 w_56 (by decide +kernel) ⟨rfl, rfl⟩ ⟨(Nat.le_of_ble_eq_true rfl), (Nat.le_of_ble_eq_true rfl)⟩ hP hK 0 0 rfl rfl rfl hl.1 rfl (Nat.le_of_ble_eq_true rfl) dX_mendParity_30 ⟨Nat.zero_le _, Nat.zero_le _⟩ ?_
  refine lv_lstore hx hb dX_mendParity_33 hl (by decide) rfl (fun ls hl => ?_)
  have hl : lv_has ls 8 [(6, .long (xo cf (t % 5) t 0)), (5, .int (nI (ix (t % 5) t 0))), (4, .int (nI 0)), (3, .int (nI 0)), (2, .int (nI (t % 5))), (0, .ref o), (1, .int (nI t))] := hl
  refine lv_aload_n hx hb dX_mendParity_35 rfl (lv_at hl 5 rfl) ?_
  refine va_get (D := D) (ci := 0) (v := .ref a) (C := R_X) (T := T_X) (N := 2) hx hb hg uX_in hown hK hP 0 rfl rfl 0 (by decide) (hg _ w_18) (fun _ h9 => h9) rfl dX_mendParity_36 ?_
  refine lv_iload hx hb dX_mendParity_39 (lv_at hl 1 rfl) ?_
  refine aL hx hb hK hP 1 0 rfl rfl (ix_lt (by omega) (by omega) (by omega)) (by decide) dX_mendParity_41 ?_
  refine lv_lload hx hb dX_mendParity_42 (lv_at hl 0 rfl) ?_
  refine W.lcmp hx hb dX_mendParity_44 ?_
  refine lv_if_eq (tgt := 59) hx hb dX_mendParity_45 (by decide) (fun h45 => ?_) (fun h45 => ?_)
  · have e0 := (lg_cmp_eq _ _).mp h45
    refine lv_iinc (k := 2) (v := nI 1) hx hb dX_mendParity_59 hl rfl (by decide +kernel)  (by decide) rfl (fun ls hl => ?_)
    have hl : lv_has ls 8 [(4, .int (nI 1)), (6, .long (xo cf (t % 5) t 0)), (5, .int (nI (ix (t % 5) t 0))), (3, .int (nI 0)), (2, .int (nI (t % 5))), (0, .ref o), (1, .int (nI t))] := hl
    refine lv_goto (tgt := 10) hx hb dX_mendParity_62 (by decide) ?_
    refine lv_iload hx hb dX_mendParity_10 (lv_at hl 0 rfl) ?_
    refine lv_iconst (v := nI 2) hx hb dX_mendParity_12 (by decide +kernel) ?_
    refine lv_icmp_ge (tgt := 65) hx hb dX_mendParity_13 (by decide) (fun h13 => absurd h13 (by decide +kernel)) (fun h13 => ?_)
    refine lv_iload_n hx hb dX_mendParity_16 rfl (lv_at hl 4 rfl) ?_
    refine lv_iload_n hx hb dX_mendParity_17 rfl (lv_at hl 6 rfl) ?_
    refine lv_iload hx hb dX_mendParity_18 (lv_at hl 0 rfl) ?_
    refine kS (n := 3) (As := [.int (nI (t % 5)), .int (nI t), .int (nI 1)]) (rest := []) ⟨hx, hb, hml, hown, hts⟩ (mX_cellOf l (t % 5) t 1) w_50 w_51 w_1 w_52 (by decide +kernel) ⟨rfl, rfl⟩ ⟨(Nat.le_of_ble_eq_true rfl), (Nat.le_of_ble_eq_true rfl)⟩ rfl hl.1 rfl (Nat.le_of_ble_eq_true rfl) dX_mendParity_20 ⟨Nat.zero_le _, Nat.zero_le _⟩ ?_
    refine lv_istore hx hb dX_mendParity_23 hl (by decide) rfl (fun ls hl => ?_)
    have hl : lv_has ls 8 [(5, .int (nI (ix (t % 5) t 1))), (4, .int (nI 1)), (6, .long (xo cf (t % 5) t 0)), (3, .int (nI 0)), (2, .int (nI (t % 5))), (0, .ref o), (1, .int (nI t))] := hl
    refine lv_aload_n hx hb dX_mendParity_25 rfl (lv_at hl 5 rfl) ?_
    refine lv_iload_n hx hb dX_mendParity_26 rfl (lv_at hl 4 rfl) ?_
    refine lv_iload_n hx hb dX_mendParity_27 rfl (lv_at hl 6 rfl) ?_
    refine lv_iload hx hb dX_mendParity_28 (lv_at hl 1 rfl) ?_
    refine kV (n := 3) (As := [.int (nI (t % 5)), .int (nI t), .int (nI 1)]) (rest := []) ⟨hx, hb, hml, hown, hts⟩ (mX_xorOfOthers l D o a b cA iA cf uf (t % 5) t 1 (by omega) (by omega) (by omega)) w_53 w_55 v_4 w_1 w_56 (by decide +kernel) ⟨rfl, rfl⟩ ⟨(Nat.le_of_ble_eq_true rfl), (Nat.le_of_ble_eq_true rfl)⟩ hP hK 0 0 rfl rfl rfl hl.1 rfl (Nat.le_of_ble_eq_true rfl) dX_mendParity_30 ⟨Nat.zero_le _, Nat.zero_le _⟩ ?_
    refine lv_lstore hx hb dX_mendParity_33 hl (by decide) rfl (fun ls hl => ?_)
    have hl : lv_has ls 8 [(6, .long (xo cf (t % 5) t 1)), (5, .int (nI (ix (t % 5) t 1))), (4, .int (nI 1)), (3, .int (nI 0)), (2, .int (nI (t % 5))), (0, .ref o), (1, .int (nI t))] := hl
    refine lv_aload_n hx hb dX_mendParity_35 rfl (lv_at hl 5 rfl) ?_
    refine va_get (D := D) (ci := 0) (v := .ref a) (C := R_X) (T := T_X) (N := 2) hx hb hg uX_in hown hK hP 0 rfl rfl 0 (by decide) (hg _ w_18) (fun _ h9 => h9) rfl dX_mendParity_36 ?_
    refine lv_iload hx hb dX_mendParity_39 (lv_at hl 1 rfl) ?_
    refine aL hx hb hK hP 1 0 rfl rfl (ix_lt (by omega) (by omega) (by omega)) (by decide) dX_mendParity_41 ?_
    refine lv_lload hx hb dX_mendParity_42 (lv_at hl 0 rfl) ?_
    refine W.lcmp hx hb dX_mendParity_44 ?_
    refine lv_if_eq (tgt := 59) hx hb dX_mendParity_45 (by decide) (fun h45 => ?_) (fun h45 => ?_)
    · have e1 := (lg_cmp_eq _ _).mp h45
      refine lv_iinc (k := 2) (v := nI 2) hx hb dX_mendParity_59 hl rfl (by decide +kernel)  (by decide) rfl (fun ls hl => ?_)
      have hl : lv_has ls 8 [(4, .int (nI 2)), (6, .long (xo cf (t % 5) t 1)), (5, .int (nI (ix (t % 5) t 1))), (3, .int (nI 0)), (2, .int (nI (t % 5))), (0, .ref o), (1, .int (nI t))] := hl
      refine lv_goto (tgt := 10) hx hb dX_mendParity_62 (by decide) ?_
      refine lv_iload hx hb dX_mendParity_10 (lv_at hl 0 rfl) ?_
      refine lv_iconst (v := nI 2) hx hb dX_mendParity_12 (by decide +kernel) ?_
      refine lv_icmp_ge (tgt := 65) hx hb dX_mendParity_13 (by decide) (fun h13 => ?_) (fun h13 => absurd (by decide +kernel) h13)
      refine lv_iload_n hx hb dX_mendParity_65 rfl (lv_at hl 3 rfl) ?_
      exact W.zret (v := nI 0) (ty := .boolean) hx hb hr nar_0 (fun t9 ht9 _ => ⟨⟨_, (), rfl, by show _ = _; rw [good_i e0 e1]; rfl, by show va_P _ _ _ t9.heap; rw [ht9]; rw [rbB_good ht (good_i e0 e1)]; exact hP⟩, hS.F ht9⟩) hS.2.2 dX_mendParity_66
    · have e1 := fun z => h45 ((lg_cmp_eq _ _).mpr z)
      refine lv_aload_n hx hb dX_mendParity_48 rfl (lv_at hl 5 rfl) ?_
      refine va_get (D := D) (ci := 0) (v := .ref a) (C := R_X) (T := T_X) (N := 2) hx hb hg uX_in hown hK hP 0 rfl rfl 0 (by decide) (hg _ w_18) (fun _ h9 => h9) rfl dX_mendParity_49 ?_
      refine lv_iload hx hb dX_mendParity_52 (lv_at hl 1 rfl) ?_
      refine lv_lload hx hb dX_mendParity_54 (lv_at hl 0 rfl) ?_
      refine sL hx hb hK hP hD hS 1 0 rfl rfl (ix_lt (by omega) (by omega) (by omega)) (by decide) dX_mendParity_56 (fun H locs hP hD hS => ?_)
      have hP : va_P D cls_ (wX o a b cA iA (vp_updL cf (ix (t % 5) t 1) (xo cf (t % 5) t 1)) uf) H := hP
      have hD : va_D A (wX o a b cA iA (vp_updL cf (ix (t % 5) t 1) (xo cf (t % 5) t 1)) uf) := hD
      refine lv_iconst (v := nI 1) hx hb dX_mendParity_57 (by decide +kernel) ?_
      refine lv_istore_n hx hb dX_mendParity_58 rfl hl (by decide) rfl (fun ls hl => ?_)
      have hl : lv_has ls 8 [(3, .int (nI 1)), (6, .long (xo cf (t % 5) t 1)), (5, .int (nI (ix (t % 5) t 1))), (4, .int (nI 1)), (2, .int (nI (t % 5))), (0, .ref o), (1, .int (nI t))] := hl
      refine lv_iinc (k := 3) (v := nI 2) hx hb dX_mendParity_59 hl rfl (by decide +kernel)  (by decide) rfl (fun ls hl => ?_)
      have hl : lv_has ls 8 [(4, .int (nI 2)), (3, .int (nI 1)), (6, .long (xo cf (t % 5) t 1)), (5, .int (nI (ix (t % 5) t 1))), (2, .int (nI (t % 5))), (0, .ref o), (1, .int (nI t))] := hl
      refine lv_goto (tgt := 10) hx hb dX_mendParity_62 (by decide) ?_
      refine lv_iload hx hb dX_mendParity_10 (lv_at hl 0 rfl) ?_
      refine lv_iconst (v := nI 2) hx hb dX_mendParity_12 (by decide +kernel) ?_
      refine lv_icmp_ge (tgt := 65) hx hb dX_mendParity_13 (by decide) (fun h13 => ?_) (fun h13 => absurd (by decide +kernel) h13)
      refine lv_iload_n hx hb dX_mendParity_65 rfl (lv_at hl 1 rfl) ?_
      exact W.zret (v := nI 1) (ty := .boolean) hx hb hr nar_1 (fun t9 ht9 _ => ⟨⟨_, (), rfl, by show _ = _; rw [good_n1 e1]; rfl, by show va_P _ _ _ t9.heap; rw [ht9]; rw [show rbB cf (t % 5) t = vp_updL cf (ix (t % 5) t 1) (xo cf (t % 5) t 1) by rw [rbB, ← e0, updL_self]]; exact hP⟩, hS.F ht9⟩) hS.2.2 dX_mendParity_66
  · have e0 := fun z => h45 ((lg_cmp_eq _ _).mpr z)
    refine lv_aload_n hx hb dX_mendParity_48 rfl (lv_at hl 5 rfl) ?_
    refine va_get (D := D) (ci := 0) (v := .ref a) (C := R_X) (T := T_X) (N := 2) hx hb hg uX_in hown hK hP 0 rfl rfl 0 (by decide) (hg _ w_18) (fun _ h9 => h9) rfl dX_mendParity_49 ?_
    refine lv_iload hx hb dX_mendParity_52 (lv_at hl 1 rfl) ?_
    refine lv_lload hx hb dX_mendParity_54 (lv_at hl 0 rfl) ?_
    refine sL hx hb hK hP hD hS 1 0 rfl rfl (ix_lt (by omega) (by omega) (by omega)) (by decide) dX_mendParity_56 (fun H locs hP hD hS => ?_)
    have hP : va_P D cls_ (wX o a b cA iA (vp_updL cf (ix (t % 5) t 0) (xo cf (t % 5) t 0)) uf) H := hP
    have hD : va_D A (wX o a b cA iA (vp_updL cf (ix (t % 5) t 0) (xo cf (t % 5) t 0)) uf) := hD
    refine lv_iconst (v := nI 1) hx hb dX_mendParity_57 (by decide +kernel) ?_
    refine lv_istore_n hx hb dX_mendParity_58 rfl hl (by decide) rfl (fun ls hl => ?_)
    have hl : lv_has ls 8 [(3, .int (nI 1)), (6, .long (xo cf (t % 5) t 0)), (5, .int (nI (ix (t % 5) t 0))), (4, .int (nI 0)), (2, .int (nI (t % 5))), (0, .ref o), (1, .int (nI t))] := hl
    refine lv_iinc (k := 3) (v := nI 1) hx hb dX_mendParity_59 hl rfl (by decide +kernel)  (by decide) rfl (fun ls hl => ?_)
    have hl : lv_has ls 8 [(4, .int (nI 1)), (3, .int (nI 1)), (6, .long (xo cf (t % 5) t 0)), (5, .int (nI (ix (t % 5) t 0))), (2, .int (nI (t % 5))), (0, .ref o), (1, .int (nI t))] := hl
    refine lv_goto (tgt := 10) hx hb dX_mendParity_62 (by decide) ?_
    refine lv_iload hx hb dX_mendParity_10 (lv_at hl 0 rfl) ?_
    refine lv_iconst (v := nI 2) hx hb dX_mendParity_12 (by decide +kernel) ?_
    refine lv_icmp_ge (tgt := 65) hx hb dX_mendParity_13 (by decide) (fun h13 => absurd h13 (by decide +kernel)) (fun h13 => ?_)
    refine lv_iload_n hx hb dX_mendParity_16 rfl (lv_at hl 4 rfl) ?_
    refine lv_iload_n hx hb dX_mendParity_17 rfl (lv_at hl 6 rfl) ?_
    refine lv_iload hx hb dX_mendParity_18 (lv_at hl 0 rfl) ?_
    refine kS (n := 3) (As := [.int (nI (t % 5)), .int (nI t), .int (nI 1)]) (rest := []) ⟨hx, hb, hml, hown, hts⟩ (mX_cellOf l (t % 5) t 1) w_50 w_51 w_1 w_52 (by decide +kernel) ⟨rfl, rfl⟩ ⟨(Nat.le_of_ble_eq_true rfl), (Nat.le_of_ble_eq_true rfl)⟩ rfl hl.1 rfl (Nat.le_of_ble_eq_true rfl) dX_mendParity_20 ⟨Nat.zero_le _, Nat.zero_le _⟩ ?_
    refine lv_istore hx hb dX_mendParity_23 hl (by decide) rfl (fun ls hl => ?_)
    have hl : lv_has ls 8 [(5, .int (nI (ix (t % 5) t 1))), (4, .int (nI 1)), (3, .int (nI 1)), (6, .long (xo cf (t % 5) t 0)), (2, .int (nI (t % 5))), (0, .ref o), (1, .int (nI t))] := hl
    refine lv_aload_n hx hb dX_mendParity_25 rfl (lv_at hl 5 rfl) ?_
    refine lv_iload_n hx hb dX_mendParity_26 rfl (lv_at hl 4 rfl) ?_
    refine lv_iload_n hx hb dX_mendParity_27 rfl (lv_at hl 6 rfl) ?_
    refine lv_iload hx hb dX_mendParity_28 (lv_at hl 1 rfl) ?_
    refine kV (n := 3) (As := [.int (nI (t % 5)), .int (nI t), .int (nI 1)]) (rest := []) ⟨hx, hb, hml, hown, hts⟩ (mX_xorOfOthers l D o a b cA iA (vp_updL cf (ix (t % 5) t 0) (xo cf (t % 5) t 0)) uf (t % 5) t 1 (by omega) (by omega) (by omega)) w_53 w_55 v_4 w_1 w_56 (by decide +kernel) ⟨rfl, rfl⟩ ⟨(Nat.le_of_ble_eq_true rfl), (Nat.le_of_ble_eq_true rfl)⟩ hP hK 0 0 rfl rfl rfl hl.1 rfl (Nat.le_of_ble_eq_true rfl) dX_mendParity_30 ⟨Nat.zero_le _, Nat.zero_le _⟩ ?_
    refine lv_lstore hx hb dX_mendParity_33 hl (by decide) rfl (fun ls hl => ?_)
    have hl : lv_has ls 8 [(6, .long (xo (vp_updL cf (ix (t % 5) t 0) (xo cf (t % 5) t 0)) (t % 5) t 1)), (5, .int (nI (ix (t % 5) t 1))), (4, .int (nI 1)), (3, .int (nI 1)), (2, .int (nI (t % 5))), (0, .ref o), (1, .int (nI t))] := hl
    refine lv_aload_n hx hb dX_mendParity_35 rfl (lv_at hl 5 rfl) ?_
    refine va_get (D := D) (ci := 0) (v := .ref a) (C := R_X) (T := T_X) (N := 2) hx hb hg uX_in hown hK hP 0 rfl rfl 0 (by decide) (hg _ w_18) (fun _ h9 => h9) rfl dX_mendParity_36 ?_
    refine lv_iload hx hb dX_mendParity_39 (lv_at hl 1 rfl) ?_
    refine aL hx hb hK hP 1 0 rfl rfl (ix_lt (by omega) (by omega) (by omega)) (by decide) dX_mendParity_41 ?_
    refine lv_lload hx hb dX_mendParity_42 (lv_at hl 0 rfl) ?_
    refine W.lcmp hx hb dX_mendParity_44 ?_
    refine lv_if_eq (tgt := 59) hx hb dX_mendParity_45 (by decide) (fun h45 => ?_) (fun h45 => ?_)
    · have e1 := (lg_cmp_eq _ _).mp h45
      refine lv_iinc (k := 2) (v := nI 2) hx hb dX_mendParity_59 hl rfl (by decide +kernel)  (by decide) rfl (fun ls hl => ?_)
      have hl : lv_has ls 8 [(4, .int (nI 2)), (6, .long (xo (vp_updL cf (ix (t % 5) t 0) (xo cf (t % 5) t 0)) (t % 5) t 1)), (5, .int (nI (ix (t % 5) t 1))), (3, .int (nI 1)), (2, .int (nI (t % 5))), (0, .ref o), (1, .int (nI t))] := hl
      refine lv_goto (tgt := 10) hx hb dX_mendParity_62 (by decide) ?_
      refine lv_iload hx hb dX_mendParity_10 (lv_at hl 0 rfl) ?_
      refine lv_iconst (v := nI 2) hx hb dX_mendParity_12 (by decide +kernel) ?_
      refine lv_icmp_ge (tgt := 65) hx hb dX_mendParity_13 (by decide) (fun h13 => ?_) (fun h13 => absurd (by decide +kernel) h13)
      refine lv_iload_n hx hb dX_mendParity_65 rfl (lv_at hl 3 rfl) ?_
      exact W.zret (v := nI 1) (ty := .boolean) hx hb hr nar_1 (fun t9 ht9 _ => ⟨⟨_, (), rfl, by show _ = _; rw [good_n0 e0]; rfl, by show va_P _ _ _ t9.heap; rw [ht9]; rw [show rbB cf (t % 5) t = vp_updL cf (ix (t % 5) t 0) (xo cf (t % 5) t 0) by rw [rbB, ← e1, updL_self]]; exact hP⟩, hS.F ht9⟩) hS.2.2 dX_mendParity_66
    · have e1 := fun z => h45 ((lg_cmp_eq _ _).mpr z)
      refine lv_aload_n hx hb dX_mendParity_48 rfl (lv_at hl 5 rfl) ?_
      refine va_get (D := D) (ci := 0) (v := .ref a) (C := R_X) (T := T_X) (N := 2) hx hb hg uX_in hown hK hP 0 rfl rfl 0 (by decide) (hg _ w_18) (fun _ h9 => h9) rfl dX_mendParity_49 ?_
      refine lv_iload hx hb dX_mendParity_52 (lv_at hl 1 rfl) ?_
      refine lv_lload hx hb dX_mendParity_54 (lv_at hl 0 rfl) ?_
      refine sL hx hb hK hP hD hS 1 0 rfl rfl (ix_lt (by omega) (by omega) (by omega)) (by decide) dX_mendParity_56 (fun H locs hP hD hS => ?_)
      have hP : va_P D cls_ (wX o a b cA iA (vp_updL (vp_updL cf (ix (t % 5) t 0) (xo cf (t % 5) t 0)) (ix (t % 5) t 1) (xo (vp_updL cf (ix (t % 5) t 0) (xo cf (t % 5) t 0)) (t % 5) t 1)) uf) H := hP
      have hD : va_D A (wX o a b cA iA (vp_updL (vp_updL cf (ix (t % 5) t 0) (xo cf (t % 5) t 0)) (ix (t % 5) t 1) (xo (vp_updL cf (ix (t % 5) t 0) (xo cf (t % 5) t 0)) (t % 5) t 1)) uf) := hD
      refine lv_iconst (v := nI 1) hx hb dX_mendParity_57 (by decide +kernel) ?_
      refine lv_istore_n hx hb dX_mendParity_58 rfl hl (by decide) rfl (fun ls hl => ?_)
      have hl : lv_has ls 8 [(3, .int (nI 1)), (6, .long (xo (vp_updL cf (ix (t % 5) t 0) (xo cf (t % 5) t 0)) (t % 5) t 1)), (5, .int (nI (ix (t % 5) t 1))), (4, .int (nI 1)), (2, .int (nI (t % 5))), (0, .ref o), (1, .int (nI t))] := hl
      refine lv_iinc (k := 3) (v := nI 2) hx hb dX_mendParity_59 hl rfl (by decide +kernel)  (by decide) rfl (fun ls hl => ?_)
      have hl : lv_has ls 8 [(4, .int (nI 2)), (3, .int (nI 1)), (6, .long (xo (vp_updL cf (ix (t % 5) t 0) (xo cf (t % 5) t 0)) (t % 5) t 1)), (5, .int (nI (ix (t % 5) t 1))), (2, .int (nI (t % 5))), (0, .ref o), (1, .int (nI t))] := hl
      refine lv_goto (tgt := 10) hx hb dX_mendParity_62 (by decide) ?_
      refine lv_iload hx hb dX_mendParity_10 (lv_at hl 0 rfl) ?_
      refine lv_iconst (v := nI 2) hx hb dX_mendParity_12 (by decide +kernel) ?_
      refine lv_icmp_ge (tgt := 65) hx hb dX_mendParity_13 (by decide) (fun h13 => ?_) (fun h13 => absurd (by decide +kernel) h13)
      refine lv_iload_n hx hb dX_mendParity_65 rfl (lv_at hl 1 rfl) ?_
      exact W.zret (v := nI 1) (ty := .boolean) hx hb hr nar_1 (fun t9 ht9 _ => ⟨⟨_, (), rfl, by show _ = _; rw [good_n0 e0]; rfl, by show va_P _ _ _ t9.heap; rw [ht9]; exact hP⟩, hS.F ht9⟩) hS.2.2 dX_mendParity_66
set_option maxHeartbeats 4000000 in
set_option maxRecDepth 100000 in
theorem mX_write_ok (l : Launch) (D : va_G) (o a b : Nat) (cA iA : ClassId) (cf : Nat → Int64) (uf : Nat → Int32) (sz : Nat) (q h : Nat) (hq : q < 400) (hh : h < 2) (v : Int64) (hil : il uf (dk q) (q / 4) = false) : Met l yX_write (.code yX_write cX_write 10 none :: gW) ({ frames := 7, cells := 0, slots := 0, locals := 116 }) (pWs D (wX o a b cA iA cf uf) (kT cA iA) sz [.ref o, .int (nI q), .int (nI h), .long v]) (QV D (wX o a b cA iA (wN cf uf q h v) uf) (va_A (wX o a b cA iA cf uf) sz)) 0 0 (va_A (wX o a b cA iA cf uf) sz) := by
  refine Met.ofW (cc := cX_write) (maxL := 10) (ret := none) (by decide) rfl ?_
  intro p e s m args below meth c s₁ B hml hv
  obtain ⟨rfl, hsz, hP, hK, hD0⟩ := hv
  have hx := B.exec
  have hb := B.bytes
  have hr := B.returns
  have hts := atoms_spec (ws := (.code yX_write cX_write 10 none :: gW)) B.pre
  have hg : ∀ w ∈ gW, w.before ([.ref o, .int (nI q), .int (nI h), .long v]).toArray s = true := fun w h => hts w (List.mem_cons_of_mem _ h)
  have hown : s.vm.findClass R_X = some m.cls := findClass_of_methodNamed B.named
  have hlocks := B.notSynchronized
  subst hsz
  have hD := hD0.self (sz := s.heap.size)
  generalize hAe : va_A (wX o a b cA iA cf uf) s.heap.size = A at hD ⊢
  have hA : ∀ q : Nat, s.heap.size ≤ q → A q := fun q h => by rw [← hAe]; exact Or.inr h
  have hS : va_S A s.heap s.heap [] := va_S.rf
  have hP : va_P D cls_ (wX o a b cA iA cf uf) s.heap := hP
  have hl := lv_entry ([.ref o, .int (nI q), .int (nI h), .long v]) (n := 10) (Nat.le_of_ble_eq_true rfl)
  rw [lg_entry_eq]
  generalize (lg_sl ([.ref o, .int (nI q), .int (nI h), .long v]) ++ List.replicate (10 - (lg_sl ([.ref o, .int (nI q), .int (nI h), .long v])).length) Slot.unset).toArray = ls at hl ⊢
  have hl : lv_has ls 10 [(0, .ref o), (1, .int (nI q)), (2, .int (nI h)), (3, .long v)] := hl
  refine lv_iload_n hx hb dX_write_0 rfl (lv_at hl 1 rfl) ?_
  refine kSn (n := 1) (As := [.int (nI q)]) (rest := []) ⟨hx, hb, hml, hown, hts⟩ (mX_checkPlace_ok l q (by omega)) w_80 w_81 w_1 w_82 (by decide +kernel) ⟨rfl, rfl⟩ ⟨(Nat.le_of_ble_eq_true rfl), (Nat.le_of_ble_eq_true rfl)⟩ rfl hl.1 rfl (Nat.le_of_ble_eq_true rfl) dX_write_1 ⟨Nat.zero_le _, Nat.zero_le _⟩ ?_
  refine lv_iload_n hx hb dX_write_4 rfl (lv_at hl 2 rfl) ?_
  refine kSn (n := 1) (As := [.int (nI h)]) (rest := []) ⟨hx, hb, hml, hown, hts⟩ (mX_checkHalf_ok l h (by omega)) w_151 w_152 w_1 w_153 (by decide +kernel) ⟨rfl, rfl⟩ ⟨(Nat.le_of_ble_eq_true rfl), (Nat.le_of_ble_eq_true rfl)⟩ rfl hl.1 rfl (Nat.le_of_ble_eq_true rfl) dX_write_5 ⟨Nat.zero_le _, Nat.zero_le _⟩ ?_
  refine lv_iload_n hx hb dX_write_8 rfl (lv_at hl 1 rfl) ?_
  refine kS (n := 1) (As := [.int (nI q)]) (rest := []) ⟨hx, hb, hml, hown, hts⟩ (mX_stripeOf l q (by omega)) w_64 w_65 w_1 w_66 (by decide +kernel) ⟨rfl, rfl⟩ ⟨(Nat.le_of_ble_eq_true rfl), (Nat.le_of_ble_eq_true rfl)⟩ rfl hl.1 rfl (Nat.le_of_ble_eq_true rfl) dX_write_9 ⟨Nat.zero_le _, Nat.zero_le _⟩ ?_
  refine lv_istore hx hb dX_write_12 hl (by decide) rfl (fun ls hl => ?_)
  have hl : lv_has ls 10 [(5, .int (nI (q / 4))), (0, .ref o), (1, .int (nI q)), (2, .int (nI h)), (3, .long v)] := hl
  refine lv_iload_n hx hb dX_write_14 rfl (lv_at hl 2 rfl) ?_
  refine kS (n := 1) (As := [.int (nI q)]) (rest := []) ⟨hx, hb, hml, hown, hts⟩ (mX_diskOf l q (by omega)) w_61 w_62 w_1 w_63 (by decide +kernel) ⟨rfl, rfl⟩ ⟨(Nat.le_of_ble_eq_true rfl), (Nat.le_of_ble_eq_true rfl)⟩ rfl hl.1 rfl (Nat.le_of_ble_eq_true rfl) dX_write_15 ⟨Nat.zero_le _, Nat.zero_le _⟩ ?_
  refine lv_istore hx hb dX_write_18 hl (by decide) rfl (fun ls hl => ?_)
  have hl : lv_has ls 10 [(6, .int (nI (dk q))), (5, .int (nI (q / 4))), (0, .ref o), (1, .int (nI q)), (2, .int (nI h)), (3, .long v)] := hl
  refine lv_aload_n hx hb dX_write_20 rfl (lv_at hl 2 rfl) ?_
  refine lv_iload hx hb dX_write_21 (lv_at hl 0 rfl) ?_
  refine lv_iload hx hb dX_write_23 (lv_at hl 1 rfl) ?_
  refine kV (n := 2) (As := [.int (nI (dk q)), .int (nI (q / 4))]) (rest := []) ⟨hx, hb, hml, hown, hts⟩ (mX_isLost l D o a b cA iA cf uf (dk q) (q / 4) (dk_lt _) (by omega)) w_67 w_69 v_5 w_1 w_70 (by decide +kernel) ⟨rfl, rfl⟩ ⟨(Nat.le_of_ble_eq_true rfl), (Nat.le_of_ble_eq_true rfl)⟩ hP hK 0 0 rfl rfl rfl hl.1 rfl (Nat.le_of_ble_eq_true rfl) dX_write_25 ⟨Nat.zero_le _, Nat.zero_le _⟩ ?_
  refine lv_if_eq (tgt := 41) hx hb dX_write_28 (by decide) (fun h28 => ?_) (fun h28 => absurd (bi_z hil) h28)
  refine lv_aload_n hx hb dX_write_41 rfl (lv_at hl 2 rfl) ?_
  refine lv_iload hx hb dX_write_42 (lv_at hl 0 rfl) ?_
  refine lv_iload hx hb dX_write_44 (lv_at hl 1 rfl) ?_
  refine lv_iload_n hx hb dX_write_46 rfl (lv_at hl 4 rfl) ?_
  refine kV (n := 3) (As := [.int (nI (dk q)), .int (nI (q / 4)), .int (nI h)]) (rest := []) ⟨hx, hb, hml, hown, hts⟩ (mX_whatItHas l D o a b cA iA cf uf (dk q) (q / 4) h (dk_lt _) (by omega) (by omega)) w_171 w_173 v_7 w_1 w_174 (by decide +kernel) ⟨rfl, rfl⟩ ⟨(Nat.le_of_ble_eq_true rfl), (Nat.le_of_ble_eq_true rfl)⟩ hP hK 0 0 rfl rfl rfl hl.1 rfl (Nat.le_of_ble_eq_true rfl) dX_write_47 ⟨Nat.zero_le _, Nat.zero_le _⟩ ?_
  refine lv_lstore hx hb dX_write_50 hl (by decide) rfl (fun ls hl => ?_)
  have hl : lv_has ls 10 [(7, .long (wh cf uf (dk q) (q / 4) h)), (6, .int (nI (dk q))), (5, .int (nI (q / 4))), (0, .ref o), (1, .int (nI q)), (2, .int (nI h)), (3, .long v)] := hl
  refine lv_iload hx hb dX_write_52 (lv_at hl 2 rfl) ?_
  refine kS (n := 1) (As := [.int (nI (q / 4))]) (rest := []) ⟨hx, hb, hml, hown, hts⟩ (mX_parityDiskOf l (q / 4) (by omega)) w_35 w_36 w_1 w_37 (by decide +kernel) ⟨rfl, rfl⟩ ⟨(Nat.le_of_ble_eq_true rfl), (Nat.le_of_ble_eq_true rfl)⟩ rfl hl.1 rfl (Nat.le_of_ble_eq_true rfl) dX_write_54 ⟨Nat.zero_le _, Nat.zero_le _⟩ ?_
  refine lv_istore hx hb dX_write_57 hl (by decide) rfl (fun ls hl => ?_)
  have hl : lv_has ls 10 [(9, .int (nI ((q / 4) % 5))), (7, .long (wh cf uf (dk q) (q / 4) h)), (6, .int (nI (dk q))), (5, .int (nI (q / 4))), (0, .ref o), (1, .int (nI q)), (2, .int (nI h)), (3, .long v)] := hl
  refine lv_aload_n hx hb dX_write_59 rfl (lv_at hl 4 rfl) ?_
  refine lv_iload hx hb dX_write_60 (lv_at hl 0 rfl) ?_
  refine lv_iload hx hb dX_write_62 (lv_at hl 3 rfl) ?_
  refine kV (n := 2) (As := [.int (nI ((q / 4) % 5)), .int (nI (q / 4))]) (rest := []) ⟨hx, hb, hml, hown, hts⟩ (mX_canBeUsed l D o a b cA iA cf uf ((q / 4) % 5) (q / 4) (by omega) (by omega)) w_38 w_40 v_1 w_1 w_41 (by decide +kernel) ⟨rfl, rfl⟩ ⟨(Nat.le_of_ble_eq_true rfl), (Nat.le_of_ble_eq_true rfl)⟩ hP hK 0 0 rfl rfl rfl hl.1 rfl (Nat.le_of_ble_eq_true rfl) dX_write_64 ⟨Nat.zero_le _, Nat.zero_le _⟩ ?_
  refine lv_if_eq (tgt := 90) hx hb dX_write_67 (by decide) (fun h67 => ?_) (fun h67 => ?_)
  · have e67 := bi_0 h67
    refine lv_aload_n hx hb dX_write_90 rfl (lv_at hl 4 rfl) ?_
    refine lv_iload hx hb dX_write_91 (lv_at hl 2 rfl) ?_
    refine lv_iload hx hb dX_write_93 (lv_at hl 3 rfl) ?_
    refine kV (n := 2) (As := [.int (nI (dk q)), .int (nI (q / 4))]) (rest := []) ⟨hx, hb, hml, hown, hts⟩ (mX_canBeUsed l D o a b cA iA cf uf (dk q) (q / 4) (dk_lt _) (by omega)) w_38 w_40 v_1 w_1 w_41 (by decide +kernel) ⟨rfl, rfl⟩ ⟨(Nat.le_of_ble_eq_true rfl), (Nat.le_of_ble_eq_true rfl)⟩ hP hK 0 0 rfl rfl rfl hl.1 rfl (Nat.le_of_ble_eq_true rfl) dX_write_95 ⟨Nat.zero_le _, Nat.zero_le _⟩ ?_
    refine lv_if_eq (tgt := 115) hx hb dX_write_98 (by decide) (fun h98 => ?_) (fun h98 => ?_)
    · have e98 := bi_0 h98
      exact W.vret hx hb hr (fun t9 ht9 _ => ⟨⟨(), rfl, trivial, by show va_P _ _ _ t9.heap; rw [ht9]; rw [wN, if_neg (nt_f e98), wP, if_neg (nt_f e67)]; exact hP⟩, hS.F ht9⟩) hS.2.2 dX_write_115
    · have e98 := bi_1 h98
      refine lv_aload_n hx hb dX_write_101 rfl (lv_at hl 4 rfl) ?_
      refine va_get (D := D) (ci := 0) (v := .ref a) (C := R_X) (T := T_X) (N := 2) hx hb hg uX_in hown hK hP 0 rfl rfl 0 (by decide) (hg _ w_18) (fun _ h9 => h9) rfl dX_write_102 ?_
      refine lv_iload hx hb dX_write_105 (lv_at hl 2 rfl) ?_
      refine lv_iload hx hb dX_write_107 (lv_at hl 3 rfl) ?_
      refine lv_iload_n hx hb dX_write_109 rfl (lv_at hl 6 rfl) ?_
      refine kS (n := 3) (As := [.int (nI (dk q)), .int (nI (q / 4)), .int (nI h)]) (rest := [.ref a]) ⟨hx, hb, hml, hown, hts⟩ (mX_cellOf l (dk q) (q / 4) h) w_50 w_51 w_1 w_52 (by decide +kernel) ⟨rfl, rfl⟩ ⟨(Nat.le_of_ble_eq_true rfl), (Nat.le_of_ble_eq_true rfl)⟩ rfl hl.1 rfl (Nat.le_of_ble_eq_true rfl) dX_write_110 ⟨Nat.zero_le _, Nat.zero_le _⟩ ?_
      refine lv_lload_n hx hb dX_write_113 rfl (lv_at hl 7 rfl) ?_
      refine sL hx hb hK hP hD hS 1 0 rfl rfl (ix_lt (dk_lt _) (by omega) (by omega)) (by decide) dX_write_114 (fun H locs hP hD hS => ?_)
      have hP : va_P D cls_ (wX o a b cA iA (vp_updL cf (ix (dk q) (q / 4) h) v) uf) H := hP
      have hD : va_D A (wX o a b cA iA (vp_updL cf (ix (dk q) (q / 4) h) v) uf) := hD
      exact W.vret hx hb hr (fun t9 ht9 _ => ⟨⟨(), rfl, trivial, by show va_P _ _ _ t9.heap; rw [ht9]; rw [wN, if_pos e98, wP, if_neg (nt_f e67)]; exact hP⟩, hS.F ht9⟩) hS.2.2 dX_write_115
  · have e67 := bi_1 h67
    refine lv_aload_n hx hb dX_write_70 rfl (lv_at hl 4 rfl) ?_
    refine va_get (D := D) (ci := 0) (v := .ref a) (C := R_X) (T := T_X) (N := 2) hx hb hg uX_in hown hK hP 0 rfl rfl 0 (by decide) (hg _ w_18) (fun _ h9 => h9) rfl dX_write_71 ?_
    refine lv_iload hx hb dX_write_74 (lv_at hl 0 rfl) ?_
    refine lv_iload hx hb dX_write_76 (lv_at hl 3 rfl) ?_
    refine lv_iload_n hx hb dX_write_78 rfl (lv_at hl 6 rfl) ?_
    refine kS (n := 3) (As := [.int (nI ((q / 4) % 5)), .int (nI (q / 4)), .int (nI h)]) (rest := [.ref a]) ⟨hx, hb, hml, hown, hts⟩ (mX_cellOf l ((q / 4) % 5) (q / 4) h) w_50 w_51 w_1 w_52 (by decide +kernel) ⟨rfl, rfl⟩ ⟨(Nat.le_of_ble_eq_true rfl), (Nat.le_of_ble_eq_true rfl)⟩ rfl hl.1 rfl (Nat.le_of_ble_eq_true rfl) dX_write_79 ⟨Nat.zero_le _, Nat.zero_le _⟩ ?_
    refine lv_dup2_11 hx hb dX_write_82 rfl rfl ?_
    refine aL hx hb hK hP 1 0 rfl rfl (ix_lt (by omega) (by omega) (by omega)) (by decide) dX_write_83 ?_
    refine lv_lload hx hb dX_write_84 (lv_at hl 1 rfl) ?_
    refine lv_lload_n hx hb dX_write_86 rfl (lv_at hl 7 rfl) ?_
    refine lv_lxor hx hb dX_write_87 ?_
    refine lv_lxor hx hb dX_write_88 ?_
    refine sL hx hb hK hP hD hS 1 0 rfl rfl (ix_lt (by omega) (by omega) (by omega)) (by decide) dX_write_89 (fun H locs hP hD hS => ?_)
    have hP : va_P D cls_ (wX o a b cA iA (vp_updL cf (ix ((q / 4) % 5) (q / 4) h) ((cf (ix ((q / 4) % 5) (q / 4) h)) ^^^ ((wh cf uf (dk q) (q / 4) h) ^^^ v))) uf) H := hP
    have hD : va_D A (wX o a b cA iA (vp_updL cf (ix ((q / 4) % 5) (q / 4) h) ((cf (ix ((q / 4) % 5) (q / 4) h)) ^^^ ((wh cf uf (dk q) (q / 4) h) ^^^ v))) uf) := hD
    refine lv_aload_n hx hb dX_write_90 rfl (lv_at hl 4 rfl) ?_
    refine lv_iload hx hb dX_write_91 (lv_at hl 2 rfl) ?_
    refine lv_iload hx hb dX_write_93 (lv_at hl 3 rfl) ?_
    refine kV (n := 2) (As := [.int (nI (dk q)), .int (nI (q / 4))]) (rest := []) ⟨hx, hb, hml, hown, hts⟩ (mX_canBeUsed l D o a b cA iA (vp_updL cf (ix ((q / 4) % 5) (q / 4) h) ((cf (ix ((q / 4) % 5) (q / 4) h)) ^^^ ((wh cf uf (dk q) (q / 4) h) ^^^ v))) uf (dk q) (q / 4) (dk_lt _) (by omega)) w_38 w_40 v_1 w_1 w_41 (by decide +kernel) ⟨rfl, rfl⟩ ⟨(Nat.le_of_ble_eq_true rfl), (Nat.le_of_ble_eq_true rfl)⟩ hP hK 0 0 rfl rfl rfl hl.1 rfl (Nat.le_of_ble_eq_true rfl) dX_write_95 ⟨Nat.zero_le _, Nat.zero_le _⟩ ?_
    refine lv_if_eq (tgt := 115) hx hb dX_write_98 (by decide) (fun h98 => ?_) (fun h98 => ?_)
    · have e98 := bi_0 h98
      exact W.vret hx hb hr (fun t9 ht9 _ => ⟨⟨(), rfl, trivial, by show va_P _ _ _ t9.heap; rw [ht9]; rw [wN, if_neg (nt_f e98), wP, if_pos e67]; exact hP⟩, hS.F ht9⟩) hS.2.2 dX_write_115
    · have e98 := bi_1 h98
      refine lv_aload_n hx hb dX_write_101 rfl (lv_at hl 4 rfl) ?_
      refine va_get (D := D) (ci := 0) (v := .ref a) (C := R_X) (T := T_X) (N := 2) hx hb hg uX_in hown hK hP 0 rfl rfl 0 (by decide) (hg _ w_18) (fun _ h9 => h9) rfl dX_write_102 ?_
      refine lv_iload hx hb dX_write_105 (lv_at hl 2 rfl) ?_
      refine lv_iload hx hb dX_write_107 (lv_at hl 3 rfl) ?_
      refine lv_iload_n hx hb dX_write_109 rfl (lv_at hl 6 rfl) ?_
      refine kS (n := 3) (As := [.int (nI (dk q)), .int (nI (q / 4)), .int (nI h)]) (rest := [.ref a]) ⟨hx, hb, hml, hown, hts⟩ (mX_cellOf l (dk q) (q / 4) h) w_50 w_51 w_1 w_52 (by decide +kernel) ⟨rfl, rfl⟩ ⟨(Nat.le_of_ble_eq_true rfl), (Nat.le_of_ble_eq_true rfl)⟩ rfl hl.1 rfl (Nat.le_of_ble_eq_true rfl) dX_write_110 ⟨Nat.zero_le _, Nat.zero_le _⟩ ?_
      refine lv_lload_n hx hb dX_write_113 rfl (lv_at hl 7 rfl) ?_
      refine sL hx hb hK hP hD hS 1 0 rfl rfl (ix_lt (dk_lt _) (by omega) (by omega)) (by decide) dX_write_114 (fun H locs hP hD hS => ?_)
      have hP : va_P D cls_ (wX o a b cA iA (vp_updL (vp_updL cf (ix ((q / 4) % 5) (q / 4) h) ((cf (ix ((q / 4) % 5) (q / 4) h)) ^^^ ((wh cf uf (dk q) (q / 4) h) ^^^ v))) (ix (dk q) (q / 4) h) v) uf) H := hP
      have hD : va_D A (wX o a b cA iA (vp_updL (vp_updL cf (ix ((q / 4) % 5) (q / 4) h) ((cf (ix ((q / 4) % 5) (q / 4) h)) ^^^ ((wh cf uf (dk q) (q / 4) h) ^^^ v))) (ix (dk q) (q / 4) h) v) uf) := hD
      exact W.vret hx hb hr (fun t9 ht9 _ => ⟨⟨(), rfl, trivial, by show va_P _ _ _ t9.heap; rw [ht9]; rw [wN, if_pos e98, wP, if_pos e67]; exact hP⟩, hS.F ht9⟩) hS.2.2 dX_write_115
set_option maxHeartbeats 4000000 in
set_option maxRecDepth 100000 in
theorem mX_fail_ok (l : Launch) (D : va_G) (o a b : Nat) (cA iA : ClassId) (cf : Nat → Int64) (uf : Nat → Int32) (sz : Nat) (d : Nat) (hd : d < 5) : Met l yX_fail (.code yX_fail cX_fail 2 none :: gW) ({ frames := 7, cells := 0, slots := 0, locals := 116 }) (pWs D (wX o a b cA iA cf uf) (kT cA iA) sz [.ref o, .int (nI d)]) (QV D (wX o a b cA iA cf (upd uf d (-1))) (va_A (wX o a b cA iA cf uf) sz)) 0 0 (va_A (wX o a b cA iA cf uf) sz) := by
  refine Met.ofW (cc := cX_fail) (maxL := 2) (ret := none) (by decide) rfl ?_
  intro p e s m args below meth c s₁ B hml hv
  obtain ⟨rfl, hsz, hP, hK, hD0⟩ := hv
  have hx := B.exec
  have hb := B.bytes
  have hr := B.returns
  have hts := atoms_spec (ws := (.code yX_fail cX_fail 2 none :: gW)) B.pre
  have hg : ∀ w ∈ gW, w.before ([.ref o, .int (nI d)]).toArray s = true := fun w h => hts w (List.mem_cons_of_mem _ h)
  have hown : s.vm.findClass R_X = some m.cls := findClass_of_methodNamed B.named
  have hlocks := B.notSynchronized
  subst hsz
  have hD := hD0.self (sz := s.heap.size)
  generalize hAe : va_A (wX o a b cA iA cf uf) s.heap.size = A at hD ⊢
  have hA : ∀ q : Nat, s.heap.size ≤ q → A q := fun q h => by rw [← hAe]; exact Or.inr h
  have hS : va_S A s.heap s.heap [] := va_S.rf
  have hP : va_P D cls_ (wX o a b cA iA cf uf) s.heap := hP
  have hl := lv_entry ([.ref o, .int (nI d)]) (n := 2) (Nat.le_of_ble_eq_true rfl)
  rw [lg_entry_eq]
  generalize (lg_sl ([.ref o, .int (nI d)]) ++ List.replicate (2 - (lg_sl ([.ref o, .int (nI d)])).length) Slot.unset).toArray = ls at hl ⊢
  have hl : lv_has ls 2 [(0, .ref o), (1, .int (nI d))] := hl
  refine lv_iload_n hx hb dX_fail_0 rfl (lv_at hl 1 rfl) ?_
  refine kSn (n := 1) (As := [.int (nI d)]) (rest := []) ⟨hx, hb, hml, hown, hts⟩ (mX_checkDisk_ok l d (by omega)) w_190 w_191 w_1 w_192 (by decide +kernel) ⟨rfl, rfl⟩ ⟨(Nat.le_of_ble_eq_true rfl), (Nat.le_of_ble_eq_true rfl)⟩ rfl hl.1 rfl (Nat.le_of_ble_eq_true rfl) dX_fail_1 ⟨Nat.zero_le _, Nat.zero_le _⟩ ?_
  refine lv_aload_n hx hb dX_fail_4 rfl (lv_at hl 0 rfl) ?_
  refine va_get (D := D) (ci := 0) (v := .ref b) (C := R_X) (T := T_X) (N := 2) hx hb hg uX_in hown hK hP 0 rfl rfl 1 (by decide) (hg _ w_19) (fun _ h9 => h9) rfl dX_fail_5 ?_
  refine lv_iload_n hx hb dX_fail_8 rfl (lv_at hl 1 rfl) ?_
  refine lv_iconst (v := -1) hx hb dX_fail_9 (by decide +kernel) ?_
  refine sI hx hb hK hP hD hS 2 1 rfl rfl (by omega) (by decide) dX_fail_10 (fun H locs hP hD hS => ?_)
  have hP : va_P D cls_ (wX o a b cA iA cf (upd uf d (-1))) H := hP
  have hD : va_D A (wX o a b cA iA cf (upd uf d (-1))) := hD
  exact W.vret hx hb hr (fun t9 ht9 _ => ⟨⟨(), rfl, trivial, by show va_P _ _ _ t9.heap; rw [ht9]; exact hP⟩, hS.F ht9⟩) hS.2.2 dX_fail_11
set_option maxHeartbeats 4000000 in
set_option maxRecDepth 100000 in
theorem mX_flip_ok (l : Launch) (D : va_G) (o a b : Nat) (cA iA : ClassId) (cf : Nat → Int64) (uf : Nat → Int32) (sz : Nat) (d t h : Nat) (hd : d < 5) (ht : t < 100) (hh : h < 2) (v : Int64) (hu : ¬ uf d = -1) : Met l yX_flip (.code yX_flip cX_flip 6 none :: gW) ({ frames := 8, cells := 0, slots := 0, locals := 139 }) (pWs D (wX o a b cA iA cf uf) (kT cA iA) sz [.ref o, .int (nI d), .int (nI t), .int (nI h), .long v]) (QV D (wX o a b cA iA (vp_updL cf (ix d t h) (cf (ix d t h) ^^^ v)) uf) (va_A (wX o a b cA iA cf uf) sz)) 0 0 (va_A (wX o a b cA iA cf uf) sz) := by
  refine Met.ofW (cc := cX_flip) (maxL := 6) (ret := none) (by decide) rfl ?_
  intro p e s m args below meth c s₁ B hml hv
  obtain ⟨rfl, hsz, hP, hK, hD0⟩ := hv
  have hx := B.exec
  have hb := B.bytes
  have hr := B.returns
  have hts := atoms_spec (ws := (.code yX_flip cX_flip 6 none :: gW)) B.pre
  have hg : ∀ w ∈ gW, w.before ([.ref o, .int (nI d), .int (nI t), .int (nI h), .long v]).toArray s = true := fun w h => hts w (List.mem_cons_of_mem _ h)
  have hown : s.vm.findClass R_X = some m.cls := findClass_of_methodNamed B.named
  have hlocks := B.notSynchronized
  subst hsz
  have hD := hD0.self (sz := s.heap.size)
  generalize hAe : va_A (wX o a b cA iA cf uf) s.heap.size = A at hD ⊢
  have hA : ∀ q : Nat, s.heap.size ≤ q → A q := fun q h => by rw [← hAe]; exact Or.inr h
  have hS : va_S A s.heap s.heap [] := va_S.rf
  have hP : va_P D cls_ (wX o a b cA iA cf uf) s.heap := hP
  have hl := lv_entry ([.ref o, .int (nI d), .int (nI t), .int (nI h), .long v]) (n := 6) (Nat.le_of_ble_eq_true rfl)
  rw [lg_entry_eq]
  generalize (lg_sl ([.ref o, .int (nI d), .int (nI t), .int (nI h), .long v]) ++ List.replicate (6 - (lg_sl ([.ref o, .int (nI d), .int (nI t), .int (nI h), .long v])).length) Slot.unset).toArray = ls at hl ⊢
  have hl : lv_has ls 6 [(0, .ref o), (1, .int (nI d)), (2, .int (nI t)), (3, .int (nI h)), (4, .long v)] := hl
  refine lv_aload_n hx hb dX_flip_0 rfl (lv_at hl 0 rfl) ?_
  refine lv_iload_n hx hb dX_flip_1 rfl (lv_at hl 1 rfl) ?_
  refine lv_iload_n hx hb dX_flip_2 rfl (lv_at hl 2 rfl) ?_
  refine lv_iload_n hx hb dX_flip_3 rfl (lv_at hl 3 rfl) ?_
  refine kVn (n := 3) (As := [.int (nI d), .int (nI t), .int (nI h)]) (rest := []) ⟨hx, hb, hml, hown, hts⟩ (mX_checkStanding_ok l D o a b cA iA cf uf d t h (by omega) (by omega) (by omega) hu) w_241 w_243 v_9 w_1 w_244 (by decide +kernel) ⟨rfl, rfl⟩ ⟨(Nat.le_of_ble_eq_true rfl), (Nat.le_of_ble_eq_true rfl)⟩ hP hK 0 0 rfl rfl rfl hl.1 rfl (Nat.le_of_ble_eq_true rfl) dX_flip_4 ⟨Nat.zero_le _, Nat.zero_le _⟩ ?_
  refine lv_aload_n hx hb dX_flip_7 rfl (lv_at hl 0 rfl) ?_
  refine va_get (D := D) (ci := 0) (v := .ref a) (C := R_X) (T := T_X) (N := 2) hx hb hg uX_in hown hK hP 0 rfl rfl 0 (by decide) (hg _ w_18) (fun _ h9 => h9) rfl dX_flip_8 ?_
  refine lv_iload_n hx hb dX_flip_11 rfl (lv_at hl 1 rfl) ?_
  refine lv_iload_n hx hb dX_flip_12 rfl (lv_at hl 2 rfl) ?_
  refine lv_iload_n hx hb dX_flip_13 rfl (lv_at hl 3 rfl) ?_
  refine kS (n := 3) (As := [.int (nI d), .int (nI t), .int (nI h)]) (rest := [.ref a]) ⟨hx, hb, hml, hown, hts⟩ (mX_cellOf l d t h) w_50 w_51 w_1 w_52 (by decide +kernel) ⟨rfl, rfl⟩ ⟨(Nat.le_of_ble_eq_true rfl), (Nat.le_of_ble_eq_true rfl)⟩ rfl hl.1 rfl (Nat.le_of_ble_eq_true rfl) dX_flip_14 ⟨Nat.zero_le _, Nat.zero_le _⟩ ?_
  refine lv_dup2_11 hx hb dX_flip_17 rfl rfl ?_
  refine aL hx hb hK hP 1 0 rfl rfl (ix_lt (by omega) (by omega) (by omega)) (by decide) dX_flip_18 ?_
  refine lv_lload hx hb dX_flip_19 (lv_at hl 4 rfl) ?_
  refine lv_lxor hx hb dX_flip_21 ?_
  refine sL hx hb hK hP hD hS 1 0 rfl rfl (ix_lt (by omega) (by omega) (by omega)) (by decide) dX_flip_22 (fun H locs hP hD hS => ?_)
  have hP : va_P D cls_ (wX o a b cA iA (vp_updL cf (ix d t h) ((cf (ix d t h)) ^^^ v)) uf) H := hP
  have hD : va_D A (wX o a b cA iA (vp_updL cf (ix d t h) ((cf (ix d t h)) ^^^ v)) uf) := hD
  exact W.vret hx hb hr (fun t9 ht9 _ => ⟨⟨(), rfl, trivial, by show va_P _ _ _ t9.heap; rw [ht9]; exact hP⟩, hS.F ht9⟩) hS.2.2 dX_flip_23
end
section
set_option maxHeartbeats 4000000 in
set_option maxRecDepth 100000 in
theorem mX_replace_ok (l : Launch) (D : va_G) (o a b : Nat) (cA iA : ClassId) (cf : Nat → Int64) (uf : Nat → Int32) (sz : Nat) (d : Nat) (hd : d < 5) (hu : uf d = -1) : Met l yX_replace (.code yX_replace cX_replace 4 none :: gW) ({ frames := 7, cells := 0, slots := 0, locals := 116 }) (pWs D (wX o a b cA iA cf uf) (kT cA iA) sz [.ref o, .int (nI d)]) (QV D (wX o a b cA iA (zr cf d 100) (upd uf d (nI 0))) (va_A (wX o a b cA iA cf uf) sz)) 0 0 (va_A (wX o a b cA iA cf uf) sz) := by
  refine Met.ofW (cc := cX_replace) (maxL := 4) (ret := none) (by decide) rfl ?_
  intro p e s m args below meth c s₁ B hml hv
  obtain ⟨rfl, hsz, hP, hK, hD0⟩ := hv
  have hx := B.exec
  have hb := B.bytes
  have hr := B.returns
  have hts := atoms_spec (ws := (.code yX_replace cX_replace 4 none :: gW)) B.pre
  have hg : ∀ w ∈ gW, w.before ([.ref o, .int (nI d)]).toArray s = true := fun w h => hts w (List.mem_cons_of_mem _ h)
  have hown : s.vm.findClass R_X = some m.cls := findClass_of_methodNamed B.named
  have hlocks := B.notSynchronized
  subst hsz
  have hD := hD0.self (sz := s.heap.size)
  generalize hAe : va_A (wX o a b cA iA cf uf) s.heap.size = A at hD ⊢
  have hA : ∀ q : Nat, s.heap.size ≤ q → A q := fun q h => by rw [← hAe]; exact Or.inr h
  have hS : va_S A s.heap s.heap [] := va_S.rf
  have hP : va_P D cls_ (wX o a b cA iA cf uf) s.heap := hP
  have hl := lv_entry ([.ref o, .int (nI d)]) (n := 4) (Nat.le_of_ble_eq_true rfl)
  rw [lg_entry_eq]
  generalize (lg_sl ([.ref o, .int (nI d)]) ++ List.replicate (4 - (lg_sl ([.ref o, .int (nI d)])).length) Slot.unset).toArray = ls at hl ⊢
  have hl : lv_has ls 4 [(0, .ref o), (1, .int (nI d))] := hl
  refine lv_iload_n hx hb dX_replace_0 rfl (lv_at hl 1 rfl) ?_
  refine kSn (n := 1) (As := [.int (nI d)]) (rest := []) ⟨hx, hb, hml, hown, hts⟩ (mX_checkDisk_ok l d (by omega)) w_190 w_191 w_1 w_192 (by decide +kernel) ⟨rfl, rfl⟩ ⟨(Nat.le_of_ble_eq_true rfl), (Nat.le_of_ble_eq_true rfl)⟩ rfl hl.1 rfl (Nat.le_of_ble_eq_true rfl) dX_replace_1 ⟨Nat.zero_le _, Nat.zero_le _⟩ ?_
  refine lv_aload_n hx hb dX_replace_4 rfl (lv_at hl 0 rfl) ?_
  refine va_get (D := D) (ci := 0) (v := .ref b) (C := R_X) (T := T_X) (N := 2) hx hb hg uX_in hown hK hP 0 rfl rfl 1 (by decide) (hg _ w_19) (fun _ h9 => h9) rfl dX_replace_5 ?_
  refine lv_iload_n hx hb dX_replace_8 rfl (lv_at hl 1 rfl) ?_
  refine aI hx hb hK hP 2 1 rfl rfl (by omega) (by decide) dX_replace_9 ?_
  refine lv_iconst (v := -1) hx hb dX_replace_10 (by decide +kernel) ?_
  refine lv_icmp_eq (tgt := 24) hx hb dX_replace_11 (by decide) (fun h11 => ?_) (fun h11 => absurd hu h11)
  refine lv_iconst (v := nI 0) hx hb dX_replace_24 (by decide +kernel) ?_
  refine lv_istore_n hx hb dX_replace_25 rfl hl (by decide) rfl (fun ls hl => ?_)
  have hl : lv_has ls 4 [(2, .int (nI 0)), (0, .ref o), (1, .int (nI d))] := hl
  rw [← zr_0 cf d] at hP hD
  have key : ∀ (n : Nat) (j : Nat) (H : Heap) (locs : List Loc) (ls : Array Slot), j + n = 100 →  va_P D cls_ (wX o a b cA iA (zr cf d j) uf) H → va_D A (wX o a b cA iA (zr cf d j) uf) → va_S A s.heap H locs → lv_has ls 4 [(2, .int (nI j)), (0, .ref o), (1, .int (nI d))] → W p l e (headSpec (.code yX_replace cX_replace 4 none :: gW) ({ frames := 7, cells := 0, slots := 0, locals := 116 })).room s m ([.ref o, .int (nI d)]).toArray below meth c H locs 0 0 (MQ below (QV D (wX o a b cA iA (zr cf d 100) (upd uf d (nI 0))) A) ([.ref o, .int (nI d)]).toArray s 0 0 A) (F0 m 26 ls []) := by
    intro n
    induction n with
    | zero =>
      intro j H locs ls hj hP hD hS hl
      obtain rfl : j = 100 := by omega
      refine lv_iload_n hx hb dX_replace_26 rfl (lv_at hl 0 rfl) ?_
      refine lv_bipush (v := nI 100) hx hb dX_replace_27 (by decide +kernel) ?_
      refine lv_icmp_ge (tgt := 63) hx hb dX_replace_29 (by decide) (fun h29 => ?_) (fun h29 => absurd (nI_le (Nat.le_refl 100) (by decide)) h29)
      refine lv_aload_n hx hb dX_replace_63 rfl (lv_at hl 1 rfl) ?_
      refine va_get (D := D) (ci := 0) (v := .ref b) (C := R_X) (T := T_X) (N := 2) hx hb hg uX_in hown hK hP 0 rfl rfl 1 (by decide) (hg _ w_19) (fun _ h9 => h9) rfl dX_replace_64 ?_
      refine lv_iload_n hx hb dX_replace_67 rfl (lv_at hl 2 rfl) ?_
      refine lv_iconst (v := nI 0) hx hb dX_replace_68 (by decide +kernel) ?_
      refine sI hx hb hK hP hD hS 2 1 rfl rfl (by omega) (by decide) dX_replace_69 (fun H locs hP hD hS => ?_)
      have hP : va_P D cls_ (wX o a b cA iA (zr cf d 100) (upd uf d (nI 0))) H := hP
      have hD : va_D A (wX o a b cA iA (zr cf d 100) (upd uf d (nI 0))) := hD
      exact W.vret hx hb hr (fun t9 ht9 _ => ⟨⟨(), rfl, trivial, by show va_P _ _ _ t9.heap; rw [ht9]; exact hP⟩, hS.F ht9⟩) hS.2.2 dX_replace_70
    | succ n ih =>
      intro j H locs ls hj hP hD hS hl
      refine lv_iload_n hx hb dX_replace_26 rfl (lv_at hl 0 rfl) ?_
      refine lv_bipush (v := nI 100) hx hb dX_replace_27 (by decide +kernel) ?_
      refine lv_icmp_ge (tgt := 63) hx hb dX_replace_29 (by decide) (fun h29 => absurd h29 (nI_ge (by omega) (by decide))) (fun h29 => ?_)
      refine lv_iconst (v := nI 0) hx hb dX_replace_32 (by decide +kernel) ?_
      refine lv_istore_n hx hb dX_replace_33 rfl hl (by decide) rfl (fun ls hl => ?_)
      have hl : lv_has ls 4 [(3, .int (nI 0)), (2, .int (nI j)), (0, .ref o), (1, .int (nI d))] := hl
      refine lv_iload_n hx hb dX_replace_34 rfl (lv_at hl 0 rfl) ?_
      refine lv_iconst (v := nI 2) hx hb dX_replace_35 (by decide +kernel) ?_
      refine lv_icmp_ge (tgt := 57) hx hb dX_replace_36 (by decide) (fun h36 => absurd h36 (by decide +kernel)) (fun h36 => ?_)
      refine lv_aload_n hx hb dX_replace_39 rfl (lv_at hl 2 rfl) ?_
      refine va_get (D := D) (ci := 0) (v := .ref a) (C := R_X) (T := T_X) (N := 2) hx hb hg uX_in hown hK hP 0 rfl rfl 0 (by decide) (hg _ w_18) (fun _ h9 => h9) rfl dX_replace_40 ?_
      refine lv_iload_n hx hb dX_replace_43 rfl (lv_at hl 3 rfl) ?_
      refine lv_iload_n hx hb dX_replace_44 rfl (lv_at hl 1 rfl) ?_
      refine lv_iload_n hx hb dX_replace_45 rfl (lv_at hl 0 rfl) ?_
      refine kS (n := 3) (As := [.int (nI d), .int (nI j), .int (nI 0)]) (rest := [.ref a]) ⟨hx, hb, hml, hown, hts⟩ (mX_cellOf l d j 0) w_50 w_51 w_1 w_52 (by decide +kernel) ⟨rfl, rfl⟩ ⟨(Nat.le_of_ble_eq_true rfl), (Nat.le_of_ble_eq_true rfl)⟩ rfl hl.1 rfl (Nat.le_of_ble_eq_true rfl) dX_replace_46 ⟨Nat.zero_le _, Nat.zero_le _⟩ ?_
      refine lv_lconst (v := 0) hx hb dX_replace_49 (by decide +kernel) ?_
      refine sL hx hb hK hP hD hS 1 0 rfl rfl (ix_lt (by omega) (by omega) (by omega)) (by decide) dX_replace_50 (fun H locs hP hD hS => ?_)
      have hP : va_P D cls_ (wX o a b cA iA (vp_updL (zr cf d j) (ix d j 0) 0) uf) H := hP
      have hD : va_D A (wX o a b cA iA (vp_updL (zr cf d j) (ix d j 0) 0) uf) := hD
      refine lv_iinc (k := 0) (v := nI 1) hx hb dX_replace_51 hl rfl (by decide +kernel)  (by decide) rfl (fun ls hl => ?_)
      have hl : lv_has ls 4 [(3, .int (nI 1)), (2, .int (nI j)), (0, .ref o), (1, .int (nI d))] := hl
      refine lv_goto (tgt := 34) hx hb dX_replace_54 (by decide) ?_
      refine lv_iload_n hx hb dX_replace_34 rfl (lv_at hl 0 rfl) ?_
      refine lv_iconst (v := nI 2) hx hb dX_replace_35 (by decide +kernel) ?_
      refine lv_icmp_ge (tgt := 57) hx hb dX_replace_36 (by decide) (fun h36 => absurd h36 (by decide +kernel)) (fun h36 => ?_)
      refine lv_aload_n hx hb dX_replace_39 rfl (lv_at hl 2 rfl) ?_
      refine va_get (D := D) (ci := 0) (v := .ref a) (C := R_X) (T := T_X) (N := 2) hx hb hg uX_in hown hK hP 0 rfl rfl 0 (by decide) (hg _ w_18) (fun _ h9 => h9) rfl dX_replace_40 ?_
      refine lv_iload_n hx hb dX_replace_43 rfl (lv_at hl 3 rfl) ?_
      refine lv_iload_n hx hb dX_replace_44 rfl (lv_at hl 1 rfl) ?_
      refine lv_iload_n hx hb dX_replace_45 rfl (lv_at hl 0 rfl) ?_
      refine kS (n := 3) (As := [.int (nI d), .int (nI j), .int (nI 1)]) (rest := [.ref a]) ⟨hx, hb, hml, hown, hts⟩ (mX_cellOf l d j 1) w_50 w_51 w_1 w_52 (by decide +kernel) ⟨rfl, rfl⟩ ⟨(Nat.le_of_ble_eq_true rfl), (Nat.le_of_ble_eq_true rfl)⟩ rfl hl.1 rfl (Nat.le_of_ble_eq_true rfl) dX_replace_46 ⟨Nat.zero_le _, Nat.zero_le _⟩ ?_
      refine lv_lconst (v := 0) hx hb dX_replace_49 (by decide +kernel) ?_
      refine sL hx hb hK hP hD hS 1 0 rfl rfl (ix_lt (by omega) (by omega) (by omega)) (by decide) dX_replace_50 (fun H locs hP hD hS => ?_)
      have hP : va_P D cls_ (wX o a b cA iA (vp_updL (vp_updL (zr cf d j) (ix d j 0) 0) (ix d j 1) 0) uf) H := hP
      have hD : va_D A (wX o a b cA iA (vp_updL (vp_updL (zr cf d j) (ix d j 0) 0) (ix d j 1) 0) uf) := hD
      refine lv_iinc (k := 0) (v := nI 2) hx hb dX_replace_51 hl rfl (by decide +kernel)  (by decide) rfl (fun ls hl => ?_)
      have hl : lv_has ls 4 [(3, .int (nI 2)), (2, .int (nI j)), (0, .ref o), (1, .int (nI d))] := hl
      refine lv_goto (tgt := 34) hx hb dX_replace_54 (by decide) ?_
      refine lv_iload_n hx hb dX_replace_34 rfl (lv_at hl 0 rfl) ?_
      refine lv_iconst (v := nI 2) hx hb dX_replace_35 (by decide +kernel) ?_
      refine lv_icmp_ge (tgt := 57) hx hb dX_replace_36 (by decide) (fun h36 => ?_) (fun h36 => absurd (by decide +kernel) h36)
      refine lv_iinc (k := 1) (v := nI (j + 1)) hx hb dX_replace_57 hl rfl (incI _)  (by decide) rfl (fun ls hl => ?_)
      have hl : lv_has ls 4 [(2, .int (nI (j + 1))), (3, .int (nI 2)), (0, .ref o), (1, .int (nI d))] := hl
      refine lv_goto (tgt := 26) hx hb dX_replace_60 (by decide) ?_
      rw [zr_s] at hP hD
      have hl := lv_sub hl [0, 2, 3] rfl
      exact ih (j + 1) _ _ _ (by omega) hP hD hS hl
  exact key 100 0 _ _ _ rfl hP hD hS hl
set_option maxHeartbeats 4000000 in
set_option maxRecDepth 100000 in
theorem mX_rebuild_ok (l : Launch) (D : va_G) (o a b : Nat) (cA iA : ClassId) (cf : Nat → Int64) (uf : Nat → Int32) (sz : Nat) (d n9 f : Nat) (hd : d < 5) (hn : n9 < 2 ^ 31) (hf : f < 100) (hu : uf d = nI f) : Met l yX_rebuild (.code yX_rebuild cX_rebuild 6 (some .int) :: gW) ({ frames := 7, cells := 0, slots := 0, locals := 116 }) (pWs D (wX o a b cA iA cf uf) (kT cA iA) sz [.ref o, .int (nI d), .int (nI n9)]) (QI (nI (rbF uf d (min n9 (100 - f)) cf f).2) D (wX o a b cA iA ((rbF uf d (min n9 (100 - f)) cf f).1) (upd uf d (nI (rbF uf d (min n9 (100 - f)) cf f).2))) (va_A (wX o a b cA iA cf uf) sz)) 0 0 (va_A (wX o a b cA iA cf uf) sz) := by
  refine Met.ofW (cc := cX_rebuild) (maxL := 6) (ret := (some .int)) (by decide) rfl ?_
  intro p e s m args below meth c s₁ B hml hv
  obtain ⟨rfl, hsz, hP, hK, hD0⟩ := hv
  have hx := B.exec
  have hb := B.bytes
  have hr := B.returns
  have hts := atoms_spec (ws := (.code yX_rebuild cX_rebuild 6 (some .int) :: gW)) B.pre
  have hg : ∀ w ∈ gW, w.before ([.ref o, .int (nI d), .int (nI n9)]).toArray s = true := fun w h => hts w (List.mem_cons_of_mem _ h)
  have hown : s.vm.findClass R_X = some m.cls := findClass_of_methodNamed B.named
  have hlocks := B.notSynchronized
  subst hsz
  have hD := hD0.self (sz := s.heap.size)
  generalize hAe : va_A (wX o a b cA iA cf uf) s.heap.size = A at hD ⊢
  have hA : ∀ q : Nat, s.heap.size ≤ q → A q := fun q h => by rw [← hAe]; exact Or.inr h
  have hS : va_S A s.heap s.heap [] := va_S.rf
  have hP : va_P D cls_ (wX o a b cA iA cf uf) s.heap := hP
  have hl := lv_entry ([.ref o, .int (nI d), .int (nI n9)]) (n := 6) (Nat.le_of_ble_eq_true rfl)
  rw [lg_entry_eq]
  generalize (lg_sl ([.ref o, .int (nI d), .int (nI n9)]) ++ List.replicate (6 - (lg_sl ([.ref o, .int (nI d), .int (nI n9)])).length) Slot.unset).toArray = ls at hl ⊢
  have hl : lv_has ls 6 [(0, .ref o), (1, .int (nI d)), (2, .int (nI n9))] := hl
  refine lv_iload_n hx hb dX_rebuild_0 rfl (lv_at hl 1 rfl) ?_
  refine kSn (n := 1) (As := [.int (nI d)]) (rest := []) ⟨hx, hb, hml, hown, hts⟩ (mX_checkDisk_ok l d (by omega)) w_190 w_191 w_1 w_192 (by decide +kernel) ⟨rfl, rfl⟩ ⟨(Nat.le_of_ble_eq_true rfl), (Nat.le_of_ble_eq_true rfl)⟩ rfl hl.1 rfl (Nat.le_of_ble_eq_true rfl) dX_rebuild_1 ⟨Nat.zero_le _, Nat.zero_le _⟩ ?_
  refine lv_iload_n hx hb dX_rebuild_4 rfl (lv_at hl 2 rfl) ?_
  refine lv_if_ge (tgt := 18) hx hb dX_rebuild_5 (by decide) (fun h5 => ?_) (fun h5 => absurd (nI_pos' hn) h5)
  refine lv_aload_n hx hb dX_rebuild_18 rfl (lv_at hl 0 rfl) ?_
  refine va_get (D := D) (ci := 0) (v := .ref b) (C := R_X) (T := T_X) (N := 2) hx hb hg uX_in hown hK hP 0 rfl rfl 1 (by decide) (hg _ w_19) (fun _ h9 => h9) rfl dX_rebuild_19 ?_
  refine lv_iload_n hx hb dX_rebuild_22 rfl (lv_at hl 1 rfl) ?_
  refine aI hx hb hK hP 2 1 rfl rfl (by omega) (by decide) dX_rebuild_23 ?_
  refine tI hu ?_
  refine lv_istore_n hx hb dX_rebuild_24 rfl hl (by decide) rfl (fun ls hl => ?_)
  have hl : lv_has ls 6 [(3, .int (nI f)), (0, .ref o), (1, .int (nI d)), (2, .int (nI n9))] := hl
  refine lv_iload_n hx hb dX_rebuild_25 rfl (lv_at hl 0 rfl) ?_
  refine lv_bipush (v := nI 100) hx hb dX_rebuild_26 (by decide +kernel) ?_
  refine lv_icmp_eq (tgt := 36) hx hb dX_rebuild_28 (by decide) (fun h28 => absurd h28 (fun z => by have := (nI_eq (by omega) (by decide)).mp z; omega)) (fun h28 => ?_)
  refine lv_iload_n hx hb dX_rebuild_31 rfl (lv_at hl 0 rfl) ?_
  refine lv_iconst (v := -1) hx hb dX_rebuild_32 (by decide +kernel) ?_
  refine lv_icmp_ne (tgt := 46) hx hb dX_rebuild_33 (by decide) (fun h33 => ?_) (fun h33 => absurd h33 (nI_nm1 (by omega)))
  refine lv_iload_n hx hb dX_rebuild_46 rfl (lv_at hl 0 rfl) ?_
  refine lv_iload_n hx hb dX_rebuild_47 rfl (lv_at hl 3 rfl) ?_
  refine lv_bipush (v := nI 100) hx hb dX_rebuild_48 (by decide +kernel) ?_
  refine lv_iload_n hx hb dX_rebuild_50 rfl (lv_at hl 0 rfl) ?_
  refine lv_isub hx hb dX_rebuild_51 ?_
  refine tI (pk_sub (by omega)) ?_
  refine va_mmin hx hb (hml.trans hl.1.symm) hown (hg _ w_227) (hg _ w_228) (hg _ w_9) (hg _ w_229) (Nat.le_of_ble_eq_true rfl) (Nat.le_of_ble_eq_true rfl) (Nat.zero_le _) (Nat.zero_le _) dX_rebuild_52 ?_
  refine tI (min_n hn (by omega)) ?_
  refine lv_iadd hx hb dX_rebuild_55 ?_
  refine tI (nI_add _ _) ?_
  refine lv_istore hx hb dX_rebuild_56 hl (by decide) rfl (fun ls hl => ?_)
  have hl : lv_has ls 6 [(4, .int (nI (f + (min n9 (100 - f))))), (3, .int (nI f)), (0, .ref o), (1, .int (nI d)), (2, .int (nI n9))] := hl
  refine lv_iload_n hx hb dX_rebuild_58 rfl (lv_at hl 1 rfl) ?_
  refine lv_istore hx hb dX_rebuild_59 hl (by decide) rfl (fun ls hl => ?_)
  have hl : lv_has ls 6 [(5, .int (nI f)), (4, .int (nI (f + (min n9 (100 - f))))), (3, .int (nI f)), (0, .ref o), (1, .int (nI d)), (2, .int (nI n9))] := hl
  have key : ∀ (n : Nat) (j : Nat) (c9 : Nat → Int64) (H : Heap) (locs : List Loc) (ls : Array Slot), j + n = f + min n9 (100 - f) → f ≤ j → rbF uf d (min n9 (100 - f)) cf f = rbF uf d n c9 j →  va_P D cls_ (wX o a b cA iA c9 uf) H → va_D A (wX o a b cA iA c9 uf) → va_S A s.heap H locs → lv_has ls 6 [(5, .int (nI j)), (4, .int (nI (f + min n9 (100 - f)))), (3, .int (nI f)), (0, .ref o), (1, .int (nI d)), (2, .int (nI n9))] → W p l e (headSpec (.code yX_rebuild cX_rebuild 6 (some .int) :: gW) ({ frames := 7, cells := 0, slots := 0, locals := 116 })).room s m ([.ref o, .int (nI d), .int (nI n9)]).toArray below meth c H locs 0 0 (MQ below (QI (nI (rbF uf d (min n9 (100 - f)) cf f).2) D (wX o a b cA iA ((rbF uf d (min n9 (100 - f)) cf f).1) (upd uf d (nI (rbF uf d (min n9 (100 - f)) cf f).2))) A) ([.ref o, .int (nI d), .int (nI n9)]).toArray s 0 0 A) (F0 m 61 ls []) := by
    intro n
    induction n with
    | zero =>
      intro j c9 H locs ls hj hf2 hi hP hD hS hl
      have hi : rbF uf d (min n9 (100 - f)) cf f = (c9, j) := hi
      have e0 : j = f + min n9 (100 - f) := by omega
      refine lv_iload hx hb dX_rebuild_61 (lv_at hl 0 rfl) ?_
      refine lv_iload hx hb dX_rebuild_63 (lv_at hl 1 rfl) ?_
      refine lv_icmp_ge (tgt := 91) hx hb dX_rebuild_65 (by decide) (fun h65 => ?_) (fun h65 => absurd (by rw [e0]; exact nI_le (Nat.le_refl _) (by omega)) h65)
      refine lv_aload_n hx hb dX_rebuild_91 rfl (lv_at hl 3 rfl) ?_
      refine va_get (D := D) (ci := 0) (v := .ref b) (C := R_X) (T := T_X) (N := 2) hx hb hg uX_in hown hK hP 0 rfl rfl 1 (by decide) (hg _ w_19) (fun _ h9 => h9) rfl dX_rebuild_92 ?_
      refine lv_iload_n hx hb dX_rebuild_95 rfl (lv_at hl 4 rfl) ?_
      refine lv_iload hx hb dX_rebuild_96 (lv_at hl 0 rfl) ?_
      refine sI hx hb hK hP hD hS 2 1 rfl rfl (by omega) (by decide) dX_rebuild_98 (fun H locs hP hD hS => ?_)
      have hP : va_P D cls_ (wX o a b cA iA c9 (upd uf d (nI j))) H := hP
      have hD : va_D A (wX o a b cA iA c9 (upd uf d (nI j))) := hD
      refine lv_iload hx hb dX_rebuild_99 (lv_at hl 0 rfl) ?_
      exact W.iret (v := nI j) hx hb hr (fun t9 ht9 _ => ⟨⟨_, (), rfl, by show _ = _; rw [hi], by show va_P _ _ _ t9.heap; rw [ht9]; rw [hi]; exact hP⟩, hS.F ht9⟩) hS.2.2 dX_rebuild_101
    | succ n ih =>
      intro j c9 H locs ls hj hf2 hi hP hD hS hl
      refine lv_iload hx hb dX_rebuild_61 (lv_at hl 0 rfl) ?_
      refine lv_iload hx hb dX_rebuild_63 (lv_at hl 1 rfl) ?_
      refine lv_icmp_ge (tgt := 91) hx hb dX_rebuild_65 (by decide) (fun h65 => absurd h65 (nI_ge (by omega) (by omega))) (fun h65 => ?_)
      refine lv_aload_n hx hb dX_rebuild_68 rfl (lv_at hl 3 rfl) ?_
      refine lv_iload_n hx hb dX_rebuild_69 rfl (lv_at hl 4 rfl) ?_
      refine lv_iload hx hb dX_rebuild_70 (lv_at hl 0 rfl) ?_
      refine kV (n := 2) (As := [.int (nI d), .int (nI j)]) (rest := []) ⟨hx, hb, hml, hown, hts⟩ (mX_isLost l D o a b cA iA c9 uf d j (by omega) (by omega)) w_67 w_69 v_5 w_1 w_70 (by decide +kernel) ⟨rfl, rfl⟩ ⟨(Nat.le_of_ble_eq_true rfl), (Nat.le_of_ble_eq_true rfl)⟩ hP hK 0 0 rfl rfl rfl hl.1 rfl (Nat.le_of_ble_eq_true rfl) dX_rebuild_72 ⟨Nat.zero_le _, Nat.zero_le _⟩ ?_
      refine lv_if_ne (tgt := 91) hx hb dX_rebuild_75 (by decide) (fun h75 => ?_) (fun h75 => ?_)
      · have e8 : cu uf d j = false := cu_f (by rw [hu]; exact nI_le hf2 (by omega))
        have e9 : oc uf d j = false := by have z := bi_1 h75; rw [il_oc e8] at z; exact nb_f z
        have hi := hi.trans (rbF_f e9)
        refine lv_aload_n hx hb dX_rebuild_91 rfl (lv_at hl 3 rfl) ?_
        refine va_get (D := D) (ci := 0) (v := .ref b) (C := R_X) (T := T_X) (N := 2) hx hb hg uX_in hown hK hP 0 rfl rfl 1 (by decide) (hg _ w_19) (fun _ h9 => h9) rfl dX_rebuild_92 ?_
        refine lv_iload_n hx hb dX_rebuild_95 rfl (lv_at hl 4 rfl) ?_
        refine lv_iload hx hb dX_rebuild_96 (lv_at hl 0 rfl) ?_
        refine sI hx hb hK hP hD hS 2 1 rfl rfl (by omega) (by decide) dX_rebuild_98 (fun H locs hP hD hS => ?_)
        have hP : va_P D cls_ (wX o a b cA iA c9 (upd uf d (nI j))) H := hP
        have hD : va_D A (wX o a b cA iA c9 (upd uf d (nI j))) := hD
        refine lv_iload hx hb dX_rebuild_99 (lv_at hl 0 rfl) ?_
        exact W.iret (v := nI j) hx hb hr (fun t9 ht9 _ => ⟨⟨_, (), rfl, by show _ = _; rw [hi], by show va_P _ _ _ t9.heap; rw [ht9]; rw [hi]; exact hP⟩, hS.F ht9⟩) hS.2.2 dX_rebuild_101
      · have e8 : cu uf d j = false := cu_f (by rw [hu]; exact nI_le hf2 (by omega))
        have e9 : oc uf d j = true := by have z := bi_0 h75; rw [il_oc e8] at z; exact nb_t z
        refine lv_aload_n hx hb dX_rebuild_78 rfl (lv_at hl 3 rfl) ?_
        refine lv_iload_n hx hb dX_rebuild_79 rfl (lv_at hl 4 rfl) ?_
        refine lv_iload hx hb dX_rebuild_80 (lv_at hl 0 rfl) ?_
        refine kVv (n := 2) (As := [.int (nI d), .int (nI j)]) (rest := []) ⟨hx, hb, hml, hown, hts⟩ (mX_rebuildBlock l D o a b cA iA c9 uf H.size d j (by omega) (by omega)) w_230 w_232 v_8 w_1 w_233 (by decide +kernel) ⟨rfl, rfl⟩ ⟨(Nat.le_of_ble_eq_true rfl), (Nat.le_of_ble_eq_true rfl)⟩ hP hK hD hS hA rfl 0 0 rfl rfl rfl hl.1 rfl (Nat.le_of_ble_eq_true rfl) dX_rebuild_82 ⟨Nat.zero_le _, Nat.zero_le _⟩ (fun H locs hP hD hS => ?_)
        refine lv_iinc (k := 0) (v := nI (j + 1)) hx hb dX_rebuild_85 hl rfl (incI _)  (by decide) rfl (fun ls hl => ?_)
        have hl : lv_has ls 6 [(5, .int (nI (j + 1))), (4, .int (nI (f + min n9 (100 - f)))), (3, .int (nI f)), (0, .ref o), (1, .int (nI d)), (2, .int (nI n9))] := hl
        refine lv_goto (tgt := 61) hx hb dX_rebuild_88 (by decide) ?_
        exact ih (j + 1) _ _ _ _ (by omega) (by omega) (hi.trans (rbF_t e9)) hP hD hS hl
  exact key (min n9 (100 - f)) f cf _ _ _ rfl (Nat.le_refl _) rfl hP hD hS hl
set_option maxHeartbeats 4000000 in
set_option maxRecDepth 100000 in
theorem mX_scrub (l : Launch) (D : va_G) (o a b : Nat) (cA iA : ClassId) (cf : Nat → Int64) (uf : Nat → Int32) (sz : Nat)  : Met l yX_scrub (.code yX_scrub cX_scrub 3 (some .int) :: gW) ({ frames := 3, cells := 0, slots := 0, locals := 75 }) (pWs D (wX o a b cA iA cf uf) (kT cA iA) sz [.ref o]) (QI (nI (scF cf uf 100).2) D (wX o a b cA iA ((scF cf uf 100).1) uf) (va_A (wX o a b cA iA cf uf) sz)) 0 0 (va_A (wX o a b cA iA cf uf) sz) := by
  refine Met.ofW (cc := cX_scrub) (maxL := 3) (ret := (some .int)) (by decide) rfl ?_
  intro p e s m args below meth c s₁ B hml hv
  obtain ⟨rfl, hsz, hP, hK, hD0⟩ := hv
  have hx := B.exec
  have hb := B.bytes
  have hr := B.returns
  have hts := atoms_spec (ws := (.code yX_scrub cX_scrub 3 (some .int) :: gW)) B.pre
  have hg : ∀ w ∈ gW, w.before ([.ref o]).toArray s = true := fun w h => hts w (List.mem_cons_of_mem _ h)
  have hown : s.vm.findClass R_X = some m.cls := findClass_of_methodNamed B.named
  have hlocks := B.notSynchronized
  subst hsz
  have hD := hD0.self (sz := s.heap.size)
  generalize hAe : va_A (wX o a b cA iA cf uf) s.heap.size = A at hD ⊢
  have hA : ∀ q : Nat, s.heap.size ≤ q → A q := fun q h => by rw [← hAe]; exact Or.inr h
  have hS : va_S A s.heap s.heap [] := va_S.rf
  have hP : va_P D cls_ (wX o a b cA iA cf uf) s.heap := hP
  have hl := lv_entry ([.ref o]) (n := 3) (Nat.le_of_ble_eq_true rfl)
  rw [lg_entry_eq]
  generalize (lg_sl ([.ref o]) ++ List.replicate (3 - (lg_sl ([.ref o])).length) Slot.unset).toArray = ls at hl ⊢
  have hl : lv_has ls 3 [(0, .ref o)] := hl
  refine lv_iconst (v := nI 0) hx hb dX_scrub_0 (by decide +kernel) ?_
  refine lv_istore_n hx hb dX_scrub_1 rfl hl (by decide) rfl (fun ls hl => ?_)
  have hl : lv_has ls 3 [(1, .int (nI 0)), (0, .ref o)] := hl
  refine lv_iconst (v := nI 0) hx hb dX_scrub_2 (by decide +kernel) ?_
  refine lv_istore_n hx hb dX_scrub_3 rfl hl (by decide) rfl (fun ls hl => ?_)
  have hl : lv_has ls 3 [(2, .int (nI 0)), (1, .int (nI 0)), (0, .ref o)] := hl
  have key : ∀ (n : Nat) (j : Nat) (H : Heap) (locs : List Loc) (ls : Array Slot), j + n = 100 →  va_P D cls_ (wX o a b cA iA ((scF cf uf j).1) uf) H → va_D A (wX o a b cA iA ((scF cf uf j).1) uf) → va_S A s.heap H locs → lv_has ls 3 [(2, .int (nI j)), (1, .int (nI ((scF cf uf j).2))), (0, .ref o)] → W p l e (headSpec (.code yX_scrub cX_scrub 3 (some .int) :: gW) ({ frames := 3, cells := 0, slots := 0, locals := 75 })).room s m ([.ref o]).toArray below meth c H locs 0 0 (MQ below (QI (nI (scF cf uf 100).2) D (wX o a b cA iA ((scF cf uf 100).1) uf) A) ([.ref o]).toArray s 0 0 A) (F0 m 4 ls []) := by
    intro n
    induction n with
    | zero =>
      intro j H locs ls hj hP hD hS hl
      obtain rfl : j = 100 := by omega
      refine lv_iload_n hx hb dX_scrub_4 rfl (lv_at hl 0 rfl) ?_
      refine lv_bipush (v := nI 100) hx hb dX_scrub_5 (by decide +kernel) ?_
      refine lv_icmp_ge (tgt := 35) hx hb dX_scrub_7 (by decide) (fun h7 => ?_) (fun h7 => absurd (nI_le (Nat.le_refl 100) (by decide)) h7)
      refine lv_iload_n hx hb dX_scrub_35 rfl (lv_at hl 1 rfl) ?_
      exact W.iret (v := nI ((scF cf uf 100).2)) hx hb hr (fun t9 ht9 _ => ⟨⟨_, (), rfl, by show _ = _; rfl, by show va_P _ _ _ t9.heap; rw [ht9]; exact hP⟩, hS.F ht9⟩) hS.2.2 dX_scrub_36
    | succ n ih =>
      intro j H locs ls hj hP hD hS hl
      refine lv_iload_n hx hb dX_scrub_4 rfl (lv_at hl 0 rfl) ?_
      refine lv_bipush (v := nI 100) hx hb dX_scrub_5 (by decide +kernel) ?_
      refine lv_icmp_ge (tgt := 35) hx hb dX_scrub_7 (by decide) (fun h7 => absurd h7 (nI_ge (by omega) (by decide))) (fun h7 => ?_)
      refine lv_aload_n hx hb dX_scrub_10 rfl (lv_at hl 2 rfl) ?_
      refine lv_iload_n hx hb dX_scrub_11 rfl (lv_at hl 0 rfl) ?_
      refine kV (n := 1) (As := [.int (nI j)]) (rest := []) ⟨hx, hb, hml, hown, hts⟩ (mX_allCanBeUsed l D o a b cA iA ((scF cf uf j).1) uf j (by omega)) w_31 w_33 v_0 w_1 w_34 (by decide +kernel) ⟨rfl, rfl⟩ ⟨(Nat.le_of_ble_eq_true rfl), (Nat.le_of_ble_eq_true rfl)⟩ hP hK 0 0 rfl rfl rfl hl.1 rfl (Nat.le_of_ble_eq_true rfl) dX_scrub_12 ⟨Nat.zero_le _, Nat.zero_le _⟩ ?_
      refine lv_if_eq (tgt := 29) hx hb dX_scrub_15 (by decide) (fun h15 => ?_) (fun h15 => ?_)
      · refine lv_iinc (k := 0) (v := nI (j + 1)) hx hb dX_scrub_29 hl rfl (incI _)  (by decide) rfl (fun ls hl => ?_)
        have hl : lv_has ls 3 [(2, .int (nI (j + 1))), (1, .int (nI ((scF cf uf j).2))), (0, .ref o)] := hl
        refine lv_goto (tgt := 4) hx hb dX_scrub_32 (by decide) ?_
        rw [← scF_n (cf := cf) (bi_0 h15)] at hP hD hl
        exact ih (j + 1) _ _ _ (by omega) hP hD hS hl
      · refine lv_aload_n hx hb dX_scrub_18 rfl (lv_at hl 2 rfl) ?_
        refine lv_iload_n hx hb dX_scrub_19 rfl (lv_at hl 0 rfl) ?_
        refine kVi (n := 1) (As := [.int (nI j)]) (rest := []) ⟨hx, hb, hml, hown, hts⟩ (mX_mendParity l D o a b cA iA ((scF cf uf j).1) uf H.size j (by omega)) w_46 w_48 v_3 w_1 w_49 (by decide +kernel) ⟨rfl, rfl⟩ ⟨(Nat.le_of_ble_eq_true rfl), (Nat.le_of_ble_eq_true rfl)⟩ hP hK hD hS hA rfl 0 0 rfl rfl rfl hl.1 rfl (Nat.le_of_ble_eq_true rfl) dX_scrub_20 ⟨Nat.zero_le _, Nat.zero_le _⟩ (fun H locs hP hD hS => ?_)
        refine lv_if_eq (tgt := 29) hx hb dX_scrub_23 (by decide) (fun h23 => ?_) (fun h23 => ?_)
        · refine lv_iinc (k := 0) (v := nI (j + 1)) hx hb dX_scrub_29 hl rfl (incI _)  (by decide) rfl (fun ls hl => ?_)
          have hl : lv_has ls 3 [(2, .int (nI (j + 1))), (1, .int (nI ((scF cf uf j).2))), (0, .ref o)] := hl
          refine lv_goto (tgt := 4) hx hb dX_scrub_32 (by decide) ?_
          rw [← scF_r (bi_1 h15)] at hP hD
          rw [← scF_2n (bi_1 h15) (nb_t (bi_0 h23))] at hl
          exact ih (j + 1) _ _ _ (by omega) hP hD hS hl
        · refine lv_iinc (k := 1) (v := nI ((scF cf uf j).2 + 1)) hx hb dX_scrub_26 hl rfl (incI _)  (by decide) rfl (fun ls hl => ?_)
          have hl : lv_has ls 3 [(1, .int (nI ((scF cf uf j).2 + 1))), (2, .int (nI j)), (0, .ref o)] := hl
          refine lv_iinc (k := 1) (v := nI (j + 1)) hx hb dX_scrub_29 hl rfl (incI _)  (by decide) rfl (fun ls hl => ?_)
          have hl : lv_has ls 3 [(2, .int (nI (j + 1))), (1, .int (nI ((scF cf uf j).2 + 1))), (0, .ref o)] := hl
          refine lv_goto (tgt := 4) hx hb dX_scrub_32 (by decide) ?_
          rw [← scF_r (bi_1 h15)] at hP hD
          rw [← scF_2b (bi_1 h15) (nb_f (bi_1 h23))] at hl
          exact ih (j + 1) _ _ _ (by omega) hP hD hS hl
  exact key 100 0 _ _ _ rfl hP hD hS hl
end
section
set_option maxHeartbeats 4000000 in
set_option maxRecDepth 100000 in
theorem mM_disk (l : Launch) (q : Nat) (hq : q < 400) : Met l yM_disk (.code yM_disk cM_disk 3 (some .int) :: gW) ({ frames := 0, cells := 0, slots := 0, locals := 0 }) (pN [.int (nI q)]) (k2_QcV (.int (nI (dk q)))) 0 0 (fun _ => False) := by
  refine Met.ofW (cc := cM_disk) (maxL := 3) (ret := (some .int)) (by decide) rfl ?_
  intro p e s m args below meth c s₁ B hml hv
  obtain ⟨rfl, -⟩ := hv
  have hx := B.exec
  have hb := B.bytes
  have hr := B.returns
  have hts := atoms_spec (ws := (.code yM_disk cM_disk 3 (some .int) :: gW)) B.pre
  have hg : ∀ w ∈ gW, w.before ([.int (nI q)]).toArray s = true := fun w h => hts w (List.mem_cons_of_mem _ h)
  have hown : s.vm.findClass R_M = some m.cls := findClass_of_methodNamed B.named
  have hlocks := B.notSynchronized
  have hl := lv_entry ([.int (nI q)]) (n := 3) (Nat.le_of_ble_eq_true rfl)
  rw [lg_entry_eq]
  generalize (lg_sl ([.int (nI q)]) ++ List.replicate (3 - (lg_sl ([.int (nI q)])).length) Slot.unset).toArray = ls at hl ⊢
  have hl : lv_has ls 3 [(0, .int (nI q))] := hl
  refine lv_iload_n hx hb dM_disk_0 rfl (lv_at hl 0 rfl) ?_
  refine lv_iconst (v := nI 4) hx hb dM_disk_1 (by decide +kernel) ?_
  refine lv_irem hx hb dM_disk_2 (by decide +kernel) ?_
  refine tI (pk_rem (by omega) (by decide) (by decide)) ?_
  refine lv_istore_n hx hb dM_disk_3 rfl hl (by decide) rfl (fun ls hl => ?_)
  have hl : lv_has ls 3 [(1, .int (nI (q % 4))), (0, .int (nI q))] := hl
  refine lv_iload_n hx hb dM_disk_4 rfl (lv_at hl 1 rfl) ?_
  refine lv_iconst (v := nI 4) hx hb dM_disk_5 (by decide +kernel) ?_
  refine lv_idiv hx hb dM_disk_6 (by decide +kernel) ?_
  refine tI (pk_div (by omega) (by decide) (by decide)) ?_
  refine lv_iconst (v := nI 5) hx hb dM_disk_7 (by decide +kernel) ?_
  refine lv_irem hx hb dM_disk_8 (by decide +kernel) ?_
  refine tI (pk_rem (by omega) (by decide) (by decide)) ?_
  refine lv_istore_n hx hb dM_disk_9 rfl hl (by decide) rfl (fun ls hl => ?_)
  have hl : lv_has ls 3 [(2, .int (nI ((q / 4) % 5))), (1, .int (nI (q % 4))), (0, .int (nI q))] := hl
  refine lv_iload_n hx hb dM_disk_10 rfl (lv_at hl 1 rfl) ?_
  refine lv_iload_n hx hb dM_disk_11 rfl (lv_at hl 0 rfl) ?_
  refine lv_icmp_ge (tgt := 19) hx hb dM_disk_12 (by decide) (fun h12 => ?_) (fun h12 => ?_)
  · have e9 : ¬ q % 4 < q / 4 % 5 := fun z => nI_ge z (by omega) h12
    refine lv_iload_n hx hb dM_disk_19 rfl (lv_at hl 1 rfl) ?_
    refine lv_iconst (v := nI 1) hx hb dM_disk_20 (by decide +kernel) ?_
    refine lv_iadd hx hb dM_disk_21 ?_
    refine tI (nI_add _ _) ?_
    exact W.iret (v := nI ((q % 4) + 1)) hx hb hr (fun t9 ht9 _ => ⟨by rw [dk, if_neg e9], ht9⟩) (fun _ h9 => nomatch h9) dM_disk_22
  · have e9 : q % 4 < q / 4 % 5 := Nat.lt_of_not_le (fun z => h12 (nI_le z (by omega)))
    refine lv_iload_n hx hb dM_disk_15 rfl (lv_at hl 1 rfl) ?_
    refine lv_goto (tgt := 22) hx hb dM_disk_16 (by decide) ?_
    exact W.iret (v := nI (q % 4)) hx hb hr (fun t9 ht9 _ => ⟨by rw [dk, if_pos e9], ht9⟩) (fun _ h9 => nomatch h9) dM_disk_22
set_option maxHeartbeats 4000000 in
set_option maxRecDepth 100000 in
theorem mM_at (l : Launch) (d t h : Nat) : Met l yM_at (.code yM_at cM_at 3 (some .int) :: gW) ({ frames := 0, cells := 0, slots := 0, locals := 0 }) (pN [.int (nI d), .int (nI t), .int (nI h)]) (k2_QcV (.int (nI (ix d t h)))) 0 0 (fun _ => False) := by
  refine Met.ofW (cc := cM_at) (maxL := 3) (ret := (some .int)) (by decide) rfl ?_
  intro p e s m args below meth c s₁ B hml hv
  obtain ⟨rfl, -⟩ := hv
  have hx := B.exec
  have hb := B.bytes
  have hr := B.returns
  have hts := atoms_spec (ws := (.code yM_at cM_at 3 (some .int) :: gW)) B.pre
  have hg : ∀ w ∈ gW, w.before ([.int (nI d), .int (nI t), .int (nI h)]).toArray s = true := fun w h => hts w (List.mem_cons_of_mem _ h)
  have hown : s.vm.findClass R_M = some m.cls := findClass_of_methodNamed B.named
  have hlocks := B.notSynchronized
  have hl := lv_entry ([.int (nI d), .int (nI t), .int (nI h)]) (n := 3) (Nat.le_of_ble_eq_true rfl)
  rw [lg_entry_eq]
  generalize (lg_sl ([.int (nI d), .int (nI t), .int (nI h)]) ++ List.replicate (3 - (lg_sl ([.int (nI d), .int (nI t), .int (nI h)])).length) Slot.unset).toArray = ls at hl ⊢
  have hl : lv_has ls 3 [(0, .int (nI d)), (1, .int (nI t)), (2, .int (nI h))] := hl
  refine lv_iload_n hx hb dM_at_0 rfl (lv_at hl 0 rfl) ?_
  refine lv_bipush (v := nI 100) hx hb dM_at_1 (by decide +kernel) ?_
  refine lv_imul hx hb dM_at_3 ?_
  refine tI (pk_mul _ _) ?_
  refine lv_iload_n hx hb dM_at_4 rfl (lv_at hl 1 rfl) ?_
  refine lv_iadd hx hb dM_at_5 ?_
  refine tI (nI_add _ _) ?_
  refine lv_iconst (v := nI 2) hx hb dM_at_6 (by decide +kernel) ?_
  refine lv_imul hx hb dM_at_7 ?_
  refine tI (pk_mul _ _) ?_
  refine lv_iload_n hx hb dM_at_8 rfl (lv_at hl 2 rfl) ?_
  refine lv_iadd hx hb dM_at_9 ?_
  refine tI (nI_add _ _) ?_
  exact W.iret (v := nI ((((d * 100) + t) * 2) + h)) hx hb hr (fun t9 ht9 _ => ⟨by rfl, ht9⟩) (fun _ h9 => nomatch h9) dM_at_10
set_option maxHeartbeats 4000000 in
set_option maxRecDepth 100000 in
theorem mM_thrown (l : Launch) (D : va_G) (o a b : Nat) (cA iA : ClassId) (er : Int32) (cf : Nat → Int64) (uf : Nat → Int32)  : Met l yM_thrown (.code yM_thrown cM_thrown 1 (some .int) :: gW) ({ frames := 0, cells := 0, slots := 0, locals := 0 }) (pW D (wM o a b cA iA er cf uf) (kT cA iA) [.ref o]) (k2_QcV (.int er)) 0 0 (fun _ => False) := by
  refine Met.ofW (cc := cM_thrown) (maxL := 1) (ret := (some .int)) (by decide) rfl ?_
  intro p e s m args below meth c s₁ B hml hv
  obtain ⟨rfl, hP, hK⟩ := hv
  have hx := B.exec
  have hb := B.bytes
  have hr := B.returns
  have hts := atoms_spec (ws := (.code yM_thrown cM_thrown 1 (some .int) :: gW)) B.pre
  have hg : ∀ w ∈ gW, w.before ([.ref o]).toArray s = true := fun w h => hts w (List.mem_cons_of_mem _ h)
  have hown : s.vm.findClass R_M = some m.cls := findClass_of_methodNamed B.named
  have hlocks := B.notSynchronized
  have hl := lv_entry ([.ref o]) (n := 1) (Nat.le_of_ble_eq_true rfl)
  rw [lg_entry_eq]
  generalize (lg_sl ([.ref o]) ++ List.replicate (1 - (lg_sl ([.ref o])).length) Slot.unset).toArray = ls at hl ⊢
  have hl : lv_has ls 1 [(0, .ref o)] := hl
  refine lv_aload_n hx hb dM_thrown_0 rfl (lv_at hl 0 rfl) ?_
  refine va_get (D := D) (ci := 1) (v := .int er) (C := R_M) (T := T_M) (N := 3) hx hb hg uM_in hown hK hP 0 rfl rfl 0 (by decide) (hg _ w_270) (fun _ h9 => h9) rfl dM_thrown_1 ?_
  exact W.iret (v := er) hx hb hr (fun t9 ht9 _ => ⟨by rfl, ht9⟩) (fun _ h9 => nomatch h9) dM_thrown_4
set_option maxHeartbeats 4000000 in
set_option maxRecDepth 100000 in
theorem mM_usable (l : Launch) (D : va_G) (o a b : Nat) (cA iA : ClassId) (er : Int32) (cf : Nat → Int64) (uf : Nat → Int32) (d t : Nat) (hd : d < 5) (ht : t < 100) : Met l yM_usable (.code yM_usable cM_usable 3 (some .boolean) :: gW) ({ frames := 0, cells := 0, slots := 0, locals := 0 }) (pW D (wM o a b cA iA er cf uf) (kT cA iA) [.ref o, .int (nI d), .int (nI t)]) (k2_QcV (.int (bi (cu uf d t)))) 0 0 (fun _ => False) := by
  refine Met.ofW (cc := cM_usable) (maxL := 3) (ret := (some .boolean)) (by decide) rfl ?_
  intro p e s m args below meth c s₁ B hml hv
  obtain ⟨rfl, hP, hK⟩ := hv
  have hx := B.exec
  have hb := B.bytes
  have hr := B.returns
  have hts := atoms_spec (ws := (.code yM_usable cM_usable 3 (some .boolean) :: gW)) B.pre
  have hg : ∀ w ∈ gW, w.before ([.ref o, .int (nI d), .int (nI t)]).toArray s = true := fun w h => hts w (List.mem_cons_of_mem _ h)
  have hown : s.vm.findClass R_M = some m.cls := findClass_of_methodNamed B.named
  have hlocks := B.notSynchronized
  have hl := lv_entry ([.ref o, .int (nI d), .int (nI t)]) (n := 3) (Nat.le_of_ble_eq_true rfl)
  rw [lg_entry_eq]
  generalize (lg_sl ([.ref o, .int (nI d), .int (nI t)]) ++ List.replicate (3 - (lg_sl ([.ref o, .int (nI d), .int (nI t)])).length) Slot.unset).toArray = ls at hl ⊢
  have hl : lv_has ls 3 [(0, .ref o), (1, .int (nI d)), (2, .int (nI t))] := hl
  refine lv_aload_n hx hb dM_usable_0 rfl (lv_at hl 0 rfl) ?_
  refine va_get (D := D) (ci := 1) (v := .ref b) (C := R_M) (T := T_M) (N := 3) hx hb hg uM_in hown hK hP 0 rfl rfl 2 (by decide) (hg _ w_272) (fun _ h9 => h9) rfl dM_usable_1 ?_
  refine lv_iload_n hx hb dM_usable_4 rfl (lv_at hl 1 rfl) ?_
  refine aI hx hb hK hP 2 1 rfl rfl (by omega) (by decide) dM_usable_5 ?_
  refine lv_iload_n hx hb dM_usable_6 rfl (lv_at hl 2 rfl) ?_
  refine lv_icmp_le (tgt := 14) hx hb dM_usable_7 (by decide) (fun h7 => ?_) (fun h7 => ?_)
  · refine lv_iconst (v := nI 0) hx hb dM_usable_14 (by decide +kernel) ?_
    exact W.zret (v := nI 0) (ty := .boolean) hx hb hr nar_0 (fun t9 ht9 _ => ⟨by rw [cu_f h7]; rfl, ht9⟩) (fun _ h9 => nomatch h9) dM_usable_15
  · refine lv_iconst (v := nI 1) hx hb dM_usable_10 (by decide +kernel) ?_
    refine lv_goto (tgt := 15) hx hb dM_usable_11 (by decide) ?_
    exact W.zret (v := nI 1) (ty := .boolean) hx hb hr nar_1 (fun t9 ht9 _ => ⟨by rw [cu_t h7]; rfl, ht9⟩) (fun _ h9 => nomatch h9) dM_usable_15
set_option maxHeartbeats 4000000 in
set_option maxRecDepth 100000 in
theorem mM_gone (l : Launch) (D : va_G) (o a b : Nat) (cA iA : ClassId) (er : Int32) (cf : Nat → Int64) (uf : Nat → Int32) (d t : Nat) (hd : d < 5) (ht : t < 100) : Met l yM_gone (.code yM_gone cM_gone 4 (some .boolean) :: gW) ({ frames := 1, cells := 0, slots := 0, locals := 22 }) (pW D (wM o a b cA iA er cf uf) (kT cA iA) [.ref o, .int (nI d), .int (nI t)]) (k2_QcV (.int (bi (il uf d t)))) 0 0 (fun _ => False) := by
  refine Met.ofW (cc := cM_gone) (maxL := 4) (ret := (some .boolean)) (by decide) rfl ?_
  intro p e s m args below meth c s₁ B hml hv
  obtain ⟨rfl, hP, hK⟩ := hv
  have hx := B.exec
  have hb := B.bytes
  have hr := B.returns
  have hts := atoms_spec (ws := (.code yM_gone cM_gone 4 (some .boolean) :: gW)) B.pre
  have hg : ∀ w ∈ gW, w.before ([.ref o, .int (nI d), .int (nI t)]).toArray s = true := fun w h => hts w (List.mem_cons_of_mem _ h)
  have hown : s.vm.findClass R_M = some m.cls := findClass_of_methodNamed B.named
  have hlocks := B.notSynchronized
  have hl := lv_entry ([.ref o, .int (nI d), .int (nI t)]) (n := 4) (Nat.le_of_ble_eq_true rfl)
  rw [lg_entry_eq]
  generalize (lg_sl ([.ref o, .int (nI d), .int (nI t)]) ++ List.replicate (4 - (lg_sl ([.ref o, .int (nI d), .int (nI t)])).length) Slot.unset).toArray = ls at hl ⊢
  have hl : lv_has ls 4 [(0, .ref o), (1, .int (nI d)), (2, .int (nI t))] := hl
  refine lv_aload_n hx hb dM_gone_0 rfl (lv_at hl 0 rfl) ?_
  refine lv_iload_n hx hb dM_gone_1 rfl (lv_at hl 1 rfl) ?_
  refine lv_iload_n hx hb dM_gone_2 rfl (lv_at hl 2 rfl) ?_
  refine kV (n := 2) (As := [.int (nI d), .int (nI t)]) (rest := []) ⟨hx, hb, hml, hown, hts⟩ (mM_usable l D o a b cA iA er cf uf d t (by omega) (by omega)) w_303 w_305 v_13 w_2 w_306 (by decide +kernel) ⟨rfl, rfl⟩ ⟨(Nat.le_of_ble_eq_true rfl), (Nat.le_of_ble_eq_true rfl)⟩ hP hK 1 0 rfl rfl rfl hl.1 rfl (Nat.le_of_ble_eq_true rfl) dM_gone_3 ⟨Nat.zero_le _, Nat.zero_le _⟩ ?_
  refine lv_if_eq (tgt := 11) hx hb dM_gone_6 (by decide) (fun h6 => ?_) (fun h6 => ?_)
  · have e6 := bi_0 h6
    refine lv_iconst (v := nI 0) hx hb dM_gone_11 (by decide +kernel) ?_
    refine lv_istore_n hx hb dM_gone_12 rfl hl (by decide) rfl (fun ls hl => ?_)
    have hl : lv_has ls 4 [(3, .int (nI 0)), (0, .ref o), (1, .int (nI d)), (2, .int (nI t))] := hl
    have key : ∀ n j : Nat, j + n = 5 → oc uf d t = ocN uf d t n → ∀ ls : Array Slot, lv_has ls 4 [(3, .int (nI j)), (0, .ref o), (1, .int (nI d)), (2, .int (nI t))] → W p l e (headSpec (.code yM_gone cM_gone 4 (some .boolean) :: gW) ({ frames := 1, cells := 0, slots := 0, locals := 22 })).room s m ([.ref o, .int (nI d), .int (nI t)]).toArray below meth c s.heap [] 0 0 (MQ below (k2_QcV (.int (bi (il uf d t)))) ([.ref o, .int (nI d), .int (nI t)]).toArray s 0 0 (fun _ => False)) (F0 m 13 ls []) := by
      intro n
      induction n with
      | zero =>
        intro j hj hi ls hl
        obtain rfl : j = 5 := by omega
        refine lv_iload_n hx hb dM_gone_13 rfl (lv_at hl 0 rfl) ?_
        refine lv_iconst (v := nI 5) hx hb dM_gone_14 (by decide +kernel) ?_
        refine lv_icmp_ge (tgt := 40) hx hb dM_gone_15 (by decide) (fun h15 => ?_) (fun h15 => absurd (nI_le (Nat.le_refl 5) (by decide)) h15)
        refine lv_iconst (v := nI 0) hx hb dM_gone_40 (by decide +kernel) ?_
        exact W.zret (v := nI 0) (ty := .boolean) hx hb hr nar_0 (fun t9 ht9 _ => ⟨by rw [il, e6, show oc uf d t = true from hi]; rfl, ht9⟩) (fun _ h9 => nomatch h9) dM_gone_41
      | succ n ih =>
        intro j hj hi ls hl
        have e4 : 4 - n = j := by omega
        refine lv_iload_n hx hb dM_gone_13 rfl (lv_at hl 0 rfl) ?_
        refine lv_iconst (v := nI 5) hx hb dM_gone_14 (by decide +kernel) ?_
        refine lv_icmp_ge (tgt := 40) hx hb dM_gone_15 (by decide) (fun h15 => absurd h15 (nI_ge (by omega) (by decide))) (fun h15 => ?_)
        refine lv_iload_n hx hb dM_gone_18 rfl (lv_at hl 0 rfl) ?_
        refine lv_iload_n hx hb dM_gone_19 rfl (lv_at hl 2 rfl) ?_
        refine lv_icmp_eq (tgt := 34) hx hb dM_gone_20 (by decide) (fun h20 => ?_) (fun h20 => ?_)
        · have e9 : j = d := (nI_eq (by omega) (by omega)).mp h20
          refine lv_iinc (k := 0) (v := nI (j + 1)) hx hb dM_gone_34 hl rfl (incI _)  (by decide) rfl (fun ls hl => ?_)
          have hl : lv_has ls 4 [(3, .int (nI (j + 1))), (0, .ref o), (1, .int (nI d)), (2, .int (nI t))] := hl
          refine lv_goto (tgt := 13) hx hb dM_gone_37 (by decide) ?_
          exact ih (j + 1) (by omega) (by rw [hi]; simp [ocN, e4, e9]) ls hl
        · have e9 : ¬ j = d := fun z => h20 (by rw [z])
          refine lv_aload_n hx hb dM_gone_23 rfl (lv_at hl 1 rfl) ?_
          refine lv_iload_n hx hb dM_gone_24 rfl (lv_at hl 0 rfl) ?_
          refine lv_iload_n hx hb dM_gone_25 rfl (lv_at hl 3 rfl) ?_
          refine kV (n := 2) (As := [.int (nI j), .int (nI t)]) (rest := []) ⟨hx, hb, hml, hown, hts⟩ (mM_usable l D o a b cA iA er cf uf j t (by omega) (by omega)) w_303 w_305 v_13 w_2 w_306 (by decide +kernel) ⟨rfl, rfl⟩ ⟨(Nat.le_of_ble_eq_true rfl), (Nat.le_of_ble_eq_true rfl)⟩ hP hK 1 0 rfl rfl rfl hl.1 rfl (Nat.le_of_ble_eq_true rfl) dM_gone_26 ⟨Nat.zero_le _, Nat.zero_le _⟩ ?_
          refine lv_if_ne (tgt := 34) hx hb dM_gone_29 (by decide) (fun h29 => ?_) (fun h29 => ?_)
          · refine lv_iinc (k := 0) (v := nI (j + 1)) hx hb dM_gone_34 hl rfl (incI _)  (by decide) rfl (fun ls hl => ?_)
            have hl : lv_has ls 4 [(3, .int (nI (j + 1))), (0, .ref o), (1, .int (nI d)), (2, .int (nI t))] := hl
            refine lv_goto (tgt := 13) hx hb dM_gone_37 (by decide) ?_
            exact ih (j + 1) (by omega) (by rw [hi]; simp [ocN, e4, bi_1 h29]) ls hl
          · refine lv_iconst (v := nI 1) hx hb dM_gone_32 (by decide +kernel) ?_
            exact W.zret (v := nI 1) (ty := .boolean) hx hb hr nar_1 (fun t9 ht9 _ => ⟨by rw [il, e6, show oc uf d t = false by rw [hi]; simp [ocN, e4, e9, bi_0 h29]]; rfl, ht9⟩) (fun _ h9 => nomatch h9) dM_gone_33
    exact key 5 0 rfl rfl ls hl
  · have e6 := bi_1 h6
    refine lv_iconst (v := nI 0) hx hb dM_gone_9 (by decide +kernel) ?_
    exact W.zret (v := nI 0) (ty := .boolean) hx hb hr nar_0 (fun t9 ht9 _ => ⟨by rw [il, e6]; rfl, ht9⟩) (fun _ h9 => nomatch h9) dM_gone_10
set_option maxHeartbeats 4000000 in
set_option maxRecDepth 100000 in
theorem mM_others (l : Launch) (D : va_G) (o a b : Nat) (cA iA : ClassId) (er : Int32) (cf : Nat → Int64) (uf : Nat → Int32) (d t h : Nat) (hd : d < 5) (ht : t < 100) (hh : h < 2) : Met l yM_others (.code yM_others cM_others 7 (some .long) :: gW) ({ frames := 1, cells := 0, slots := 0, locals := 22 }) (pW D (wM o a b cA iA er cf uf) (kT cA iA) [.ref o, .int (nI d), .int (nI t), .int (nI h)]) (k2_QcV (.long (xo cf d t h))) 0 0 (fun _ => False) := by
  refine Met.ofW (cc := cM_others) (maxL := 7) (ret := (some .long)) (by decide) rfl ?_
  intro p e s m args below meth c s₁ B hml hv
  obtain ⟨rfl, hP, hK⟩ := hv
  have hx := B.exec
  have hb := B.bytes
  have hr := B.returns
  have hts := atoms_spec (ws := (.code yM_others cM_others 7 (some .long) :: gW)) B.pre
  have hg : ∀ w ∈ gW, w.before ([.ref o, .int (nI d), .int (nI t), .int (nI h)]).toArray s = true := fun w h => hts w (List.mem_cons_of_mem _ h)
  have hown : s.vm.findClass R_M = some m.cls := findClass_of_methodNamed B.named
  have hlocks := B.notSynchronized
  have hl := lv_entry ([.ref o, .int (nI d), .int (nI t), .int (nI h)]) (n := 7) (Nat.le_of_ble_eq_true rfl)
  rw [lg_entry_eq]
  generalize (lg_sl ([.ref o, .int (nI d), .int (nI t), .int (nI h)]) ++ List.replicate (7 - (lg_sl ([.ref o, .int (nI d), .int (nI t), .int (nI h)])).length) Slot.unset).toArray = ls at hl ⊢
  have hl : lv_has ls 7 [(0, .ref o), (1, .int (nI d)), (2, .int (nI t)), (3, .int (nI h))] := hl
  refine lv_lconst (v := 0) hx hb dM_others_0 (by decide +kernel) ?_
  refine lv_lstore hx hb dM_others_1 hl (by decide) rfl (fun ls hl => ?_)
  have hl : lv_has ls 7 [(4, .long 0), (0, .ref o), (1, .int (nI d)), (2, .int (nI t)), (3, .int (nI h))] := hl
  refine lv_iconst (v := nI 0) hx hb dM_others_3 (by decide +kernel) ?_
  refine lv_istore hx hb dM_others_4 hl (by decide) rfl (fun ls hl => ?_)
  have hl : lv_has ls 7 [(6, .int (nI 0)), (4, .long 0), (0, .ref o), (1, .int (nI d)), (2, .int (nI t)), (3, .int (nI h))] := hl
  have key : ∀ n j : Nat, j + n = 5 → ∀ ls : Array Slot, lv_has ls 7 [(6, .int (nI j)), (4, .long (xoN cf d t h j)), (0, .ref o), (1, .int (nI d)), (2, .int (nI t)), (3, .int (nI h))] → W p l e (headSpec (.code yM_others cM_others 7 (some .long) :: gW) ({ frames := 1, cells := 0, slots := 0, locals := 22 })).room s m ([.ref o, .int (nI d), .int (nI t), .int (nI h)]).toArray below meth c s.heap [] 0 0 (MQ below (k2_QcV (.long (xo cf d t h))) ([.ref o, .int (nI d), .int (nI t), .int (nI h)]).toArray s 0 0 (fun _ => False)) (F0 m 6 ls []) := by
    intro n
    induction n with
    | zero =>
      intro j hj ls hl
      obtain rfl : j = 5 := by omega
      refine lv_iload hx hb dM_others_6 (lv_at hl 0 rfl) ?_
      refine lv_iconst (v := nI 5) hx hb dM_others_8 (by decide +kernel) ?_
      refine lv_icmp_ge (tgt := 41) hx hb dM_others_9 (by decide) (fun h9 => ?_) (fun h9 => absurd (nI_le (Nat.le_refl 5) (by decide)) h9)
      refine lv_lload hx hb dM_others_41 (lv_at hl 1 rfl) ?_
      exact W.lret (v := xoN cf d t h 5) hx hb hr (fun t9 ht9 _ => ⟨by rfl, ht9⟩) (fun _ h9 => nomatch h9) dM_others_43
    | succ n ih =>
      intro j hj ls hl
      refine lv_iload hx hb dM_others_6 (lv_at hl 0 rfl) ?_
      refine lv_iconst (v := nI 5) hx hb dM_others_8 (by decide +kernel) ?_
      refine lv_icmp_ge (tgt := 41) hx hb dM_others_9 (by decide) (fun h9 => absurd h9 (nI_ge (by omega) (by decide))) (fun h9 => ?_)
      refine lv_iload hx hb dM_others_12 (lv_at hl 0 rfl) ?_
      refine lv_iload_n hx hb dM_others_14 rfl (lv_at hl 3 rfl) ?_
      refine lv_icmp_eq (tgt := 35) hx hb dM_others_15 (by decide) (fun h15 => ?_) (fun h15 => ?_)
      · have e15 : j = d := (nI_eq (by omega) (by omega)).mp h15
        refine lv_iinc (k := 0) (v := nI (j + 1)) hx hb dM_others_35 hl rfl (incI _)  (by decide) rfl (fun ls hl => ?_)
        have hl : lv_has ls 7 [(6, .int (nI (j + 1))), (4, .long (xoN cf d t h j)), (0, .ref o), (1, .int (nI d)), (2, .int (nI t)), (3, .int (nI h))] := hl
        refine lv_goto (tgt := 6) hx hb dM_others_38 (by decide) ?_
        rw [← xoN_p (cf := cf) (s := t) (h := h) e15] at hl
        exact ih (j + 1) (by omega) ls hl
      · have e15 : ¬ j = d := fun z => h15 (by rw [z])
        refine lv_lload hx hb dM_others_18 (lv_at hl 1 rfl) ?_
        refine lv_aload_n hx hb dM_others_20 rfl (lv_at hl 2 rfl) ?_
        refine va_get (D := D) (ci := 1) (v := .ref a) (C := R_M) (T := T_M) (N := 3) hx hb hg uM_in hown hK hP 0 rfl rfl 1 (by decide) (hg _ w_271) (fun _ h9 => h9) rfl dM_others_21 ?_
        refine lv_iload hx hb dM_others_24 (lv_at hl 0 rfl) ?_
        refine lv_iload_n hx hb dM_others_26 rfl (lv_at hl 4 rfl) ?_
        refine lv_iload_n hx hb dM_others_27 rfl (lv_at hl 5 rfl) ?_
        refine kS (n := 3) (As := [.int (nI j), .int (nI t), .int (nI h)]) (rest := [.ref a, .long (xoN cf d t h j)]) ⟨hx, hb, hml, hown, hts⟩ (mM_at l j t h) w_311 w_312 w_2 w_313 (by decide +kernel) ⟨rfl, rfl⟩ ⟨(Nat.le_of_ble_eq_true rfl), (Nat.le_of_ble_eq_true rfl)⟩ rfl hl.1 rfl (Nat.le_of_ble_eq_true rfl) dM_others_28 ⟨Nat.zero_le _, Nat.zero_le _⟩ ?_
        refine aL hx hb hK hP 1 0 rfl rfl (ix_lt (by omega) (by omega) (by omega)) (by decide) dM_others_31 ?_
        refine lv_lxor hx hb dM_others_32 ?_
        refine tL (xoN_n e15).symm ?_
        refine lv_lstore hx hb dM_others_33 hl (by decide) rfl (fun ls hl => ?_)
        have hl : lv_has ls 7 [(4, .long (xoN cf d t h (j + 1))), (6, .int (nI j)), (0, .ref o), (1, .int (nI d)), (2, .int (nI t)), (3, .int (nI h))] := hl
        refine lv_iinc (k := 1) (v := nI (j + 1)) hx hb dM_others_35 hl rfl (incI _)  (by decide) rfl (fun ls hl => ?_)
        have hl : lv_has ls 7 [(6, .int (nI (j + 1))), (4, .long (xoN cf d t h (j + 1))), (0, .ref o), (1, .int (nI d)), (2, .int (nI t)), (3, .int (nI h))] := hl
        refine lv_goto (tgt := 6) hx hb dM_others_38 (by decide) ?_
        exact ih (j + 1) (by omega) ls hl
  exact key 5 0 rfl ls hl
set_option maxHeartbeats 4000000 in
set_option maxRecDepth 100000 in
theorem mM_has (l : Launch) (D : va_G) (o a b : Nat) (cA iA : ClassId) (er : Int32) (cf : Nat → Int64) (uf : Nat → Int32) (d t h : Nat) (hd : d < 5) (ht : t < 100) (hh : h < 2) : Met l yM_has (.code yM_has cM_has 4 (some .long) :: gW) ({ frames := 2, cells := 0, slots := 0, locals := 48 }) (pW D (wM o a b cA iA er cf uf) (kT cA iA) [.ref o, .int (nI d), .int (nI t), .int (nI h)]) (k2_QcV (.long (wh cf uf d t h))) 0 0 (fun _ => False) := by
  refine Met.ofW (cc := cM_has) (maxL := 4) (ret := (some .long)) (by decide) rfl ?_
  intro p e s m args below meth c s₁ B hml hv
  obtain ⟨rfl, hP, hK⟩ := hv
  have hx := B.exec
  have hb := B.bytes
  have hr := B.returns
  have hts := atoms_spec (ws := (.code yM_has cM_has 4 (some .long) :: gW)) B.pre
  have hg : ∀ w ∈ gW, w.before ([.ref o, .int (nI d), .int (nI t), .int (nI h)]).toArray s = true := fun w h => hts w (List.mem_cons_of_mem _ h)
  have hown : s.vm.findClass R_M = some m.cls := findClass_of_methodNamed B.named
  have hlocks := B.notSynchronized
  have hl := lv_entry ([.ref o, .int (nI d), .int (nI t), .int (nI h)]) (n := 4) (Nat.le_of_ble_eq_true rfl)
  rw [lg_entry_eq]
  generalize (lg_sl ([.ref o, .int (nI d), .int (nI t), .int (nI h)]) ++ List.replicate (4 - (lg_sl ([.ref o, .int (nI d), .int (nI t), .int (nI h)])).length) Slot.unset).toArray = ls at hl ⊢
  have hl : lv_has ls 4 [(0, .ref o), (1, .int (nI d)), (2, .int (nI t)), (3, .int (nI h))] := hl
  refine lv_aload_n hx hb dM_has_0 rfl (lv_at hl 0 rfl) ?_
  refine lv_iload_n hx hb dM_has_1 rfl (lv_at hl 1 rfl) ?_
  refine lv_iload_n hx hb dM_has_2 rfl (lv_at hl 2 rfl) ?_
  refine kV (n := 2) (As := [.int (nI d), .int (nI t)]) (rest := []) ⟨hx, hb, hml, hown, hts⟩ (mM_usable l D o a b cA iA er cf uf d t (by omega) (by omega)) w_303 w_305 v_13 w_2 w_306 (by decide +kernel) ⟨rfl, rfl⟩ ⟨(Nat.le_of_ble_eq_true rfl), (Nat.le_of_ble_eq_true rfl)⟩ hP hK 1 0 rfl rfl rfl hl.1 rfl (Nat.le_of_ble_eq_true rfl) dM_has_3 ⟨Nat.zero_le _, Nat.zero_le _⟩ ?_
  refine lv_if_eq (tgt := 23) hx hb dM_has_6 (by decide) (fun h6 => ?_) (fun h6 => ?_)
  · refine lv_aload_n hx hb dM_has_23 rfl (lv_at hl 0 rfl) ?_
    refine lv_iload_n hx hb dM_has_24 rfl (lv_at hl 1 rfl) ?_
    refine lv_iload_n hx hb dM_has_25 rfl (lv_at hl 2 rfl) ?_
    refine lv_iload_n hx hb dM_has_26 rfl (lv_at hl 3 rfl) ?_
    refine kV (n := 3) (As := [.int (nI d), .int (nI t), .int (nI h)]) (rest := []) ⟨hx, hb, hml, hown, hts⟩ (mM_others l D o a b cA iA er cf uf d t h (by omega) (by omega) (by omega)) w_314 w_316 v_15 w_2 w_317 (by decide +kernel) ⟨rfl, rfl⟩ ⟨(Nat.le_of_ble_eq_true rfl), (Nat.le_of_ble_eq_true rfl)⟩ hP hK 1 0 rfl rfl rfl hl.1 rfl (Nat.le_of_ble_eq_true rfl) dM_has_27 ⟨Nat.zero_le _, Nat.zero_le _⟩ ?_
    exact W.lret (v := xo cf d t h) hx hb hr (fun t9 ht9 _ => ⟨by rw [wh_f (bi_0 h6)], ht9⟩) (fun _ h9 => nomatch h9) dM_has_30
  · refine lv_aload_n hx hb dM_has_9 rfl (lv_at hl 0 rfl) ?_
    refine va_get (D := D) (ci := 1) (v := .ref a) (C := R_M) (T := T_M) (N := 3) hx hb hg uM_in hown hK hP 0 rfl rfl 1 (by decide) (hg _ w_271) (fun _ h9 => h9) rfl dM_has_10 ?_
    refine lv_iload_n hx hb dM_has_13 rfl (lv_at hl 1 rfl) ?_
    refine lv_iload_n hx hb dM_has_14 rfl (lv_at hl 2 rfl) ?_
    refine lv_iload_n hx hb dM_has_15 rfl (lv_at hl 3 rfl) ?_
    refine kS (n := 3) (As := [.int (nI d), .int (nI t), .int (nI h)]) (rest := [.ref a]) ⟨hx, hb, hml, hown, hts⟩ (mM_at l d t h) w_311 w_312 w_2 w_313 (by decide +kernel) ⟨rfl, rfl⟩ ⟨(Nat.le_of_ble_eq_true rfl), (Nat.le_of_ble_eq_true rfl)⟩ rfl hl.1 rfl (Nat.le_of_ble_eq_true rfl) dM_has_16 ⟨Nat.zero_le _, Nat.zero_le _⟩ ?_
    refine aL hx hb hK hP 1 0 rfl rfl (ix_lt (by omega) (by omega) (by omega)) (by decide) dM_has_19 ?_
    refine lv_goto (tgt := 30) hx hb dM_has_20 (by decide) ?_
    exact W.lret (v := cf (ix d t h)) hx hb hr (fun t9 ht9 _ => ⟨by rw [wh_t (bi_1 h6)], ht9⟩) (fun _ h9 => nomatch h9) dM_has_30
set_option maxHeartbeats 4000000 in
set_option maxRecDepth 100000 in
theorem mM_noPlace (l : Launch) (D : va_G) (o a b : Nat) (cA iA : ClassId) (er : Int32) (cf : Nat → Int64) (uf : Nat → Int32) (x y : Int32) : Met l yM_noPlace (.code yM_noPlace cM_noPlace 3 (some .boolean) :: gW) ({ frames := 0, cells := 0, slots := 0, locals := 0 }) (pW D (wM o a b cA iA er cf uf) (kT cA iA) [.ref o, .int x, .int y]) (k2_QcV (.int (bi (!(inR x 400 && inR y 2))))) 0 0 (fun _ => False) := by
  refine Met.ofW (cc := cM_noPlace) (maxL := 3) (ret := (some .boolean)) (by decide) rfl ?_
  intro p e s m args below meth c s₁ B hml hv
  obtain ⟨rfl, hP, hK⟩ := hv
  have hx := B.exec
  have hb := B.bytes
  have hr := B.returns
  have hts := atoms_spec (ws := (.code yM_noPlace cM_noPlace 3 (some .boolean) :: gW)) B.pre
  have hg : ∀ w ∈ gW, w.before ([.ref o, .int x, .int y]).toArray s = true := fun w h => hts w (List.mem_cons_of_mem _ h)
  have hown : s.vm.findClass R_M = some m.cls := findClass_of_methodNamed B.named
  have hlocks := B.notSynchronized
  have hl := lv_entry ([.ref o, .int x, .int y]) (n := 3) (Nat.le_of_ble_eq_true rfl)
  rw [lg_entry_eq]
  generalize (lg_sl ([.ref o, .int x, .int y]) ++ List.replicate (3 - (lg_sl ([.ref o, .int x, .int y])).length) Slot.unset).toArray = ls at hl ⊢
  have hl : lv_has ls 3 [(0, .ref o), (1, .int x), (2, .int y)] := hl
  refine lv_iload_n hx hb dM_noPlace_0 rfl (lv_at hl 1 rfl) ?_
  refine lv_if_lt (tgt := 20) hx hb dM_noPlace_1 (by decide) (fun h1 => ?_) (fun h1 => ?_)
  · refine lv_iconst (v := nI 1) hx hb dM_noPlace_20 (by decide +kernel) ?_
    refine lv_goto (tgt := 25) hx hb dM_noPlace_21 (by decide) ?_
    exact W.zret (v := nI 1) (ty := .boolean) hx hb hr nar_1 (fun t9 ht9 _ => ⟨by rw [inR_neg h1]; rfl, ht9⟩) (fun _ h9 => nomatch h9) dM_noPlace_25
  · refine lv_iload_n hx hb dM_noPlace_4 rfl (lv_at hl 1 rfl) ?_
    refine lv_sipush (v := nI 400) hx hb dM_noPlace_5 (by decide +kernel) ?_
    refine lv_icmp_ge (tgt := 20) hx hb dM_noPlace_8 (by decide) (fun h8 => ?_) (fun h8 => ?_)
    · refine lv_iconst (v := nI 1) hx hb dM_noPlace_20 (by decide +kernel) ?_
      refine lv_goto (tgt := 25) hx hb dM_noPlace_21 (by decide) ?_
      exact W.zret (v := nI 1) (ty := .boolean) hx hb hr nar_1 (fun t9 ht9 _ => ⟨by rw [inR_ge h8]; rfl, ht9⟩) (fun _ h9 => nomatch h9) dM_noPlace_25
    · refine lv_iload_n hx hb dM_noPlace_11 rfl (lv_at hl 2 rfl) ?_
      refine lv_if_lt (tgt := 20) hx hb dM_noPlace_12 (by decide) (fun h12 => ?_) (fun h12 => ?_)
      · refine lv_iconst (v := nI 1) hx hb dM_noPlace_20 (by decide +kernel) ?_
        refine lv_goto (tgt := 25) hx hb dM_noPlace_21 (by decide) ?_
        exact W.zret (v := nI 1) (ty := .boolean) hx hb hr nar_1 (fun t9 ht9 _ => ⟨by rw [inR_neg h12, Bool.and_false]; rfl, ht9⟩) (fun _ h9 => nomatch h9) dM_noPlace_25
      · refine lv_iload_n hx hb dM_noPlace_15 rfl (lv_at hl 2 rfl) ?_
        refine lv_iconst (v := nI 1) hx hb dM_noPlace_16 (by decide +kernel) ?_
        refine lv_icmp_le (tgt := 24) hx hb dM_noPlace_17 (by decide) (fun h17 => ?_) (fun h17 => ?_)
        · refine lv_iconst (v := nI 0) hx hb dM_noPlace_24 (by decide +kernel) ?_
          exact W.zret (v := nI 0) (ty := .boolean) hx hb hr nar_0 (fun t9 ht9 _ => ⟨by rw [inR_t h1 h8, inR_1 h12 h17]; rfl, ht9⟩) (fun _ h9 => nomatch h9) dM_noPlace_25
        · refine lv_iconst (v := nI 1) hx hb dM_noPlace_20 (by decide +kernel) ?_
          refine lv_goto (tgt := 25) hx hb dM_noPlace_21 (by decide) ?_
          exact W.zret (v := nI 1) (ty := .boolean) hx hb hr nar_1 (fun t9 ht9 _ => ⟨by rw [inR_n1 h17, Bool.and_false]; rfl, ht9⟩) (fun _ h9 => nomatch h9) dM_noPlace_25
set_option maxHeartbeats 4000000 in
set_option maxRecDepth 100000 in
theorem mM_none (l : Launch) (x : Int32) : Met l yM_none (.code yM_none cM_none 1 (some .boolean) :: gW) ({ frames := 0, cells := 0, slots := 0, locals := 0 }) (pN [.int x]) (k2_QcV (.int (bi (!inR x 5)))) 0 0 (fun _ => False) := by
  refine Met.ofW (cc := cM_none) (maxL := 1) (ret := (some .boolean)) (by decide) rfl ?_
  intro p e s m args below meth c s₁ B hml hv
  obtain ⟨rfl, -⟩ := hv
  have hx := B.exec
  have hb := B.bytes
  have hr := B.returns
  have hts := atoms_spec (ws := (.code yM_none cM_none 1 (some .boolean) :: gW)) B.pre
  have hg : ∀ w ∈ gW, w.before ([.int x]).toArray s = true := fun w h => hts w (List.mem_cons_of_mem _ h)
  have hown : s.vm.findClass R_M = some m.cls := findClass_of_methodNamed B.named
  have hlocks := B.notSynchronized
  have hl := lv_entry ([.int x]) (n := 1) (Nat.le_of_ble_eq_true rfl)
  rw [lg_entry_eq]
  generalize (lg_sl ([.int x]) ++ List.replicate (1 - (lg_sl ([.int x])).length) Slot.unset).toArray = ls at hl ⊢
  have hl : lv_has ls 1 [(0, .int x)] := hl
  refine lv_iload_n hx hb dM_none_0 rfl (lv_at hl 0 rfl) ?_
  refine lv_if_lt (tgt := 9) hx hb dM_none_1 (by decide) (fun h1 => ?_) (fun h1 => ?_)
  · refine lv_iconst (v := nI 1) hx hb dM_none_9 (by decide +kernel) ?_
    refine lv_goto (tgt := 14) hx hb dM_none_10 (by decide) ?_
    exact W.zret (v := nI 1) (ty := .boolean) hx hb hr nar_1 (fun t9 ht9 _ => ⟨by rw [inR_neg h1]; rfl, ht9⟩) (fun _ h9 => nomatch h9) dM_none_14
  · refine lv_iload_n hx hb dM_none_4 rfl (lv_at hl 0 rfl) ?_
    refine lv_iconst (v := nI 5) hx hb dM_none_5 (by decide +kernel) ?_
    refine lv_icmp_lt (tgt := 13) hx hb dM_none_6 (by decide) (fun h6 => ?_) (fun h6 => ?_)
    · refine lv_iconst (v := nI 0) hx hb dM_none_13 (by decide +kernel) ?_
      exact W.zret (v := nI 0) (ty := .boolean) hx hb hr nar_0 (fun t9 ht9 _ => ⟨by rw [inR_t' h1 h6]; rfl, ht9⟩) (fun _ h9 => nomatch h9) dM_none_14
    · refine lv_iconst (v := nI 1) hx hb dM_none_9 (by decide +kernel) ?_
      refine lv_goto (tgt := 14) hx hb dM_none_10 (by decide) ?_
      exact W.zret (v := nI 1) (ty := .boolean) hx hb hr nar_1 (fun t9 ht9 _ => ⟨by rw [inR_nl h6]; rfl, ht9⟩) (fun _ h9 => nomatch h9) dM_none_14
set_option maxHeartbeats 4000000 in
set_option maxRecDepth 100000 in
theorem mM_noBlock (l : Launch) (D : va_G) (o a b : Nat) (cA iA : ClassId) (er : Int32) (cf : Nat → Int64) (uf : Nat → Int32) (x y z : Int32) : Met l yM_noBlock (.code yM_noBlock cM_noBlock 4 (some .boolean) :: gW) ({ frames := 1, cells := 0, slots := 0, locals := 20 }) (pW D (wM o a b cA iA er cf uf) (kT cA iA) [.ref o, .int x, .int y, .int z]) (k2_QcV (.int (bi (!(inR x 5 && (inR y 100 && inR z 2)))))) 0 0 (fun _ => False) := by
  refine Met.ofW (cc := cM_noBlock) (maxL := 4) (ret := (some .boolean)) (by decide) rfl ?_
  intro p e s m args below meth c s₁ B hml hv
  obtain ⟨rfl, hP, hK⟩ := hv
  have hx := B.exec
  have hb := B.bytes
  have hr := B.returns
  have hts := atoms_spec (ws := (.code yM_noBlock cM_noBlock 4 (some .boolean) :: gW)) B.pre
  have hg : ∀ w ∈ gW, w.before ([.ref o, .int x, .int y, .int z]).toArray s = true := fun w h => hts w (List.mem_cons_of_mem _ h)
  have hown : s.vm.findClass R_M = some m.cls := findClass_of_methodNamed B.named
  have hlocks := B.notSynchronized
  have hl := lv_entry ([.ref o, .int x, .int y, .int z]) (n := 4) (Nat.le_of_ble_eq_true rfl)
  rw [lg_entry_eq]
  generalize (lg_sl ([.ref o, .int x, .int y, .int z]) ++ List.replicate (4 - (lg_sl ([.ref o, .int x, .int y, .int z])).length) Slot.unset).toArray = ls at hl ⊢
  have hl : lv_has ls 4 [(0, .ref o), (1, .int x), (2, .int y), (3, .int z)] := hl
  refine lv_iload_n hx hb dM_noBlock_0 rfl (lv_at hl 1 rfl) ?_
  refine kS (n := 1) (As := [.int x]) (rest := []) ⟨hx, hb, hml, hown, hts⟩ (mM_none l x) w_326 w_327 w_2 w_328 (by decide +kernel) ⟨rfl, rfl⟩ ⟨(Nat.le_of_ble_eq_true rfl), (Nat.le_of_ble_eq_true rfl)⟩ rfl hl.1 rfl (Nat.le_of_ble_eq_true rfl) dM_noBlock_1 ⟨Nat.zero_le _, Nat.zero_le _⟩ ?_
  refine lv_if_ne (tgt := 26) hx hb dM_noBlock_4 (by decide) (fun h4 => ?_) (fun h4 => ?_)
  · refine lv_iconst (v := nI 1) hx hb dM_noBlock_26 (by decide +kernel) ?_
    refine lv_goto (tgt := 31) hx hb dM_noBlock_27 (by decide) ?_
    exact W.zret (v := nI 1) (ty := .boolean) hx hb hr nar_1 (fun t9 ht9 _ => ⟨by rw [nb_f (bi_1 h4)]; rfl, ht9⟩) (fun _ h9 => nomatch h9) dM_noBlock_31
  · refine lv_iload_n hx hb dM_noBlock_7 rfl (lv_at hl 2 rfl) ?_
    refine lv_if_lt (tgt := 26) hx hb dM_noBlock_8 (by decide) (fun h8 => ?_) (fun h8 => ?_)
    · refine lv_iconst (v := nI 1) hx hb dM_noBlock_26 (by decide +kernel) ?_
      refine lv_goto (tgt := 31) hx hb dM_noBlock_27 (by decide) ?_
      exact W.zret (v := nI 1) (ty := .boolean) hx hb hr nar_1 (fun t9 ht9 _ => ⟨by rw [inR_neg h8, Bool.false_and, Bool.and_false]; rfl, ht9⟩) (fun _ h9 => nomatch h9) dM_noBlock_31
    · refine lv_iload_n hx hb dM_noBlock_11 rfl (lv_at hl 2 rfl) ?_
      refine lv_bipush (v := nI 100) hx hb dM_noBlock_12 (by decide +kernel) ?_
      refine lv_icmp_ge (tgt := 26) hx hb dM_noBlock_14 (by decide) (fun h14 => ?_) (fun h14 => ?_)
      · refine lv_iconst (v := nI 1) hx hb dM_noBlock_26 (by decide +kernel) ?_
        refine lv_goto (tgt := 31) hx hb dM_noBlock_27 (by decide) ?_
        exact W.zret (v := nI 1) (ty := .boolean) hx hb hr nar_1 (fun t9 ht9 _ => ⟨by rw [inR_ge h14, Bool.false_and, Bool.and_false]; rfl, ht9⟩) (fun _ h9 => nomatch h9) dM_noBlock_31
      · refine lv_iload_n hx hb dM_noBlock_17 rfl (lv_at hl 3 rfl) ?_
        refine lv_if_lt (tgt := 26) hx hb dM_noBlock_18 (by decide) (fun h18 => ?_) (fun h18 => ?_)
        · refine lv_iconst (v := nI 1) hx hb dM_noBlock_26 (by decide +kernel) ?_
          refine lv_goto (tgt := 31) hx hb dM_noBlock_27 (by decide) ?_
          exact W.zret (v := nI 1) (ty := .boolean) hx hb hr nar_1 (fun t9 ht9 _ => ⟨by rw [inR_neg h18, Bool.and_false, Bool.and_false]; rfl, ht9⟩) (fun _ h9 => nomatch h9) dM_noBlock_31
        · refine lv_iload_n hx hb dM_noBlock_21 rfl (lv_at hl 3 rfl) ?_
          refine lv_iconst (v := nI 1) hx hb dM_noBlock_22 (by decide +kernel) ?_
          refine lv_icmp_le (tgt := 30) hx hb dM_noBlock_23 (by decide) (fun h23 => ?_) (fun h23 => ?_)
          · refine lv_iconst (v := nI 0) hx hb dM_noBlock_30 (by decide +kernel) ?_
            exact W.zret (v := nI 0) (ty := .boolean) hx hb hr nar_0 (fun t9 ht9 _ => ⟨by rw [nb_t (bi_0 h4), inR_t h8 h14, inR_1 h18 h23]; rfl, ht9⟩) (fun _ h9 => nomatch h9) dM_noBlock_31
          · refine lv_iconst (v := nI 1) hx hb dM_noBlock_26 (by decide +kernel) ?_
            refine lv_goto (tgt := 31) hx hb dM_noBlock_27 (by decide) ?_
            exact W.zret (v := nI 1) (ty := .boolean) hx hb hr nar_1 (fun t9 ht9 _ => ⟨by rw [inR_n1 h23, Bool.and_false, Bool.and_false]; rfl, ht9⟩) (fun _ h9 => nomatch h9) dM_noBlock_31
set_option maxHeartbeats 4000000 in
set_option maxRecDepth 100000 in
theorem mM_fails_t (l : Launch) (D : va_G) (o a b : Nat) (cA iA : ClassId) (er : Int32) (cf : Nat → Int64) (uf : Nat → Int32) (sz : Nat) (w9 : Nat) : Met l yM_fails (.code yM_fails cM_fails 3 (some .boolean) :: gW) ({ frames := 0, cells := 0, slots := 0, locals := 0 }) (pWs D (wM o a b cA iA er cf uf) (kT cA iA) sz [.ref o, .int (nI 1), .int (nI w9)]) (QI (nI 1) D (wM o a b cA iA (nI w9) cf uf) (va_A (wM o a b cA iA er cf uf) sz)) 0 0 (va_A (wM o a b cA iA er cf uf) sz) := by
  refine Met.ofW (cc := cM_fails) (maxL := 3) (ret := (some .boolean)) (by decide) rfl ?_
  intro p e s m args below meth c s₁ B hml hv
  obtain ⟨rfl, hsz, hP, hK, hD0⟩ := hv
  have hx := B.exec
  have hb := B.bytes
  have hr := B.returns
  have hts := atoms_spec (ws := (.code yM_fails cM_fails 3 (some .boolean) :: gW)) B.pre
  have hg : ∀ w ∈ gW, w.before ([.ref o, .int (nI 1), .int (nI w9)]).toArray s = true := fun w h => hts w (List.mem_cons_of_mem _ h)
  have hown : s.vm.findClass R_M = some m.cls := findClass_of_methodNamed B.named
  have hlocks := B.notSynchronized
  subst hsz
  have hD := hD0.self (sz := s.heap.size)
  generalize hAe : va_A (wM o a b cA iA er cf uf) s.heap.size = A at hD ⊢
  have hA : ∀ q : Nat, s.heap.size ≤ q → A q := fun q h => by rw [← hAe]; exact Or.inr h
  have hS : va_S A s.heap s.heap [] := va_S.rf
  have hP : va_P D cls_ (wM o a b cA iA er cf uf) s.heap := hP
  have hl := lv_entry ([.ref o, .int (nI 1), .int (nI w9)]) (n := 3) (Nat.le_of_ble_eq_true rfl)
  rw [lg_entry_eq]
  generalize (lg_sl ([.ref o, .int (nI 1), .int (nI w9)]) ++ List.replicate (3 - (lg_sl ([.ref o, .int (nI 1), .int (nI w9)])).length) Slot.unset).toArray = ls at hl ⊢
  have hl : lv_has ls 3 [(0, .ref o), (1, .int (nI 1)), (2, .int (nI w9))] := hl
  refine lv_aload_n hx hb dM_fails_0 rfl (lv_at hl 0 rfl) ?_
  refine lv_iload_n hx hb dM_fails_1 rfl (lv_at hl 1 rfl) ?_
  refine lv_if_eq (tgt := 9) hx hb dM_fails_2 (by decide) (fun h2 => absurd h2 (by decide +kernel)) (fun h2 => ?_)
  refine lv_iload_n hx hb dM_fails_5 rfl (lv_at hl 2 rfl) ?_
  refine lv_goto (tgt := 10) hx hb dM_fails_6 (by decide) ?_
  refine va_put (D := D) (ci := 1) (v := .int (nI w9)) (ty := .int) (C := R_M) (T := T_M) (N := 3) hx hb hg uM_in ty_M ty_M_ok nd_M hown hK hP hD hS 0 rfl rfl 0 (by decide) (hg _ w_270) (fun _ h9 => h9) rfl (by decide +kernel) rfl rfl (Nat.le_of_ble_eq_true rfl) dM_fails_10 (fun H locs hP hD hS => ?_)
  have hP : va_P D cls_ (wM o a b cA iA (nI w9) cf uf) H := hP
  have hD : va_D A (wM o a b cA iA (nI w9) cf uf) := hD
  refine lv_iload_n hx hb dM_fails_13 rfl (lv_at hl 1 rfl) ?_
  exact W.zret (v := nI 1) (ty := .boolean) hx hb hr nar_1 (fun t9 ht9 _ => ⟨⟨_, (), rfl, by show _ = _; rfl, by show va_P _ _ _ t9.heap; rw [ht9]; exact hP⟩, hS.F ht9⟩) hS.2.2 dM_fails_14
set_option maxHeartbeats 4000000 in
set_option maxRecDepth 100000 in
theorem mM_fails_f (l : Launch) (D : va_G) (o a b : Nat) (cA iA : ClassId) (er : Int32) (cf : Nat → Int64) (uf : Nat → Int32) (sz : Nat) (w9 : Nat) : Met l yM_fails (.code yM_fails cM_fails 3 (some .boolean) :: gW) ({ frames := 0, cells := 0, slots := 0, locals := 0 }) (pWs D (wM o a b cA iA er cf uf) (kT cA iA) sz [.ref o, .int (nI 0), .int (nI w9)]) (QI (nI 0) D (wM o a b cA iA (nI 0) cf uf) (va_A (wM o a b cA iA er cf uf) sz)) 0 0 (va_A (wM o a b cA iA er cf uf) sz) := by
  refine Met.ofW (cc := cM_fails) (maxL := 3) (ret := (some .boolean)) (by decide) rfl ?_
  intro p e s m args below meth c s₁ B hml hv
  obtain ⟨rfl, hsz, hP, hK, hD0⟩ := hv
  have hx := B.exec
  have hb := B.bytes
  have hr := B.returns
  have hts := atoms_spec (ws := (.code yM_fails cM_fails 3 (some .boolean) :: gW)) B.pre
  have hg : ∀ w ∈ gW, w.before ([.ref o, .int (nI 0), .int (nI w9)]).toArray s = true := fun w h => hts w (List.mem_cons_of_mem _ h)
  have hown : s.vm.findClass R_M = some m.cls := findClass_of_methodNamed B.named
  have hlocks := B.notSynchronized
  subst hsz
  have hD := hD0.self (sz := s.heap.size)
  generalize hAe : va_A (wM o a b cA iA er cf uf) s.heap.size = A at hD ⊢
  have hA : ∀ q : Nat, s.heap.size ≤ q → A q := fun q h => by rw [← hAe]; exact Or.inr h
  have hS : va_S A s.heap s.heap [] := va_S.rf
  have hP : va_P D cls_ (wM o a b cA iA er cf uf) s.heap := hP
  have hl := lv_entry ([.ref o, .int (nI 0), .int (nI w9)]) (n := 3) (Nat.le_of_ble_eq_true rfl)
  rw [lg_entry_eq]
  generalize (lg_sl ([.ref o, .int (nI 0), .int (nI w9)]) ++ List.replicate (3 - (lg_sl ([.ref o, .int (nI 0), .int (nI w9)])).length) Slot.unset).toArray = ls at hl ⊢
  have hl : lv_has ls 3 [(0, .ref o), (1, .int (nI 0)), (2, .int (nI w9))] := hl
  refine lv_aload_n hx hb dM_fails_0 rfl (lv_at hl 0 rfl) ?_
  refine lv_iload_n hx hb dM_fails_1 rfl (lv_at hl 1 rfl) ?_
  refine lv_if_eq (tgt := 9) hx hb dM_fails_2 (by decide) (fun h2 => ?_) (fun h2 => absurd (by decide +kernel) h2)
  refine lv_iconst (v := nI 0) hx hb dM_fails_9 (by decide +kernel) ?_
  refine va_put (D := D) (ci := 1) (v := .int (nI 0)) (ty := .int) (C := R_M) (T := T_M) (N := 3) hx hb hg uM_in ty_M ty_M_ok nd_M hown hK hP hD hS 0 rfl rfl 0 (by decide) (hg _ w_270) (fun _ h9 => h9) rfl (by decide +kernel) rfl rfl (Nat.le_of_ble_eq_true rfl) dM_fails_10 (fun H locs hP hD hS => ?_)
  have hP : va_P D cls_ (wM o a b cA iA (nI 0) cf uf) H := hP
  have hD : va_D A (wM o a b cA iA (nI 0) cf uf) := hD
  refine lv_iload_n hx hb dM_fails_13 rfl (lv_at hl 1 rfl) ?_
  exact W.zret (v := nI 0) (ty := .boolean) hx hb hr nar_0 (fun t9 ht9 _ => ⟨⟨_, (), rfl, by show _ = _; rfl, by show va_P _ _ _ t9.heap; rw [ht9]; exact hP⟩, hS.F ht9⟩) hS.2.2 dM_fails_14
end
section
set_option maxHeartbeats 4000000 in
set_option maxRecDepth 100000 in
theorem mM_read_a (l : Launch) (D : va_G) (o a b : Nat) (cA iA : ClassId) (er : Int32) (cf : Nat → Int64) (uf : Nat → Int32) (sz : Nat) (x y : Int32) (hbad : (inR x 400 && inR y 2) = false) : Met l yM_read (.code yM_read cM_read 5 (some .long) :: gW) ({ frames := 3, cells := 0, slots := 0, locals := 71 }) (pWs D (wM o a b cA iA er cf uf) (kT cA iA) sz [.ref o, .int x, .int y]) (QL (0) D (wM o a b cA iA (nI 1) cf uf) (va_A (wM o a b cA iA er cf uf) sz)) 0 0 (va_A (wM o a b cA iA er cf uf) sz) := by
  refine Met.ofW (cc := cM_read) (maxL := 5) (ret := (some .long)) (by decide) rfl ?_
  intro p e s m args below meth c s₁ B hml hv
  obtain ⟨rfl, hsz, hP, hK, hD0⟩ := hv
  have hx := B.exec
  have hb := B.bytes
  have hr := B.returns
  have hts := atoms_spec (ws := (.code yM_read cM_read 5 (some .long) :: gW)) B.pre
  have hg : ∀ w ∈ gW, w.before ([.ref o, .int x, .int y]).toArray s = true := fun w h => hts w (List.mem_cons_of_mem _ h)
  have hown : s.vm.findClass R_M = some m.cls := findClass_of_methodNamed B.named
  have hlocks := B.notSynchronized
  subst hsz
  have hD := hD0.self (sz := s.heap.size)
  generalize hAe : va_A (wM o a b cA iA er cf uf) s.heap.size = A at hD ⊢
  have hA : ∀ q : Nat, s.heap.size ≤ q → A q := fun q h => by rw [← hAe]; exact Or.inr h
  have hS : va_S A s.heap s.heap [] := va_S.rf
  have hP : va_P D cls_ (wM o a b cA iA er cf uf) s.heap := hP
  have hl := lv_entry ([.ref o, .int x, .int y]) (n := 5) (Nat.le_of_ble_eq_true rfl)
  rw [lg_entry_eq]
  generalize (lg_sl ([.ref o, .int x, .int y]) ++ List.replicate (5 - (lg_sl ([.ref o, .int x, .int y])).length) Slot.unset).toArray = ls at hl ⊢
  have hl : lv_has ls 5 [(0, .ref o), (1, .int x), (2, .int y)] := hl
  refine lv_aload_n hx hb dM_read_0 rfl (lv_at hl 0 rfl) ?_
  refine lv_aload_n hx hb dM_read_1 rfl (lv_at hl 0 rfl) ?_
  refine lv_iload_n hx hb dM_read_2 rfl (lv_at hl 1 rfl) ?_
  refine lv_iload_n hx hb dM_read_3 rfl (lv_at hl 2 rfl) ?_
  refine kV (n := 2) (As := [.int x, .int y]) (rest := [.ref o]) ⟨hx, hb, hml, hown, hts⟩ (mM_noPlace l D o a b cA iA er cf uf x y) w_288 w_290 v_10 w_2 w_291 (by decide +kernel) ⟨rfl, rfl⟩ ⟨(Nat.le_of_ble_eq_true rfl), (Nat.le_of_ble_eq_true rfl)⟩ hP hK 1 0 rfl rfl rfl hl.1 rfl (Nat.le_of_ble_eq_true rfl) dM_read_4 ⟨Nat.zero_le _, Nat.zero_le _⟩ ?_
  refine tI (b9t (by rw [hbad]; rfl)) ?_
  refine lv_iconst (v := nI 1) hx hb dM_read_7 (by decide +kernel) ?_
  refine kVi (n := 2) (As := [.int (nI 1), .int (nI 1)]) (rest := []) ⟨hx, hb, hml, hown, hts⟩ (mM_fails_t l D o a b cA iA er cf uf s.heap.size 1) w_292 w_294 v_11 w_2 w_295 (by decide +kernel) ⟨rfl, rfl⟩ ⟨(Nat.le_of_ble_eq_true rfl), (Nat.le_of_ble_eq_true rfl)⟩ hP hK hD hS hA rfl 1 0 rfl rfl rfl hl.1 rfl (Nat.le_of_ble_eq_true rfl) dM_read_8 ⟨Nat.zero_le _, Nat.zero_le _⟩ (fun H locs hP hD hS => ?_)
  refine lv_if_eq (tgt := 16) hx hb dM_read_11 (by decide) (fun h11 => absurd h11 (by decide +kernel)) (fun h11 => ?_)
  refine lv_lconst (v := 0) hx hb dM_read_14 (by decide +kernel) ?_
  exact W.lret (v := 0) hx hb hr (fun t9 ht9 _ => ⟨⟨_, (), rfl, by show _ = _; rfl, by show va_P _ _ _ t9.heap; rw [ht9]; exact hP⟩, hS.F ht9⟩) hS.2.2 dM_read_15
set_option maxHeartbeats 4000000 in
set_option maxRecDepth 100000 in
theorem mM_read_u (l : Launch) (D : va_G) (o a b : Nat) (cA iA : ClassId) (er : Int32) (cf : Nat → Int64) (uf : Nat → Int32) (sz : Nat) (q h : Nat) (hq : q < 400) (hh : h < 2) (hil : il uf (dk q) (q / 4) = true) : Met l yM_read (.code yM_read cM_read 5 (some .long) :: gW) ({ frames := 3, cells := 0, slots := 0, locals := 71 }) (pWs D (wM o a b cA iA er cf uf) (kT cA iA) sz [.ref o, .int (nI q), .int (nI h)]) (QL (0) D (wM o a b cA iA (nI 2) cf uf) (va_A (wM o a b cA iA er cf uf) sz)) 0 0 (va_A (wM o a b cA iA er cf uf) sz) := by
  refine Met.ofW (cc := cM_read) (maxL := 5) (ret := (some .long)) (by decide) rfl ?_
  intro p e s m args below meth c s₁ B hml hv
  obtain ⟨rfl, hsz, hP, hK, hD0⟩ := hv
  have hx := B.exec
  have hb := B.bytes
  have hr := B.returns
  have hts := atoms_spec (ws := (.code yM_read cM_read 5 (some .long) :: gW)) B.pre
  have hg : ∀ w ∈ gW, w.before ([.ref o, .int (nI q), .int (nI h)]).toArray s = true := fun w h => hts w (List.mem_cons_of_mem _ h)
  have hown : s.vm.findClass R_M = some m.cls := findClass_of_methodNamed B.named
  have hlocks := B.notSynchronized
  subst hsz
  have hD := hD0.self (sz := s.heap.size)
  generalize hAe : va_A (wM o a b cA iA er cf uf) s.heap.size = A at hD ⊢
  have hA : ∀ q : Nat, s.heap.size ≤ q → A q := fun q h => by rw [← hAe]; exact Or.inr h
  have hS : va_S A s.heap s.heap [] := va_S.rf
  have hP : va_P D cls_ (wM o a b cA iA er cf uf) s.heap := hP
  have hl := lv_entry ([.ref o, .int (nI q), .int (nI h)]) (n := 5) (Nat.le_of_ble_eq_true rfl)
  rw [lg_entry_eq]
  generalize (lg_sl ([.ref o, .int (nI q), .int (nI h)]) ++ List.replicate (5 - (lg_sl ([.ref o, .int (nI q), .int (nI h)])).length) Slot.unset).toArray = ls at hl ⊢
  have hl : lv_has ls 5 [(0, .ref o), (1, .int (nI q)), (2, .int (nI h))] := hl
  refine lv_aload_n hx hb dM_read_0 rfl (lv_at hl 0 rfl) ?_
  refine lv_aload_n hx hb dM_read_1 rfl (lv_at hl 0 rfl) ?_
  refine lv_iload_n hx hb dM_read_2 rfl (lv_at hl 1 rfl) ?_
  refine lv_iload_n hx hb dM_read_3 rfl (lv_at hl 2 rfl) ?_
  refine kV (n := 2) (As := [.int (nI q), .int (nI h)]) (rest := [.ref o]) ⟨hx, hb, hml, hown, hts⟩ (mM_noPlace l D o a b cA iA er cf uf (nI q) (nI h)) w_288 w_290 v_10 w_2 w_291 (by decide +kernel) ⟨rfl, rfl⟩ ⟨(Nat.le_of_ble_eq_true rfl), (Nat.le_of_ble_eq_true rfl)⟩ hP hK 1 0 rfl rfl rfl hl.1 rfl (Nat.le_of_ble_eq_true rfl) dM_read_4 ⟨Nat.zero_le _, Nat.zero_le _⟩ ?_
  refine tI (b9f (by rw [inR_of (by decide) hq, inR_of (by decide) hh]; rfl)) ?_
  refine lv_iconst (v := nI 1) hx hb dM_read_7 (by decide +kernel) ?_
  refine kVi (n := 2) (As := [.int (nI 0), .int (nI 1)]) (rest := []) ⟨hx, hb, hml, hown, hts⟩ (mM_fails_f l D o a b cA iA er cf uf s.heap.size 1) w_292 w_294 v_11 w_2 w_295 (by decide +kernel) ⟨rfl, rfl⟩ ⟨(Nat.le_of_ble_eq_true rfl), (Nat.le_of_ble_eq_true rfl)⟩ hP hK hD hS hA rfl 1 0 rfl rfl rfl hl.1 rfl (Nat.le_of_ble_eq_true rfl) dM_read_8 ⟨Nat.zero_le _, Nat.zero_le _⟩ (fun H locs hP hD hS => ?_)
  refine lv_if_eq (tgt := 16) hx hb dM_read_11 (by decide) (fun h11 => ?_) (fun h11 => absurd (by decide +kernel) h11)
  refine lv_iload_n hx hb dM_read_16 rfl (lv_at hl 1 rfl) ?_
  refine kS (n := 1) (As := [.int (nI q)]) (rest := []) ⟨hx, hb, hml, hown, hts⟩ (mM_disk l q (by omega)) w_296 w_297 w_2 w_298 (by decide +kernel) ⟨rfl, rfl⟩ ⟨(Nat.le_of_ble_eq_true rfl), (Nat.le_of_ble_eq_true rfl)⟩ rfl hl.1 rfl (Nat.le_of_ble_eq_true rfl) dM_read_17 ⟨Nat.zero_le _, Nat.zero_le _⟩ ?_
  refine lv_istore_n hx hb dM_read_20 rfl hl (by decide) rfl (fun ls hl => ?_)
  have hl : lv_has ls 5 [(3, .int (nI (dk q))), (0, .ref o), (1, .int (nI q)), (2, .int (nI h))] := hl
  refine lv_iload_n hx hb dM_read_21 rfl (lv_at hl 2 rfl) ?_
  refine lv_iconst (v := nI 4) hx hb dM_read_22 (by decide +kernel) ?_
  refine lv_idiv hx hb dM_read_23 (by decide +kernel) ?_
  refine tI (pk_div (by omega) (by decide) (by decide)) ?_
  refine lv_istore hx hb dM_read_24 hl (by decide) rfl (fun ls hl => ?_)
  have hl : lv_has ls 5 [(4, .int (nI (q / 4))), (3, .int (nI (dk q))), (0, .ref o), (1, .int (nI q)), (2, .int (nI h))] := hl
  refine lv_aload_n hx hb dM_read_26 rfl (lv_at hl 2 rfl) ?_
  refine lv_aload_n hx hb dM_read_27 rfl (lv_at hl 2 rfl) ?_
  refine lv_iload_n hx hb dM_read_28 rfl (lv_at hl 1 rfl) ?_
  refine lv_iload hx hb dM_read_29 (lv_at hl 0 rfl) ?_
  refine kV (n := 2) (As := [.int (nI (dk q)), .int (nI (q / 4))]) (rest := [.ref o]) ⟨hx, hb, hml, hown, hts⟩ (mM_gone l D o a b cA iA (nI 0) cf uf (dk q) (q / 4) (dk_lt _) (by omega)) w_299 w_301 v_12 w_2 w_302 (by decide +kernel) ⟨rfl, rfl⟩ ⟨(Nat.le_of_ble_eq_true rfl), (Nat.le_of_ble_eq_true rfl)⟩ hP hK 1 0 rfl rfl rfl hl.1 rfl (Nat.le_of_ble_eq_true rfl) dM_read_31 ⟨Nat.zero_le _, Nat.zero_le _⟩ ?_
  refine tI (b9t hil) ?_
  refine lv_iconst (v := nI 2) hx hb dM_read_34 (by decide +kernel) ?_
  refine kVi (n := 2) (As := [.int (nI 1), .int (nI 2)]) (rest := []) ⟨hx, hb, hml, hown, hts⟩ (mM_fails_t l D o a b cA iA (nI 0) cf uf H.size 2) w_292 w_294 v_11 w_2 w_295 (by decide +kernel) ⟨rfl, rfl⟩ ⟨(Nat.le_of_ble_eq_true rfl), (Nat.le_of_ble_eq_true rfl)⟩ hP hK hD hS hA rfl 1 0 rfl rfl rfl hl.1 rfl (Nat.le_of_ble_eq_true rfl) dM_read_35 ⟨Nat.zero_le _, Nat.zero_le _⟩ (fun H locs hP hD hS => ?_)
  refine lv_if_eq (tgt := 45) hx hb dM_read_38 (by decide) (fun h38 => absurd h38 (by decide +kernel)) (fun h38 => ?_)
  refine lv_lconst (v := 0) hx hb dM_read_41 (by decide +kernel) ?_
  refine lv_goto (tgt := 53) hx hb dM_read_42 (by decide) ?_
  exact W.lret (v := 0) hx hb hr (fun t9 ht9 _ => ⟨⟨_, (), rfl, by show _ = _; rfl, by show va_P _ _ _ t9.heap; rw [ht9]; exact hP⟩, hS.F ht9⟩) hS.2.2 dM_read_53
set_option maxHeartbeats 4000000 in
set_option maxRecDepth 100000 in
theorem mM_read_ok (l : Launch) (D : va_G) (o a b : Nat) (cA iA : ClassId) (er : Int32) (cf : Nat → Int64) (uf : Nat → Int32) (sz : Nat) (q h : Nat) (hq : q < 400) (hh : h < 2) (hil : il uf (dk q) (q / 4) = false) : Met l yM_read (.code yM_read cM_read 5 (some .long) :: gW) ({ frames := 3, cells := 0, slots := 0, locals := 71 }) (pWs D (wM o a b cA iA er cf uf) (kT cA iA) sz [.ref o, .int (nI q), .int (nI h)]) (QL (wh cf uf (dk q) (q / 4) h) D (wM o a b cA iA (nI 0) cf uf) (va_A (wM o a b cA iA er cf uf) sz)) 0 0 (va_A (wM o a b cA iA er cf uf) sz) := by
  refine Met.ofW (cc := cM_read) (maxL := 5) (ret := (some .long)) (by decide) rfl ?_
  intro p e s m args below meth c s₁ B hml hv
  obtain ⟨rfl, hsz, hP, hK, hD0⟩ := hv
  have hx := B.exec
  have hb := B.bytes
  have hr := B.returns
  have hts := atoms_spec (ws := (.code yM_read cM_read 5 (some .long) :: gW)) B.pre
  have hg : ∀ w ∈ gW, w.before ([.ref o, .int (nI q), .int (nI h)]).toArray s = true := fun w h => hts w (List.mem_cons_of_mem _ h)
  have hown : s.vm.findClass R_M = some m.cls := findClass_of_methodNamed B.named
  have hlocks := B.notSynchronized
  subst hsz
  have hD := hD0.self (sz := s.heap.size)
  generalize hAe : va_A (wM o a b cA iA er cf uf) s.heap.size = A at hD ⊢
  have hA : ∀ q : Nat, s.heap.size ≤ q → A q := fun q h => by rw [← hAe]; exact Or.inr h
  have hS : va_S A s.heap s.heap [] := va_S.rf
  have hP : va_P D cls_ (wM o a b cA iA er cf uf) s.heap := hP
  have hl := lv_entry ([.ref o, .int (nI q), .int (nI h)]) (n := 5) (Nat.le_of_ble_eq_true rfl)
  rw [lg_entry_eq]
  generalize (lg_sl ([.ref o, .int (nI q), .int (nI h)]) ++ List.replicate (5 - (lg_sl ([.ref o, .int (nI q), .int (nI h)])).length) Slot.unset).toArray = ls at hl ⊢
  have hl : lv_has ls 5 [(0, .ref o), (1, .int (nI q)), (2, .int (nI h))] := hl
  refine lv_aload_n hx hb dM_read_0 rfl (lv_at hl 0 rfl) ?_
  refine lv_aload_n hx hb dM_read_1 rfl (lv_at hl 0 rfl) ?_
  refine lv_iload_n hx hb dM_read_2 rfl (lv_at hl 1 rfl) ?_
  refine lv_iload_n hx hb dM_read_3 rfl (lv_at hl 2 rfl) ?_
  refine kV (n := 2) (As := [.int (nI q), .int (nI h)]) (rest := [.ref o]) ⟨hx, hb, hml, hown, hts⟩ (mM_noPlace l D o a b cA iA er cf uf (nI q) (nI h)) w_288 w_290 v_10 w_2 w_291 (by decide +kernel) ⟨rfl, rfl⟩ ⟨(Nat.le_of_ble_eq_true rfl), (Nat.le_of_ble_eq_true rfl)⟩ hP hK 1 0 rfl rfl rfl hl.1 rfl (Nat.le_of_ble_eq_true rfl) dM_read_4 ⟨Nat.zero_le _, Nat.zero_le _⟩ ?_
  refine tI (b9f (by rw [inR_of (by decide) hq, inR_of (by decide) hh]; rfl)) ?_
  refine lv_iconst (v := nI 1) hx hb dM_read_7 (by decide +kernel) ?_
  refine kVi (n := 2) (As := [.int (nI 0), .int (nI 1)]) (rest := []) ⟨hx, hb, hml, hown, hts⟩ (mM_fails_f l D o a b cA iA er cf uf s.heap.size 1) w_292 w_294 v_11 w_2 w_295 (by decide +kernel) ⟨rfl, rfl⟩ ⟨(Nat.le_of_ble_eq_true rfl), (Nat.le_of_ble_eq_true rfl)⟩ hP hK hD hS hA rfl 1 0 rfl rfl rfl hl.1 rfl (Nat.le_of_ble_eq_true rfl) dM_read_8 ⟨Nat.zero_le _, Nat.zero_le _⟩ (fun H locs hP hD hS => ?_)
  refine lv_if_eq (tgt := 16) hx hb dM_read_11 (by decide) (fun h11 => ?_) (fun h11 => absurd (by decide +kernel) h11)
  refine lv_iload_n hx hb dM_read_16 rfl (lv_at hl 1 rfl) ?_
  refine kS (n := 1) (As := [.int (nI q)]) (rest := []) ⟨hx, hb, hml, hown, hts⟩ (mM_disk l q (by omega)) w_296 w_297 w_2 w_298 (by decide +kernel) ⟨rfl, rfl⟩ ⟨(Nat.le_of_ble_eq_true rfl), (Nat.le_of_ble_eq_true rfl)⟩ rfl hl.1 rfl (Nat.le_of_ble_eq_true rfl) dM_read_17 ⟨Nat.zero_le _, Nat.zero_le _⟩ ?_
  refine lv_istore_n hx hb dM_read_20 rfl hl (by decide) rfl (fun ls hl => ?_)
  have hl : lv_has ls 5 [(3, .int (nI (dk q))), (0, .ref o), (1, .int (nI q)), (2, .int (nI h))] := hl
  refine lv_iload_n hx hb dM_read_21 rfl (lv_at hl 2 rfl) ?_
  refine lv_iconst (v := nI 4) hx hb dM_read_22 (by decide +kernel) ?_
  refine lv_idiv hx hb dM_read_23 (by decide +kernel) ?_
  refine tI (pk_div (by omega) (by decide) (by decide)) ?_
  refine lv_istore hx hb dM_read_24 hl (by decide) rfl (fun ls hl => ?_)
  have hl : lv_has ls 5 [(4, .int (nI (q / 4))), (3, .int (nI (dk q))), (0, .ref o), (1, .int (nI q)), (2, .int (nI h))] := hl
  refine lv_aload_n hx hb dM_read_26 rfl (lv_at hl 2 rfl) ?_
  refine lv_aload_n hx hb dM_read_27 rfl (lv_at hl 2 rfl) ?_
  refine lv_iload_n hx hb dM_read_28 rfl (lv_at hl 1 rfl) ?_
  refine lv_iload hx hb dM_read_29 (lv_at hl 0 rfl) ?_
  refine kV (n := 2) (As := [.int (nI (dk q)), .int (nI (q / 4))]) (rest := [.ref o]) ⟨hx, hb, hml, hown, hts⟩ (mM_gone l D o a b cA iA (nI 0) cf uf (dk q) (q / 4) (dk_lt _) (by omega)) w_299 w_301 v_12 w_2 w_302 (by decide +kernel) ⟨rfl, rfl⟩ ⟨(Nat.le_of_ble_eq_true rfl), (Nat.le_of_ble_eq_true rfl)⟩ hP hK 1 0 rfl rfl rfl hl.1 rfl (Nat.le_of_ble_eq_true rfl) dM_read_31 ⟨Nat.zero_le _, Nat.zero_le _⟩ ?_
  refine tI (b9f hil) ?_
  refine lv_iconst (v := nI 2) hx hb dM_read_34 (by decide +kernel) ?_
  refine kVi (n := 2) (As := [.int (nI 0), .int (nI 2)]) (rest := []) ⟨hx, hb, hml, hown, hts⟩ (mM_fails_f l D o a b cA iA (nI 0) cf uf H.size 2) w_292 w_294 v_11 w_2 w_295 (by decide +kernel) ⟨rfl, rfl⟩ ⟨(Nat.le_of_ble_eq_true rfl), (Nat.le_of_ble_eq_true rfl)⟩ hP hK hD hS hA rfl 1 0 rfl rfl rfl hl.1 rfl (Nat.le_of_ble_eq_true rfl) dM_read_35 ⟨Nat.zero_le _, Nat.zero_le _⟩ (fun H locs hP hD hS => ?_)
  refine lv_if_eq (tgt := 45) hx hb dM_read_38 (by decide) (fun h38 => ?_) (fun h38 => absurd (by decide +kernel) h38)
  refine lv_aload_n hx hb dM_read_45 rfl (lv_at hl 2 rfl) ?_
  refine lv_iload_n hx hb dM_read_46 rfl (lv_at hl 1 rfl) ?_
  refine lv_iload hx hb dM_read_47 (lv_at hl 0 rfl) ?_
  refine lv_iload_n hx hb dM_read_49 rfl (lv_at hl 4 rfl) ?_
  refine kV (n := 3) (As := [.int (nI (dk q)), .int (nI (q / 4)), .int (nI h)]) (rest := []) ⟨hx, hb, hml, hown, hts⟩ (mM_has l D o a b cA iA (nI 0) cf uf (dk q) (q / 4) h (dk_lt _) (by omega) (by omega)) w_307 w_309 v_14 w_2 w_310 (by decide +kernel) ⟨rfl, rfl⟩ ⟨(Nat.le_of_ble_eq_true rfl), (Nat.le_of_ble_eq_true rfl)⟩ hP hK 1 0 rfl rfl rfl hl.1 rfl (Nat.le_of_ble_eq_true rfl) dM_read_50 ⟨Nat.zero_le _, Nat.zero_le _⟩ ?_
  exact W.lret (v := wh cf uf (dk q) (q / 4) h) hx hb hr (fun t9 ht9 _ => ⟨⟨_, (), rfl, by show _ = _; rfl, by show va_P _ _ _ t9.heap; rw [ht9]; exact hP⟩, hS.F ht9⟩) hS.2.2 dM_read_53
set_option maxHeartbeats 4000000 in
set_option maxRecDepth 100000 in
theorem mM_write_a (l : Launch) (D : va_G) (o a b : Nat) (cA iA : ClassId) (er : Int32) (cf : Nat → Int64) (uf : Nat → Int32) (sz : Nat) (x y : Int32) (v : Int64) (hbad : (inR x 400 && inR y 2) = false) : Met l yM_write (.code yM_write cM_write 10 none :: gW) ({ frames := 3, cells := 0, slots := 0, locals := 71 }) (pWs D (wM o a b cA iA er cf uf) (kT cA iA) sz [.ref o, .int x, .int y, .long v]) (QV D (wM o a b cA iA (nI 1) cf uf) (va_A (wM o a b cA iA er cf uf) sz)) 0 0 (va_A (wM o a b cA iA er cf uf) sz) := by
  refine Met.ofW (cc := cM_write) (maxL := 10) (ret := none) (by decide) rfl ?_
  intro p e s m args below meth c s₁ B hml hv
  obtain ⟨rfl, hsz, hP, hK, hD0⟩ := hv
  have hx := B.exec
  have hb := B.bytes
  have hr := B.returns
  have hts := atoms_spec (ws := (.code yM_write cM_write 10 none :: gW)) B.pre
  have hg : ∀ w ∈ gW, w.before ([.ref o, .int x, .int y, .long v]).toArray s = true := fun w h => hts w (List.mem_cons_of_mem _ h)
  have hown : s.vm.findClass R_M = some m.cls := findClass_of_methodNamed B.named
  have hlocks := B.notSynchronized
  subst hsz
  have hD := hD0.self (sz := s.heap.size)
  generalize hAe : va_A (wM o a b cA iA er cf uf) s.heap.size = A at hD ⊢
  have hA : ∀ q : Nat, s.heap.size ≤ q → A q := fun q h => by rw [← hAe]; exact Or.inr h
  have hS : va_S A s.heap s.heap [] := va_S.rf
  have hP : va_P D cls_ (wM o a b cA iA er cf uf) s.heap := hP
  have hl := lv_entry ([.ref o, .int x, .int y, .long v]) (n := 10) (Nat.le_of_ble_eq_true rfl)
  rw [lg_entry_eq]
  generalize (lg_sl ([.ref o, .int x, .int y, .long v]) ++ List.replicate (10 - (lg_sl ([.ref o, .int x, .int y, .long v])).length) Slot.unset).toArray = ls at hl ⊢
  have hl : lv_has ls 10 [(0, .ref o), (1, .int x), (2, .int y), (3, .long v)] := hl
  refine lv_aload_n hx hb dM_write_0 rfl (lv_at hl 0 rfl) ?_
  refine lv_aload_n hx hb dM_write_1 rfl (lv_at hl 0 rfl) ?_
  refine lv_iload_n hx hb dM_write_2 rfl (lv_at hl 1 rfl) ?_
  refine lv_iload_n hx hb dM_write_3 rfl (lv_at hl 2 rfl) ?_
  refine kV (n := 2) (As := [.int x, .int y]) (rest := [.ref o]) ⟨hx, hb, hml, hown, hts⟩ (mM_noPlace l D o a b cA iA er cf uf x y) w_288 w_290 v_10 w_2 w_291 (by decide +kernel) ⟨rfl, rfl⟩ ⟨(Nat.le_of_ble_eq_true rfl), (Nat.le_of_ble_eq_true rfl)⟩ hP hK 1 0 rfl rfl rfl hl.1 rfl (Nat.le_of_ble_eq_true rfl) dM_write_4 ⟨Nat.zero_le _, Nat.zero_le _⟩ ?_
  refine tI (b9t (by rw [hbad]; rfl)) ?_
  refine lv_iconst (v := nI 1) hx hb dM_write_7 (by decide +kernel) ?_
  refine kVi (n := 2) (As := [.int (nI 1), .int (nI 1)]) (rest := []) ⟨hx, hb, hml, hown, hts⟩ (mM_fails_t l D o a b cA iA er cf uf s.heap.size 1) w_292 w_294 v_11 w_2 w_295 (by decide +kernel) ⟨rfl, rfl⟩ ⟨(Nat.le_of_ble_eq_true rfl), (Nat.le_of_ble_eq_true rfl)⟩ hP hK hD hS hA rfl 1 0 rfl rfl rfl hl.1 rfl (Nat.le_of_ble_eq_true rfl) dM_write_8 ⟨Nat.zero_le _, Nat.zero_le _⟩ (fun H locs hP hD hS => ?_)
  refine lv_if_eq (tgt := 15) hx hb dM_write_11 (by decide) (fun h11 => absurd h11 (by decide +kernel)) (fun h11 => ?_)
  exact W.vret hx hb hr (fun t9 ht9 _ => ⟨⟨(), rfl, trivial, by show va_P _ _ _ t9.heap; rw [ht9]; exact hP⟩, hS.F ht9⟩) hS.2.2 dM_write_14
set_option maxHeartbeats 4000000 in
set_option maxRecDepth 100000 in
theorem mM_write_u (l : Launch) (D : va_G) (o a b : Nat) (cA iA : ClassId) (er : Int32) (cf : Nat → Int64) (uf : Nat → Int32) (sz : Nat) (q h : Nat) (hq : q < 400) (hh : h < 2) (v : Int64) (hil : il uf (dk q) (q / 4) = true) : Met l yM_write (.code yM_write cM_write 10 none :: gW) ({ frames := 3, cells := 0, slots := 0, locals := 71 }) (pWs D (wM o a b cA iA er cf uf) (kT cA iA) sz [.ref o, .int (nI q), .int (nI h), .long v]) (QV D (wM o a b cA iA (nI 2) cf uf) (va_A (wM o a b cA iA er cf uf) sz)) 0 0 (va_A (wM o a b cA iA er cf uf) sz) := by
  refine Met.ofW (cc := cM_write) (maxL := 10) (ret := none) (by decide) rfl ?_
  intro p e s m args below meth c s₁ B hml hv
  obtain ⟨rfl, hsz, hP, hK, hD0⟩ := hv
  have hx := B.exec
  have hb := B.bytes
  have hr := B.returns
  have hts := atoms_spec (ws := (.code yM_write cM_write 10 none :: gW)) B.pre
  have hg : ∀ w ∈ gW, w.before ([.ref o, .int (nI q), .int (nI h), .long v]).toArray s = true := fun w h => hts w (List.mem_cons_of_mem _ h)
  have hown : s.vm.findClass R_M = some m.cls := findClass_of_methodNamed B.named
  have hlocks := B.notSynchronized
  subst hsz
  have hD := hD0.self (sz := s.heap.size)
  generalize hAe : va_A (wM o a b cA iA er cf uf) s.heap.size = A at hD ⊢
  have hA : ∀ q : Nat, s.heap.size ≤ q → A q := fun q h => by rw [← hAe]; exact Or.inr h
  have hS : va_S A s.heap s.heap [] := va_S.rf
  have hP : va_P D cls_ (wM o a b cA iA er cf uf) s.heap := hP
  have hl := lv_entry ([.ref o, .int (nI q), .int (nI h), .long v]) (n := 10) (Nat.le_of_ble_eq_true rfl)
  rw [lg_entry_eq]
  generalize (lg_sl ([.ref o, .int (nI q), .int (nI h), .long v]) ++ List.replicate (10 - (lg_sl ([.ref o, .int (nI q), .int (nI h), .long v])).length) Slot.unset).toArray = ls at hl ⊢
  have hl : lv_has ls 10 [(0, .ref o), (1, .int (nI q)), (2, .int (nI h)), (3, .long v)] := hl
  refine lv_aload_n hx hb dM_write_0 rfl (lv_at hl 0 rfl) ?_
  refine lv_aload_n hx hb dM_write_1 rfl (lv_at hl 0 rfl) ?_
  refine lv_iload_n hx hb dM_write_2 rfl (lv_at hl 1 rfl) ?_
  refine lv_iload_n hx hb dM_write_3 rfl (lv_at hl 2 rfl) ?_
  refine kV (n := 2) (As := [.int (nI q), .int (nI h)]) (rest := [.ref o]) ⟨hx, hb, hml, hown, hts⟩ (mM_noPlace l D o a b cA iA er cf uf (nI q) (nI h)) w_288 w_290 v_10 w_2 w_291 (by decide +kernel) ⟨rfl, rfl⟩ ⟨(Nat.le_of_ble_eq_true rfl), (Nat.le_of_ble_eq_true rfl)⟩ hP hK 1 0 rfl rfl rfl hl.1 rfl (Nat.le_of_ble_eq_true rfl) dM_write_4 ⟨Nat.zero_le _, Nat.zero_le _⟩ ?_
  refine tI (b9f (by rw [inR_of (by decide) hq, inR_of (by decide) hh]; rfl)) ?_
  refine lv_iconst (v := nI 1) hx hb dM_write_7 (by decide +kernel) ?_
  refine kVi (n := 2) (As := [.int (nI 0), .int (nI 1)]) (rest := []) ⟨hx, hb, hml, hown, hts⟩ (mM_fails_f l D o a b cA iA er cf uf s.heap.size 1) w_292 w_294 v_11 w_2 w_295 (by decide +kernel) ⟨rfl, rfl⟩ ⟨(Nat.le_of_ble_eq_true rfl), (Nat.le_of_ble_eq_true rfl)⟩ hP hK hD hS hA rfl 1 0 rfl rfl rfl hl.1 rfl (Nat.le_of_ble_eq_true rfl) dM_write_8 ⟨Nat.zero_le _, Nat.zero_le _⟩ (fun H locs hP hD hS => ?_)
  refine lv_if_eq (tgt := 15) hx hb dM_write_11 (by decide) (fun h11 => ?_) (fun h11 => absurd (by decide +kernel) h11)
  refine lv_iload_n hx hb dM_write_15 rfl (lv_at hl 1 rfl) ?_
  refine kS (n := 1) (As := [.int (nI q)]) (rest := []) ⟨hx, hb, hml, hown, hts⟩ (mM_disk l q (by omega)) w_296 w_297 w_2 w_298 (by decide +kernel) ⟨rfl, rfl⟩ ⟨(Nat.le_of_ble_eq_true rfl), (Nat.le_of_ble_eq_true rfl)⟩ rfl hl.1 rfl (Nat.le_of_ble_eq_true rfl) dM_write_16 ⟨Nat.zero_le _, Nat.zero_le _⟩ ?_
  refine lv_istore hx hb dM_write_19 hl (by decide) rfl (fun ls hl => ?_)
  have hl : lv_has ls 10 [(5, .int (nI (dk q))), (0, .ref o), (1, .int (nI q)), (2, .int (nI h)), (3, .long v)] := hl
  refine lv_iload_n hx hb dM_write_21 rfl (lv_at hl 2 rfl) ?_
  refine lv_iconst (v := nI 4) hx hb dM_write_22 (by decide +kernel) ?_
  refine lv_idiv hx hb dM_write_23 (by decide +kernel) ?_
  refine tI (pk_div (by omega) (by decide) (by decide)) ?_
  refine lv_istore hx hb dM_write_24 hl (by decide) rfl (fun ls hl => ?_)
  have hl : lv_has ls 10 [(6, .int (nI (q / 4))), (5, .int (nI (dk q))), (0, .ref o), (1, .int (nI q)), (2, .int (nI h)), (3, .long v)] := hl
  refine lv_iload hx hb dM_write_26 (lv_at hl 0 rfl) ?_
  refine lv_iconst (v := nI 5) hx hb dM_write_28 (by decide +kernel) ?_
  refine lv_irem hx hb dM_write_29 (by decide +kernel) ?_
  refine tI (pk_rem (by omega) (by decide) (by decide)) ?_
  refine lv_istore hx hb dM_write_30 hl (by decide) rfl (fun ls hl => ?_)
  have hl : lv_has ls 10 [(7, .int (nI ((q / 4) % 5))), (6, .int (nI (q / 4))), (5, .int (nI (dk q))), (0, .ref o), (1, .int (nI q)), (2, .int (nI h)), (3, .long v)] := hl
  refine lv_aload_n hx hb dM_write_32 rfl (lv_at hl 3 rfl) ?_
  refine lv_aload_n hx hb dM_write_33 rfl (lv_at hl 3 rfl) ?_
  refine lv_iload hx hb dM_write_34 (lv_at hl 2 rfl) ?_
  refine lv_iload hx hb dM_write_36 (lv_at hl 1 rfl) ?_
  refine kV (n := 2) (As := [.int (nI (dk q)), .int (nI (q / 4))]) (rest := [.ref o]) ⟨hx, hb, hml, hown, hts⟩ (mM_gone l D o a b cA iA (nI 0) cf uf (dk q) (q / 4) (dk_lt _) (by omega)) w_299 w_301 v_12 w_2 w_302 (by decide +kernel) ⟨rfl, rfl⟩ ⟨(Nat.le_of_ble_eq_true rfl), (Nat.le_of_ble_eq_true rfl)⟩ hP hK 1 0 rfl rfl rfl hl.1 rfl (Nat.le_of_ble_eq_true rfl) dM_write_38 ⟨Nat.zero_le _, Nat.zero_le _⟩ ?_
  refine tI (b9t hil) ?_
  refine lv_if_ne (tgt := 66) hx hb dM_write_41 (by decide) (fun h41 => ?_) (fun h41 => absurd h41 (by decide +kernel))
  refine lv_iconst (v := nI 1) hx hb dM_write_66 (by decide +kernel) ?_
  refine lv_goto (tgt := 71) hx hb dM_write_67 (by decide) ?_
  refine lv_iconst (v := nI 2) hx hb dM_write_71 (by decide +kernel) ?_
  refine kVi (n := 2) (As := [.int (nI 1), .int (nI 2)]) (rest := []) ⟨hx, hb, hml, hown, hts⟩ (mM_fails_t l D o a b cA iA (nI 0) cf uf H.size 2) w_292 w_294 v_11 w_2 w_295 (by decide +kernel) ⟨rfl, rfl⟩ ⟨(Nat.le_of_ble_eq_true rfl), (Nat.le_of_ble_eq_true rfl)⟩ hP hK hD hS hA rfl 1 0 rfl rfl rfl hl.1 rfl (Nat.le_of_ble_eq_true rfl) dM_write_72 ⟨Nat.zero_le _, Nat.zero_le _⟩ (fun H locs hP hD hS => ?_)
  refine lv_if_eq (tgt := 79) hx hb dM_write_75 (by decide) (fun h75 => absurd h75 (by decide +kernel)) (fun h75 => ?_)
  exact W.vret hx hb hr (fun t9 ht9 _ => ⟨⟨(), rfl, trivial, by show va_P _ _ _ t9.heap; rw [ht9]; exact hP⟩, hS.F ht9⟩) hS.2.2 dM_write_78
set_option maxHeartbeats 4000000 in
set_option maxRecDepth 100000 in
theorem mM_write_ok (l : Launch) (D : va_G) (o a b : Nat) (cA iA : ClassId) (er : Int32) (cf : Nat → Int64) (uf : Nat → Int32) (sz : Nat) (q h : Nat) (hq : q < 400) (hh : h < 2) (v : Int64) (hil : il uf (dk q) (q / 4) = false) : Met l yM_write (.code yM_write cM_write 10 none :: gW) ({ frames := 3, cells := 0, slots := 0, locals := 71 }) (pWs D (wM o a b cA iA er cf uf) (kT cA iA) sz [.ref o, .int (nI q), .int (nI h), .long v]) (QV D (wM o a b cA iA (nI 0) (wN cf uf q h v) uf) (va_A (wM o a b cA iA er cf uf) sz)) 0 0 (va_A (wM o a b cA iA er cf uf) sz) := by
  refine Met.ofW (cc := cM_write) (maxL := 10) (ret := none) (by decide) rfl ?_
  intro p e s m args below meth c s₁ B hml hv
  obtain ⟨rfl, hsz, hP, hK, hD0⟩ := hv
  have hx := B.exec
  have hb := B.bytes
  have hr := B.returns
  have hts := atoms_spec (ws := (.code yM_write cM_write 10 none :: gW)) B.pre
  have hg : ∀ w ∈ gW, w.before ([.ref o, .int (nI q), .int (nI h), .long v]).toArray s = true := fun w h => hts w (List.mem_cons_of_mem _ h)
  have hown : s.vm.findClass R_M = some m.cls := findClass_of_methodNamed B.named
  have hlocks := B.notSynchronized
  subst hsz
  have hD := hD0.self (sz := s.heap.size)
  generalize hAe : va_A (wM o a b cA iA er cf uf) s.heap.size = A at hD ⊢
  have hA : ∀ q : Nat, s.heap.size ≤ q → A q := fun q h => by rw [← hAe]; exact Or.inr h
  have hS : va_S A s.heap s.heap [] := va_S.rf
  have hP : va_P D cls_ (wM o a b cA iA er cf uf) s.heap := hP
  have hl := lv_entry ([.ref o, .int (nI q), .int (nI h), .long v]) (n := 10) (Nat.le_of_ble_eq_true rfl)
  rw [lg_entry_eq]
  generalize (lg_sl ([.ref o, .int (nI q), .int (nI h), .long v]) ++ List.replicate (10 - (lg_sl ([.ref o, .int (nI q), .int (nI h), .long v])).length) Slot.unset).toArray = ls at hl ⊢
  have hl : lv_has ls 10 [(0, .ref o), (1, .int (nI q)), (2, .int (nI h)), (3, .long v)] := hl
  refine lv_aload_n hx hb dM_write_0 rfl (lv_at hl 0 rfl) ?_
  refine lv_aload_n hx hb dM_write_1 rfl (lv_at hl 0 rfl) ?_
  refine lv_iload_n hx hb dM_write_2 rfl (lv_at hl 1 rfl) ?_
  refine lv_iload_n hx hb dM_write_3 rfl (lv_at hl 2 rfl) ?_
  refine kV (n := 2) (As := [.int (nI q), .int (nI h)]) (rest := [.ref o]) ⟨hx, hb, hml, hown, hts⟩ (mM_noPlace l D o a b cA iA er cf uf (nI q) (nI h)) w_288 w_290 v_10 w_2 w_291 (by decide +kernel) ⟨rfl, rfl⟩ ⟨(Nat.le_of_ble_eq_true rfl), (Nat.le_of_ble_eq_true rfl)⟩ hP hK 1 0 rfl rfl rfl hl.1 rfl (Nat.le_of_ble_eq_true rfl) dM_write_4 ⟨Nat.zero_le _, Nat.zero_le _⟩ ?_
  refine tI (b9f (by rw [inR_of (by decide) hq, inR_of (by decide) hh]; rfl)) ?_
  refine lv_iconst (v := nI 1) hx hb dM_write_7 (by decide +kernel) ?_
  refine kVi (n := 2) (As := [.int (nI 0), .int (nI 1)]) (rest := []) ⟨hx, hb, hml, hown, hts⟩ (mM_fails_f l D o a b cA iA er cf uf s.heap.size 1) w_292 w_294 v_11 w_2 w_295 (by decide +kernel) ⟨rfl, rfl⟩ ⟨(Nat.le_of_ble_eq_true rfl), (Nat.le_of_ble_eq_true rfl)⟩ hP hK hD hS hA rfl 1 0 rfl rfl rfl hl.1 rfl (Nat.le_of_ble_eq_true rfl) dM_write_8 ⟨Nat.zero_le _, Nat.zero_le _⟩ (fun H locs hP hD hS => ?_)
  refine lv_if_eq (tgt := 15) hx hb dM_write_11 (by decide) (fun h11 => ?_) (fun h11 => absurd (by decide +kernel) h11)
  refine lv_iload_n hx hb dM_write_15 rfl (lv_at hl 1 rfl) ?_
  refine kS (n := 1) (As := [.int (nI q)]) (rest := []) ⟨hx, hb, hml, hown, hts⟩ (mM_disk l q (by omega)) w_296 w_297 w_2 w_298 (by decide +kernel) ⟨rfl, rfl⟩ ⟨(Nat.le_of_ble_eq_true rfl), (Nat.le_of_ble_eq_true rfl)⟩ rfl hl.1 rfl (Nat.le_of_ble_eq_true rfl) dM_write_16 ⟨Nat.zero_le _, Nat.zero_le _⟩ ?_
  refine lv_istore hx hb dM_write_19 hl (by decide) rfl (fun ls hl => ?_)
  have hl : lv_has ls 10 [(5, .int (nI (dk q))), (0, .ref o), (1, .int (nI q)), (2, .int (nI h)), (3, .long v)] := hl
  refine lv_iload_n hx hb dM_write_21 rfl (lv_at hl 2 rfl) ?_
  refine lv_iconst (v := nI 4) hx hb dM_write_22 (by decide +kernel) ?_
  refine lv_idiv hx hb dM_write_23 (by decide +kernel) ?_
  refine tI (pk_div (by omega) (by decide) (by decide)) ?_
  refine lv_istore hx hb dM_write_24 hl (by decide) rfl (fun ls hl => ?_)
  have hl : lv_has ls 10 [(6, .int (nI (q / 4))), (5, .int (nI (dk q))), (0, .ref o), (1, .int (nI q)), (2, .int (nI h)), (3, .long v)] := hl
  refine lv_iload hx hb dM_write_26 (lv_at hl 0 rfl) ?_
  refine lv_iconst (v := nI 5) hx hb dM_write_28 (by decide +kernel) ?_
  refine lv_irem hx hb dM_write_29 (by decide +kernel) ?_
  refine tI (pk_rem (by omega) (by decide) (by decide)) ?_
  refine lv_istore hx hb dM_write_30 hl (by decide) rfl (fun ls hl => ?_)
  have hl : lv_has ls 10 [(7, .int (nI ((q / 4) % 5))), (6, .int (nI (q / 4))), (5, .int (nI (dk q))), (0, .ref o), (1, .int (nI q)), (2, .int (nI h)), (3, .long v)] := hl
  refine lv_aload_n hx hb dM_write_32 rfl (lv_at hl 3 rfl) ?_
  refine lv_aload_n hx hb dM_write_33 rfl (lv_at hl 3 rfl) ?_
  refine lv_iload hx hb dM_write_34 (lv_at hl 2 rfl) ?_
  refine lv_iload hx hb dM_write_36 (lv_at hl 1 rfl) ?_
  refine kV (n := 2) (As := [.int (nI (dk q)), .int (nI (q / 4))]) (rest := [.ref o]) ⟨hx, hb, hml, hown, hts⟩ (mM_gone l D o a b cA iA (nI 0) cf uf (dk q) (q / 4) (dk_lt _) (by omega)) w_299 w_301 v_12 w_2 w_302 (by decide +kernel) ⟨rfl, rfl⟩ ⟨(Nat.le_of_ble_eq_true rfl), (Nat.le_of_ble_eq_true rfl)⟩ hP hK 1 0 rfl rfl rfl hl.1 rfl (Nat.le_of_ble_eq_true rfl) dM_write_38 ⟨Nat.zero_le _, Nat.zero_le _⟩ ?_
  refine tI (b9f hil) ?_
  refine lv_if_ne (tgt := 66) hx hb dM_write_41 (by decide) (fun h41 => absurd h41 (by decide +kernel)) (fun h41 => ?_)
  refine lv_aload_n hx hb dM_write_44 rfl (lv_at hl 3 rfl) ?_
  refine lv_iload hx hb dM_write_45 (lv_at hl 2 rfl) ?_
  refine lv_iload hx hb dM_write_47 (lv_at hl 1 rfl) ?_
  refine kV (n := 2) (As := [.int (nI (dk q)), .int (nI (q / 4))]) (rest := [.ref o]) ⟨hx, hb, hml, hown, hts⟩ (mM_usable l D o a b cA iA (nI 0) cf uf (dk q) (q / 4) (dk_lt _) (by omega)) w_303 w_305 v_13 w_2 w_306 (by decide +kernel) ⟨rfl, rfl⟩ ⟨(Nat.le_of_ble_eq_true rfl), (Nat.le_of_ble_eq_true rfl)⟩ hP hK 1 0 rfl rfl rfl hl.1 rfl (Nat.le_of_ble_eq_true rfl) dM_write_49 ⟨Nat.zero_le _, Nat.zero_le _⟩ ?_
  refine lv_if_ne (tgt := 70) hx hb dM_write_52 (by decide) (fun h52 => ?_) (fun h52 => ?_)
  · have e52 := bi_1 h52
    refine lv_iconst (v := nI 0) hx hb dM_write_70 (by decide +kernel) ?_
    refine lv_iconst (v := nI 2) hx hb dM_write_71 (by decide +kernel) ?_
    refine kVi (n := 2) (As := [.int (nI 0), .int (nI 2)]) (rest := []) ⟨hx, hb, hml, hown, hts⟩ (mM_fails_f l D o a b cA iA (nI 0) cf uf H.size 2) w_292 w_294 v_11 w_2 w_295 (by decide +kernel) ⟨rfl, rfl⟩ ⟨(Nat.le_of_ble_eq_true rfl), (Nat.le_of_ble_eq_true rfl)⟩ hP hK hD hS hA rfl 1 0 rfl rfl rfl hl.1 rfl (Nat.le_of_ble_eq_true rfl) dM_write_72 ⟨Nat.zero_le _, Nat.zero_le _⟩ (fun H locs hP hD hS => ?_)
    refine lv_if_eq (tgt := 79) hx hb dM_write_75 (by decide) (fun h75 => ?_) (fun h75 => absurd (by decide +kernel) h75)
    refine lv_aload_n hx hb dM_write_79 rfl (lv_at hl 3 rfl) ?_
    refine lv_iload hx hb dM_write_80 (lv_at hl 2 rfl) ?_
    refine lv_iload hx hb dM_write_82 (lv_at hl 1 rfl) ?_
    refine lv_iload_n hx hb dM_write_84 rfl (lv_at hl 5 rfl) ?_
    refine kV (n := 3) (As := [.int (nI (dk q)), .int (nI (q / 4)), .int (nI h)]) (rest := []) ⟨hx, hb, hml, hown, hts⟩ (mM_has l D o a b cA iA (nI 0) cf uf (dk q) (q / 4) h (dk_lt _) (by omega) (by omega)) w_307 w_309 v_14 w_2 w_310 (by decide +kernel) ⟨rfl, rfl⟩ ⟨(Nat.le_of_ble_eq_true rfl), (Nat.le_of_ble_eq_true rfl)⟩ hP hK 1 0 rfl rfl rfl hl.1 rfl (Nat.le_of_ble_eq_true rfl) dM_write_85 ⟨Nat.zero_le _, Nat.zero_le _⟩ ?_
    refine lv_lstore hx hb dM_write_88 hl (by decide) rfl (fun ls hl => ?_)
    have hl : lv_has ls 10 [(8, .long (wh cf uf (dk q) (q / 4) h)), (7, .int (nI ((q / 4) % 5))), (6, .int (nI (q / 4))), (5, .int (nI (dk q))), (0, .ref o), (1, .int (nI q)), (2, .int (nI h)), (3, .long v)] := hl
    refine lv_aload_n hx hb dM_write_90 rfl (lv_at hl 4 rfl) ?_
    refine lv_iload hx hb dM_write_91 (lv_at hl 1 rfl) ?_
    refine lv_iload hx hb dM_write_93 (lv_at hl 2 rfl) ?_
    refine kV (n := 2) (As := [.int (nI ((q / 4) % 5)), .int (nI (q / 4))]) (rest := []) ⟨hx, hb, hml, hown, hts⟩ (mM_usable l D o a b cA iA (nI 0) cf uf ((q / 4) % 5) (q / 4) (by omega) (by omega)) w_303 w_305 v_13 w_2 w_306 (by decide +kernel) ⟨rfl, rfl⟩ ⟨(Nat.le_of_ble_eq_true rfl), (Nat.le_of_ble_eq_true rfl)⟩ hP hK 1 0 rfl rfl rfl hl.1 rfl (Nat.le_of_ble_eq_true rfl) dM_write_95 ⟨Nat.zero_le _, Nat.zero_le _⟩ ?_
    refine lv_if_eq (tgt := 121) hx hb dM_write_98 (by decide) (fun h98 => ?_) (fun h98 => ?_)
    · have e98 := bi_0 h98
      refine lv_aload_n hx hb dM_write_121 rfl (lv_at hl 4 rfl) ?_
      refine lv_iload hx hb dM_write_122 (lv_at hl 3 rfl) ?_
      refine lv_iload hx hb dM_write_124 (lv_at hl 2 rfl) ?_
      refine kV (n := 2) (As := [.int (nI (dk q)), .int (nI (q / 4))]) (rest := []) ⟨hx, hb, hml, hown, hts⟩ (mM_usable l D o a b cA iA (nI 0) cf uf (dk q) (q / 4) (dk_lt _) (by omega)) w_303 w_305 v_13 w_2 w_306 (by decide +kernel) ⟨rfl, rfl⟩ ⟨(Nat.le_of_ble_eq_true rfl), (Nat.le_of_ble_eq_true rfl)⟩ hP hK 1 0 rfl rfl rfl hl.1 rfl (Nat.le_of_ble_eq_true rfl) dM_write_126 ⟨Nat.zero_le _, Nat.zero_le _⟩ ?_
      refine tI (b9t e52) ?_
      refine lv_if_eq (tgt := 146) hx hb dM_write_129 (by decide) (fun h129 => absurd h129 (by decide +kernel)) (fun h129 => ?_)
      refine lv_aload_n hx hb dM_write_132 rfl (lv_at hl 4 rfl) ?_
      refine va_get (D := D) (ci := 1) (v := .ref a) (C := R_M) (T := T_M) (N := 3) hx hb hg uM_in hown hK hP 0 rfl rfl 1 (by decide) (hg _ w_271) (fun _ h9 => h9) rfl dM_write_133 ?_
      refine lv_iload hx hb dM_write_136 (lv_at hl 3 rfl) ?_
      refine lv_iload hx hb dM_write_138 (lv_at hl 2 rfl) ?_
      refine lv_iload_n hx hb dM_write_140 rfl (lv_at hl 6 rfl) ?_
      refine kS (n := 3) (As := [.int (nI (dk q)), .int (nI (q / 4)), .int (nI h)]) (rest := [.ref a]) ⟨hx, hb, hml, hown, hts⟩ (mM_at l (dk q) (q / 4) h) w_311 w_312 w_2 w_313 (by decide +kernel) ⟨rfl, rfl⟩ ⟨(Nat.le_of_ble_eq_true rfl), (Nat.le_of_ble_eq_true rfl)⟩ rfl hl.1 rfl (Nat.le_of_ble_eq_true rfl) dM_write_141 ⟨Nat.zero_le _, Nat.zero_le _⟩ ?_
      refine lv_lload_n hx hb dM_write_144 rfl (lv_at hl 7 rfl) ?_
      refine sL hx hb hK hP hD hS 1 0 rfl rfl (ix_lt (dk_lt _) (by omega) (by omega)) (by decide) dM_write_145 (fun H locs hP hD hS => ?_)
      have hP : va_P D cls_ (wM o a b cA iA (nI 0) (vp_updL cf (ix (dk q) (q / 4) h) v) uf) H := hP
      have hD : va_D A (wM o a b cA iA (nI 0) (vp_updL cf (ix (dk q) (q / 4) h) v) uf) := hD
      exact W.vret hx hb hr (fun t9 ht9 _ => ⟨⟨(), rfl, trivial, by show va_P _ _ _ t9.heap; rw [ht9]; rw [wN, if_pos e52, wP, if_neg (nt_f e98)]; exact hP⟩, hS.F ht9⟩) hS.2.2 dM_write_146
    · have e98 := bi_1 h98
      refine lv_aload_n hx hb dM_write_101 rfl (lv_at hl 4 rfl) ?_
      refine va_get (D := D) (ci := 1) (v := .ref a) (C := R_M) (T := T_M) (N := 3) hx hb hg uM_in hown hK hP 0 rfl rfl 1 (by decide) (hg _ w_271) (fun _ h9 => h9) rfl dM_write_102 ?_
      refine lv_iload hx hb dM_write_105 (lv_at hl 1 rfl) ?_
      refine lv_iload hx hb dM_write_107 (lv_at hl 2 rfl) ?_
      refine lv_iload_n hx hb dM_write_109 rfl (lv_at hl 6 rfl) ?_
      refine kS (n := 3) (As := [.int (nI ((q / 4) % 5)), .int (nI (q / 4)), .int (nI h)]) (rest := [.ref a]) ⟨hx, hb, hml, hown, hts⟩ (mM_at l ((q / 4) % 5) (q / 4) h) w_311 w_312 w_2 w_313 (by decide +kernel) ⟨rfl, rfl⟩ ⟨(Nat.le_of_ble_eq_true rfl), (Nat.le_of_ble_eq_true rfl)⟩ rfl hl.1 rfl (Nat.le_of_ble_eq_true rfl) dM_write_110 ⟨Nat.zero_le _, Nat.zero_le _⟩ ?_
      refine lv_dup2_11 hx hb dM_write_113 rfl rfl ?_
      refine aL hx hb hK hP 1 0 rfl rfl (ix_lt (by omega) (by omega) (by omega)) (by decide) dM_write_114 ?_
      refine lv_lload hx hb dM_write_115 (lv_at hl 0 rfl) ?_
      refine lv_lload_n hx hb dM_write_117 rfl (lv_at hl 7 rfl) ?_
      refine lv_lxor hx hb dM_write_118 ?_
      refine lv_lxor hx hb dM_write_119 ?_
      refine sL hx hb hK hP hD hS 1 0 rfl rfl (ix_lt (by omega) (by omega) (by omega)) (by decide) dM_write_120 (fun H locs hP hD hS => ?_)
      have hP : va_P D cls_ (wM o a b cA iA (nI 0) (vp_updL cf (ix ((q / 4) % 5) (q / 4) h) ((cf (ix ((q / 4) % 5) (q / 4) h)) ^^^ ((wh cf uf (dk q) (q / 4) h) ^^^ v))) uf) H := hP
      have hD : va_D A (wM o a b cA iA (nI 0) (vp_updL cf (ix ((q / 4) % 5) (q / 4) h) ((cf (ix ((q / 4) % 5) (q / 4) h)) ^^^ ((wh cf uf (dk q) (q / 4) h) ^^^ v))) uf) := hD
      refine lv_aload_n hx hb dM_write_121 rfl (lv_at hl 4 rfl) ?_
      refine lv_iload hx hb dM_write_122 (lv_at hl 3 rfl) ?_
      refine lv_iload hx hb dM_write_124 (lv_at hl 2 rfl) ?_
      refine kV (n := 2) (As := [.int (nI (dk q)), .int (nI (q / 4))]) (rest := []) ⟨hx, hb, hml, hown, hts⟩ (mM_usable l D o a b cA iA (nI 0) (vp_updL cf (ix ((q / 4) % 5) (q / 4) h) ((cf (ix ((q / 4) % 5) (q / 4) h)) ^^^ ((wh cf uf (dk q) (q / 4) h) ^^^ v))) uf (dk q) (q / 4) (dk_lt _) (by omega)) w_303 w_305 v_13 w_2 w_306 (by decide +kernel) ⟨rfl, rfl⟩ ⟨(Nat.le_of_ble_eq_true rfl), (Nat.le_of_ble_eq_true rfl)⟩ hP hK 1 0 rfl rfl rfl hl.1 rfl (Nat.le_of_ble_eq_true rfl) dM_write_126 ⟨Nat.zero_le _, Nat.zero_le _⟩ ?_
      refine tI (b9t e52) ?_
      refine lv_if_eq (tgt := 146) hx hb dM_write_129 (by decide) (fun h129 => absurd h129 (by decide +kernel)) (fun h129 => ?_)
      refine lv_aload_n hx hb dM_write_132 rfl (lv_at hl 4 rfl) ?_
      refine va_get (D := D) (ci := 1) (v := .ref a) (C := R_M) (T := T_M) (N := 3) hx hb hg uM_in hown hK hP 0 rfl rfl 1 (by decide) (hg _ w_271) (fun _ h9 => h9) rfl dM_write_133 ?_
      refine lv_iload hx hb dM_write_136 (lv_at hl 3 rfl) ?_
      refine lv_iload hx hb dM_write_138 (lv_at hl 2 rfl) ?_
      refine lv_iload_n hx hb dM_write_140 rfl (lv_at hl 6 rfl) ?_
      refine kS (n := 3) (As := [.int (nI (dk q)), .int (nI (q / 4)), .int (nI h)]) (rest := [.ref a]) ⟨hx, hb, hml, hown, hts⟩ (mM_at l (dk q) (q / 4) h) w_311 w_312 w_2 w_313 (by decide +kernel) ⟨rfl, rfl⟩ ⟨(Nat.le_of_ble_eq_true rfl), (Nat.le_of_ble_eq_true rfl)⟩ rfl hl.1 rfl (Nat.le_of_ble_eq_true rfl) dM_write_141 ⟨Nat.zero_le _, Nat.zero_le _⟩ ?_
      refine lv_lload_n hx hb dM_write_144 rfl (lv_at hl 7 rfl) ?_
      refine sL hx hb hK hP hD hS 1 0 rfl rfl (ix_lt (dk_lt _) (by omega) (by omega)) (by decide) dM_write_145 (fun H locs hP hD hS => ?_)
      have hP : va_P D cls_ (wM o a b cA iA (nI 0) (vp_updL (vp_updL cf (ix ((q / 4) % 5) (q / 4) h) ((cf (ix ((q / 4) % 5) (q / 4) h)) ^^^ ((wh cf uf (dk q) (q / 4) h) ^^^ v))) (ix (dk q) (q / 4) h) v) uf) H := hP
      have hD : va_D A (wM o a b cA iA (nI 0) (vp_updL (vp_updL cf (ix ((q / 4) % 5) (q / 4) h) ((cf (ix ((q / 4) % 5) (q / 4) h)) ^^^ ((wh cf uf (dk q) (q / 4) h) ^^^ v))) (ix (dk q) (q / 4) h) v) uf) := hD
      exact W.vret hx hb hr (fun t9 ht9 _ => ⟨⟨(), rfl, trivial, by show va_P _ _ _ t9.heap; rw [ht9]; rw [wN, if_pos e52, wP, if_pos e98]; exact hP⟩, hS.F ht9⟩) hS.2.2 dM_write_146
  · have e52 := bi_0 h52
    have e98 := cu_p hil e52
    refine lv_aload_n hx hb dM_write_55 rfl (lv_at hl 3 rfl) ?_
    refine lv_iload hx hb dM_write_56 (lv_at hl 0 rfl) ?_
    refine lv_iload hx hb dM_write_58 (lv_at hl 1 rfl) ?_
    refine kV (n := 2) (As := [.int (nI ((q / 4) % 5)), .int (nI (q / 4))]) (rest := [.ref o]) ⟨hx, hb, hml, hown, hts⟩ (mM_usable l D o a b cA iA (nI 0) cf uf ((q / 4) % 5) (q / 4) (by omega) (by omega)) w_303 w_305 v_13 w_2 w_306 (by decide +kernel) ⟨rfl, rfl⟩ ⟨(Nat.le_of_ble_eq_true rfl), (Nat.le_of_ble_eq_true rfl)⟩ hP hK 1 0 rfl rfl rfl hl.1 rfl (Nat.le_of_ble_eq_true rfl) dM_write_60 ⟨Nat.zero_le _, Nat.zero_le _⟩ ?_
    refine tI (b9t e98) ?_
    refine lv_if_ne (tgt := 70) hx hb dM_write_63 (by decide) (fun h63 => ?_) (fun h63 => absurd h63 (by decide +kernel))
    refine lv_iconst (v := nI 0) hx hb dM_write_70 (by decide +kernel) ?_
    refine lv_iconst (v := nI 2) hx hb dM_write_71 (by decide +kernel) ?_
    refine kVi (n := 2) (As := [.int (nI 0), .int (nI 2)]) (rest := []) ⟨hx, hb, hml, hown, hts⟩ (mM_fails_f l D o a b cA iA (nI 0) cf uf H.size 2) w_292 w_294 v_11 w_2 w_295 (by decide +kernel) ⟨rfl, rfl⟩ ⟨(Nat.le_of_ble_eq_true rfl), (Nat.le_of_ble_eq_true rfl)⟩ hP hK hD hS hA rfl 1 0 rfl rfl rfl hl.1 rfl (Nat.le_of_ble_eq_true rfl) dM_write_72 ⟨Nat.zero_le _, Nat.zero_le _⟩ (fun H locs hP hD hS => ?_)
    refine lv_if_eq (tgt := 79) hx hb dM_write_75 (by decide) (fun h75 => ?_) (fun h75 => absurd (by decide +kernel) h75)
    refine lv_aload_n hx hb dM_write_79 rfl (lv_at hl 3 rfl) ?_
    refine lv_iload hx hb dM_write_80 (lv_at hl 2 rfl) ?_
    refine lv_iload hx hb dM_write_82 (lv_at hl 1 rfl) ?_
    refine lv_iload_n hx hb dM_write_84 rfl (lv_at hl 5 rfl) ?_
    refine kV (n := 3) (As := [.int (nI (dk q)), .int (nI (q / 4)), .int (nI h)]) (rest := []) ⟨hx, hb, hml, hown, hts⟩ (mM_has l D o a b cA iA (nI 0) cf uf (dk q) (q / 4) h (dk_lt _) (by omega) (by omega)) w_307 w_309 v_14 w_2 w_310 (by decide +kernel) ⟨rfl, rfl⟩ ⟨(Nat.le_of_ble_eq_true rfl), (Nat.le_of_ble_eq_true rfl)⟩ hP hK 1 0 rfl rfl rfl hl.1 rfl (Nat.le_of_ble_eq_true rfl) dM_write_85 ⟨Nat.zero_le _, Nat.zero_le _⟩ ?_
    refine lv_lstore hx hb dM_write_88 hl (by decide) rfl (fun ls hl => ?_)
    have hl : lv_has ls 10 [(8, .long (wh cf uf (dk q) (q / 4) h)), (7, .int (nI ((q / 4) % 5))), (6, .int (nI (q / 4))), (5, .int (nI (dk q))), (0, .ref o), (1, .int (nI q)), (2, .int (nI h)), (3, .long v)] := hl
    refine lv_aload_n hx hb dM_write_90 rfl (lv_at hl 4 rfl) ?_
    refine lv_iload hx hb dM_write_91 (lv_at hl 1 rfl) ?_
    refine lv_iload hx hb dM_write_93 (lv_at hl 2 rfl) ?_
    refine kV (n := 2) (As := [.int (nI ((q / 4) % 5)), .int (nI (q / 4))]) (rest := []) ⟨hx, hb, hml, hown, hts⟩ (mM_usable l D o a b cA iA (nI 0) cf uf ((q / 4) % 5) (q / 4) (by omega) (by omega)) w_303 w_305 v_13 w_2 w_306 (by decide +kernel) ⟨rfl, rfl⟩ ⟨(Nat.le_of_ble_eq_true rfl), (Nat.le_of_ble_eq_true rfl)⟩ hP hK 1 0 rfl rfl rfl hl.1 rfl (Nat.le_of_ble_eq_true rfl) dM_write_95 ⟨Nat.zero_le _, Nat.zero_le _⟩ ?_
    refine tI (b9t e98) ?_
    refine lv_if_eq (tgt := 121) hx hb dM_write_98 (by decide) (fun h98 => absurd h98 (by decide +kernel)) (fun h98 => ?_)
    refine lv_aload_n hx hb dM_write_101 rfl (lv_at hl 4 rfl) ?_
    refine va_get (D := D) (ci := 1) (v := .ref a) (C := R_M) (T := T_M) (N := 3) hx hb hg uM_in hown hK hP 0 rfl rfl 1 (by decide) (hg _ w_271) (fun _ h9 => h9) rfl dM_write_102 ?_
    refine lv_iload hx hb dM_write_105 (lv_at hl 1 rfl) ?_
    refine lv_iload hx hb dM_write_107 (lv_at hl 2 rfl) ?_
    refine lv_iload_n hx hb dM_write_109 rfl (lv_at hl 6 rfl) ?_
    refine kS (n := 3) (As := [.int (nI ((q / 4) % 5)), .int (nI (q / 4)), .int (nI h)]) (rest := [.ref a]) ⟨hx, hb, hml, hown, hts⟩ (mM_at l ((q / 4) % 5) (q / 4) h) w_311 w_312 w_2 w_313 (by decide +kernel) ⟨rfl, rfl⟩ ⟨(Nat.le_of_ble_eq_true rfl), (Nat.le_of_ble_eq_true rfl)⟩ rfl hl.1 rfl (Nat.le_of_ble_eq_true rfl) dM_write_110 ⟨Nat.zero_le _, Nat.zero_le _⟩ ?_
    refine lv_dup2_11 hx hb dM_write_113 rfl rfl ?_
    refine aL hx hb hK hP 1 0 rfl rfl (ix_lt (by omega) (by omega) (by omega)) (by decide) dM_write_114 ?_
    refine lv_lload hx hb dM_write_115 (lv_at hl 0 rfl) ?_
    refine lv_lload_n hx hb dM_write_117 rfl (lv_at hl 7 rfl) ?_
    refine lv_lxor hx hb dM_write_118 ?_
    refine lv_lxor hx hb dM_write_119 ?_
    refine sL hx hb hK hP hD hS 1 0 rfl rfl (ix_lt (by omega) (by omega) (by omega)) (by decide) dM_write_120 (fun H locs hP hD hS => ?_)
    have hP : va_P D cls_ (wM o a b cA iA (nI 0) (vp_updL cf (ix ((q / 4) % 5) (q / 4) h) ((cf (ix ((q / 4) % 5) (q / 4) h)) ^^^ ((wh cf uf (dk q) (q / 4) h) ^^^ v))) uf) H := hP
    have hD : va_D A (wM o a b cA iA (nI 0) (vp_updL cf (ix ((q / 4) % 5) (q / 4) h) ((cf (ix ((q / 4) % 5) (q / 4) h)) ^^^ ((wh cf uf (dk q) (q / 4) h) ^^^ v))) uf) := hD
    refine lv_aload_n hx hb dM_write_121 rfl (lv_at hl 4 rfl) ?_
    refine lv_iload hx hb dM_write_122 (lv_at hl 3 rfl) ?_
    refine lv_iload hx hb dM_write_124 (lv_at hl 2 rfl) ?_
    refine kV (n := 2) (As := [.int (nI (dk q)), .int (nI (q / 4))]) (rest := []) ⟨hx, hb, hml, hown, hts⟩ (mM_usable l D o a b cA iA (nI 0) (vp_updL cf (ix ((q / 4) % 5) (q / 4) h) ((cf (ix ((q / 4) % 5) (q / 4) h)) ^^^ ((wh cf uf (dk q) (q / 4) h) ^^^ v))) uf (dk q) (q / 4) (dk_lt _) (by omega)) w_303 w_305 v_13 w_2 w_306 (by decide +kernel) ⟨rfl, rfl⟩ ⟨(Nat.le_of_ble_eq_true rfl), (Nat.le_of_ble_eq_true rfl)⟩ hP hK 1 0 rfl rfl rfl hl.1 rfl (Nat.le_of_ble_eq_true rfl) dM_write_126 ⟨Nat.zero_le _, Nat.zero_le _⟩ ?_
    refine tI (b9f e52) ?_
    refine lv_if_eq (tgt := 146) hx hb dM_write_129 (by decide) (fun h129 => ?_) (fun h129 => absurd (by decide +kernel) h129)
    exact W.vret hx hb hr (fun t9 ht9 _ => ⟨⟨(), rfl, trivial, by show va_P _ _ _ t9.heap; rw [ht9]; rw [wN, if_neg (nt_f e52), wP, if_pos e98]; exact hP⟩, hS.F ht9⟩) hS.2.2 dM_write_146
set_option maxHeartbeats 4000000 in
set_option maxRecDepth 100000 in
theorem mM_fail_a (l : Launch) (D : va_G) (o a b : Nat) (cA iA : ClassId) (er : Int32) (cf : Nat → Int64) (uf : Nat → Int32) (sz : Nat) (x : Int32) (hbad : inR x 5 = false) : Met l yM_fail (.code yM_fail cM_fail 2 none :: gW) ({ frames := 1, cells := 0, slots := 0, locals := 22 }) (pWs D (wM o a b cA iA er cf uf) (kT cA iA) sz [.ref o, .int x]) (QV D (wM o a b cA iA (nI 1) cf uf) (va_A (wM o a b cA iA er cf uf) sz)) 0 0 (va_A (wM o a b cA iA er cf uf) sz) := by
  refine Met.ofW (cc := cM_fail) (maxL := 2) (ret := none) (by decide) rfl ?_
  intro p e s m args below meth c s₁ B hml hv
  obtain ⟨rfl, hsz, hP, hK, hD0⟩ := hv
  have hx := B.exec
  have hb := B.bytes
  have hr := B.returns
  have hts := atoms_spec (ws := (.code yM_fail cM_fail 2 none :: gW)) B.pre
  have hg : ∀ w ∈ gW, w.before ([.ref o, .int x]).toArray s = true := fun w h => hts w (List.mem_cons_of_mem _ h)
  have hown : s.vm.findClass R_M = some m.cls := findClass_of_methodNamed B.named
  have hlocks := B.notSynchronized
  subst hsz
  have hD := hD0.self (sz := s.heap.size)
  generalize hAe : va_A (wM o a b cA iA er cf uf) s.heap.size = A at hD ⊢
  have hA : ∀ q : Nat, s.heap.size ≤ q → A q := fun q h => by rw [← hAe]; exact Or.inr h
  have hS : va_S A s.heap s.heap [] := va_S.rf
  have hP : va_P D cls_ (wM o a b cA iA er cf uf) s.heap := hP
  have hl := lv_entry ([.ref o, .int x]) (n := 2) (Nat.le_of_ble_eq_true rfl)
  rw [lg_entry_eq]
  generalize (lg_sl ([.ref o, .int x]) ++ List.replicate (2 - (lg_sl ([.ref o, .int x])).length) Slot.unset).toArray = ls at hl ⊢
  have hl : lv_has ls 2 [(0, .ref o), (1, .int x)] := hl
  refine lv_aload_n hx hb dM_fail_0 rfl (lv_at hl 0 rfl) ?_
  refine lv_iload_n hx hb dM_fail_1 rfl (lv_at hl 1 rfl) ?_
  refine kS (n := 1) (As := [.int x]) (rest := [.ref o]) ⟨hx, hb, hml, hown, hts⟩ (mM_none l x) w_326 w_327 w_2 w_328 (by decide +kernel) ⟨rfl, rfl⟩ ⟨(Nat.le_of_ble_eq_true rfl), (Nat.le_of_ble_eq_true rfl)⟩ rfl hl.1 rfl (Nat.le_of_ble_eq_true rfl) dM_fail_2 ⟨Nat.zero_le _, Nat.zero_le _⟩ ?_
  refine tI (b9t (by rw [hbad]; rfl)) ?_
  refine lv_iconst (v := nI 1) hx hb dM_fail_5 (by decide +kernel) ?_
  refine kVi (n := 2) (As := [.int (nI 1), .int (nI 1)]) (rest := []) ⟨hx, hb, hml, hown, hts⟩ (mM_fails_t l D o a b cA iA er cf uf s.heap.size 1) w_292 w_294 v_11 w_2 w_295 (by decide +kernel) ⟨rfl, rfl⟩ ⟨(Nat.le_of_ble_eq_true rfl), (Nat.le_of_ble_eq_true rfl)⟩ hP hK hD hS hA rfl 1 0 rfl rfl rfl hl.1 rfl (Nat.le_of_ble_eq_true rfl) dM_fail_6 ⟨Nat.zero_le _, Nat.zero_le _⟩ (fun H locs hP hD hS => ?_)
  refine lv_if_eq (tgt := 13) hx hb dM_fail_9 (by decide) (fun h9 => absurd h9 (by decide +kernel)) (fun h9 => ?_)
  exact W.vret hx hb hr (fun t9 ht9 _ => ⟨⟨(), rfl, trivial, by show va_P _ _ _ t9.heap; rw [ht9]; exact hP⟩, hS.F ht9⟩) hS.2.2 dM_fail_12
set_option maxHeartbeats 4000000 in
set_option maxRecDepth 100000 in
theorem mM_fail_ok (l : Launch) (D : va_G) (o a b : Nat) (cA iA : ClassId) (er : Int32) (cf : Nat → Int64) (uf : Nat → Int32) (sz : Nat) (d : Nat) (hd : d < 5) : Met l yM_fail (.code yM_fail cM_fail 2 none :: gW) ({ frames := 1, cells := 0, slots := 0, locals := 22 }) (pWs D (wM o a b cA iA er cf uf) (kT cA iA) sz [.ref o, .int (nI d)]) (QV D (wM o a b cA iA (nI 0) cf (upd uf d (-1))) (va_A (wM o a b cA iA er cf uf) sz)) 0 0 (va_A (wM o a b cA iA er cf uf) sz) := by
  refine Met.ofW (cc := cM_fail) (maxL := 2) (ret := none) (by decide) rfl ?_
  intro p e s m args below meth c s₁ B hml hv
  obtain ⟨rfl, hsz, hP, hK, hD0⟩ := hv
  have hx := B.exec
  have hb := B.bytes
  have hr := B.returns
  have hts := atoms_spec (ws := (.code yM_fail cM_fail 2 none :: gW)) B.pre
  have hg : ∀ w ∈ gW, w.before ([.ref o, .int (nI d)]).toArray s = true := fun w h => hts w (List.mem_cons_of_mem _ h)
  have hown : s.vm.findClass R_M = some m.cls := findClass_of_methodNamed B.named
  have hlocks := B.notSynchronized
  subst hsz
  have hD := hD0.self (sz := s.heap.size)
  generalize hAe : va_A (wM o a b cA iA er cf uf) s.heap.size = A at hD ⊢
  have hA : ∀ q : Nat, s.heap.size ≤ q → A q := fun q h => by rw [← hAe]; exact Or.inr h
  have hS : va_S A s.heap s.heap [] := va_S.rf
  have hP : va_P D cls_ (wM o a b cA iA er cf uf) s.heap := hP
  have hl := lv_entry ([.ref o, .int (nI d)]) (n := 2) (Nat.le_of_ble_eq_true rfl)
  rw [lg_entry_eq]
  generalize (lg_sl ([.ref o, .int (nI d)]) ++ List.replicate (2 - (lg_sl ([.ref o, .int (nI d)])).length) Slot.unset).toArray = ls at hl ⊢
  have hl : lv_has ls 2 [(0, .ref o), (1, .int (nI d))] := hl
  refine lv_aload_n hx hb dM_fail_0 rfl (lv_at hl 0 rfl) ?_
  refine lv_iload_n hx hb dM_fail_1 rfl (lv_at hl 1 rfl) ?_
  refine kS (n := 1) (As := [.int (nI d)]) (rest := [.ref o]) ⟨hx, hb, hml, hown, hts⟩ (mM_none l (nI d)) w_326 w_327 w_2 w_328 (by decide +kernel) ⟨rfl, rfl⟩ ⟨(Nat.le_of_ble_eq_true rfl), (Nat.le_of_ble_eq_true rfl)⟩ rfl hl.1 rfl (Nat.le_of_ble_eq_true rfl) dM_fail_2 ⟨Nat.zero_le _, Nat.zero_le _⟩ ?_
  refine tI (b9f (by rw [inR_of (by decide) hd]; rfl)) ?_
  refine lv_iconst (v := nI 1) hx hb dM_fail_5 (by decide +kernel) ?_
  refine kVi (n := 2) (As := [.int (nI 0), .int (nI 1)]) (rest := []) ⟨hx, hb, hml, hown, hts⟩ (mM_fails_f l D o a b cA iA er cf uf s.heap.size 1) w_292 w_294 v_11 w_2 w_295 (by decide +kernel) ⟨rfl, rfl⟩ ⟨(Nat.le_of_ble_eq_true rfl), (Nat.le_of_ble_eq_true rfl)⟩ hP hK hD hS hA rfl 1 0 rfl rfl rfl hl.1 rfl (Nat.le_of_ble_eq_true rfl) dM_fail_6 ⟨Nat.zero_le _, Nat.zero_le _⟩ (fun H locs hP hD hS => ?_)
  refine lv_if_eq (tgt := 13) hx hb dM_fail_9 (by decide) (fun h9 => ?_) (fun h9 => absurd (by decide +kernel) h9)
  refine lv_aload_n hx hb dM_fail_13 rfl (lv_at hl 0 rfl) ?_
  refine va_get (D := D) (ci := 1) (v := .ref b) (C := R_M) (T := T_M) (N := 3) hx hb hg uM_in hown hK hP 0 rfl rfl 2 (by decide) (hg _ w_272) (fun _ h9 => h9) rfl dM_fail_14 ?_
  refine lv_iload_n hx hb dM_fail_17 rfl (lv_at hl 1 rfl) ?_
  refine lv_iconst (v := -1) hx hb dM_fail_18 (by decide +kernel) ?_
  refine sI hx hb hK hP hD hS 2 1 rfl rfl (by omega) (by decide) dM_fail_19 (fun H locs hP hD hS => ?_)
  have hP : va_P D cls_ (wM o a b cA iA (nI 0) cf (upd uf d (-1))) H := hP
  have hD : va_D A (wM o a b cA iA (nI 0) cf (upd uf d (-1))) := hD
  exact W.vret hx hb hr (fun t9 ht9 _ => ⟨⟨(), rfl, trivial, by show va_P _ _ _ t9.heap; rw [ht9]; exact hP⟩, hS.F ht9⟩) hS.2.2 dM_fail_20
set_option maxHeartbeats 4000000 in
set_option maxRecDepth 100000 in
theorem mM_state_a (l : Launch) (D : va_G) (o a b : Nat) (cA iA : ClassId) (er : Int32) (cf : Nat → Int64) (uf : Nat → Int32) (sz : Nat) (x : Int32) (hbad : inR x 5 = false) : Met l yM_state (.code yM_state cM_state 2 (some .int) :: gW) ({ frames := 1, cells := 0, slots := 0, locals := 22 }) (pWs D (wM o a b cA iA er cf uf) (kT cA iA) sz [.ref o, .int x]) (QI (nI 0) D (wM o a b cA iA (nI 1) cf uf) (va_A (wM o a b cA iA er cf uf) sz)) 0 0 (va_A (wM o a b cA iA er cf uf) sz) := by
  refine Met.ofW (cc := cM_state) (maxL := 2) (ret := (some .int)) (by decide) rfl ?_
  intro p e s m args below meth c s₁ B hml hv
  obtain ⟨rfl, hsz, hP, hK, hD0⟩ := hv
  have hx := B.exec
  have hb := B.bytes
  have hr := B.returns
  have hts := atoms_spec (ws := (.code yM_state cM_state 2 (some .int) :: gW)) B.pre
  have hg : ∀ w ∈ gW, w.before ([.ref o, .int x]).toArray s = true := fun w h => hts w (List.mem_cons_of_mem _ h)
  have hown : s.vm.findClass R_M = some m.cls := findClass_of_methodNamed B.named
  have hlocks := B.notSynchronized
  subst hsz
  have hD := hD0.self (sz := s.heap.size)
  generalize hAe : va_A (wM o a b cA iA er cf uf) s.heap.size = A at hD ⊢
  have hA : ∀ q : Nat, s.heap.size ≤ q → A q := fun q h => by rw [← hAe]; exact Or.inr h
  have hS : va_S A s.heap s.heap [] := va_S.rf
  have hP : va_P D cls_ (wM o a b cA iA er cf uf) s.heap := hP
  have hl := lv_entry ([.ref o, .int x]) (n := 2) (Nat.le_of_ble_eq_true rfl)
  rw [lg_entry_eq]
  generalize (lg_sl ([.ref o, .int x]) ++ List.replicate (2 - (lg_sl ([.ref o, .int x])).length) Slot.unset).toArray = ls at hl ⊢
  have hl : lv_has ls 2 [(0, .ref o), (1, .int x)] := hl
  refine lv_aload_n hx hb dM_state_0 rfl (lv_at hl 0 rfl) ?_
  refine lv_iload_n hx hb dM_state_1 rfl (lv_at hl 1 rfl) ?_
  refine kS (n := 1) (As := [.int x]) (rest := [.ref o]) ⟨hx, hb, hml, hown, hts⟩ (mM_none l x) w_326 w_327 w_2 w_328 (by decide +kernel) ⟨rfl, rfl⟩ ⟨(Nat.le_of_ble_eq_true rfl), (Nat.le_of_ble_eq_true rfl)⟩ rfl hl.1 rfl (Nat.le_of_ble_eq_true rfl) dM_state_2 ⟨Nat.zero_le _, Nat.zero_le _⟩ ?_
  refine tI (b9t (by rw [hbad]; rfl)) ?_
  refine lv_iconst (v := nI 1) hx hb dM_state_5 (by decide +kernel) ?_
  refine kVi (n := 2) (As := [.int (nI 1), .int (nI 1)]) (rest := []) ⟨hx, hb, hml, hown, hts⟩ (mM_fails_t l D o a b cA iA er cf uf s.heap.size 1) w_292 w_294 v_11 w_2 w_295 (by decide +kernel) ⟨rfl, rfl⟩ ⟨(Nat.le_of_ble_eq_true rfl), (Nat.le_of_ble_eq_true rfl)⟩ hP hK hD hS hA rfl 1 0 rfl rfl rfl hl.1 rfl (Nat.le_of_ble_eq_true rfl) dM_state_6 ⟨Nat.zero_le _, Nat.zero_le _⟩ (fun H locs hP hD hS => ?_)
  refine lv_if_eq (tgt := 14) hx hb dM_state_9 (by decide) (fun h9 => absurd h9 (by decide +kernel)) (fun h9 => ?_)
  refine lv_iconst (v := nI 0) hx hb dM_state_12 (by decide +kernel) ?_
  exact W.iret (v := nI 0) hx hb hr (fun t9 ht9 _ => ⟨⟨_, (), rfl, by show _ = _; rfl, by show va_P _ _ _ t9.heap; rw [ht9]; exact hP⟩, hS.F ht9⟩) hS.2.2 dM_state_13
set_option maxHeartbeats 4000000 in
set_option maxRecDepth 100000 in
theorem mM_state_ok (l : Launch) (D : va_G) (o a b : Nat) (cA iA : ClassId) (er : Int32) (cf : Nat → Int64) (uf : Nat → Int32) (sz : Nat) (d : Nat) (hd : d < 5) (hu : uf d = -1 ∨ 0 ≤ uf d) : Met l yM_state (.code yM_state cM_state 2 (some .int) :: gW) ({ frames := 1, cells := 0, slots := 0, locals := 22 }) (pWs D (wM o a b cA iA er cf uf) (kT cA iA) sz [.ref o, .int (nI d)]) (QI (sv (uf d)) D (wM o a b cA iA (nI 0) cf uf) (va_A (wM o a b cA iA er cf uf) sz)) 0 0 (va_A (wM o a b cA iA er cf uf) sz) := by
  refine Met.ofW (cc := cM_state) (maxL := 2) (ret := (some .int)) (by decide) rfl ?_
  intro p e s m args below meth c s₁ B hml hv
  obtain ⟨rfl, hsz, hP, hK, hD0⟩ := hv
  have hx := B.exec
  have hb := B.bytes
  have hr := B.returns
  have hts := atoms_spec (ws := (.code yM_state cM_state 2 (some .int) :: gW)) B.pre
  have hg : ∀ w ∈ gW, w.before ([.ref o, .int (nI d)]).toArray s = true := fun w h => hts w (List.mem_cons_of_mem _ h)
  have hown : s.vm.findClass R_M = some m.cls := findClass_of_methodNamed B.named
  have hlocks := B.notSynchronized
  subst hsz
  have hD := hD0.self (sz := s.heap.size)
  generalize hAe : va_A (wM o a b cA iA er cf uf) s.heap.size = A at hD ⊢
  have hA : ∀ q : Nat, s.heap.size ≤ q → A q := fun q h => by rw [← hAe]; exact Or.inr h
  have hS : va_S A s.heap s.heap [] := va_S.rf
  have hP : va_P D cls_ (wM o a b cA iA er cf uf) s.heap := hP
  have hl := lv_entry ([.ref o, .int (nI d)]) (n := 2) (Nat.le_of_ble_eq_true rfl)
  rw [lg_entry_eq]
  generalize (lg_sl ([.ref o, .int (nI d)]) ++ List.replicate (2 - (lg_sl ([.ref o, .int (nI d)])).length) Slot.unset).toArray = ls at hl ⊢
  have hl : lv_has ls 2 [(0, .ref o), (1, .int (nI d))] := hl
  refine lv_aload_n hx hb dM_state_0 rfl (lv_at hl 0 rfl) ?_
  refine lv_iload_n hx hb dM_state_1 rfl (lv_at hl 1 rfl) ?_
  refine kS (n := 1) (As := [.int (nI d)]) (rest := [.ref o]) ⟨hx, hb, hml, hown, hts⟩ (mM_none l (nI d)) w_326 w_327 w_2 w_328 (by decide +kernel) ⟨rfl, rfl⟩ ⟨(Nat.le_of_ble_eq_true rfl), (Nat.le_of_ble_eq_true rfl)⟩ rfl hl.1 rfl (Nat.le_of_ble_eq_true rfl) dM_state_2 ⟨Nat.zero_le _, Nat.zero_le _⟩ ?_
  refine tI (b9f (by rw [inR_of (by decide) hd]; rfl)) ?_
  refine lv_iconst (v := nI 1) hx hb dM_state_5 (by decide +kernel) ?_
  refine kVi (n := 2) (As := [.int (nI 0), .int (nI 1)]) (rest := []) ⟨hx, hb, hml, hown, hts⟩ (mM_fails_f l D o a b cA iA er cf uf s.heap.size 1) w_292 w_294 v_11 w_2 w_295 (by decide +kernel) ⟨rfl, rfl⟩ ⟨(Nat.le_of_ble_eq_true rfl), (Nat.le_of_ble_eq_true rfl)⟩ hP hK hD hS hA rfl 1 0 rfl rfl rfl hl.1 rfl (Nat.le_of_ble_eq_true rfl) dM_state_6 ⟨Nat.zero_le _, Nat.zero_le _⟩ (fun H locs hP hD hS => ?_)
  refine lv_if_eq (tgt := 14) hx hb dM_state_9 (by decide) (fun h9 => ?_) (fun h9 => absurd (by decide +kernel) h9)
  refine lv_aload_n hx hb dM_state_14 rfl (lv_at hl 0 rfl) ?_
  refine va_get (D := D) (ci := 1) (v := .ref b) (C := R_M) (T := T_M) (N := 3) hx hb hg uM_in hown hK hP 0 rfl rfl 2 (by decide) (hg _ w_272) (fun _ h9 => h9) rfl dM_state_15 ?_
  refine lv_iload_n hx hb dM_state_18 rfl (lv_at hl 1 rfl) ?_
  refine aI hx hb hK hP 2 1 rfl rfl (by omega) (by decide) dM_state_19 ?_
  refine lv_bipush (v := nI 100) hx hb dM_state_20 (by decide +kernel) ?_
  refine lv_icmp_ne (tgt := 29) hx hb dM_state_22 (by decide) (fun h22 => ?_) (fun h22 => ?_)
  · refine lv_aload_n hx hb dM_state_29 rfl (lv_at hl 0 rfl) ?_
    refine va_get (D := D) (ci := 1) (v := .ref b) (C := R_M) (T := T_M) (N := 3) hx hb hg uM_in hown hK hP 0 rfl rfl 2 (by decide) (hg _ w_272) (fun _ h9 => h9) rfl dM_state_30 ?_
    refine lv_iload_n hx hb dM_state_33 rfl (lv_at hl 1 rfl) ?_
    refine aI hx hb hK hP 2 1 rfl rfl (by omega) (by decide) dM_state_34 ?_
    refine lv_if_ge (tgt := 42) hx hb dM_state_35 (by decide) (fun h35 => ?_) (fun h35 => ?_)
    · refine lv_iconst (v := nI 2) hx hb dM_state_42 (by decide +kernel) ?_
      refine lv_aload_n hx hb dM_state_43 rfl (lv_at hl 0 rfl) ?_
      refine va_get (D := D) (ci := 1) (v := .ref b) (C := R_M) (T := T_M) (N := 3) hx hb hg uM_in hown hK hP 0 rfl rfl 2 (by decide) (hg _ w_272) (fun _ h9 => h9) rfl dM_state_44 ?_
      refine lv_iload_n hx hb dM_state_47 rfl (lv_at hl 1 rfl) ?_
      refine aI hx hb hK hP 2 1 rfl rfl (by omega) (by decide) dM_state_48 ?_
      refine lv_iadd hx hb dM_state_49 ?_
      exact W.iret (v := (nI 2) + (uf d)) hx hb hr (fun t9 ht9 _ => ⟨⟨_, (), rfl, by show _ = _; rw [sv, if_neg h22, if_neg (fun z => absurd h35 (by rw [z]; decide))], by show va_P _ _ _ t9.heap; rw [ht9]; exact hP⟩, hS.F ht9⟩) hS.2.2 dM_state_50
    · refine lv_iconst (v := nI 1) hx hb dM_state_38 (by decide +kernel) ?_
      refine lv_goto (tgt := 50) hx hb dM_state_39 (by decide) ?_
      exact W.iret (v := nI 1) hx hb hr (fun t9 ht9 _ => ⟨⟨_, (), rfl, by show _ = _; rw [sv, if_neg h22, if_pos (hu.resolve_right h35)], by show va_P _ _ _ t9.heap; rw [ht9]; exact hP⟩, hS.F ht9⟩) hS.2.2 dM_state_50
  · refine lv_iconst (v := nI 0) hx hb dM_state_25 (by decide +kernel) ?_
    refine lv_goto (tgt := 50) hx hb dM_state_26 (by decide) ?_
    exact W.iret (v := nI 0) hx hb hr (fun t9 ht9 _ => ⟨⟨_, (), rfl, by show _ = _; rw [sv, if_pos h22], by show va_P _ _ _ t9.heap; rw [ht9]; exact hP⟩, hS.F ht9⟩) hS.2.2 dM_state_50
end
section
set_option maxHeartbeats 4000000 in
set_option maxRecDepth 100000 in
theorem mM_flip_a (l : Launch) (D : va_G) (o a b : Nat) (cA iA : ClassId) (er : Int32) (cf : Nat → Int64) (uf : Nat → Int32) (sz : Nat) (x y z : Int32) (v : Int64) (hbad : (inR x 5 && (inR y 100 && inR z 2)) = false) : Met l yM_flip (.code yM_flip cM_flip 6 none :: gW) ({ frames := 2, cells := 0, slots := 0, locals := 43 }) (pWs D (wM o a b cA iA er cf uf) (kT cA iA) sz [.ref o, .int x, .int y, .int z, .long v]) (QV D (wM o a b cA iA (nI 1) cf uf) (va_A (wM o a b cA iA er cf uf) sz)) 0 0 (va_A (wM o a b cA iA er cf uf) sz) := by
  refine Met.ofW (cc := cM_flip) (maxL := 6) (ret := none) (by decide) rfl ?_
  intro p e s m args below meth c s₁ B hml hv
  obtain ⟨rfl, hsz, hP, hK, hD0⟩ := hv
  have hx := B.exec
  have hb := B.bytes
  have hr := B.returns
  have hts := atoms_spec (ws := (.code yM_flip cM_flip 6 none :: gW)) B.pre
  have hg : ∀ w ∈ gW, w.before ([.ref o, .int x, .int y, .int z, .long v]).toArray s = true := fun w h => hts w (List.mem_cons_of_mem _ h)
  have hown : s.vm.findClass R_M = some m.cls := findClass_of_methodNamed B.named
  have hlocks := B.notSynchronized
  subst hsz
  have hD := hD0.self (sz := s.heap.size)
  generalize hAe : va_A (wM o a b cA iA er cf uf) s.heap.size = A at hD ⊢
  have hA : ∀ q : Nat, s.heap.size ≤ q → A q := fun q h => by rw [← hAe]; exact Or.inr h
  have hS : va_S A s.heap s.heap [] := va_S.rf
  have hP : va_P D cls_ (wM o a b cA iA er cf uf) s.heap := hP
  have hl := lv_entry ([.ref o, .int x, .int y, .int z, .long v]) (n := 6) (Nat.le_of_ble_eq_true rfl)
  rw [lg_entry_eq]
  generalize (lg_sl ([.ref o, .int x, .int y, .int z, .long v]) ++ List.replicate (6 - (lg_sl ([.ref o, .int x, .int y, .int z, .long v])).length) Slot.unset).toArray = ls at hl ⊢
  have hl : lv_has ls 6 [(0, .ref o), (1, .int x), (2, .int y), (3, .int z), (4, .long v)] := hl
  refine lv_aload_n hx hb dM_flip_0 rfl (lv_at hl 0 rfl) ?_
  refine lv_aload_n hx hb dM_flip_1 rfl (lv_at hl 0 rfl) ?_
  refine lv_iload_n hx hb dM_flip_2 rfl (lv_at hl 1 rfl) ?_
  refine lv_iload_n hx hb dM_flip_3 rfl (lv_at hl 2 rfl) ?_
  refine lv_iload_n hx hb dM_flip_4 rfl (lv_at hl 3 rfl) ?_
  refine kV (n := 3) (As := [.int x, .int y, .int z]) (rest := [.ref o]) ⟨hx, hb, hml, hown, hts⟩ (mM_noBlock l D o a b cA iA er cf uf x y z) w_341 w_343 v_16 w_2 w_344 (by decide +kernel) ⟨rfl, rfl⟩ ⟨(Nat.le_of_ble_eq_true rfl), (Nat.le_of_ble_eq_true rfl)⟩ hP hK 1 0 rfl rfl rfl hl.1 rfl (Nat.le_of_ble_eq_true rfl) dM_flip_5 ⟨Nat.zero_le _, Nat.zero_le _⟩ ?_
  refine tI (b9t (by rw [hbad]; rfl)) ?_
  refine lv_iconst (v := nI 1) hx hb dM_flip_8 (by decide +kernel) ?_
  refine kVi (n := 2) (As := [.int (nI 1), .int (nI 1)]) (rest := []) ⟨hx, hb, hml, hown, hts⟩ (mM_fails_t l D o a b cA iA er cf uf s.heap.size 1) w_292 w_294 v_11 w_2 w_295 (by decide +kernel) ⟨rfl, rfl⟩ ⟨(Nat.le_of_ble_eq_true rfl), (Nat.le_of_ble_eq_true rfl)⟩ hP hK hD hS hA rfl 1 0 rfl rfl rfl hl.1 rfl (Nat.le_of_ble_eq_true rfl) dM_flip_9 ⟨Nat.zero_le _, Nat.zero_le _⟩ (fun H locs hP hD hS => ?_)
  refine lv_if_eq (tgt := 16) hx hb dM_flip_12 (by decide) (fun h12 => absurd h12 (by decide +kernel)) (fun h12 => ?_)
  exact W.vret hx hb hr (fun t9 ht9 _ => ⟨⟨(), rfl, trivial, by show va_P _ _ _ t9.heap; rw [ht9]; exact hP⟩, hS.F ht9⟩) hS.2.2 dM_flip_15
set_option maxHeartbeats 4000000 in
set_option maxRecDepth 100000 in
theorem mM_flip_s (l : Launch) (D : va_G) (o a b : Nat) (cA iA : ClassId) (er : Int32) (cf : Nat → Int64) (uf : Nat → Int32) (sz : Nat) (d t h : Nat) (hd : d < 5) (ht : t < 100) (hh : h < 2) (v : Int64) (hu : uf d = -1) : Met l yM_flip (.code yM_flip cM_flip 6 none :: gW) ({ frames := 2, cells := 0, slots := 0, locals := 43 }) (pWs D (wM o a b cA iA er cf uf) (kT cA iA) sz [.ref o, .int (nI d), .int (nI t), .int (nI h), .long v]) (QV D (wM o a b cA iA (nI 2) cf uf) (va_A (wM o a b cA iA er cf uf) sz)) 0 0 (va_A (wM o a b cA iA er cf uf) sz) := by
  refine Met.ofW (cc := cM_flip) (maxL := 6) (ret := none) (by decide) rfl ?_
  intro p e s m args below meth c s₁ B hml hv
  obtain ⟨rfl, hsz, hP, hK, hD0⟩ := hv
  have hx := B.exec
  have hb := B.bytes
  have hr := B.returns
  have hts := atoms_spec (ws := (.code yM_flip cM_flip 6 none :: gW)) B.pre
  have hg : ∀ w ∈ gW, w.before ([.ref o, .int (nI d), .int (nI t), .int (nI h), .long v]).toArray s = true := fun w h => hts w (List.mem_cons_of_mem _ h)
  have hown : s.vm.findClass R_M = some m.cls := findClass_of_methodNamed B.named
  have hlocks := B.notSynchronized
  subst hsz
  have hD := hD0.self (sz := s.heap.size)
  generalize hAe : va_A (wM o a b cA iA er cf uf) s.heap.size = A at hD ⊢
  have hA : ∀ q : Nat, s.heap.size ≤ q → A q := fun q h => by rw [← hAe]; exact Or.inr h
  have hS : va_S A s.heap s.heap [] := va_S.rf
  have hP : va_P D cls_ (wM o a b cA iA er cf uf) s.heap := hP
  have hl := lv_entry ([.ref o, .int (nI d), .int (nI t), .int (nI h), .long v]) (n := 6) (Nat.le_of_ble_eq_true rfl)
  rw [lg_entry_eq]
  generalize (lg_sl ([.ref o, .int (nI d), .int (nI t), .int (nI h), .long v]) ++ List.replicate (6 - (lg_sl ([.ref o, .int (nI d), .int (nI t), .int (nI h), .long v])).length) Slot.unset).toArray = ls at hl ⊢
  have hl : lv_has ls 6 [(0, .ref o), (1, .int (nI d)), (2, .int (nI t)), (3, .int (nI h)), (4, .long v)] := hl
  refine lv_aload_n hx hb dM_flip_0 rfl (lv_at hl 0 rfl) ?_
  refine lv_aload_n hx hb dM_flip_1 rfl (lv_at hl 0 rfl) ?_
  refine lv_iload_n hx hb dM_flip_2 rfl (lv_at hl 1 rfl) ?_
  refine lv_iload_n hx hb dM_flip_3 rfl (lv_at hl 2 rfl) ?_
  refine lv_iload_n hx hb dM_flip_4 rfl (lv_at hl 3 rfl) ?_
  refine kV (n := 3) (As := [.int (nI d), .int (nI t), .int (nI h)]) (rest := [.ref o]) ⟨hx, hb, hml, hown, hts⟩ (mM_noBlock l D o a b cA iA er cf uf (nI d) (nI t) (nI h)) w_341 w_343 v_16 w_2 w_344 (by decide +kernel) ⟨rfl, rfl⟩ ⟨(Nat.le_of_ble_eq_true rfl), (Nat.le_of_ble_eq_true rfl)⟩ hP hK 1 0 rfl rfl rfl hl.1 rfl (Nat.le_of_ble_eq_true rfl) dM_flip_5 ⟨Nat.zero_le _, Nat.zero_le _⟩ ?_
  refine tI (b9f (by rw [inR_of (by decide) hd, inR_of (by decide) ht, inR_of (by decide) hh]; rfl)) ?_
  refine lv_iconst (v := nI 1) hx hb dM_flip_8 (by decide +kernel) ?_
  refine kVi (n := 2) (As := [.int (nI 0), .int (nI 1)]) (rest := []) ⟨hx, hb, hml, hown, hts⟩ (mM_fails_f l D o a b cA iA er cf uf s.heap.size 1) w_292 w_294 v_11 w_2 w_295 (by decide +kernel) ⟨rfl, rfl⟩ ⟨(Nat.le_of_ble_eq_true rfl), (Nat.le_of_ble_eq_true rfl)⟩ hP hK hD hS hA rfl 1 0 rfl rfl rfl hl.1 rfl (Nat.le_of_ble_eq_true rfl) dM_flip_9 ⟨Nat.zero_le _, Nat.zero_le _⟩ (fun H locs hP hD hS => ?_)
  refine lv_if_eq (tgt := 16) hx hb dM_flip_12 (by decide) (fun h12 => ?_) (fun h12 => absurd (by decide +kernel) h12)
  refine lv_aload_n hx hb dM_flip_16 rfl (lv_at hl 0 rfl) ?_
  refine lv_aload_n hx hb dM_flip_17 rfl (lv_at hl 0 rfl) ?_
  refine va_get (D := D) (ci := 1) (v := .ref b) (C := R_M) (T := T_M) (N := 3) hx hb hg uM_in hown hK hP 0 rfl rfl 2 (by decide) (hg _ w_272) (fun _ h9 => h9) rfl dM_flip_18 ?_
  refine lv_iload_n hx hb dM_flip_21 rfl (lv_at hl 1 rfl) ?_
  refine aI hx hb hK hP 2 1 rfl rfl (by omega) (by decide) dM_flip_22 ?_
  refine lv_if_ge (tgt := 30) hx hb dM_flip_23 (by decide) (fun h23 => absurd h23 (by rw [hu]; decide)) (fun h23 => ?_)
  refine lv_iconst (v := nI 1) hx hb dM_flip_26 (by decide +kernel) ?_
  refine lv_goto (tgt := 31) hx hb dM_flip_27 (by decide) ?_
  refine lv_iconst (v := nI 2) hx hb dM_flip_31 (by decide +kernel) ?_
  refine kVi (n := 2) (As := [.int (nI 1), .int (nI 2)]) (rest := []) ⟨hx, hb, hml, hown, hts⟩ (mM_fails_t l D o a b cA iA (nI 0) cf uf H.size 2) w_292 w_294 v_11 w_2 w_295 (by decide +kernel) ⟨rfl, rfl⟩ ⟨(Nat.le_of_ble_eq_true rfl), (Nat.le_of_ble_eq_true rfl)⟩ hP hK hD hS hA rfl 1 0 rfl rfl rfl hl.1 rfl (Nat.le_of_ble_eq_true rfl) dM_flip_32 ⟨Nat.zero_le _, Nat.zero_le _⟩ (fun H locs hP hD hS => ?_)
  refine lv_if_eq (tgt := 39) hx hb dM_flip_35 (by decide) (fun h35 => absurd h35 (by decide +kernel)) (fun h35 => ?_)
  exact W.vret hx hb hr (fun t9 ht9 _ => ⟨⟨(), rfl, trivial, by show va_P _ _ _ t9.heap; rw [ht9]; exact hP⟩, hS.F ht9⟩) hS.2.2 dM_flip_38
set_option maxHeartbeats 4000000 in
set_option maxRecDepth 100000 in
theorem mM_flip_ok (l : Launch) (D : va_G) (o a b : Nat) (cA iA : ClassId) (er : Int32) (cf : Nat → Int64) (uf : Nat → Int32) (sz : Nat) (d t h : Nat) (hd : d < 5) (ht : t < 100) (hh : h < 2) (v : Int64) (hu : 0 ≤ uf d) : Met l yM_flip (.code yM_flip cM_flip 6 none :: gW) ({ frames := 2, cells := 0, slots := 0, locals := 43 }) (pWs D (wM o a b cA iA er cf uf) (kT cA iA) sz [.ref o, .int (nI d), .int (nI t), .int (nI h), .long v]) (QV D (wM o a b cA iA (nI 0) (vp_updL cf (ix d t h) (cf (ix d t h) ^^^ v)) uf) (va_A (wM o a b cA iA er cf uf) sz)) 0 0 (va_A (wM o a b cA iA er cf uf) sz) := by
  refine Met.ofW (cc := cM_flip) (maxL := 6) (ret := none) (by decide) rfl ?_
  intro p e s m args below meth c s₁ B hml hv
  obtain ⟨rfl, hsz, hP, hK, hD0⟩ := hv
  have hx := B.exec
  have hb := B.bytes
  have hr := B.returns
  have hts := atoms_spec (ws := (.code yM_flip cM_flip 6 none :: gW)) B.pre
  have hg : ∀ w ∈ gW, w.before ([.ref o, .int (nI d), .int (nI t), .int (nI h), .long v]).toArray s = true := fun w h => hts w (List.mem_cons_of_mem _ h)
  have hown : s.vm.findClass R_M = some m.cls := findClass_of_methodNamed B.named
  have hlocks := B.notSynchronized
  subst hsz
  have hD := hD0.self (sz := s.heap.size)
  generalize hAe : va_A (wM o a b cA iA er cf uf) s.heap.size = A at hD ⊢
  have hA : ∀ q : Nat, s.heap.size ≤ q → A q := fun q h => by rw [← hAe]; exact Or.inr h
  have hS : va_S A s.heap s.heap [] := va_S.rf
  have hP : va_P D cls_ (wM o a b cA iA er cf uf) s.heap := hP
  have hl := lv_entry ([.ref o, .int (nI d), .int (nI t), .int (nI h), .long v]) (n := 6) (Nat.le_of_ble_eq_true rfl)
  rw [lg_entry_eq]
  generalize (lg_sl ([.ref o, .int (nI d), .int (nI t), .int (nI h), .long v]) ++ List.replicate (6 - (lg_sl ([.ref o, .int (nI d), .int (nI t), .int (nI h), .long v])).length) Slot.unset).toArray = ls at hl ⊢
  have hl : lv_has ls 6 [(0, .ref o), (1, .int (nI d)), (2, .int (nI t)), (3, .int (nI h)), (4, .long v)] := hl
  refine lv_aload_n hx hb dM_flip_0 rfl (lv_at hl 0 rfl) ?_
  refine lv_aload_n hx hb dM_flip_1 rfl (lv_at hl 0 rfl) ?_
  refine lv_iload_n hx hb dM_flip_2 rfl (lv_at hl 1 rfl) ?_
  refine lv_iload_n hx hb dM_flip_3 rfl (lv_at hl 2 rfl) ?_
  refine lv_iload_n hx hb dM_flip_4 rfl (lv_at hl 3 rfl) ?_
  refine kV (n := 3) (As := [.int (nI d), .int (nI t), .int (nI h)]) (rest := [.ref o]) ⟨hx, hb, hml, hown, hts⟩ (mM_noBlock l D o a b cA iA er cf uf (nI d) (nI t) (nI h)) w_341 w_343 v_16 w_2 w_344 (by decide +kernel) ⟨rfl, rfl⟩ ⟨(Nat.le_of_ble_eq_true rfl), (Nat.le_of_ble_eq_true rfl)⟩ hP hK 1 0 rfl rfl rfl hl.1 rfl (Nat.le_of_ble_eq_true rfl) dM_flip_5 ⟨Nat.zero_le _, Nat.zero_le _⟩ ?_
  refine tI (b9f (by rw [inR_of (by decide) hd, inR_of (by decide) ht, inR_of (by decide) hh]; rfl)) ?_
  refine lv_iconst (v := nI 1) hx hb dM_flip_8 (by decide +kernel) ?_
  refine kVi (n := 2) (As := [.int (nI 0), .int (nI 1)]) (rest := []) ⟨hx, hb, hml, hown, hts⟩ (mM_fails_f l D o a b cA iA er cf uf s.heap.size 1) w_292 w_294 v_11 w_2 w_295 (by decide +kernel) ⟨rfl, rfl⟩ ⟨(Nat.le_of_ble_eq_true rfl), (Nat.le_of_ble_eq_true rfl)⟩ hP hK hD hS hA rfl 1 0 rfl rfl rfl hl.1 rfl (Nat.le_of_ble_eq_true rfl) dM_flip_9 ⟨Nat.zero_le _, Nat.zero_le _⟩ (fun H locs hP hD hS => ?_)
  refine lv_if_eq (tgt := 16) hx hb dM_flip_12 (by decide) (fun h12 => ?_) (fun h12 => absurd (by decide +kernel) h12)
  refine lv_aload_n hx hb dM_flip_16 rfl (lv_at hl 0 rfl) ?_
  refine lv_aload_n hx hb dM_flip_17 rfl (lv_at hl 0 rfl) ?_
  refine va_get (D := D) (ci := 1) (v := .ref b) (C := R_M) (T := T_M) (N := 3) hx hb hg uM_in hown hK hP 0 rfl rfl 2 (by decide) (hg _ w_272) (fun _ h9 => h9) rfl dM_flip_18 ?_
  refine lv_iload_n hx hb dM_flip_21 rfl (lv_at hl 1 rfl) ?_
  refine aI hx hb hK hP 2 1 rfl rfl (by omega) (by decide) dM_flip_22 ?_
  refine lv_if_ge (tgt := 30) hx hb dM_flip_23 (by decide) (fun h23 => ?_) (fun h23 => absurd hu h23)
  refine lv_iconst (v := nI 0) hx hb dM_flip_30 (by decide +kernel) ?_
  refine lv_iconst (v := nI 2) hx hb dM_flip_31 (by decide +kernel) ?_
  refine kVi (n := 2) (As := [.int (nI 0), .int (nI 2)]) (rest := []) ⟨hx, hb, hml, hown, hts⟩ (mM_fails_f l D o a b cA iA (nI 0) cf uf H.size 2) w_292 w_294 v_11 w_2 w_295 (by decide +kernel) ⟨rfl, rfl⟩ ⟨(Nat.le_of_ble_eq_true rfl), (Nat.le_of_ble_eq_true rfl)⟩ hP hK hD hS hA rfl 1 0 rfl rfl rfl hl.1 rfl (Nat.le_of_ble_eq_true rfl) dM_flip_32 ⟨Nat.zero_le _, Nat.zero_le _⟩ (fun H locs hP hD hS => ?_)
  refine lv_if_eq (tgt := 39) hx hb dM_flip_35 (by decide) (fun h35 => ?_) (fun h35 => absurd (by decide +kernel) h35)
  refine lv_aload_n hx hb dM_flip_39 rfl (lv_at hl 0 rfl) ?_
  refine va_get (D := D) (ci := 1) (v := .ref a) (C := R_M) (T := T_M) (N := 3) hx hb hg uM_in hown hK hP 0 rfl rfl 1 (by decide) (hg _ w_271) (fun _ h9 => h9) rfl dM_flip_40 ?_
  refine lv_iload_n hx hb dM_flip_43 rfl (lv_at hl 1 rfl) ?_
  refine lv_iload_n hx hb dM_flip_44 rfl (lv_at hl 2 rfl) ?_
  refine lv_iload_n hx hb dM_flip_45 rfl (lv_at hl 3 rfl) ?_
  refine kS (n := 3) (As := [.int (nI d), .int (nI t), .int (nI h)]) (rest := [.ref a]) ⟨hx, hb, hml, hown, hts⟩ (mM_at l d t h) w_311 w_312 w_2 w_313 (by decide +kernel) ⟨rfl, rfl⟩ ⟨(Nat.le_of_ble_eq_true rfl), (Nat.le_of_ble_eq_true rfl)⟩ rfl hl.1 rfl (Nat.le_of_ble_eq_true rfl) dM_flip_46 ⟨Nat.zero_le _, Nat.zero_le _⟩ ?_
  refine lv_dup2_11 hx hb dM_flip_49 rfl rfl ?_
  refine aL hx hb hK hP 1 0 rfl rfl (ix_lt (by omega) (by omega) (by omega)) (by decide) dM_flip_50 ?_
  refine lv_lload hx hb dM_flip_51 (lv_at hl 4 rfl) ?_
  refine lv_lxor hx hb dM_flip_53 ?_
  refine sL hx hb hK hP hD hS 1 0 rfl rfl (ix_lt (by omega) (by omega) (by omega)) (by decide) dM_flip_54 (fun H locs hP hD hS => ?_)
  have hP : va_P D cls_ (wM o a b cA iA (nI 0) (vp_updL cf (ix d t h) ((cf (ix d t h)) ^^^ v)) uf) H := hP
  have hD : va_D A (wM o a b cA iA (nI 0) (vp_updL cf (ix d t h) ((cf (ix d t h)) ^^^ v)) uf) := hD
  exact W.vret hx hb hr (fun t9 ht9 _ => ⟨⟨(), rfl, trivial, by show va_P _ _ _ t9.heap; rw [ht9]; exact hP⟩, hS.F ht9⟩) hS.2.2 dM_flip_55
set_option maxHeartbeats 4000000 in
set_option maxRecDepth 100000 in
theorem mM_block_a (l : Launch) (D : va_G) (o a b : Nat) (cA iA : ClassId) (er : Int32) (cf : Nat → Int64) (uf : Nat → Int32) (sz : Nat) (x y z : Int32) (hbad : (inR x 5 && (inR y 100 && inR z 2)) = false) : Met l yM_block (.code yM_block cM_block 4 (some .long) :: gW) ({ frames := 2, cells := 0, slots := 0, locals := 43 }) (pWs D (wM o a b cA iA er cf uf) (kT cA iA) sz [.ref o, .int x, .int y, .int z]) (QL (0) D (wM o a b cA iA (nI 1) cf uf) (va_A (wM o a b cA iA er cf uf) sz)) 0 0 (va_A (wM o a b cA iA er cf uf) sz) := by
  refine Met.ofW (cc := cM_block) (maxL := 4) (ret := (some .long)) (by decide) rfl ?_
  intro p e s m args below meth c s₁ B hml hv
  obtain ⟨rfl, hsz, hP, hK, hD0⟩ := hv
  have hx := B.exec
  have hb := B.bytes
  have hr := B.returns
  have hts := atoms_spec (ws := (.code yM_block cM_block 4 (some .long) :: gW)) B.pre
  have hg : ∀ w ∈ gW, w.before ([.ref o, .int x, .int y, .int z]).toArray s = true := fun w h => hts w (List.mem_cons_of_mem _ h)
  have hown : s.vm.findClass R_M = some m.cls := findClass_of_methodNamed B.named
  have hlocks := B.notSynchronized
  subst hsz
  have hD := hD0.self (sz := s.heap.size)
  generalize hAe : va_A (wM o a b cA iA er cf uf) s.heap.size = A at hD ⊢
  have hA : ∀ q : Nat, s.heap.size ≤ q → A q := fun q h => by rw [← hAe]; exact Or.inr h
  have hS : va_S A s.heap s.heap [] := va_S.rf
  have hP : va_P D cls_ (wM o a b cA iA er cf uf) s.heap := hP
  have hl := lv_entry ([.ref o, .int x, .int y, .int z]) (n := 4) (Nat.le_of_ble_eq_true rfl)
  rw [lg_entry_eq]
  generalize (lg_sl ([.ref o, .int x, .int y, .int z]) ++ List.replicate (4 - (lg_sl ([.ref o, .int x, .int y, .int z])).length) Slot.unset).toArray = ls at hl ⊢
  have hl : lv_has ls 4 [(0, .ref o), (1, .int x), (2, .int y), (3, .int z)] := hl
  refine lv_aload_n hx hb dM_block_0 rfl (lv_at hl 0 rfl) ?_
  refine lv_aload_n hx hb dM_block_1 rfl (lv_at hl 0 rfl) ?_
  refine lv_iload_n hx hb dM_block_2 rfl (lv_at hl 1 rfl) ?_
  refine lv_iload_n hx hb dM_block_3 rfl (lv_at hl 2 rfl) ?_
  refine lv_iload_n hx hb dM_block_4 rfl (lv_at hl 3 rfl) ?_
  refine kV (n := 3) (As := [.int x, .int y, .int z]) (rest := [.ref o]) ⟨hx, hb, hml, hown, hts⟩ (mM_noBlock l D o a b cA iA er cf uf x y z) w_341 w_343 v_16 w_2 w_344 (by decide +kernel) ⟨rfl, rfl⟩ ⟨(Nat.le_of_ble_eq_true rfl), (Nat.le_of_ble_eq_true rfl)⟩ hP hK 1 0 rfl rfl rfl hl.1 rfl (Nat.le_of_ble_eq_true rfl) dM_block_5 ⟨Nat.zero_le _, Nat.zero_le _⟩ ?_
  refine tI (b9t (by rw [hbad]; rfl)) ?_
  refine lv_iconst (v := nI 1) hx hb dM_block_8 (by decide +kernel) ?_
  refine kVi (n := 2) (As := [.int (nI 1), .int (nI 1)]) (rest := []) ⟨hx, hb, hml, hown, hts⟩ (mM_fails_t l D o a b cA iA er cf uf s.heap.size 1) w_292 w_294 v_11 w_2 w_295 (by decide +kernel) ⟨rfl, rfl⟩ ⟨(Nat.le_of_ble_eq_true rfl), (Nat.le_of_ble_eq_true rfl)⟩ hP hK hD hS hA rfl 1 0 rfl rfl rfl hl.1 rfl (Nat.le_of_ble_eq_true rfl) dM_block_9 ⟨Nat.zero_le _, Nat.zero_le _⟩ (fun H locs hP hD hS => ?_)
  refine lv_if_eq (tgt := 17) hx hb dM_block_12 (by decide) (fun h12 => absurd h12 (by decide +kernel)) (fun h12 => ?_)
  refine lv_lconst (v := 0) hx hb dM_block_15 (by decide +kernel) ?_
  exact W.lret (v := 0) hx hb hr (fun t9 ht9 _ => ⟨⟨_, (), rfl, by show _ = _; rfl, by show va_P _ _ _ t9.heap; rw [ht9]; exact hP⟩, hS.F ht9⟩) hS.2.2 dM_block_16
set_option maxHeartbeats 4000000 in
set_option maxRecDepth 100000 in
theorem mM_block_s (l : Launch) (D : va_G) (o a b : Nat) (cA iA : ClassId) (er : Int32) (cf : Nat → Int64) (uf : Nat → Int32) (sz : Nat) (d t h : Nat) (hd : d < 5) (ht : t < 100) (hh : h < 2) (hu : uf d = -1) : Met l yM_block (.code yM_block cM_block 4 (some .long) :: gW) ({ frames := 2, cells := 0, slots := 0, locals := 43 }) (pWs D (wM o a b cA iA er cf uf) (kT cA iA) sz [.ref o, .int (nI d), .int (nI t), .int (nI h)]) (QL (0) D (wM o a b cA iA (nI 2) cf uf) (va_A (wM o a b cA iA er cf uf) sz)) 0 0 (va_A (wM o a b cA iA er cf uf) sz) := by
  refine Met.ofW (cc := cM_block) (maxL := 4) (ret := (some .long)) (by decide) rfl ?_
  intro p e s m args below meth c s₁ B hml hv
  obtain ⟨rfl, hsz, hP, hK, hD0⟩ := hv
  have hx := B.exec
  have hb := B.bytes
  have hr := B.returns
  have hts := atoms_spec (ws := (.code yM_block cM_block 4 (some .long) :: gW)) B.pre
  have hg : ∀ w ∈ gW, w.before ([.ref o, .int (nI d), .int (nI t), .int (nI h)]).toArray s = true := fun w h => hts w (List.mem_cons_of_mem _ h)
  have hown : s.vm.findClass R_M = some m.cls := findClass_of_methodNamed B.named
  have hlocks := B.notSynchronized
  subst hsz
  have hD := hD0.self (sz := s.heap.size)
  generalize hAe : va_A (wM o a b cA iA er cf uf) s.heap.size = A at hD ⊢
  have hA : ∀ q : Nat, s.heap.size ≤ q → A q := fun q h => by rw [← hAe]; exact Or.inr h
  have hS : va_S A s.heap s.heap [] := va_S.rf
  have hP : va_P D cls_ (wM o a b cA iA er cf uf) s.heap := hP
  have hl := lv_entry ([.ref o, .int (nI d), .int (nI t), .int (nI h)]) (n := 4) (Nat.le_of_ble_eq_true rfl)
  rw [lg_entry_eq]
  generalize (lg_sl ([.ref o, .int (nI d), .int (nI t), .int (nI h)]) ++ List.replicate (4 - (lg_sl ([.ref o, .int (nI d), .int (nI t), .int (nI h)])).length) Slot.unset).toArray = ls at hl ⊢
  have hl : lv_has ls 4 [(0, .ref o), (1, .int (nI d)), (2, .int (nI t)), (3, .int (nI h))] := hl
  refine lv_aload_n hx hb dM_block_0 rfl (lv_at hl 0 rfl) ?_
  refine lv_aload_n hx hb dM_block_1 rfl (lv_at hl 0 rfl) ?_
  refine lv_iload_n hx hb dM_block_2 rfl (lv_at hl 1 rfl) ?_
  refine lv_iload_n hx hb dM_block_3 rfl (lv_at hl 2 rfl) ?_
  refine lv_iload_n hx hb dM_block_4 rfl (lv_at hl 3 rfl) ?_
  refine kV (n := 3) (As := [.int (nI d), .int (nI t), .int (nI h)]) (rest := [.ref o]) ⟨hx, hb, hml, hown, hts⟩ (mM_noBlock l D o a b cA iA er cf uf (nI d) (nI t) (nI h)) w_341 w_343 v_16 w_2 w_344 (by decide +kernel) ⟨rfl, rfl⟩ ⟨(Nat.le_of_ble_eq_true rfl), (Nat.le_of_ble_eq_true rfl)⟩ hP hK 1 0 rfl rfl rfl hl.1 rfl (Nat.le_of_ble_eq_true rfl) dM_block_5 ⟨Nat.zero_le _, Nat.zero_le _⟩ ?_
  refine tI (b9f (by rw [inR_of (by decide) hd, inR_of (by decide) ht, inR_of (by decide) hh]; rfl)) ?_
  refine lv_iconst (v := nI 1) hx hb dM_block_8 (by decide +kernel) ?_
  refine kVi (n := 2) (As := [.int (nI 0), .int (nI 1)]) (rest := []) ⟨hx, hb, hml, hown, hts⟩ (mM_fails_f l D o a b cA iA er cf uf s.heap.size 1) w_292 w_294 v_11 w_2 w_295 (by decide +kernel) ⟨rfl, rfl⟩ ⟨(Nat.le_of_ble_eq_true rfl), (Nat.le_of_ble_eq_true rfl)⟩ hP hK hD hS hA rfl 1 0 rfl rfl rfl hl.1 rfl (Nat.le_of_ble_eq_true rfl) dM_block_9 ⟨Nat.zero_le _, Nat.zero_le _⟩ (fun H locs hP hD hS => ?_)
  refine lv_if_eq (tgt := 17) hx hb dM_block_12 (by decide) (fun h12 => ?_) (fun h12 => absurd (by decide +kernel) h12)
  refine lv_aload_n hx hb dM_block_17 rfl (lv_at hl 0 rfl) ?_
  refine lv_aload_n hx hb dM_block_18 rfl (lv_at hl 0 rfl) ?_
  refine va_get (D := D) (ci := 1) (v := .ref b) (C := R_M) (T := T_M) (N := 3) hx hb hg uM_in hown hK hP 0 rfl rfl 2 (by decide) (hg _ w_272) (fun _ h9 => h9) rfl dM_block_19 ?_
  refine lv_iload_n hx hb dM_block_22 rfl (lv_at hl 1 rfl) ?_
  refine aI hx hb hK hP 2 1 rfl rfl (by omega) (by decide) dM_block_23 ?_
  refine lv_if_ge (tgt := 31) hx hb dM_block_24 (by decide) (fun h24 => absurd h24 (by rw [hu]; decide)) (fun h24 => ?_)
  refine lv_iconst (v := nI 1) hx hb dM_block_27 (by decide +kernel) ?_
  refine lv_goto (tgt := 32) hx hb dM_block_28 (by decide) ?_
  refine lv_iconst (v := nI 2) hx hb dM_block_32 (by decide +kernel) ?_
  refine kVi (n := 2) (As := [.int (nI 1), .int (nI 2)]) (rest := []) ⟨hx, hb, hml, hown, hts⟩ (mM_fails_t l D o a b cA iA (nI 0) cf uf H.size 2) w_292 w_294 v_11 w_2 w_295 (by decide +kernel) ⟨rfl, rfl⟩ ⟨(Nat.le_of_ble_eq_true rfl), (Nat.le_of_ble_eq_true rfl)⟩ hP hK hD hS hA rfl 1 0 rfl rfl rfl hl.1 rfl (Nat.le_of_ble_eq_true rfl) dM_block_33 ⟨Nat.zero_le _, Nat.zero_le _⟩ (fun H locs hP hD hS => ?_)
  refine lv_if_eq (tgt := 43) hx hb dM_block_36 (by decide) (fun h36 => absurd h36 (by decide +kernel)) (fun h36 => ?_)
  refine lv_lconst (v := 0) hx hb dM_block_39 (by decide +kernel) ?_
  refine lv_goto (tgt := 54) hx hb dM_block_40 (by decide) ?_
  exact W.lret (v := 0) hx hb hr (fun t9 ht9 _ => ⟨⟨_, (), rfl, by show _ = _; rfl, by show va_P _ _ _ t9.heap; rw [ht9]; exact hP⟩, hS.F ht9⟩) hS.2.2 dM_block_54
set_option maxHeartbeats 4000000 in
set_option maxRecDepth 100000 in
theorem mM_block_ok (l : Launch) (D : va_G) (o a b : Nat) (cA iA : ClassId) (er : Int32) (cf : Nat → Int64) (uf : Nat → Int32) (sz : Nat) (d t h : Nat) (hd : d < 5) (ht : t < 100) (hh : h < 2) (hu : 0 ≤ uf d) : Met l yM_block (.code yM_block cM_block 4 (some .long) :: gW) ({ frames := 2, cells := 0, slots := 0, locals := 43 }) (pWs D (wM o a b cA iA er cf uf) (kT cA iA) sz [.ref o, .int (nI d), .int (nI t), .int (nI h)]) (QL (cf (ix d t h)) D (wM o a b cA iA (nI 0) cf uf) (va_A (wM o a b cA iA er cf uf) sz)) 0 0 (va_A (wM o a b cA iA er cf uf) sz) := by
  refine Met.ofW (cc := cM_block) (maxL := 4) (ret := (some .long)) (by decide) rfl ?_
  intro p e s m args below meth c s₁ B hml hv
  obtain ⟨rfl, hsz, hP, hK, hD0⟩ := hv
  have hx := B.exec
  have hb := B.bytes
  have hr := B.returns
  have hts := atoms_spec (ws := (.code yM_block cM_block 4 (some .long) :: gW)) B.pre
  have hg : ∀ w ∈ gW, w.before ([.ref o, .int (nI d), .int (nI t), .int (nI h)]).toArray s = true := fun w h => hts w (List.mem_cons_of_mem _ h)
  have hown : s.vm.findClass R_M = some m.cls := findClass_of_methodNamed B.named
  have hlocks := B.notSynchronized
  subst hsz
  have hD := hD0.self (sz := s.heap.size)
  generalize hAe : va_A (wM o a b cA iA er cf uf) s.heap.size = A at hD ⊢
  have hA : ∀ q : Nat, s.heap.size ≤ q → A q := fun q h => by rw [← hAe]; exact Or.inr h
  have hS : va_S A s.heap s.heap [] := va_S.rf
  have hP : va_P D cls_ (wM o a b cA iA er cf uf) s.heap := hP
  have hl := lv_entry ([.ref o, .int (nI d), .int (nI t), .int (nI h)]) (n := 4) (Nat.le_of_ble_eq_true rfl)
  rw [lg_entry_eq]
  generalize (lg_sl ([.ref o, .int (nI d), .int (nI t), .int (nI h)]) ++ List.replicate (4 - (lg_sl ([.ref o, .int (nI d), .int (nI t), .int (nI h)])).length) Slot.unset).toArray = ls at hl ⊢
  have hl : lv_has ls 4 [(0, .ref o), (1, .int (nI d)), (2, .int (nI t)), (3, .int (nI h))] := hl
  refine lv_aload_n hx hb dM_block_0 rfl (lv_at hl 0 rfl) ?_
  refine lv_aload_n hx hb dM_block_1 rfl (lv_at hl 0 rfl) ?_
  refine lv_iload_n hx hb dM_block_2 rfl (lv_at hl 1 rfl) ?_
  refine lv_iload_n hx hb dM_block_3 rfl (lv_at hl 2 rfl) ?_
  refine lv_iload_n hx hb dM_block_4 rfl (lv_at hl 3 rfl) ?_
  refine kV (n := 3) (As := [.int (nI d), .int (nI t), .int (nI h)]) (rest := [.ref o]) ⟨hx, hb, hml, hown, hts⟩ (mM_noBlock l D o a b cA iA er cf uf (nI d) (nI t) (nI h)) w_341 w_343 v_16 w_2 w_344 (by decide +kernel) ⟨rfl, rfl⟩ ⟨(Nat.le_of_ble_eq_true rfl), (Nat.le_of_ble_eq_true rfl)⟩ hP hK 1 0 rfl rfl rfl hl.1 rfl (Nat.le_of_ble_eq_true rfl) dM_block_5 ⟨Nat.zero_le _, Nat.zero_le _⟩ ?_
  refine tI (b9f (by rw [inR_of (by decide) hd, inR_of (by decide) ht, inR_of (by decide) hh]; rfl)) ?_
  refine lv_iconst (v := nI 1) hx hb dM_block_8 (by decide +kernel) ?_
  refine kVi (n := 2) (As := [.int (nI 0), .int (nI 1)]) (rest := []) ⟨hx, hb, hml, hown, hts⟩ (mM_fails_f l D o a b cA iA er cf uf s.heap.size 1) w_292 w_294 v_11 w_2 w_295 (by decide +kernel) ⟨rfl, rfl⟩ ⟨(Nat.le_of_ble_eq_true rfl), (Nat.le_of_ble_eq_true rfl)⟩ hP hK hD hS hA rfl 1 0 rfl rfl rfl hl.1 rfl (Nat.le_of_ble_eq_true rfl) dM_block_9 ⟨Nat.zero_le _, Nat.zero_le _⟩ (fun H locs hP hD hS => ?_)
  refine lv_if_eq (tgt := 17) hx hb dM_block_12 (by decide) (fun h12 => ?_) (fun h12 => absurd (by decide +kernel) h12)
  refine lv_aload_n hx hb dM_block_17 rfl (lv_at hl 0 rfl) ?_
  refine lv_aload_n hx hb dM_block_18 rfl (lv_at hl 0 rfl) ?_
  refine va_get (D := D) (ci := 1) (v := .ref b) (C := R_M) (T := T_M) (N := 3) hx hb hg uM_in hown hK hP 0 rfl rfl 2 (by decide) (hg _ w_272) (fun _ h9 => h9) rfl dM_block_19 ?_
  refine lv_iload_n hx hb dM_block_22 rfl (lv_at hl 1 rfl) ?_
  refine aI hx hb hK hP 2 1 rfl rfl (by omega) (by decide) dM_block_23 ?_
  refine lv_if_ge (tgt := 31) hx hb dM_block_24 (by decide) (fun h24 => ?_) (fun h24 => absurd hu h24)
  refine lv_iconst (v := nI 0) hx hb dM_block_31 (by decide +kernel) ?_
  refine lv_iconst (v := nI 2) hx hb dM_block_32 (by decide +kernel) ?_
  refine kVi (n := 2) (As := [.int (nI 0), .int (nI 2)]) (rest := []) ⟨hx, hb, hml, hown, hts⟩ (mM_fails_f l D o a b cA iA (nI 0) cf uf H.size 2) w_292 w_294 v_11 w_2 w_295 (by decide +kernel) ⟨rfl, rfl⟩ ⟨(Nat.le_of_ble_eq_true rfl), (Nat.le_of_ble_eq_true rfl)⟩ hP hK hD hS hA rfl 1 0 rfl rfl rfl hl.1 rfl (Nat.le_of_ble_eq_true rfl) dM_block_33 ⟨Nat.zero_le _, Nat.zero_le _⟩ (fun H locs hP hD hS => ?_)
  refine lv_if_eq (tgt := 43) hx hb dM_block_36 (by decide) (fun h36 => ?_) (fun h36 => absurd (by decide +kernel) h36)
  refine lv_aload_n hx hb dM_block_43 rfl (lv_at hl 0 rfl) ?_
  refine va_get (D := D) (ci := 1) (v := .ref a) (C := R_M) (T := T_M) (N := 3) hx hb hg uM_in hown hK hP 0 rfl rfl 1 (by decide) (hg _ w_271) (fun _ h9 => h9) rfl dM_block_44 ?_
  refine lv_iload_n hx hb dM_block_47 rfl (lv_at hl 1 rfl) ?_
  refine lv_iload_n hx hb dM_block_48 rfl (lv_at hl 2 rfl) ?_
  refine lv_iload_n hx hb dM_block_49 rfl (lv_at hl 3 rfl) ?_
  refine kS (n := 3) (As := [.int (nI d), .int (nI t), .int (nI h)]) (rest := [.ref a]) ⟨hx, hb, hml, hown, hts⟩ (mM_at l d t h) w_311 w_312 w_2 w_313 (by decide +kernel) ⟨rfl, rfl⟩ ⟨(Nat.le_of_ble_eq_true rfl), (Nat.le_of_ble_eq_true rfl)⟩ rfl hl.1 rfl (Nat.le_of_ble_eq_true rfl) dM_block_50 ⟨Nat.zero_le _, Nat.zero_le _⟩ ?_
  refine aL hx hb hK hP 1 0 rfl rfl (ix_lt (by omega) (by omega) (by omega)) (by decide) dM_block_53 ?_
  exact W.lret (v := cf (ix d t h)) hx hb hr (fun t9 ht9 _ => ⟨⟨_, (), rfl, by show _ = _; rfl, by show va_P _ _ _ t9.heap; rw [ht9]; exact hP⟩, hS.F ht9⟩) hS.2.2 dM_block_54
set_option maxHeartbeats 4000000 in
set_option maxRecDepth 100000 in
theorem mM_replace_a (l : Launch) (D : va_G) (o a b : Nat) (cA iA : ClassId) (er : Int32) (cf : Nat → Int64) (uf : Nat → Int32) (sz : Nat) (x : Int32) (hbad : inR x 5 = false) : Met l yM_replace (.code yM_replace cM_replace 3 none :: gW) ({ frames := 1, cells := 0, slots := 0, locals := 22 }) (pWs D (wM o a b cA iA er cf uf) (kT cA iA) sz [.ref o, .int x]) (QV D (wM o a b cA iA (nI 1) cf uf) (va_A (wM o a b cA iA er cf uf) sz)) 0 0 (va_A (wM o a b cA iA er cf uf) sz) := by
  refine Met.ofW (cc := cM_replace) (maxL := 3) (ret := none) (by decide) rfl ?_
  intro p e s m args below meth c s₁ B hml hv
  obtain ⟨rfl, hsz, hP, hK, hD0⟩ := hv
  have hx := B.exec
  have hb := B.bytes
  have hr := B.returns
  have hts := atoms_spec (ws := (.code yM_replace cM_replace 3 none :: gW)) B.pre
  have hg : ∀ w ∈ gW, w.before ([.ref o, .int x]).toArray s = true := fun w h => hts w (List.mem_cons_of_mem _ h)
  have hown : s.vm.findClass R_M = some m.cls := findClass_of_methodNamed B.named
  have hlocks := B.notSynchronized
  subst hsz
  have hD := hD0.self (sz := s.heap.size)
  generalize hAe : va_A (wM o a b cA iA er cf uf) s.heap.size = A at hD ⊢
  have hA : ∀ q : Nat, s.heap.size ≤ q → A q := fun q h => by rw [← hAe]; exact Or.inr h
  have hS : va_S A s.heap s.heap [] := va_S.rf
  have hP : va_P D cls_ (wM o a b cA iA er cf uf) s.heap := hP
  have hl := lv_entry ([.ref o, .int x]) (n := 3) (Nat.le_of_ble_eq_true rfl)
  rw [lg_entry_eq]
  generalize (lg_sl ([.ref o, .int x]) ++ List.replicate (3 - (lg_sl ([.ref o, .int x])).length) Slot.unset).toArray = ls at hl ⊢
  have hl : lv_has ls 3 [(0, .ref o), (1, .int x)] := hl
  refine lv_aload_n hx hb dM_replace_0 rfl (lv_at hl 0 rfl) ?_
  refine lv_iload_n hx hb dM_replace_1 rfl (lv_at hl 1 rfl) ?_
  refine kS (n := 1) (As := [.int x]) (rest := [.ref o]) ⟨hx, hb, hml, hown, hts⟩ (mM_none l x) w_326 w_327 w_2 w_328 (by decide +kernel) ⟨rfl, rfl⟩ ⟨(Nat.le_of_ble_eq_true rfl), (Nat.le_of_ble_eq_true rfl)⟩ rfl hl.1 rfl (Nat.le_of_ble_eq_true rfl) dM_replace_2 ⟨Nat.zero_le _, Nat.zero_le _⟩ ?_
  refine tI (b9t (by rw [hbad]; rfl)) ?_
  refine lv_iconst (v := nI 1) hx hb dM_replace_5 (by decide +kernel) ?_
  refine kVi (n := 2) (As := [.int (nI 1), .int (nI 1)]) (rest := []) ⟨hx, hb, hml, hown, hts⟩ (mM_fails_t l D o a b cA iA er cf uf s.heap.size 1) w_292 w_294 v_11 w_2 w_295 (by decide +kernel) ⟨rfl, rfl⟩ ⟨(Nat.le_of_ble_eq_true rfl), (Nat.le_of_ble_eq_true rfl)⟩ hP hK hD hS hA rfl 1 0 rfl rfl rfl hl.1 rfl (Nat.le_of_ble_eq_true rfl) dM_replace_6 ⟨Nat.zero_le _, Nat.zero_le _⟩ (fun H locs hP hD hS => ?_)
  refine lv_if_eq (tgt := 13) hx hb dM_replace_9 (by decide) (fun h9 => absurd h9 (by decide +kernel)) (fun h9 => ?_)
  exact W.vret hx hb hr (fun t9 ht9 _ => ⟨⟨(), rfl, trivial, by show va_P _ _ _ t9.heap; rw [ht9]; exact hP⟩, hS.F ht9⟩) hS.2.2 dM_replace_12
set_option maxHeartbeats 4000000 in
set_option maxRecDepth 100000 in
theorem mM_replace_s (l : Launch) (D : va_G) (o a b : Nat) (cA iA : ClassId) (er : Int32) (cf : Nat → Int64) (uf : Nat → Int32) (sz : Nat) (d : Nat) (hd : d < 5) (hu : 0 ≤ uf d) : Met l yM_replace (.code yM_replace cM_replace 3 none :: gW) ({ frames := 1, cells := 0, slots := 0, locals := 22 }) (pWs D (wM o a b cA iA er cf uf) (kT cA iA) sz [.ref o, .int (nI d)]) (QV D (wM o a b cA iA (nI 2) cf uf) (va_A (wM o a b cA iA er cf uf) sz)) 0 0 (va_A (wM o a b cA iA er cf uf) sz) := by
  refine Met.ofW (cc := cM_replace) (maxL := 3) (ret := none) (by decide) rfl ?_
  intro p e s m args below meth c s₁ B hml hv
  obtain ⟨rfl, hsz, hP, hK, hD0⟩ := hv
  have hx := B.exec
  have hb := B.bytes
  have hr := B.returns
  have hts := atoms_spec (ws := (.code yM_replace cM_replace 3 none :: gW)) B.pre
  have hg : ∀ w ∈ gW, w.before ([.ref o, .int (nI d)]).toArray s = true := fun w h => hts w (List.mem_cons_of_mem _ h)
  have hown : s.vm.findClass R_M = some m.cls := findClass_of_methodNamed B.named
  have hlocks := B.notSynchronized
  subst hsz
  have hD := hD0.self (sz := s.heap.size)
  generalize hAe : va_A (wM o a b cA iA er cf uf) s.heap.size = A at hD ⊢
  have hA : ∀ q : Nat, s.heap.size ≤ q → A q := fun q h => by rw [← hAe]; exact Or.inr h
  have hS : va_S A s.heap s.heap [] := va_S.rf
  have hP : va_P D cls_ (wM o a b cA iA er cf uf) s.heap := hP
  have hl := lv_entry ([.ref o, .int (nI d)]) (n := 3) (Nat.le_of_ble_eq_true rfl)
  rw [lg_entry_eq]
  generalize (lg_sl ([.ref o, .int (nI d)]) ++ List.replicate (3 - (lg_sl ([.ref o, .int (nI d)])).length) Slot.unset).toArray = ls at hl ⊢
  have hl : lv_has ls 3 [(0, .ref o), (1, .int (nI d))] := hl
  refine lv_aload_n hx hb dM_replace_0 rfl (lv_at hl 0 rfl) ?_
  refine lv_iload_n hx hb dM_replace_1 rfl (lv_at hl 1 rfl) ?_
  refine kS (n := 1) (As := [.int (nI d)]) (rest := [.ref o]) ⟨hx, hb, hml, hown, hts⟩ (mM_none l (nI d)) w_326 w_327 w_2 w_328 (by decide +kernel) ⟨rfl, rfl⟩ ⟨(Nat.le_of_ble_eq_true rfl), (Nat.le_of_ble_eq_true rfl)⟩ rfl hl.1 rfl (Nat.le_of_ble_eq_true rfl) dM_replace_2 ⟨Nat.zero_le _, Nat.zero_le _⟩ ?_
  refine tI (b9f (by rw [inR_of (by decide) hd]; rfl)) ?_
  refine lv_iconst (v := nI 1) hx hb dM_replace_5 (by decide +kernel) ?_
  refine kVi (n := 2) (As := [.int (nI 0), .int (nI 1)]) (rest := []) ⟨hx, hb, hml, hown, hts⟩ (mM_fails_f l D o a b cA iA er cf uf s.heap.size 1) w_292 w_294 v_11 w_2 w_295 (by decide +kernel) ⟨rfl, rfl⟩ ⟨(Nat.le_of_ble_eq_true rfl), (Nat.le_of_ble_eq_true rfl)⟩ hP hK hD hS hA rfl 1 0 rfl rfl rfl hl.1 rfl (Nat.le_of_ble_eq_true rfl) dM_replace_6 ⟨Nat.zero_le _, Nat.zero_le _⟩ (fun H locs hP hD hS => ?_)
  refine lv_if_eq (tgt := 13) hx hb dM_replace_9 (by decide) (fun h9 => ?_) (fun h9 => absurd (by decide +kernel) h9)
  refine lv_aload_n hx hb dM_replace_13 rfl (lv_at hl 0 rfl) ?_
  refine lv_aload_n hx hb dM_replace_14 rfl (lv_at hl 0 rfl) ?_
  refine va_get (D := D) (ci := 1) (v := .ref b) (C := R_M) (T := T_M) (N := 3) hx hb hg uM_in hown hK hP 0 rfl rfl 2 (by decide) (hg _ w_272) (fun _ h9 => h9) rfl dM_replace_15 ?_
  refine lv_iload_n hx hb dM_replace_18 rfl (lv_at hl 1 rfl) ?_
  refine aI hx hb hK hP 2 1 rfl rfl (by omega) (by decide) dM_replace_19 ?_
  refine lv_if_lt (tgt := 27) hx hb dM_replace_20 (by decide) (fun h20 => absurd h20 (Int32.not_lt.mpr hu)) (fun h20 => ?_)
  refine lv_iconst (v := nI 1) hx hb dM_replace_23 (by decide +kernel) ?_
  refine lv_goto (tgt := 28) hx hb dM_replace_24 (by decide) ?_
  refine lv_iconst (v := nI 2) hx hb dM_replace_28 (by decide +kernel) ?_
  refine kVi (n := 2) (As := [.int (nI 1), .int (nI 2)]) (rest := []) ⟨hx, hb, hml, hown, hts⟩ (mM_fails_t l D o a b cA iA (nI 0) cf uf H.size 2) w_292 w_294 v_11 w_2 w_295 (by decide +kernel) ⟨rfl, rfl⟩ ⟨(Nat.le_of_ble_eq_true rfl), (Nat.le_of_ble_eq_true rfl)⟩ hP hK hD hS hA rfl 1 0 rfl rfl rfl hl.1 rfl (Nat.le_of_ble_eq_true rfl) dM_replace_29 ⟨Nat.zero_le _, Nat.zero_le _⟩ (fun H locs hP hD hS => ?_)
  refine lv_if_eq (tgt := 36) hx hb dM_replace_32 (by decide) (fun h32 => absurd h32 (by decide +kernel)) (fun h32 => ?_)
  exact W.vret hx hb hr (fun t9 ht9 _ => ⟨⟨(), rfl, trivial, by show va_P _ _ _ t9.heap; rw [ht9]; exact hP⟩, hS.F ht9⟩) hS.2.2 dM_replace_35
set_option maxHeartbeats 4000000 in
set_option maxRecDepth 100000 in
theorem mM_replace_ok (l : Launch) (D : va_G) (o a b : Nat) (cA iA : ClassId) (er : Int32) (cf : Nat → Int64) (uf : Nat → Int32) (sz : Nat) (d : Nat) (hd : d < 5) (hu : uf d = -1) : Met l yM_replace (.code yM_replace cM_replace 3 none :: gW) ({ frames := 1, cells := 0, slots := 0, locals := 22 }) (pWs D (wM o a b cA iA er cf uf) (kT cA iA) sz [.ref o, .int (nI d)]) (QV D (wM o a b cA iA (nI 0) (zr cf d 100) (upd uf d (nI 0))) (va_A (wM o a b cA iA er cf uf) sz)) 0 0 (va_A (wM o a b cA iA er cf uf) sz) := by
  refine Met.ofW (cc := cM_replace) (maxL := 3) (ret := none) (by decide) rfl ?_
  intro p e s m args below meth c s₁ B hml hv
  obtain ⟨rfl, hsz, hP, hK, hD0⟩ := hv
  have hx := B.exec
  have hb := B.bytes
  have hr := B.returns
  have hts := atoms_spec (ws := (.code yM_replace cM_replace 3 none :: gW)) B.pre
  have hg : ∀ w ∈ gW, w.before ([.ref o, .int (nI d)]).toArray s = true := fun w h => hts w (List.mem_cons_of_mem _ h)
  have hown : s.vm.findClass R_M = some m.cls := findClass_of_methodNamed B.named
  have hlocks := B.notSynchronized
  subst hsz
  have hD := hD0.self (sz := s.heap.size)
  generalize hAe : va_A (wM o a b cA iA er cf uf) s.heap.size = A at hD ⊢
  have hA : ∀ q : Nat, s.heap.size ≤ q → A q := fun q h => by rw [← hAe]; exact Or.inr h
  have hS : va_S A s.heap s.heap [] := va_S.rf
  have hP : va_P D cls_ (wM o a b cA iA er cf uf) s.heap := hP
  have hl := lv_entry ([.ref o, .int (nI d)]) (n := 3) (Nat.le_of_ble_eq_true rfl)
  rw [lg_entry_eq]
  generalize (lg_sl ([.ref o, .int (nI d)]) ++ List.replicate (3 - (lg_sl ([.ref o, .int (nI d)])).length) Slot.unset).toArray = ls at hl ⊢
  have hl : lv_has ls 3 [(0, .ref o), (1, .int (nI d))] := hl
  refine lv_aload_n hx hb dM_replace_0 rfl (lv_at hl 0 rfl) ?_
  refine lv_iload_n hx hb dM_replace_1 rfl (lv_at hl 1 rfl) ?_
  refine kS (n := 1) (As := [.int (nI d)]) (rest := [.ref o]) ⟨hx, hb, hml, hown, hts⟩ (mM_none l (nI d)) w_326 w_327 w_2 w_328 (by decide +kernel) ⟨rfl, rfl⟩ ⟨(Nat.le_of_ble_eq_true rfl), (Nat.le_of_ble_eq_true rfl)⟩ rfl hl.1 rfl (Nat.le_of_ble_eq_true rfl) dM_replace_2 ⟨Nat.zero_le _, Nat.zero_le _⟩ ?_
  refine tI (b9f (by rw [inR_of (by decide) hd]; rfl)) ?_
  refine lv_iconst (v := nI 1) hx hb dM_replace_5 (by decide +kernel) ?_
  refine kVi (n := 2) (As := [.int (nI 0), .int (nI 1)]) (rest := []) ⟨hx, hb, hml, hown, hts⟩ (mM_fails_f l D o a b cA iA er cf uf s.heap.size 1) w_292 w_294 v_11 w_2 w_295 (by decide +kernel) ⟨rfl, rfl⟩ ⟨(Nat.le_of_ble_eq_true rfl), (Nat.le_of_ble_eq_true rfl)⟩ hP hK hD hS hA rfl 1 0 rfl rfl rfl hl.1 rfl (Nat.le_of_ble_eq_true rfl) dM_replace_6 ⟨Nat.zero_le _, Nat.zero_le _⟩ (fun H locs hP hD hS => ?_)
  refine lv_if_eq (tgt := 13) hx hb dM_replace_9 (by decide) (fun h9 => ?_) (fun h9 => absurd (by decide +kernel) h9)
  refine lv_aload_n hx hb dM_replace_13 rfl (lv_at hl 0 rfl) ?_
  refine lv_aload_n hx hb dM_replace_14 rfl (lv_at hl 0 rfl) ?_
  refine va_get (D := D) (ci := 1) (v := .ref b) (C := R_M) (T := T_M) (N := 3) hx hb hg uM_in hown hK hP 0 rfl rfl 2 (by decide) (hg _ w_272) (fun _ h9 => h9) rfl dM_replace_15 ?_
  refine lv_iload_n hx hb dM_replace_18 rfl (lv_at hl 1 rfl) ?_
  refine aI hx hb hK hP 2 1 rfl rfl (by omega) (by decide) dM_replace_19 ?_
  refine lv_if_lt (tgt := 27) hx hb dM_replace_20 (by decide) (fun h20 => ?_) (fun h20 => absurd (by rw [hu]; decide) h20)
  refine lv_iconst (v := nI 0) hx hb dM_replace_27 (by decide +kernel) ?_
  refine lv_iconst (v := nI 2) hx hb dM_replace_28 (by decide +kernel) ?_
  refine kVi (n := 2) (As := [.int (nI 0), .int (nI 2)]) (rest := []) ⟨hx, hb, hml, hown, hts⟩ (mM_fails_f l D o a b cA iA (nI 0) cf uf H.size 2) w_292 w_294 v_11 w_2 w_295 (by decide +kernel) ⟨rfl, rfl⟩ ⟨(Nat.le_of_ble_eq_true rfl), (Nat.le_of_ble_eq_true rfl)⟩ hP hK hD hS hA rfl 1 0 rfl rfl rfl hl.1 rfl (Nat.le_of_ble_eq_true rfl) dM_replace_29 ⟨Nat.zero_le _, Nat.zero_le _⟩ (fun H locs hP hD hS => ?_)
  refine lv_if_eq (tgt := 36) hx hb dM_replace_32 (by decide) (fun h32 => ?_) (fun h32 => absurd (by decide +kernel) h32)
  refine lv_aload_n hx hb dM_replace_36 rfl (lv_at hl 0 rfl) ?_
  refine va_get (D := D) (ci := 1) (v := .ref b) (C := R_M) (T := T_M) (N := 3) hx hb hg uM_in hown hK hP 0 rfl rfl 2 (by decide) (hg _ w_272) (fun _ h9 => h9) rfl dM_replace_37 ?_
  refine lv_iload_n hx hb dM_replace_40 rfl (lv_at hl 1 rfl) ?_
  refine lv_iconst (v := nI 0) hx hb dM_replace_41 (by decide +kernel) ?_
  refine sI hx hb hK hP hD hS 2 1 rfl rfl (by omega) (by decide) dM_replace_42 (fun H locs hP hD hS => ?_)
  have hP : va_P D cls_ (wM o a b cA iA (nI 0) cf (upd uf d (nI 0))) H := hP
  have hD : va_D A (wM o a b cA iA (nI 0) cf (upd uf d (nI 0))) := hD
  refine lv_iconst (v := nI 0) hx hb dM_replace_43 (by decide +kernel) ?_
  refine lv_istore_n hx hb dM_replace_44 rfl hl (by decide) rfl (fun ls hl => ?_)
  have hl : lv_has ls 3 [(2, .int (nI 0)), (0, .ref o), (1, .int (nI d))] := hl
  rw [← zr_0 cf d] at hP hD
  have key : ∀ (n : Nat) (j : Nat) (H : Heap) (locs : List Loc) (ls : Array Slot), j + n = 100 →  va_P D cls_ (wM o a b cA iA (nI 0) (zr cf d j) (upd uf d (nI 0))) H → va_D A (wM o a b cA iA (nI 0) (zr cf d j) (upd uf d (nI 0))) → va_S A s.heap H locs → lv_has ls 3 [(2, .int (nI j)), (0, .ref o), (1, .int (nI d))] → W p l e (headSpec (.code yM_replace cM_replace 3 none :: gW) ({ frames := 1, cells := 0, slots := 0, locals := 22 })).room s m ([.ref o, .int (nI d)]).toArray below meth c H locs 0 0 (MQ below (QV D (wM o a b cA iA (nI 0) (zr cf d 100) (upd uf d (nI 0))) A) ([.ref o, .int (nI d)]).toArray s 0 0 A) (F0 m 45 ls []) := by
    intro n
    induction n with
    | zero =>
      intro j H locs ls hj hP hD hS hl
      obtain rfl : j = 100 := by omega
      refine lv_iload_n hx hb dM_replace_45 rfl (lv_at hl 0 rfl) ?_
      refine lv_bipush (v := nI 100) hx hb dM_replace_46 (by decide +kernel) ?_
      refine lv_icmp_ge (tgt := 81) hx hb dM_replace_48 (by decide) (fun h48 => ?_) (fun h48 => absurd (nI_le (Nat.le_refl 100) (by decide)) h48)
      exact W.vret hx hb hr (fun t9 ht9 _ => ⟨⟨(), rfl, trivial, by show va_P _ _ _ t9.heap; rw [ht9]; exact hP⟩, hS.F ht9⟩) hS.2.2 dM_replace_81
    | succ n ih =>
      intro j H locs ls hj hP hD hS hl
      refine lv_iload_n hx hb dM_replace_45 rfl (lv_at hl 0 rfl) ?_
      refine lv_bipush (v := nI 100) hx hb dM_replace_46 (by decide +kernel) ?_
      refine lv_icmp_ge (tgt := 81) hx hb dM_replace_48 (by decide) (fun h48 => absurd h48 (nI_ge (by omega) (by decide))) (fun h48 => ?_)
      refine lv_aload_n hx hb dM_replace_51 rfl (lv_at hl 1 rfl) ?_
      refine va_get (D := D) (ci := 1) (v := .ref a) (C := R_M) (T := T_M) (N := 3) hx hb hg uM_in hown hK hP 0 rfl rfl 1 (by decide) (hg _ w_271) (fun _ h9 => h9) rfl dM_replace_52 ?_
      refine lv_iload_n hx hb dM_replace_55 rfl (lv_at hl 2 rfl) ?_
      refine lv_iload_n hx hb dM_replace_56 rfl (lv_at hl 0 rfl) ?_
      refine lv_iconst (v := nI 0) hx hb dM_replace_57 (by decide +kernel) ?_
      refine kS (n := 3) (As := [.int (nI d), .int (nI j), .int (nI 0)]) (rest := [.ref a]) ⟨hx, hb, hml, hown, hts⟩ (mM_at l d j 0) w_311 w_312 w_2 w_313 (by decide +kernel) ⟨rfl, rfl⟩ ⟨(Nat.le_of_ble_eq_true rfl), (Nat.le_of_ble_eq_true rfl)⟩ rfl hl.1 rfl (Nat.le_of_ble_eq_true rfl) dM_replace_58 ⟨Nat.zero_le _, Nat.zero_le _⟩ ?_
      refine lv_lconst (v := 0) hx hb dM_replace_61 (by decide +kernel) ?_
      refine sL hx hb hK hP hD hS 1 0 rfl rfl (ix_lt (by omega) (by omega) (by omega)) (by decide) dM_replace_62 (fun H locs hP hD hS => ?_)
      have hP : va_P D cls_ (wM o a b cA iA (nI 0) (vp_updL (zr cf d j) (ix d j 0) 0) (upd uf d (nI 0))) H := hP
      have hD : va_D A (wM o a b cA iA (nI 0) (vp_updL (zr cf d j) (ix d j 0) 0) (upd uf d (nI 0))) := hD
      refine lv_aload_n hx hb dM_replace_63 rfl (lv_at hl 1 rfl) ?_
      refine va_get (D := D) (ci := 1) (v := .ref a) (C := R_M) (T := T_M) (N := 3) hx hb hg uM_in hown hK hP 0 rfl rfl 1 (by decide) (hg _ w_271) (fun _ h9 => h9) rfl dM_replace_64 ?_
      refine lv_iload_n hx hb dM_replace_67 rfl (lv_at hl 2 rfl) ?_
      refine lv_iload_n hx hb dM_replace_68 rfl (lv_at hl 0 rfl) ?_
      refine lv_iconst (v := nI 1) hx hb dM_replace_69 (by decide +kernel) ?_
      refine kS (n := 3) (As := [.int (nI d), .int (nI j), .int (nI 1)]) (rest := [.ref a]) ⟨hx, hb, hml, hown, hts⟩ (mM_at l d j 1) w_311 w_312 w_2 w_313 (by decide +kernel) ⟨rfl, rfl⟩ ⟨(Nat.le_of_ble_eq_true rfl), (Nat.le_of_ble_eq_true rfl)⟩ rfl hl.1 rfl (Nat.le_of_ble_eq_true rfl) dM_replace_70 ⟨Nat.zero_le _, Nat.zero_le _⟩ ?_
      refine lv_lconst (v := 0) hx hb dM_replace_73 (by decide +kernel) ?_
      refine sL hx hb hK hP hD hS 1 0 rfl rfl (ix_lt (by omega) (by omega) (by omega)) (by decide) dM_replace_74 (fun H locs hP hD hS => ?_)
      have hP : va_P D cls_ (wM o a b cA iA (nI 0) (vp_updL (vp_updL (zr cf d j) (ix d j 0) 0) (ix d j 1) 0) (upd uf d (nI 0))) H := hP
      have hD : va_D A (wM o a b cA iA (nI 0) (vp_updL (vp_updL (zr cf d j) (ix d j 0) 0) (ix d j 1) 0) (upd uf d (nI 0))) := hD
      refine lv_iinc (k := 0) (v := nI (j + 1)) hx hb dM_replace_75 hl rfl (incI _)  (by decide) rfl (fun ls hl => ?_)
      have hl : lv_has ls 3 [(2, .int (nI (j + 1))), (0, .ref o), (1, .int (nI d))] := hl
      refine lv_goto (tgt := 45) hx hb dM_replace_78 (by decide) ?_
      rw [zr_s] at hP hD
      exact ih (j + 1) _ _ _ (by omega) hP hD hS hl
  exact key 100 0 _ _ _ rfl hP hD hS hl
set_option maxHeartbeats 4000000 in
set_option maxRecDepth 100000 in
theorem mM_rebuild_a (l : Launch) (D : va_G) (o a b : Nat) (cA iA : ClassId) (er : Int32) (cf : Nat → Int64) (uf : Nat → Int32) (sz : Nat) (x n : Int32) (hbad : (inR x 5 && !decide (n < 0)) = false) : Met l yM_rebuild (.code yM_rebuild cM_rebuild 5 (some .int) :: gW) ({ frames := 2, cells := 0, slots := 0, locals := 48 }) (pWs D (wM o a b cA iA er cf uf) (kT cA iA) sz [.ref o, .int x, .int n]) (QI (nI 0) D (wM o a b cA iA (nI 1) cf uf) (va_A (wM o a b cA iA er cf uf) sz)) 0 0 (va_A (wM o a b cA iA er cf uf) sz) := by
  refine Met.ofW (cc := cM_rebuild) (maxL := 5) (ret := (some .int)) (by decide) rfl ?_
  intro p e s m args below meth c s₁ B hml hv
  obtain ⟨rfl, hsz, hP, hK, hD0⟩ := hv
  have hx := B.exec
  have hb := B.bytes
  have hr := B.returns
  have hts := atoms_spec (ws := (.code yM_rebuild cM_rebuild 5 (some .int) :: gW)) B.pre
  have hg : ∀ w ∈ gW, w.before ([.ref o, .int x, .int n]).toArray s = true := fun w h => hts w (List.mem_cons_of_mem _ h)
  have hown : s.vm.findClass R_M = some m.cls := findClass_of_methodNamed B.named
  have hlocks := B.notSynchronized
  subst hsz
  have hD := hD0.self (sz := s.heap.size)
  generalize hAe : va_A (wM o a b cA iA er cf uf) s.heap.size = A at hD ⊢
  have hA : ∀ q : Nat, s.heap.size ≤ q → A q := fun q h => by rw [← hAe]; exact Or.inr h
  have hS : va_S A s.heap s.heap [] := va_S.rf
  have hP : va_P D cls_ (wM o a b cA iA er cf uf) s.heap := hP
  have hl := lv_entry ([.ref o, .int x, .int n]) (n := 5) (Nat.le_of_ble_eq_true rfl)
  rw [lg_entry_eq]
  generalize (lg_sl ([.ref o, .int x, .int n]) ++ List.replicate (5 - (lg_sl ([.ref o, .int x, .int n])).length) Slot.unset).toArray = ls at hl ⊢
  have hl : lv_has ls 5 [(0, .ref o), (1, .int x), (2, .int n)] := hl
  refine lv_aload_n hx hb dM_rebuild_0 rfl (lv_at hl 0 rfl) ?_
  refine lv_iload_n hx hb dM_rebuild_1 rfl (lv_at hl 1 rfl) ?_
  refine kS (n := 1) (As := [.int x]) (rest := [.ref o]) ⟨hx, hb, hml, hown, hts⟩ (mM_none l x) w_326 w_327 w_2 w_328 (by decide +kernel) ⟨rfl, rfl⟩ ⟨(Nat.le_of_ble_eq_true rfl), (Nat.le_of_ble_eq_true rfl)⟩ rfl hl.1 rfl (Nat.le_of_ble_eq_true rfl) dM_rebuild_2 ⟨Nat.zero_le _, Nat.zero_le _⟩ ?_
  refine lv_if_ne (tgt := 12) hx hb dM_rebuild_5 (by decide) (fun h5 => ?_) (fun h5 => ?_)
  · refine lv_iconst (v := nI 1) hx hb dM_rebuild_12 (by decide +kernel) ?_
    refine lv_goto (tgt := 17) hx hb dM_rebuild_13 (by decide) ?_
    refine lv_iconst (v := nI 1) hx hb dM_rebuild_17 (by decide +kernel) ?_
    refine kVi (n := 2) (As := [.int (nI 1), .int (nI 1)]) (rest := []) ⟨hx, hb, hml, hown, hts⟩ (mM_fails_t l D o a b cA iA er cf uf s.heap.size 1) w_292 w_294 v_11 w_2 w_295 (by decide +kernel) ⟨rfl, rfl⟩ ⟨(Nat.le_of_ble_eq_true rfl), (Nat.le_of_ble_eq_true rfl)⟩ hP hK hD hS hA rfl 1 0 rfl rfl rfl hl.1 rfl (Nat.le_of_ble_eq_true rfl) dM_rebuild_18 ⟨Nat.zero_le _, Nat.zero_le _⟩ (fun H locs hP hD hS => ?_)
    refine lv_if_eq (tgt := 26) hx hb dM_rebuild_21 (by decide) (fun h21 => absurd h21 (by decide +kernel)) (fun h21 => ?_)
    refine lv_iconst (v := nI 0) hx hb dM_rebuild_24 (by decide +kernel) ?_
    exact W.iret (v := nI 0) hx hb hr (fun t9 ht9 _ => ⟨⟨_, (), rfl, by show _ = _; rfl, by show va_P _ _ _ t9.heap; rw [ht9]; exact hP⟩, hS.F ht9⟩) hS.2.2 dM_rebuild_25
  · have c5 := nb_t (bi_0 h5)
    refine lv_iload_n hx hb dM_rebuild_8 rfl (lv_at hl 2 rfl) ?_
    refine lv_if_ge (tgt := 16) hx hb dM_rebuild_9 (by decide) (fun h9 => absurd h9 (fun z => by rw [c5, decide_eq_false (Int32.not_lt.mpr z)] at hbad; exact Bool.noConfusion hbad)) (fun h9 => ?_)
    refine lv_iconst (v := nI 1) hx hb dM_rebuild_12 (by decide +kernel) ?_
    refine lv_goto (tgt := 17) hx hb dM_rebuild_13 (by decide) ?_
    refine lv_iconst (v := nI 1) hx hb dM_rebuild_17 (by decide +kernel) ?_
    refine kVi (n := 2) (As := [.int (nI 1), .int (nI 1)]) (rest := []) ⟨hx, hb, hml, hown, hts⟩ (mM_fails_t l D o a b cA iA er cf uf s.heap.size 1) w_292 w_294 v_11 w_2 w_295 (by decide +kernel) ⟨rfl, rfl⟩ ⟨(Nat.le_of_ble_eq_true rfl), (Nat.le_of_ble_eq_true rfl)⟩ hP hK hD hS hA rfl 1 0 rfl rfl rfl hl.1 rfl (Nat.le_of_ble_eq_true rfl) dM_rebuild_18 ⟨Nat.zero_le _, Nat.zero_le _⟩ (fun H locs hP hD hS => ?_)
    refine lv_if_eq (tgt := 26) hx hb dM_rebuild_21 (by decide) (fun h21 => absurd h21 (by decide +kernel)) (fun h21 => ?_)
    refine lv_iconst (v := nI 0) hx hb dM_rebuild_24 (by decide +kernel) ?_
    exact W.iret (v := nI 0) hx hb hr (fun t9 ht9 _ => ⟨⟨_, (), rfl, by show _ = _; rfl, by show va_P _ _ _ t9.heap; rw [ht9]; exact hP⟩, hS.F ht9⟩) hS.2.2 dM_rebuild_25
set_option maxHeartbeats 4000000 in
set_option maxRecDepth 100000 in
theorem mM_rebuild_s (l : Launch) (D : va_G) (o a b : Nat) (cA iA : ClassId) (er : Int32) (cf : Nat → Int64) (uf : Nat → Int32) (sz : Nat) (d : Nat) (n : Int32) (hd : d < 5) (hn : 0 ≤ n) (hu : uf d = nI 100 ∨ uf d < 0) : Met l yM_rebuild (.code yM_rebuild cM_rebuild 5 (some .int) :: gW) ({ frames := 2, cells := 0, slots := 0, locals := 48 }) (pWs D (wM o a b cA iA er cf uf) (kT cA iA) sz [.ref o, .int (nI d), .int n]) (QI (nI 0) D (wM o a b cA iA (nI 2) cf uf) (va_A (wM o a b cA iA er cf uf) sz)) 0 0 (va_A (wM o a b cA iA er cf uf) sz) := by
  refine Met.ofW (cc := cM_rebuild) (maxL := 5) (ret := (some .int)) (by decide) rfl ?_
  intro p e s m args below meth c s₁ B hml hv
  obtain ⟨rfl, hsz, hP, hK, hD0⟩ := hv
  have hx := B.exec
  have hb := B.bytes
  have hr := B.returns
  have hts := atoms_spec (ws := (.code yM_rebuild cM_rebuild 5 (some .int) :: gW)) B.pre
  have hg : ∀ w ∈ gW, w.before ([.ref o, .int (nI d), .int n]).toArray s = true := fun w h => hts w (List.mem_cons_of_mem _ h)
  have hown : s.vm.findClass R_M = some m.cls := findClass_of_methodNamed B.named
  have hlocks := B.notSynchronized
  subst hsz
  have hD := hD0.self (sz := s.heap.size)
  generalize hAe : va_A (wM o a b cA iA er cf uf) s.heap.size = A at hD ⊢
  have hA : ∀ q : Nat, s.heap.size ≤ q → A q := fun q h => by rw [← hAe]; exact Or.inr h
  have hS : va_S A s.heap s.heap [] := va_S.rf
  have hP : va_P D cls_ (wM o a b cA iA er cf uf) s.heap := hP
  have hl := lv_entry ([.ref o, .int (nI d), .int n]) (n := 5) (Nat.le_of_ble_eq_true rfl)
  rw [lg_entry_eq]
  generalize (lg_sl ([.ref o, .int (nI d), .int n]) ++ List.replicate (5 - (lg_sl ([.ref o, .int (nI d), .int n])).length) Slot.unset).toArray = ls at hl ⊢
  have hl : lv_has ls 5 [(0, .ref o), (1, .int (nI d)), (2, .int n)] := hl
  refine lv_aload_n hx hb dM_rebuild_0 rfl (lv_at hl 0 rfl) ?_
  refine lv_iload_n hx hb dM_rebuild_1 rfl (lv_at hl 1 rfl) ?_
  refine kS (n := 1) (As := [.int (nI d)]) (rest := [.ref o]) ⟨hx, hb, hml, hown, hts⟩ (mM_none l (nI d)) w_326 w_327 w_2 w_328 (by decide +kernel) ⟨rfl, rfl⟩ ⟨(Nat.le_of_ble_eq_true rfl), (Nat.le_of_ble_eq_true rfl)⟩ rfl hl.1 rfl (Nat.le_of_ble_eq_true rfl) dM_rebuild_2 ⟨Nat.zero_le _, Nat.zero_le _⟩ ?_
  refine tI (b9f (by rw [inR_of (by decide) hd]; rfl)) ?_
  refine lv_if_ne (tgt := 12) hx hb dM_rebuild_5 (by decide) (fun h5 => absurd h5 (by decide +kernel)) (fun h5 => ?_)
  refine lv_iload_n hx hb dM_rebuild_8 rfl (lv_at hl 2 rfl) ?_
  refine lv_if_ge (tgt := 16) hx hb dM_rebuild_9 (by decide) (fun h9 => ?_) (fun h9 => absurd hn h9)
  refine lv_iconst (v := nI 0) hx hb dM_rebuild_16 (by decide +kernel) ?_
  refine lv_iconst (v := nI 1) hx hb dM_rebuild_17 (by decide +kernel) ?_
  refine kVi (n := 2) (As := [.int (nI 0), .int (nI 1)]) (rest := []) ⟨hx, hb, hml, hown, hts⟩ (mM_fails_f l D o a b cA iA er cf uf s.heap.size 1) w_292 w_294 v_11 w_2 w_295 (by decide +kernel) ⟨rfl, rfl⟩ ⟨(Nat.le_of_ble_eq_true rfl), (Nat.le_of_ble_eq_true rfl)⟩ hP hK hD hS hA rfl 1 0 rfl rfl rfl hl.1 rfl (Nat.le_of_ble_eq_true rfl) dM_rebuild_18 ⟨Nat.zero_le _, Nat.zero_le _⟩ (fun H locs hP hD hS => ?_)
  refine lv_if_eq (tgt := 26) hx hb dM_rebuild_21 (by decide) (fun h21 => ?_) (fun h21 => absurd (by decide +kernel) h21)
  refine lv_aload_n hx hb dM_rebuild_26 rfl (lv_at hl 0 rfl) ?_
  refine lv_aload_n hx hb dM_rebuild_27 rfl (lv_at hl 0 rfl) ?_
  refine va_get (D := D) (ci := 1) (v := .ref b) (C := R_M) (T := T_M) (N := 3) hx hb hg uM_in hown hK hP 0 rfl rfl 2 (by decide) (hg _ w_272) (fun _ h9 => h9) rfl dM_rebuild_28 ?_
  refine lv_iload_n hx hb dM_rebuild_31 rfl (lv_at hl 1 rfl) ?_
  refine aI hx hb hK hP 2 1 rfl rfl (by omega) (by decide) dM_rebuild_32 ?_
  refine lv_if_lt (tgt := 47) hx hb dM_rebuild_33 (by decide) (fun h33 => ?_) (fun h33 => ?_)
  · refine lv_iconst (v := nI 1) hx hb dM_rebuild_47 (by decide +kernel) ?_
    refine lv_goto (tgt := 52) hx hb dM_rebuild_48 (by decide) ?_
    refine lv_iconst (v := nI 2) hx hb dM_rebuild_52 (by decide +kernel) ?_
    refine kVi (n := 2) (As := [.int (nI 1), .int (nI 2)]) (rest := []) ⟨hx, hb, hml, hown, hts⟩ (mM_fails_t l D o a b cA iA (nI 0) cf uf H.size 2) w_292 w_294 v_11 w_2 w_295 (by decide +kernel) ⟨rfl, rfl⟩ ⟨(Nat.le_of_ble_eq_true rfl), (Nat.le_of_ble_eq_true rfl)⟩ hP hK hD hS hA rfl 1 0 rfl rfl rfl hl.1 rfl (Nat.le_of_ble_eq_true rfl) dM_rebuild_53 ⟨Nat.zero_le _, Nat.zero_le _⟩ (fun H locs hP hD hS => ?_)
    refine lv_if_eq (tgt := 61) hx hb dM_rebuild_56 (by decide) (fun h56 => absurd h56 (by decide +kernel)) (fun h56 => ?_)
    refine lv_iconst (v := nI 0) hx hb dM_rebuild_59 (by decide +kernel) ?_
    exact W.iret (v := nI 0) hx hb hr (fun t9 ht9 _ => ⟨⟨_, (), rfl, by show _ = _; rfl, by show va_P _ _ _ t9.heap; rw [ht9]; exact hP⟩, hS.F ht9⟩) hS.2.2 dM_rebuild_60
  · refine lv_aload_n hx hb dM_rebuild_36 rfl (lv_at hl 0 rfl) ?_
    refine va_get (D := D) (ci := 1) (v := .ref b) (C := R_M) (T := T_M) (N := 3) hx hb hg uM_in hown hK hP 0 rfl rfl 2 (by decide) (hg _ w_272) (fun _ h9 => h9) rfl dM_rebuild_37 ?_
    refine lv_iload_n hx hb dM_rebuild_40 rfl (lv_at hl 1 rfl) ?_
    refine aI hx hb hK hP 2 1 rfl rfl (by omega) (by decide) dM_rebuild_41 ?_
    refine lv_bipush (v := nI 100) hx hb dM_rebuild_42 (by decide +kernel) ?_
    refine lv_icmp_ne (tgt := 51) hx hb dM_rebuild_44 (by decide) (fun h44 => absurd h44 (fun z => z (hu.resolve_right h33))) (fun h44 => ?_)
    refine lv_iconst (v := nI 1) hx hb dM_rebuild_47 (by decide +kernel) ?_
    refine lv_goto (tgt := 52) hx hb dM_rebuild_48 (by decide) ?_
    refine lv_iconst (v := nI 2) hx hb dM_rebuild_52 (by decide +kernel) ?_
    refine kVi (n := 2) (As := [.int (nI 1), .int (nI 2)]) (rest := []) ⟨hx, hb, hml, hown, hts⟩ (mM_fails_t l D o a b cA iA (nI 0) cf uf H.size 2) w_292 w_294 v_11 w_2 w_295 (by decide +kernel) ⟨rfl, rfl⟩ ⟨(Nat.le_of_ble_eq_true rfl), (Nat.le_of_ble_eq_true rfl)⟩ hP hK hD hS hA rfl 1 0 rfl rfl rfl hl.1 rfl (Nat.le_of_ble_eq_true rfl) dM_rebuild_53 ⟨Nat.zero_le _, Nat.zero_le _⟩ (fun H locs hP hD hS => ?_)
    refine lv_if_eq (tgt := 61) hx hb dM_rebuild_56 (by decide) (fun h56 => absurd h56 (by decide +kernel)) (fun h56 => ?_)
    refine lv_iconst (v := nI 0) hx hb dM_rebuild_59 (by decide +kernel) ?_
    exact W.iret (v := nI 0) hx hb hr (fun t9 ht9 _ => ⟨⟨_, (), rfl, by show _ = _; rfl, by show va_P _ _ _ t9.heap; rw [ht9]; exact hP⟩, hS.F ht9⟩) hS.2.2 dM_rebuild_60
end
section
set_option maxHeartbeats 4000000 in
set_option maxRecDepth 100000 in
theorem mM_rebuild_ok (l : Launch) (D : va_G) (o a b : Nat) (cA iA : ClassId) (er : Int32) (cf : Nat → Int64) (uf : Nat → Int32) (sz : Nat) (d n9 f : Nat) (hd : d < 5) (hn : n9 < 2 ^ 31) (hf : f < 100) (hu : uf d = nI f) : Met l yM_rebuild (.code yM_rebuild cM_rebuild 5 (some .int) :: gW) ({ frames := 2, cells := 0, slots := 0, locals := 48 }) (pWs D (wM o a b cA iA er cf uf) (kT cA iA) sz [.ref o, .int (nI d), .int (nI n9)]) (QI (nI (rbF uf d (min n9 (100 - f)) cf f).2) D (wM o a b cA iA (nI 0) ((rbF uf d (min n9 (100 - f)) cf f).1) (upd uf d (nI (rbF uf d (min n9 (100 - f)) cf f).2))) (va_A (wM o a b cA iA er cf uf) sz)) 0 0 (va_A (wM o a b cA iA er cf uf) sz) := by
  refine Met.ofW (cc := cM_rebuild) (maxL := 5) (ret := (some .int)) (by decide) rfl ?_
  intro p e s m args below meth c s₁ B hml hv
  obtain ⟨rfl, hsz, hP, hK, hD0⟩ := hv
  have hx := B.exec
  have hb := B.bytes
  have hr := B.returns
  have hts := atoms_spec (ws := (.code yM_rebuild cM_rebuild 5 (some .int) :: gW)) B.pre
  have hg : ∀ w ∈ gW, w.before ([.ref o, .int (nI d), .int (nI n9)]).toArray s = true := fun w h => hts w (List.mem_cons_of_mem _ h)
  have hown : s.vm.findClass R_M = some m.cls := findClass_of_methodNamed B.named
  have hlocks := B.notSynchronized
  subst hsz
  have hD := hD0.self (sz := s.heap.size)
  generalize hAe : va_A (wM o a b cA iA er cf uf) s.heap.size = A at hD ⊢
  have hA : ∀ q : Nat, s.heap.size ≤ q → A q := fun q h => by rw [← hAe]; exact Or.inr h
  have hS : va_S A s.heap s.heap [] := va_S.rf
  have hP : va_P D cls_ (wM o a b cA iA er cf uf) s.heap := hP
  have hl := lv_entry ([.ref o, .int (nI d), .int (nI n9)]) (n := 5) (Nat.le_of_ble_eq_true rfl)
  rw [lg_entry_eq]
  generalize (lg_sl ([.ref o, .int (nI d), .int (nI n9)]) ++ List.replicate (5 - (lg_sl ([.ref o, .int (nI d), .int (nI n9)])).length) Slot.unset).toArray = ls at hl ⊢
  have hl : lv_has ls 5 [(0, .ref o), (1, .int (nI d)), (2, .int (nI n9))] := hl
  refine lv_aload_n hx hb dM_rebuild_0 rfl (lv_at hl 0 rfl) ?_
  refine lv_iload_n hx hb dM_rebuild_1 rfl (lv_at hl 1 rfl) ?_
  refine kS (n := 1) (As := [.int (nI d)]) (rest := [.ref o]) ⟨hx, hb, hml, hown, hts⟩ (mM_none l (nI d)) w_326 w_327 w_2 w_328 (by decide +kernel) ⟨rfl, rfl⟩ ⟨(Nat.le_of_ble_eq_true rfl), (Nat.le_of_ble_eq_true rfl)⟩ rfl hl.1 rfl (Nat.le_of_ble_eq_true rfl) dM_rebuild_2 ⟨Nat.zero_le _, Nat.zero_le _⟩ ?_
  refine tI (b9f (by rw [inR_of (by decide) hd]; rfl)) ?_
  refine lv_if_ne (tgt := 12) hx hb dM_rebuild_5 (by decide) (fun h5 => absurd h5 (by decide +kernel)) (fun h5 => ?_)
  refine lv_iload_n hx hb dM_rebuild_8 rfl (lv_at hl 2 rfl) ?_
  refine lv_if_ge (tgt := 16) hx hb dM_rebuild_9 (by decide) (fun h9 => ?_) (fun h9 => absurd (nI_pos' hn) h9)
  refine lv_iconst (v := nI 0) hx hb dM_rebuild_16 (by decide +kernel) ?_
  refine lv_iconst (v := nI 1) hx hb dM_rebuild_17 (by decide +kernel) ?_
  refine kVi (n := 2) (As := [.int (nI 0), .int (nI 1)]) (rest := []) ⟨hx, hb, hml, hown, hts⟩ (mM_fails_f l D o a b cA iA er cf uf s.heap.size 1) w_292 w_294 v_11 w_2 w_295 (by decide +kernel) ⟨rfl, rfl⟩ ⟨(Nat.le_of_ble_eq_true rfl), (Nat.le_of_ble_eq_true rfl)⟩ hP hK hD hS hA rfl 1 0 rfl rfl rfl hl.1 rfl (Nat.le_of_ble_eq_true rfl) dM_rebuild_18 ⟨Nat.zero_le _, Nat.zero_le _⟩ (fun H locs hP hD hS => ?_)
  refine lv_if_eq (tgt := 26) hx hb dM_rebuild_21 (by decide) (fun h21 => ?_) (fun h21 => absurd (by decide +kernel) h21)
  refine lv_aload_n hx hb dM_rebuild_26 rfl (lv_at hl 0 rfl) ?_
  refine lv_aload_n hx hb dM_rebuild_27 rfl (lv_at hl 0 rfl) ?_
  refine va_get (D := D) (ci := 1) (v := .ref b) (C := R_M) (T := T_M) (N := 3) hx hb hg uM_in hown hK hP 0 rfl rfl 2 (by decide) (hg _ w_272) (fun _ h9 => h9) rfl dM_rebuild_28 ?_
  refine lv_iload_n hx hb dM_rebuild_31 rfl (lv_at hl 1 rfl) ?_
  refine aI hx hb hK hP 2 1 rfl rfl (by omega) (by decide) dM_rebuild_32 ?_
  refine lv_if_lt (tgt := 47) hx hb dM_rebuild_33 (by decide) (fun h33 => absurd h33 (by rw [hu]; exact nI_pos (by omega))) (fun h33 => ?_)
  refine lv_aload_n hx hb dM_rebuild_36 rfl (lv_at hl 0 rfl) ?_
  refine va_get (D := D) (ci := 1) (v := .ref b) (C := R_M) (T := T_M) (N := 3) hx hb hg uM_in hown hK hP 0 rfl rfl 2 (by decide) (hg _ w_272) (fun _ h9 => h9) rfl dM_rebuild_37 ?_
  refine lv_iload_n hx hb dM_rebuild_40 rfl (lv_at hl 1 rfl) ?_
  refine aI hx hb hK hP 2 1 rfl rfl (by omega) (by decide) dM_rebuild_41 ?_
  refine lv_bipush (v := nI 100) hx hb dM_rebuild_42 (by decide +kernel) ?_
  refine lv_icmp_ne (tgt := 51) hx hb dM_rebuild_44 (by decide) (fun h44 => ?_) (fun h44 => absurd h44 (fun z => by rw [hu] at z; have := (nI_eq (by omega) (by decide)).mp z; omega))
  refine lv_iconst (v := nI 0) hx hb dM_rebuild_51 (by decide +kernel) ?_
  refine lv_iconst (v := nI 2) hx hb dM_rebuild_52 (by decide +kernel) ?_
  refine kVi (n := 2) (As := [.int (nI 0), .int (nI 2)]) (rest := []) ⟨hx, hb, hml, hown, hts⟩ (mM_fails_f l D o a b cA iA (nI 0) cf uf H.size 2) w_292 w_294 v_11 w_2 w_295 (by decide +kernel) ⟨rfl, rfl⟩ ⟨(Nat.le_of_ble_eq_true rfl), (Nat.le_of_ble_eq_true rfl)⟩ hP hK hD hS hA rfl 1 0 rfl rfl rfl hl.1 rfl (Nat.le_of_ble_eq_true rfl) dM_rebuild_53 ⟨Nat.zero_le _, Nat.zero_le _⟩ (fun H locs hP hD hS => ?_)
  refine lv_if_eq (tgt := 61) hx hb dM_rebuild_56 (by decide) (fun h56 => ?_) (fun h56 => absurd (by decide +kernel) h56)
  refine lv_iconst (v := nI 0) hx hb dM_rebuild_61 (by decide +kernel) ?_
  refine lv_istore_n hx hb dM_rebuild_62 rfl hl (by decide) rfl (fun ls hl => ?_)
  have hl : lv_has ls 5 [(3, .int (nI 0)), (0, .ref o), (1, .int (nI d)), (2, .int (nI n9))] := hl
  have eu : upd uf d (nI f) = uf := by rw [← hu]; exact upd_self uf d
  rw [← eu] at hP hD
  have key : ∀ (n : Nat) (j k : Nat) (c9 : Nat → Int64) (H : Heap) (locs : List Loc) (ls : Array Slot), n = min (n9 - k) (100 - j) → j ≤ 100 → k ≤ n9 → rbF uf d (min n9 (100 - f)) cf f = rbF uf d n c9 j → va_P D cls_ (wM o a b cA iA (nI 0) c9 (upd uf d (nI j))) H → va_D A (wM o a b cA iA (nI 0) c9 (upd uf d (nI j))) → va_S A s.heap H locs → lv_has ls 5 [(3, .int (nI k)), (0, .ref o), (1, .int (nI d)), (2, .int (nI n9))] → W p l e (headSpec (.code yM_rebuild cM_rebuild 5 (some .int) :: gW) ({ frames := 2, cells := 0, slots := 0, locals := 48 })).room s m ([.ref o, .int (nI d), .int (nI n9)]).toArray below meth c H locs 0 0 (MQ below (QI (nI (rbF uf d (min n9 (100 - f)) cf f).2) D (wM o a b cA iA (nI 0) ((rbF uf d (min n9 (100 - f)) cf f).1) (upd uf d (nI (rbF uf d (min n9 (100 - f)) cf f).2))) A) ([.ref o, .int (nI d), .int (nI n9)]).toArray s 0 0 A) (F0 m 63 ls []) := by
    intro n
    induction n with
    | zero =>
      intro j k c9 H locs ls hr9 hj hk hi hP hD hS hl
      have hi : rbF uf d (min n9 (100 - f)) cf f = (c9, j) := hi
      refine lv_iload_n hx hb dM_rebuild_63 rfl (lv_at hl 0 rfl) ?_
      refine lv_iload_n hx hb dM_rebuild_64 rfl (lv_at hl 3 rfl) ?_
      refine lv_icmp_ge (tgt := 154) hx hb dM_rebuild_65 (by decide) (fun h65 => ?_) (fun h65 => ?_)
      · refine lv_aload_n hx hb dM_rebuild_154 rfl (lv_at hl 1 rfl) ?_
        refine va_get (D := D) (ci := 1) (v := .ref b) (C := R_M) (T := T_M) (N := 3) hx hb hg uM_in hown hK hP 0 rfl rfl 2 (by decide) (hg _ w_272) (fun _ h9 => h9) rfl dM_rebuild_155 ?_
        refine lv_iload_n hx hb dM_rebuild_158 rfl (lv_at hl 2 rfl) ?_
        refine aI hx hb hK hP 2 1 rfl rfl (by omega) (by decide) dM_rebuild_159 ?_
        refine tI upd_eq ?_
        exact W.iret (v := nI j) hx hb hr (fun t9 ht9 _ => ⟨⟨_, (), rfl, by show _ = _; rw [hi], by show va_P _ _ _ t9.heap; rw [ht9]; rw [hi]; exact hP⟩, hS.F ht9⟩) hS.2.2 dM_rebuild_160
      · have e7 : k < n9 := Nat.lt_of_not_le (fun z => h65 (nI_le z (by omega)))
        refine lv_aload_n hx hb dM_rebuild_68 rfl (lv_at hl 1 rfl) ?_
        refine va_get (D := D) (ci := 1) (v := .ref b) (C := R_M) (T := T_M) (N := 3) hx hb hg uM_in hown hK hP 0 rfl rfl 2 (by decide) (hg _ w_272) (fun _ h9 => h9) rfl dM_rebuild_69 ?_
        refine lv_iload_n hx hb dM_rebuild_72 rfl (lv_at hl 2 rfl) ?_
        refine aI hx hb hK hP 2 1 rfl rfl (by omega) (by decide) dM_rebuild_73 ?_
        refine tI upd_eq ?_
        refine lv_bipush (v := nI 100) hx hb dM_rebuild_74 (by decide +kernel) ?_
        refine lv_icmp_ge (tgt := 154) hx hb dM_rebuild_76 (by decide) (fun h76 => ?_) (fun h76 => absurd (nI_le (by omega) (by omega)) h76)
        refine lv_aload_n hx hb dM_rebuild_154 rfl (lv_at hl 1 rfl) ?_
        refine va_get (D := D) (ci := 1) (v := .ref b) (C := R_M) (T := T_M) (N := 3) hx hb hg uM_in hown hK hP 0 rfl rfl 2 (by decide) (hg _ w_272) (fun _ h9 => h9) rfl dM_rebuild_155 ?_
        refine lv_iload_n hx hb dM_rebuild_158 rfl (lv_at hl 2 rfl) ?_
        refine aI hx hb hK hP 2 1 rfl rfl (by omega) (by decide) dM_rebuild_159 ?_
        refine tI upd_eq ?_
        exact W.iret (v := nI j) hx hb hr (fun t9 ht9 _ => ⟨⟨_, (), rfl, by show _ = _; rw [hi], by show va_P _ _ _ t9.heap; rw [ht9]; rw [hi]; exact hP⟩, hS.F ht9⟩) hS.2.2 dM_rebuild_160
    | succ n ih =>
      intro j k c9 H locs ls hr9 hj hk hi hP hD hS hl
      refine lv_iload_n hx hb dM_rebuild_63 rfl (lv_at hl 0 rfl) ?_
      refine lv_iload_n hx hb dM_rebuild_64 rfl (lv_at hl 3 rfl) ?_
      refine lv_icmp_ge (tgt := 154) hx hb dM_rebuild_65 (by decide) (fun h65 => absurd h65 (nI_ge (by omega) (by omega))) (fun h65 => ?_)
      refine lv_aload_n hx hb dM_rebuild_68 rfl (lv_at hl 1 rfl) ?_
      refine va_get (D := D) (ci := 1) (v := .ref b) (C := R_M) (T := T_M) (N := 3) hx hb hg uM_in hown hK hP 0 rfl rfl 2 (by decide) (hg _ w_272) (fun _ h9 => h9) rfl dM_rebuild_69 ?_
      refine lv_iload_n hx hb dM_rebuild_72 rfl (lv_at hl 2 rfl) ?_
      refine aI hx hb hK hP 2 1 rfl rfl (by omega) (by decide) dM_rebuild_73 ?_
      refine tI upd_eq ?_
      refine lv_bipush (v := nI 100) hx hb dM_rebuild_74 (by decide +kernel) ?_
      refine lv_icmp_ge (tgt := 154) hx hb dM_rebuild_76 (by decide) (fun h76 => absurd h76 (nI_ge (by omega) (by omega))) (fun h76 => ?_)
      refine lv_aload_n hx hb dM_rebuild_79 rfl (lv_at hl 1 rfl) ?_
      refine lv_iload_n hx hb dM_rebuild_80 rfl (lv_at hl 2 rfl) ?_
      refine lv_aload_n hx hb dM_rebuild_81 rfl (lv_at hl 1 rfl) ?_
      refine va_get (D := D) (ci := 1) (v := .ref b) (C := R_M) (T := T_M) (N := 3) hx hb hg uM_in hown hK hP 0 rfl rfl 2 (by decide) (hg _ w_272) (fun _ h9 => h9) rfl dM_rebuild_82 ?_
      refine lv_iload_n hx hb dM_rebuild_85 rfl (lv_at hl 2 rfl) ?_
      refine aI hx hb hK hP 2 1 rfl rfl (by omega) (by decide) dM_rebuild_86 ?_
      refine tI upd_eq ?_
      refine kV (n := 2) (As := [.int (nI d), .int (nI j)]) (rest := []) ⟨hx, hb, hml, hown, hts⟩ (mM_gone l D o a b cA iA (nI 0) c9 (upd uf d (nI j)) d j (by omega) (by omega)) w_299 w_301 v_12 w_2 w_302 (by decide +kernel) ⟨rfl, rfl⟩ ⟨(Nat.le_of_ble_eq_true rfl), (Nat.le_of_ble_eq_true rfl)⟩ hP hK 1 0 rfl rfl rfl hl.1 rfl (Nat.le_of_ble_eq_true rfl) dM_rebuild_87 ⟨Nat.zero_le _, Nat.zero_le _⟩ ?_
      refine lv_if_ne (tgt := 154) hx hb dM_rebuild_90 (by decide) (fun h90 => ?_) (fun h90 => ?_)
      · have e9 : oc uf d j = false := by have z := bi_1 h90; rw [il_oc cu_upd_self, oc_upd] at z; exact nb_f z
        have hi := hi.trans (rbF_f e9)
        refine lv_aload_n hx hb dM_rebuild_154 rfl (lv_at hl 1 rfl) ?_
        refine va_get (D := D) (ci := 1) (v := .ref b) (C := R_M) (T := T_M) (N := 3) hx hb hg uM_in hown hK hP 0 rfl rfl 2 (by decide) (hg _ w_272) (fun _ h9 => h9) rfl dM_rebuild_155 ?_
        refine lv_iload_n hx hb dM_rebuild_158 rfl (lv_at hl 2 rfl) ?_
        refine aI hx hb hK hP 2 1 rfl rfl (by omega) (by decide) dM_rebuild_159 ?_
        refine tI upd_eq ?_
        exact W.iret (v := nI j) hx hb hr (fun t9 ht9 _ => ⟨⟨_, (), rfl, by show _ = _; rw [hi], by show va_P _ _ _ t9.heap; rw [ht9]; rw [hi]; exact hP⟩, hS.F ht9⟩) hS.2.2 dM_rebuild_160
      · have e9 : oc uf d j = true := by have z := bi_0 h90; rw [il_oc cu_upd_self, oc_upd] at z; exact nb_t z
        refine lv_iconst (v := nI 0) hx hb dM_rebuild_93 (by decide +kernel) ?_
        refine lv_istore hx hb dM_rebuild_94 hl (by decide) rfl (fun ls hl => ?_)
        have hl : lv_has ls 5 [(4, .int (nI 0)), (3, .int (nI k)), (0, .ref o), (1, .int (nI d)), (2, .int (nI n9))] := hl
        refine lv_iload hx hb dM_rebuild_96 (lv_at hl 0 rfl) ?_
        refine lv_iconst (v := nI 2) hx hb dM_rebuild_98 (by decide +kernel) ?_
        refine lv_icmp_ge (tgt := 138) hx hb dM_rebuild_99 (by decide) (fun h99 => absurd h99 (by decide +kernel)) (fun h99 => ?_)
        refine lv_aload_n hx hb dM_rebuild_102 rfl (lv_at hl 2 rfl) ?_
        refine va_get (D := D) (ci := 1) (v := .ref a) (C := R_M) (T := T_M) (N := 3) hx hb hg uM_in hown hK hP 0 rfl rfl 1 (by decide) (hg _ w_271) (fun _ h9 => h9) rfl dM_rebuild_103 ?_
        refine lv_iload_n hx hb dM_rebuild_106 rfl (lv_at hl 3 rfl) ?_
        refine lv_aload_n hx hb dM_rebuild_107 rfl (lv_at hl 2 rfl) ?_
        refine va_get (D := D) (ci := 1) (v := .ref b) (C := R_M) (T := T_M) (N := 3) hx hb hg uM_in hown hK hP 0 rfl rfl 2 (by decide) (hg _ w_272) (fun _ h9 => h9) rfl dM_rebuild_108 ?_
        refine lv_iload_n hx hb dM_rebuild_111 rfl (lv_at hl 3 rfl) ?_
        refine aI hx hb hK hP 2 1 rfl rfl (by omega) (by decide) dM_rebuild_112 ?_
        refine tI upd_eq ?_
        refine lv_iload hx hb dM_rebuild_113 (lv_at hl 0 rfl) ?_
        refine kS (n := 3) (As := [.int (nI d), .int (nI j), .int (nI 0)]) (rest := [.ref a]) ⟨hx, hb, hml, hown, hts⟩ (mM_at l d j 0) w_311 w_312 w_2 w_313 (by decide +kernel) ⟨rfl, rfl⟩ ⟨(Nat.le_of_ble_eq_true rfl), (Nat.le_of_ble_eq_true rfl)⟩ rfl hl.1 rfl (Nat.le_of_ble_eq_true rfl) dM_rebuild_115 ⟨Nat.zero_le _, Nat.zero_le _⟩ ?_
        refine lv_aload_n hx hb dM_rebuild_118 rfl (lv_at hl 2 rfl) ?_
        refine lv_iload_n hx hb dM_rebuild_119 rfl (lv_at hl 3 rfl) ?_
        refine lv_aload_n hx hb dM_rebuild_120 rfl (lv_at hl 2 rfl) ?_
        refine va_get (D := D) (ci := 1) (v := .ref b) (C := R_M) (T := T_M) (N := 3) hx hb hg uM_in hown hK hP 0 rfl rfl 2 (by decide) (hg _ w_272) (fun _ h9 => h9) rfl dM_rebuild_121 ?_
        refine lv_iload_n hx hb dM_rebuild_124 rfl (lv_at hl 3 rfl) ?_
        refine aI hx hb hK hP 2 1 rfl rfl (by omega) (by decide) dM_rebuild_125 ?_
        refine tI upd_eq ?_
        refine lv_iload hx hb dM_rebuild_126 (lv_at hl 0 rfl) ?_
        refine kV (n := 3) (As := [.int (nI d), .int (nI j), .int (nI 0)]) (rest := [.int (nI (ix d j 0)), .ref a]) ⟨hx, hb, hml, hown, hts⟩ (mM_others l D o a b cA iA (nI 0) c9 (upd uf d (nI j)) d j 0 (by omega) (by omega) (by omega)) w_314 w_316 v_15 w_2 w_317 (by decide +kernel) ⟨rfl, rfl⟩ ⟨(Nat.le_of_ble_eq_true rfl), (Nat.le_of_ble_eq_true rfl)⟩ hP hK 1 0 rfl rfl rfl hl.1 rfl (Nat.le_of_ble_eq_true rfl) dM_rebuild_128 ⟨Nat.zero_le _, Nat.zero_le _⟩ ?_
        refine sL hx hb hK hP hD hS 1 0 rfl rfl (ix_lt (by omega) (by omega) (by omega)) (by decide) dM_rebuild_131 (fun H locs hP hD hS => ?_)
        have hP : va_P D cls_ (wM o a b cA iA (nI 0) (vp_updL c9 (ix d j 0) (xo c9 d j 0)) (upd uf d (nI j))) H := hP
        have hD : va_D A (wM o a b cA iA (nI 0) (vp_updL c9 (ix d j 0) (xo c9 d j 0)) (upd uf d (nI j))) := hD
        refine lv_iinc (k := 0) (v := nI 1) hx hb dM_rebuild_132 hl rfl (by decide +kernel)  (by decide) rfl (fun ls hl => ?_)
        have hl : lv_has ls 5 [(4, .int (nI 1)), (3, .int (nI k)), (0, .ref o), (1, .int (nI d)), (2, .int (nI n9))] := hl
        refine lv_goto (tgt := 96) hx hb dM_rebuild_135 (by decide) ?_
        refine lv_iload hx hb dM_rebuild_96 (lv_at hl 0 rfl) ?_
        refine lv_iconst (v := nI 2) hx hb dM_rebuild_98 (by decide +kernel) ?_
        refine lv_icmp_ge (tgt := 138) hx hb dM_rebuild_99 (by decide) (fun h99 => absurd h99 (by decide +kernel)) (fun h99 => ?_)
        refine lv_aload_n hx hb dM_rebuild_102 rfl (lv_at hl 2 rfl) ?_
        refine va_get (D := D) (ci := 1) (v := .ref a) (C := R_M) (T := T_M) (N := 3) hx hb hg uM_in hown hK hP 0 rfl rfl 1 (by decide) (hg _ w_271) (fun _ h9 => h9) rfl dM_rebuild_103 ?_
        refine lv_iload_n hx hb dM_rebuild_106 rfl (lv_at hl 3 rfl) ?_
        refine lv_aload_n hx hb dM_rebuild_107 rfl (lv_at hl 2 rfl) ?_
        refine va_get (D := D) (ci := 1) (v := .ref b) (C := R_M) (T := T_M) (N := 3) hx hb hg uM_in hown hK hP 0 rfl rfl 2 (by decide) (hg _ w_272) (fun _ h9 => h9) rfl dM_rebuild_108 ?_
        refine lv_iload_n hx hb dM_rebuild_111 rfl (lv_at hl 3 rfl) ?_
        refine aI hx hb hK hP 2 1 rfl rfl (by omega) (by decide) dM_rebuild_112 ?_
        refine tI upd_eq ?_
        refine lv_iload hx hb dM_rebuild_113 (lv_at hl 0 rfl) ?_
        refine kS (n := 3) (As := [.int (nI d), .int (nI j), .int (nI 1)]) (rest := [.ref a]) ⟨hx, hb, hml, hown, hts⟩ (mM_at l d j 1) w_311 w_312 w_2 w_313 (by decide +kernel) ⟨rfl, rfl⟩ ⟨(Nat.le_of_ble_eq_true rfl), (Nat.le_of_ble_eq_true rfl)⟩ rfl hl.1 rfl (Nat.le_of_ble_eq_true rfl) dM_rebuild_115 ⟨Nat.zero_le _, Nat.zero_le _⟩ ?_
        refine lv_aload_n hx hb dM_rebuild_118 rfl (lv_at hl 2 rfl) ?_
        refine lv_iload_n hx hb dM_rebuild_119 rfl (lv_at hl 3 rfl) ?_
        refine lv_aload_n hx hb dM_rebuild_120 rfl (lv_at hl 2 rfl) ?_
        refine va_get (D := D) (ci := 1) (v := .ref b) (C := R_M) (T := T_M) (N := 3) hx hb hg uM_in hown hK hP 0 rfl rfl 2 (by decide) (hg _ w_272) (fun _ h9 => h9) rfl dM_rebuild_121 ?_
        refine lv_iload_n hx hb dM_rebuild_124 rfl (lv_at hl 3 rfl) ?_
        refine aI hx hb hK hP 2 1 rfl rfl (by omega) (by decide) dM_rebuild_125 ?_
        refine tI upd_eq ?_
        refine lv_iload hx hb dM_rebuild_126 (lv_at hl 0 rfl) ?_
        refine kV (n := 3) (As := [.int (nI d), .int (nI j), .int (nI 1)]) (rest := [.int (nI (ix d j 1)), .ref a]) ⟨hx, hb, hml, hown, hts⟩ (mM_others l D o a b cA iA (nI 0) (vp_updL c9 (ix d j 0) (xo c9 d j 0)) (upd uf d (nI j)) d j 1 (by omega) (by omega) (by omega)) w_314 w_316 v_15 w_2 w_317 (by decide +kernel) ⟨rfl, rfl⟩ ⟨(Nat.le_of_ble_eq_true rfl), (Nat.le_of_ble_eq_true rfl)⟩ hP hK 1 0 rfl rfl rfl hl.1 rfl (Nat.le_of_ble_eq_true rfl) dM_rebuild_128 ⟨Nat.zero_le _, Nat.zero_le _⟩ ?_
        refine sL hx hb hK hP hD hS 1 0 rfl rfl (ix_lt (by omega) (by omega) (by omega)) (by decide) dM_rebuild_131 (fun H locs hP hD hS => ?_)
        have hP : va_P D cls_ (wM o a b cA iA (nI 0) (vp_updL (vp_updL c9 (ix d j 0) (xo c9 d j 0)) (ix d j 1) (xo (vp_updL c9 (ix d j 0) (xo c9 d j 0)) d j 1)) (upd uf d (nI j))) H := hP
        have hD : va_D A (wM o a b cA iA (nI 0) (vp_updL (vp_updL c9 (ix d j 0) (xo c9 d j 0)) (ix d j 1) (xo (vp_updL c9 (ix d j 0) (xo c9 d j 0)) d j 1)) (upd uf d (nI j))) := hD
        refine lv_iinc (k := 0) (v := nI 2) hx hb dM_rebuild_132 hl rfl (by decide +kernel)  (by decide) rfl (fun ls hl => ?_)
        have hl : lv_has ls 5 [(4, .int (nI 2)), (3, .int (nI k)), (0, .ref o), (1, .int (nI d)), (2, .int (nI n9))] := hl
        refine lv_goto (tgt := 96) hx hb dM_rebuild_135 (by decide) ?_
        refine lv_iload hx hb dM_rebuild_96 (lv_at hl 0 rfl) ?_
        refine lv_iconst (v := nI 2) hx hb dM_rebuild_98 (by decide +kernel) ?_
        refine lv_icmp_ge (tgt := 138) hx hb dM_rebuild_99 (by decide) (fun h99 => ?_) (fun h99 => absurd (by decide +kernel) h99)
        refine lv_aload_n hx hb dM_rebuild_138 rfl (lv_at hl 2 rfl) ?_
        refine va_get (D := D) (ci := 1) (v := .ref b) (C := R_M) (T := T_M) (N := 3) hx hb hg uM_in hown hK hP 0 rfl rfl 2 (by decide) (hg _ w_272) (fun _ h9 => h9) rfl dM_rebuild_139 ?_
        refine lv_iload_n hx hb dM_rebuild_142 rfl (lv_at hl 3 rfl) ?_
        refine lv_dup2_11 hx hb dM_rebuild_143 rfl rfl ?_
        refine aI hx hb hK hP 2 1 rfl rfl (by omega) (by decide) dM_rebuild_144 ?_
        refine tI upd_eq ?_
        refine lv_iconst (v := nI 1) hx hb dM_rebuild_145 (by decide +kernel) ?_
        refine lv_iadd hx hb dM_rebuild_146 ?_
        refine tI (nI_add _ _) ?_
        refine sI hx hb hK hP hD hS 2 1 rfl rfl (by omega) (by decide) dM_rebuild_147 (fun H locs hP hD hS => ?_)
        have hP : va_P D cls_ (wM o a b cA iA (nI 0) (vp_updL (vp_updL c9 (ix d j 0) (xo c9 d j 0)) (ix d j 1) (xo (vp_updL c9 (ix d j 0) (xo c9 d j 0)) d j 1)) (upd (upd uf d (nI j)) d (nI (j + 1)))) H := hP
        have hD : va_D A (wM o a b cA iA (nI 0) (vp_updL (vp_updL c9 (ix d j 0) (xo c9 d j 0)) (ix d j 1) (xo (vp_updL c9 (ix d j 0) (xo c9 d j 0)) d j 1)) (upd (upd uf d (nI j)) d (nI (j + 1)))) := hD
        refine lv_iinc (k := 1) (v := nI (k + 1)) hx hb dM_rebuild_148 hl rfl (incI _)  (by decide) rfl (fun ls hl => ?_)
        have hl : lv_has ls 5 [(3, .int (nI (k + 1))), (4, .int (nI 2)), (0, .ref o), (1, .int (nI d)), (2, .int (nI n9))] := hl
        refine lv_goto (tgt := 63) hx hb dM_rebuild_151 (by decide) ?_
        rw [upd_upd] at hP hD
        have hl := lv_sub hl [0, 2, 3, 4] rfl
        exact ih (j + 1) (k + 1) _ _ _ _ (by omega) (by omega) (by omega) (hi.trans (rbF_t e9)) hP hD hS hl
  exact key (min n9 (100 - f)) f 0 cf _ _ _ (by rw [Nat.sub_zero]) (by omega) (Nat.zero_le _) rfl hP hD hS hl
set_option maxHeartbeats 4000000 in
set_option maxRecDepth 100000 in
theorem mM_lost (l : Launch) (D : va_G) (o a b : Nat) (cA iA : ClassId) (er : Int32) (cf : Nat → Int64) (uf : Nat → Int32) (sz : Nat)  : Met l yM_lost (.code yM_lost cM_lost 3 (some .int) :: gW) ({ frames := 2, cells := 0, slots := 0, locals := 45 }) (pWs D (wM o a b cA iA er cf uf) (kT cA iA) sz [.ref o]) (QI (nI (loF uf 400)) D (wM o a b cA iA (nI 0) cf uf) (va_A (wM o a b cA iA er cf uf) sz)) 0 0 (va_A (wM o a b cA iA er cf uf) sz) := by
  refine Met.ofW (cc := cM_lost) (maxL := 3) (ret := (some .int)) (by decide) rfl ?_
  intro p e s m args below meth c s₁ B hml hv
  obtain ⟨rfl, hsz, hP, hK, hD0⟩ := hv
  have hx := B.exec
  have hb := B.bytes
  have hr := B.returns
  have hts := atoms_spec (ws := (.code yM_lost cM_lost 3 (some .int) :: gW)) B.pre
  have hg : ∀ w ∈ gW, w.before ([.ref o]).toArray s = true := fun w h => hts w (List.mem_cons_of_mem _ h)
  have hown : s.vm.findClass R_M = some m.cls := findClass_of_methodNamed B.named
  have hlocks := B.notSynchronized
  subst hsz
  have hD := hD0.self (sz := s.heap.size)
  generalize hAe : va_A (wM o a b cA iA er cf uf) s.heap.size = A at hD ⊢
  have hA : ∀ q : Nat, s.heap.size ≤ q → A q := fun q h => by rw [← hAe]; exact Or.inr h
  have hS : va_S A s.heap s.heap [] := va_S.rf
  have hP : va_P D cls_ (wM o a b cA iA er cf uf) s.heap := hP
  have hl := lv_entry ([.ref o]) (n := 3) (Nat.le_of_ble_eq_true rfl)
  rw [lg_entry_eq]
  generalize (lg_sl ([.ref o]) ++ List.replicate (3 - (lg_sl ([.ref o])).length) Slot.unset).toArray = ls at hl ⊢
  have hl : lv_has ls 3 [(0, .ref o)] := hl
  refine lv_aload_n hx hb dM_lost_0 rfl (lv_at hl 0 rfl) ?_
  refine lv_iconst (v := nI 0) hx hb dM_lost_1 (by decide +kernel) ?_
  refine va_put (D := D) (ci := 1) (v := .int (nI 0)) (ty := .int) (C := R_M) (T := T_M) (N := 3) hx hb hg uM_in ty_M ty_M_ok nd_M hown hK hP hD hS 0 rfl rfl 0 (by decide) (hg _ w_270) (fun _ h9 => h9) rfl (by decide +kernel) rfl rfl (Nat.le_of_ble_eq_true rfl) dM_lost_2 (fun H locs hP hD hS => ?_)
  have hP : va_P D cls_ (wM o a b cA iA (nI 0) cf uf) H := hP
  have hD : va_D A (wM o a b cA iA (nI 0) cf uf) := hD
  refine lv_iconst (v := nI 0) hx hb dM_lost_5 (by decide +kernel) ?_
  refine lv_istore_n hx hb dM_lost_6 rfl hl (by decide) rfl (fun ls hl => ?_)
  have hl : lv_has ls 3 [(1, .int (nI 0)), (0, .ref o)] := hl
  refine lv_iconst (v := nI 0) hx hb dM_lost_7 (by decide +kernel) ?_
  refine lv_istore_n hx hb dM_lost_8 rfl hl (by decide) rfl (fun ls hl => ?_)
  have hl : lv_has ls 3 [(2, .int (nI 0)), (1, .int (nI 0)), (0, .ref o)] := hl
  have key : ∀ (n : Nat) (j : Nat) (H : Heap) (locs : List Loc) (ls : Array Slot), j + n = 400 →  va_P D cls_ (wM o a b cA iA (nI 0) cf uf) H → va_D A (wM o a b cA iA (nI 0) cf uf) → va_S A s.heap H locs → lv_has ls 3 [(2, .int (nI j)), (1, .int (nI (loF uf j))), (0, .ref o)] → W p l e (headSpec (.code yM_lost cM_lost 3 (some .int) :: gW) ({ frames := 2, cells := 0, slots := 0, locals := 45 })).room s m ([.ref o]).toArray below meth c H locs 0 0 (MQ below (QI (nI (loF uf 400)) D (wM o a b cA iA (nI 0) cf uf) A) ([.ref o]).toArray s 0 0 A) (F0 m 9 ls []) := by
    intro n
    induction n with
    | zero =>
      intro j H locs ls hj hP hD hS hl
      obtain rfl : j = 400 := by omega
      refine lv_iload_n hx hb dM_lost_9 rfl (lv_at hl 0 rfl) ?_
      refine lv_sipush (v := nI 400) hx hb dM_lost_10 (by decide +kernel) ?_
      refine lv_icmp_ge (tgt := 39) hx hb dM_lost_13 (by decide) (fun h13 => ?_) (fun h13 => absurd (nI_le (Nat.le_refl 400) (by decide)) h13)
      refine lv_iload_n hx hb dM_lost_39 rfl (lv_at hl 1 rfl) ?_
      exact W.iret (v := nI (loF uf 400)) hx hb hr (fun t9 ht9 _ => ⟨⟨_, (), rfl, by show _ = _; rfl, by show va_P _ _ _ t9.heap; rw [ht9]; exact hP⟩, hS.F ht9⟩) hS.2.2 dM_lost_40
    | succ n ih =>
      intro j H locs ls hj hP hD hS hl
      refine lv_iload_n hx hb dM_lost_9 rfl (lv_at hl 0 rfl) ?_
      refine lv_sipush (v := nI 400) hx hb dM_lost_10 (by decide +kernel) ?_
      refine lv_icmp_ge (tgt := 39) hx hb dM_lost_13 (by decide) (fun h13 => absurd h13 (nI_ge (by omega) (by decide))) (fun h13 => ?_)
      refine lv_aload_n hx hb dM_lost_16 rfl (lv_at hl 2 rfl) ?_
      refine lv_iload_n hx hb dM_lost_17 rfl (lv_at hl 0 rfl) ?_
      refine kS (n := 1) (As := [.int (nI j)]) (rest := [.ref o]) ⟨hx, hb, hml, hown, hts⟩ (mM_disk l j (by omega)) w_296 w_297 w_2 w_298 (by decide +kernel) ⟨rfl, rfl⟩ ⟨(Nat.le_of_ble_eq_true rfl), (Nat.le_of_ble_eq_true rfl)⟩ rfl hl.1 rfl (Nat.le_of_ble_eq_true rfl) dM_lost_18 ⟨Nat.zero_le _, Nat.zero_le _⟩ ?_
      refine lv_iload_n hx hb dM_lost_21 rfl (lv_at hl 0 rfl) ?_
      refine lv_iconst (v := nI 4) hx hb dM_lost_22 (by decide +kernel) ?_
      refine lv_idiv hx hb dM_lost_23 (by decide +kernel) ?_
      refine tI (pk_div (by omega) (by decide) (by decide)) ?_
      refine kV (n := 2) (As := [.int (nI (dk j)), .int (nI (j / 4))]) (rest := []) ⟨hx, hb, hml, hown, hts⟩ (mM_gone l D o a b cA iA (nI 0) cf uf (dk j) (j / 4) (dk_lt _) (by omega)) w_299 w_301 v_12 w_2 w_302 (by decide +kernel) ⟨rfl, rfl⟩ ⟨(Nat.le_of_ble_eq_true rfl), (Nat.le_of_ble_eq_true rfl)⟩ hP hK 1 0 rfl rfl rfl hl.1 rfl (Nat.le_of_ble_eq_true rfl) dM_lost_24 ⟨Nat.zero_le _, Nat.zero_le _⟩ ?_
      refine lv_if_eq (tgt := 33) hx hb dM_lost_27 (by decide) (fun h27 => ?_) (fun h27 => ?_)
      · have e9 := loF_f (bi_0 h27)
        refine lv_iinc (k := 0) (v := nI (j + 1)) hx hb dM_lost_33 hl rfl (incI _)  (by decide) rfl (fun ls hl => ?_)
        have hl : lv_has ls 3 [(2, .int (nI (j + 1))), (1, .int (nI (loF uf j))), (0, .ref o)] := hl
        refine lv_goto (tgt := 9) hx hb dM_lost_36 (by decide) ?_
        rw [← e9] at hl
        exact ih (j + 1) _ _ _ (by omega) hP hD hS hl
      · have e9 := loF_t (bi_1 h27)
        refine lv_iinc (k := 1) (v := nI (loF uf j + 1)) hx hb dM_lost_30 hl rfl (incI _)  (by decide) rfl (fun ls hl => ?_)
        have hl : lv_has ls 3 [(1, .int (nI (loF uf j + 1))), (2, .int (nI j)), (0, .ref o)] := hl
        refine lv_iinc (k := 1) (v := nI (j + 1)) hx hb dM_lost_33 hl rfl (incI _)  (by decide) rfl (fun ls hl => ?_)
        have hl : lv_has ls 3 [(2, .int (nI (j + 1))), (1, .int (nI (loF uf j + 1))), (0, .ref o)] := hl
        refine lv_goto (tgt := 9) hx hb dM_lost_36 (by decide) ?_
        rw [← e9] at hl
        exact ih (j + 1) _ _ _ (by omega) hP hD hS hl
  exact key 400 0 _ _ _ rfl hP hD hS hl
set_option maxHeartbeats 4000000 in
set_option maxRecDepth 100000 in
theorem mM_scrub (l : Launch) (D : va_G) (o a b : Nat) (cA iA : ClassId) (er : Int32) (cf : Nat → Int64) (uf : Nat → Int32) (sz : Nat)  : Met l yM_scrub (.code yM_scrub cM_scrub 6 (some .int) :: gW) ({ frames := 2, cells := 0, slots := 0, locals := 48 }) (pWs D (wM o a b cA iA er cf uf) (kT cA iA) sz [.ref o]) (QI (nI (scF cf uf 100).2) D (wM o a b cA iA (nI 0) ((scF cf uf 100).1) uf) (va_A (wM o a b cA iA er cf uf) sz)) 0 0 (va_A (wM o a b cA iA er cf uf) sz) := by
  refine Met.ofW (cc := cM_scrub) (maxL := 6) (ret := (some .int)) (by decide) rfl ?_
  intro p e s m args below meth c s₁ B hml hv
  obtain ⟨rfl, hsz, hP, hK, hD0⟩ := hv
  have hx := B.exec
  have hb := B.bytes
  have hr := B.returns
  have hts := atoms_spec (ws := (.code yM_scrub cM_scrub 6 (some .int) :: gW)) B.pre
  have hg : ∀ w ∈ gW, w.before ([.ref o]).toArray s = true := fun w h => hts w (List.mem_cons_of_mem _ h)
  have hown : s.vm.findClass R_M = some m.cls := findClass_of_methodNamed B.named
  have hlocks := B.notSynchronized
  subst hsz
  have hD := hD0.self (sz := s.heap.size)
  generalize hAe : va_A (wM o a b cA iA er cf uf) s.heap.size = A at hD ⊢
  have hA : ∀ q : Nat, s.heap.size ≤ q → A q := fun q h => by rw [← hAe]; exact Or.inr h
  have hS : va_S A s.heap s.heap [] := va_S.rf
  have hP : va_P D cls_ (wM o a b cA iA er cf uf) s.heap := hP
  have hl := lv_entry ([.ref o]) (n := 6) (Nat.le_of_ble_eq_true rfl)
  rw [lg_entry_eq]
  generalize (lg_sl ([.ref o]) ++ List.replicate (6 - (lg_sl ([.ref o])).length) Slot.unset).toArray = ls at hl ⊢
  have hl : lv_has ls 6 [(0, .ref o)] := hl
  refine lv_aload_n hx hb dM_scrub_0 rfl (lv_at hl 0 rfl) ?_
  refine lv_iconst (v := nI 0) hx hb dM_scrub_1 (by decide +kernel) ?_
  refine va_put (D := D) (ci := 1) (v := .int (nI 0)) (ty := .int) (C := R_M) (T := T_M) (N := 3) hx hb hg uM_in ty_M ty_M_ok nd_M hown hK hP hD hS 0 rfl rfl 0 (by decide) (hg _ w_270) (fun _ h9 => h9) rfl (by decide +kernel) rfl rfl (Nat.le_of_ble_eq_true rfl) dM_scrub_2 (fun H locs hP hD hS => ?_)
  have hP : va_P D cls_ (wM o a b cA iA (nI 0) cf uf) H := hP
  have hD : va_D A (wM o a b cA iA (nI 0) cf uf) := hD
  refine lv_iconst (v := nI 0) hx hb dM_scrub_5 (by decide +kernel) ?_
  refine lv_istore_n hx hb dM_scrub_6 rfl hl (by decide) rfl (fun ls hl => ?_)
  have hl : lv_has ls 6 [(1, .int (nI 0)), (0, .ref o)] := hl
  refine lv_iconst (v := nI 0) hx hb dM_scrub_7 (by decide +kernel) ?_
  refine lv_istore_n hx hb dM_scrub_8 rfl hl (by decide) rfl (fun ls hl => ?_)
  have hl : lv_has ls 6 [(2, .int (nI 0)), (1, .int (nI 0)), (0, .ref o)] := hl
  have key : ∀ (n : Nat) (j : Nat) (H : Heap) (locs : List Loc) (ls : Array Slot), j + n = 100 →  va_P D cls_ (wM o a b cA iA (nI 0) ((scF cf uf j).1) uf) H → va_D A (wM o a b cA iA (nI 0) ((scF cf uf j).1) uf) → va_S A s.heap H locs → lv_has ls 6 [(2, .int (nI j)), (1, .int (nI ((scF cf uf j).2))), (0, .ref o)] → W p l e (headSpec (.code yM_scrub cM_scrub 6 (some .int) :: gW) ({ frames := 2, cells := 0, slots := 0, locals := 48 })).room s m ([.ref o]).toArray below meth c H locs 0 0 (MQ below (QI (nI (scF cf uf 100).2) D (wM o a b cA iA (nI 0) ((scF cf uf 100).1) uf) A) ([.ref o]).toArray s 0 0 A) (F0 m 9 ls []) := by
    intro n
    induction n with
    | zero =>
      intro j H locs ls hj hP hD hS hl
      obtain rfl : j = 100 := by omega
      refine lv_iload_n hx hb dM_scrub_9 rfl (lv_at hl 0 rfl) ?_
      refine lv_bipush (v := nI 100) hx hb dM_scrub_10 (by decide +kernel) ?_
      refine lv_icmp_ge (tgt := 147) hx hb dM_scrub_12 (by decide) (fun h12 => ?_) (fun h12 => absurd (nI_le (Nat.le_refl 100) (by decide)) h12)
      refine lv_iload_n hx hb dM_scrub_147 rfl (lv_at hl 1 rfl) ?_
      exact W.iret (v := nI ((scF cf uf 100).2)) hx hb hr (fun t9 ht9 _ => ⟨⟨_, (), rfl, by show _ = _; rfl, by show va_P _ _ _ t9.heap; rw [ht9]; exact hP⟩, hS.F ht9⟩) hS.2.2 dM_scrub_148
    | succ n ih =>
      intro j H locs ls hj hP hD hS hl
      refine lv_iload_n hx hb dM_scrub_9 rfl (lv_at hl 0 rfl) ?_
      refine lv_bipush (v := nI 100) hx hb dM_scrub_10 (by decide +kernel) ?_
      refine lv_icmp_ge (tgt := 147) hx hb dM_scrub_12 (by decide) (fun h12 => absurd h12 (nI_ge (by omega) (by decide))) (fun h12 => ?_)
      refine lv_iload_n hx hb dM_scrub_15 rfl (lv_at hl 0 rfl) ?_
      refine lv_iconst (v := nI 5) hx hb dM_scrub_16 (by decide +kernel) ?_
      refine lv_irem hx hb dM_scrub_17 (by decide +kernel) ?_
      refine tI (pk_rem (by omega) (by decide) (by decide)) ?_
      refine lv_istore_n hx hb dM_scrub_18 rfl hl (by decide) rfl (fun ls hl => ?_)
      have hl : lv_has ls 6 [(3, .int (nI (j % 5))), (2, .int (nI j)), (1, .int (nI ((scF cf uf j).2))), (0, .ref o)] := hl
      refine lv_iconst (v := nI 1) hx hb dM_scrub_19 (by decide +kernel) ?_
      refine lv_istore hx hb dM_scrub_20 hl (by decide) rfl (fun ls hl => ?_)
      have hl : lv_has ls 6 [(4, .int (nI 1)), (3, .int (nI (j % 5))), (2, .int (nI j)), (1, .int (nI ((scF cf uf j).2))), (0, .ref o)] := hl
      refine lv_iconst (v := nI 0) hx hb dM_scrub_22 (by decide +kernel) ?_
      refine lv_istore hx hb dM_scrub_23 hl (by decide) rfl (fun ls hl => ?_)
      have hl : lv_has ls 6 [(5, .int (nI 0)), (4, .int (nI 1)), (3, .int (nI (j % 5))), (2, .int (nI j)), (1, .int (nI ((scF cf uf j).2))), (0, .ref o)] := hl
      have ky2 : ∀ n k : Nat, k + n = 5 → ∀ ls : Array Slot, lv_has ls 6 [(5, .int (nI k)), (4, .int (bi (auN uf j k))), (3, .int (nI (j % 5))), (2, .int (nI j)), (1, .int (nI ((scF cf uf j).2))), (0, .ref o)] → W p l e (headSpec (.code yM_scrub cM_scrub 6 (some .int) :: gW) ({ frames := 2, cells := 0, slots := 0, locals := 48 })).room s m ([.ref o]).toArray below meth c H locs 0 0 (MQ below (QI (nI (scF cf uf 100).2) D (wM o a b cA iA (nI 0) ((scF cf uf 100).1) uf) A) ([.ref o]).toArray s 0 0 A) (F0 m 25 ls []) := by
        intro n
        induction n with
        | zero =>
          intro k hk ls hl
          obtain rfl : k = 5 := by omega
          refine lv_iload hx hb dM_scrub_25 (lv_at hl 0 rfl) ?_
          refine lv_iconst (v := nI 5) hx hb dM_scrub_27 (by decide +kernel) ?_
          refine lv_icmp_ge (tgt := 50) hx hb dM_scrub_28 (by decide) (fun h28 => ?_) (fun h28 => absurd (nI_le (Nat.le_refl 5) (by decide)) h28)
          refine lv_iload hx hb dM_scrub_50 (lv_at hl 1 rfl) ?_
          refine lv_if_eq (tgt := 141) hx hb dM_scrub_52 (by decide) (fun h52 => ?_) (fun h52 => ?_)
          · have ea : allU uf j = false := by rw [← auN_5]; exact bi_0 h52
            refine lv_iinc (k := 3) (v := nI (j + 1)) hx hb dM_scrub_141 hl rfl (incI _)  (by decide) rfl (fun ls hl => ?_)
            have hl : lv_has ls 6 [(2, .int (nI (j + 1))), (5, .int (nI 5)), (4, .int (bi (auN uf j 5))), (3, .int (nI (j % 5))), (1, .int (nI ((scF cf uf j).2))), (0, .ref o)] := hl
            refine lv_goto (tgt := 9) hx hb dM_scrub_144 (by decide) ?_
            rw [← scF_n (cf := cf) ea] at hP hD hl
            have hl := lv_sub hl [0, 4, 5] rfl
            exact ih (j + 1) _ _ _ (by omega) hP hD hS hl
          · have ea : allU uf j = true := by rw [← auN_5]; exact bi_1 h52
            refine lv_aload_n hx hb dM_scrub_55 rfl (lv_at hl 5 rfl) ?_
            refine lv_iload_n hx hb dM_scrub_56 rfl (lv_at hl 2 rfl) ?_
            refine lv_iload_n hx hb dM_scrub_57 rfl (lv_at hl 3 rfl) ?_
            refine lv_iconst (v := nI 0) hx hb dM_scrub_58 (by decide +kernel) ?_
            refine kV (n := 3) (As := [.int (nI (j % 5)), .int (nI j), .int (nI 0)]) (rest := []) ⟨hx, hb, hml, hown, hts⟩ (mM_others l D o a b cA iA (nI 0) ((scF cf uf j).1) uf (j % 5) j 0 (by omega) (by omega) (by omega)) w_314 w_316 v_15 w_2 w_317 (by decide +kernel) ⟨rfl, rfl⟩ ⟨(Nat.le_of_ble_eq_true rfl), (Nat.le_of_ble_eq_true rfl)⟩ hP hK 1 0 rfl rfl rfl hl.1 rfl (Nat.le_of_ble_eq_true rfl) dM_scrub_59 ⟨Nat.zero_le _, Nat.zero_le _⟩ ?_
            refine lv_aload_n hx hb dM_scrub_62 rfl (lv_at hl 5 rfl) ?_
            refine va_get (D := D) (ci := 1) (v := .ref a) (C := R_M) (T := T_M) (N := 3) hx hb hg uM_in hown hK hP 0 rfl rfl 1 (by decide) (hg _ w_271) (fun _ h9 => h9) rfl dM_scrub_63 ?_
            refine lv_iload_n hx hb dM_scrub_66 rfl (lv_at hl 2 rfl) ?_
            refine lv_iload_n hx hb dM_scrub_67 rfl (lv_at hl 3 rfl) ?_
            refine lv_iconst (v := nI 0) hx hb dM_scrub_68 (by decide +kernel) ?_
            refine kS (n := 3) (As := [.int (nI (j % 5)), .int (nI j), .int (nI 0)]) (rest := [.ref a, .long (xo ((scF cf uf j).1) (j % 5) j 0)]) ⟨hx, hb, hml, hown, hts⟩ (mM_at l (j % 5) j 0) w_311 w_312 w_2 w_313 (by decide +kernel) ⟨rfl, rfl⟩ ⟨(Nat.le_of_ble_eq_true rfl), (Nat.le_of_ble_eq_true rfl)⟩ rfl hl.1 rfl (Nat.le_of_ble_eq_true rfl) dM_scrub_69 ⟨Nat.zero_le _, Nat.zero_le _⟩ ?_
            refine aL hx hb hK hP 1 0 rfl rfl (ix_lt (by omega) (by omega) (by omega)) (by decide) dM_scrub_72 ?_
            refine W.lcmp hx hb dM_scrub_73 ?_
            refine lv_if_ne (tgt := 102) hx hb dM_scrub_74 (by decide) (fun h74 => ?_) (fun h74 => ?_)
            · have eg := good_n0 (cf := (scF cf uf j).1) (s := j) (fun z => h74 ((lg_cmp_eq _ _).mpr z.symm))
              refine lv_iinc (k := 4) (v := nI ((scF cf uf j).2 + 1)) hx hb dM_scrub_102 hl rfl (incI _)  (by decide) rfl (fun ls hl => ?_)
              have hl : lv_has ls 6 [(1, .int (nI ((scF cf uf j).2 + 1))), (5, .int (nI 5)), (4, .int (bi (auN uf j 5))), (3, .int (nI (j % 5))), (2, .int (nI j)), (0, .ref o)] := hl
              refine lv_aload_n hx hb dM_scrub_105 rfl (lv_at hl 5 rfl) ?_
              refine va_get (D := D) (ci := 1) (v := .ref a) (C := R_M) (T := T_M) (N := 3) hx hb hg uM_in hown hK hP 0 rfl rfl 1 (by decide) (hg _ w_271) (fun _ h9 => h9) rfl dM_scrub_106 ?_
              refine lv_iload_n hx hb dM_scrub_109 rfl (lv_at hl 3 rfl) ?_
              refine lv_iload_n hx hb dM_scrub_110 rfl (lv_at hl 4 rfl) ?_
              refine lv_iconst (v := nI 0) hx hb dM_scrub_111 (by decide +kernel) ?_
              refine kS (n := 3) (As := [.int (nI (j % 5)), .int (nI j), .int (nI 0)]) (rest := [.ref a]) ⟨hx, hb, hml, hown, hts⟩ (mM_at l (j % 5) j 0) w_311 w_312 w_2 w_313 (by decide +kernel) ⟨rfl, rfl⟩ ⟨(Nat.le_of_ble_eq_true rfl), (Nat.le_of_ble_eq_true rfl)⟩ rfl hl.1 rfl (Nat.le_of_ble_eq_true rfl) dM_scrub_112 ⟨Nat.zero_le _, Nat.zero_le _⟩ ?_
              refine lv_aload_n hx hb dM_scrub_115 rfl (lv_at hl 5 rfl) ?_
              refine lv_iload_n hx hb dM_scrub_116 rfl (lv_at hl 3 rfl) ?_
              refine lv_iload_n hx hb dM_scrub_117 rfl (lv_at hl 4 rfl) ?_
              refine lv_iconst (v := nI 0) hx hb dM_scrub_118 (by decide +kernel) ?_
              refine kV (n := 3) (As := [.int (nI (j % 5)), .int (nI j), .int (nI 0)]) (rest := [.int (nI (ix (j % 5) j 0)), .ref a]) ⟨hx, hb, hml, hown, hts⟩ (mM_others l D o a b cA iA (nI 0) ((scF cf uf j).1) uf (j % 5) j 0 (by omega) (by omega) (by omega)) w_314 w_316 v_15 w_2 w_317 (by decide +kernel) ⟨rfl, rfl⟩ ⟨(Nat.le_of_ble_eq_true rfl), (Nat.le_of_ble_eq_true rfl)⟩ hP hK 1 0 rfl rfl rfl hl.1 rfl (Nat.le_of_ble_eq_true rfl) dM_scrub_119 ⟨Nat.zero_le _, Nat.zero_le _⟩ ?_
              refine sL hx hb hK hP hD hS 1 0 rfl rfl (ix_lt (by omega) (by omega) (by omega)) (by decide) dM_scrub_122 (fun H locs hP hD hS => ?_)
              have hP : va_P D cls_ (wM o a b cA iA (nI 0) (vp_updL ((scF cf uf j).1) (ix (j % 5) j 0) (xo ((scF cf uf j).1) (j % 5) j 0)) uf) H := hP
              have hD : va_D A (wM o a b cA iA (nI 0) (vp_updL ((scF cf uf j).1) (ix (j % 5) j 0) (xo ((scF cf uf j).1) (j % 5) j 0)) uf) := hD
              refine lv_aload_n hx hb dM_scrub_123 rfl (lv_at hl 5 rfl) ?_
              refine va_get (D := D) (ci := 1) (v := .ref a) (C := R_M) (T := T_M) (N := 3) hx hb hg uM_in hown hK hP 0 rfl rfl 1 (by decide) (hg _ w_271) (fun _ h9 => h9) rfl dM_scrub_124 ?_
              refine lv_iload_n hx hb dM_scrub_127 rfl (lv_at hl 3 rfl) ?_
              refine lv_iload_n hx hb dM_scrub_128 rfl (lv_at hl 4 rfl) ?_
              refine lv_iconst (v := nI 1) hx hb dM_scrub_129 (by decide +kernel) ?_
              refine kS (n := 3) (As := [.int (nI (j % 5)), .int (nI j), .int (nI 1)]) (rest := [.ref a]) ⟨hx, hb, hml, hown, hts⟩ (mM_at l (j % 5) j 1) w_311 w_312 w_2 w_313 (by decide +kernel) ⟨rfl, rfl⟩ ⟨(Nat.le_of_ble_eq_true rfl), (Nat.le_of_ble_eq_true rfl)⟩ rfl hl.1 rfl (Nat.le_of_ble_eq_true rfl) dM_scrub_130 ⟨Nat.zero_le _, Nat.zero_le _⟩ ?_
              refine lv_aload_n hx hb dM_scrub_133 rfl (lv_at hl 5 rfl) ?_
              refine lv_iload_n hx hb dM_scrub_134 rfl (lv_at hl 3 rfl) ?_
              refine lv_iload_n hx hb dM_scrub_135 rfl (lv_at hl 4 rfl) ?_
              refine lv_iconst (v := nI 1) hx hb dM_scrub_136 (by decide +kernel) ?_
              refine kV (n := 3) (As := [.int (nI (j % 5)), .int (nI j), .int (nI 1)]) (rest := [.int (nI (ix (j % 5) j 1)), .ref a]) ⟨hx, hb, hml, hown, hts⟩ (mM_others l D o a b cA iA (nI 0) (vp_updL ((scF cf uf j).1) (ix (j % 5) j 0) (xo ((scF cf uf j).1) (j % 5) j 0)) uf (j % 5) j 1 (by omega) (by omega) (by omega)) w_314 w_316 v_15 w_2 w_317 (by decide +kernel) ⟨rfl, rfl⟩ ⟨(Nat.le_of_ble_eq_true rfl), (Nat.le_of_ble_eq_true rfl)⟩ hP hK 1 0 rfl rfl rfl hl.1 rfl (Nat.le_of_ble_eq_true rfl) dM_scrub_137 ⟨Nat.zero_le _, Nat.zero_le _⟩ ?_
              refine sL hx hb hK hP hD hS 1 0 rfl rfl (ix_lt (by omega) (by omega) (by omega)) (by decide) dM_scrub_140 (fun H locs hP hD hS => ?_)
              have hP : va_P D cls_ (wM o a b cA iA (nI 0) (vp_updL (vp_updL ((scF cf uf j).1) (ix (j % 5) j 0) (xo ((scF cf uf j).1) (j % 5) j 0)) (ix (j % 5) j 1) (xo (vp_updL ((scF cf uf j).1) (ix (j % 5) j 0) (xo ((scF cf uf j).1) (j % 5) j 0)) (j % 5) j 1)) uf) H := hP
              have hD : va_D A (wM o a b cA iA (nI 0) (vp_updL (vp_updL ((scF cf uf j).1) (ix (j % 5) j 0) (xo ((scF cf uf j).1) (j % 5) j 0)) (ix (j % 5) j 1) (xo (vp_updL ((scF cf uf j).1) (ix (j % 5) j 0) (xo ((scF cf uf j).1) (j % 5) j 0)) (j % 5) j 1)) uf) := hD
              refine lv_iinc (k := 4) (v := nI (j + 1)) hx hb dM_scrub_141 hl rfl (incI _)  (by decide) rfl (fun ls hl => ?_)
              have hl : lv_has ls 6 [(2, .int (nI (j + 1))), (1, .int (nI ((scF cf uf j).2 + 1))), (5, .int (nI 5)), (4, .int (bi (auN uf j 5))), (3, .int (nI (j % 5))), (0, .ref o)] := hl
              refine lv_goto (tgt := 9) hx hb dM_scrub_144 (by decide) ?_
              have hP : va_P D cls_ (wM o a b cA iA (nI 0) (rbB (scF cf uf j).1 (j % 5) j) uf) H := hP
              have hD : va_D A (wM o a b cA iA (nI 0) (rbB (scF cf uf j).1 (j % 5) j) uf) := hD
              rw [← scF_2b ea eg] at hl
              rw [← scF_r ea] at hP hD
              have hl := lv_sub hl [0, 1, 5] rfl
              exact ih (j + 1) _ _ _ (by omega) hP hD hS hl
            · have e74 := (lg_cmp_eq _ _).mp h74
              refine lv_aload_n hx hb dM_scrub_77 rfl (lv_at hl 5 rfl) ?_
              refine lv_iload_n hx hb dM_scrub_78 rfl (lv_at hl 2 rfl) ?_
              refine lv_iload_n hx hb dM_scrub_79 rfl (lv_at hl 3 rfl) ?_
              refine lv_iconst (v := nI 1) hx hb dM_scrub_80 (by decide +kernel) ?_
              refine kV (n := 3) (As := [.int (nI (j % 5)), .int (nI j), .int (nI 1)]) (rest := []) ⟨hx, hb, hml, hown, hts⟩ (mM_others l D o a b cA iA (nI 0) ((scF cf uf j).1) uf (j % 5) j 1 (by omega) (by omega) (by omega)) w_314 w_316 v_15 w_2 w_317 (by decide +kernel) ⟨rfl, rfl⟩ ⟨(Nat.le_of_ble_eq_true rfl), (Nat.le_of_ble_eq_true rfl)⟩ hP hK 1 0 rfl rfl rfl hl.1 rfl (Nat.le_of_ble_eq_true rfl) dM_scrub_81 ⟨Nat.zero_le _, Nat.zero_le _⟩ ?_
              refine lv_aload_n hx hb dM_scrub_84 rfl (lv_at hl 5 rfl) ?_
              refine va_get (D := D) (ci := 1) (v := .ref a) (C := R_M) (T := T_M) (N := 3) hx hb hg uM_in hown hK hP 0 rfl rfl 1 (by decide) (hg _ w_271) (fun _ h9 => h9) rfl dM_scrub_85 ?_
              refine lv_iload_n hx hb dM_scrub_88 rfl (lv_at hl 2 rfl) ?_
              refine lv_iload_n hx hb dM_scrub_89 rfl (lv_at hl 3 rfl) ?_
              refine lv_iconst (v := nI 1) hx hb dM_scrub_90 (by decide +kernel) ?_
              refine kS (n := 3) (As := [.int (nI (j % 5)), .int (nI j), .int (nI 1)]) (rest := [.ref a, .long (xo ((scF cf uf j).1) (j % 5) j 1)]) ⟨hx, hb, hml, hown, hts⟩ (mM_at l (j % 5) j 1) w_311 w_312 w_2 w_313 (by decide +kernel) ⟨rfl, rfl⟩ ⟨(Nat.le_of_ble_eq_true rfl), (Nat.le_of_ble_eq_true rfl)⟩ rfl hl.1 rfl (Nat.le_of_ble_eq_true rfl) dM_scrub_91 ⟨Nat.zero_le _, Nat.zero_le _⟩ ?_
              refine aL hx hb hK hP 1 0 rfl rfl (ix_lt (by omega) (by omega) (by omega)) (by decide) dM_scrub_94 ?_
              refine W.lcmp hx hb dM_scrub_95 ?_
              refine lv_if_ne (tgt := 102) hx hb dM_scrub_96 (by decide) (fun h96 => ?_) (fun h96 => ?_)
              · have eg := good_n1 (cf := (scF cf uf j).1) (s := j) (fun z => h96 ((lg_cmp_eq _ _).mpr z.symm))
                refine lv_iinc (k := 4) (v := nI ((scF cf uf j).2 + 1)) hx hb dM_scrub_102 hl rfl (incI _)  (by decide) rfl (fun ls hl => ?_)
                have hl : lv_has ls 6 [(1, .int (nI ((scF cf uf j).2 + 1))), (5, .int (nI 5)), (4, .int (bi (auN uf j 5))), (3, .int (nI (j % 5))), (2, .int (nI j)), (0, .ref o)] := hl
                refine lv_aload_n hx hb dM_scrub_105 rfl (lv_at hl 5 rfl) ?_
                refine va_get (D := D) (ci := 1) (v := .ref a) (C := R_M) (T := T_M) (N := 3) hx hb hg uM_in hown hK hP 0 rfl rfl 1 (by decide) (hg _ w_271) (fun _ h9 => h9) rfl dM_scrub_106 ?_
                refine lv_iload_n hx hb dM_scrub_109 rfl (lv_at hl 3 rfl) ?_
                refine lv_iload_n hx hb dM_scrub_110 rfl (lv_at hl 4 rfl) ?_
                refine lv_iconst (v := nI 0) hx hb dM_scrub_111 (by decide +kernel) ?_
                refine kS (n := 3) (As := [.int (nI (j % 5)), .int (nI j), .int (nI 0)]) (rest := [.ref a]) ⟨hx, hb, hml, hown, hts⟩ (mM_at l (j % 5) j 0) w_311 w_312 w_2 w_313 (by decide +kernel) ⟨rfl, rfl⟩ ⟨(Nat.le_of_ble_eq_true rfl), (Nat.le_of_ble_eq_true rfl)⟩ rfl hl.1 rfl (Nat.le_of_ble_eq_true rfl) dM_scrub_112 ⟨Nat.zero_le _, Nat.zero_le _⟩ ?_
                refine lv_aload_n hx hb dM_scrub_115 rfl (lv_at hl 5 rfl) ?_
                refine lv_iload_n hx hb dM_scrub_116 rfl (lv_at hl 3 rfl) ?_
                refine lv_iload_n hx hb dM_scrub_117 rfl (lv_at hl 4 rfl) ?_
                refine lv_iconst (v := nI 0) hx hb dM_scrub_118 (by decide +kernel) ?_
                refine kV (n := 3) (As := [.int (nI (j % 5)), .int (nI j), .int (nI 0)]) (rest := [.int (nI (ix (j % 5) j 0)), .ref a]) ⟨hx, hb, hml, hown, hts⟩ (mM_others l D o a b cA iA (nI 0) ((scF cf uf j).1) uf (j % 5) j 0 (by omega) (by omega) (by omega)) w_314 w_316 v_15 w_2 w_317 (by decide +kernel) ⟨rfl, rfl⟩ ⟨(Nat.le_of_ble_eq_true rfl), (Nat.le_of_ble_eq_true rfl)⟩ hP hK 1 0 rfl rfl rfl hl.1 rfl (Nat.le_of_ble_eq_true rfl) dM_scrub_119 ⟨Nat.zero_le _, Nat.zero_le _⟩ ?_
                refine sL hx hb hK hP hD hS 1 0 rfl rfl (ix_lt (by omega) (by omega) (by omega)) (by decide) dM_scrub_122 (fun H locs hP hD hS => ?_)
                have hP : va_P D cls_ (wM o a b cA iA (nI 0) (vp_updL ((scF cf uf j).1) (ix (j % 5) j 0) (xo ((scF cf uf j).1) (j % 5) j 0)) uf) H := hP
                have hD : va_D A (wM o a b cA iA (nI 0) (vp_updL ((scF cf uf j).1) (ix (j % 5) j 0) (xo ((scF cf uf j).1) (j % 5) j 0)) uf) := hD
                refine lv_aload_n hx hb dM_scrub_123 rfl (lv_at hl 5 rfl) ?_
                refine va_get (D := D) (ci := 1) (v := .ref a) (C := R_M) (T := T_M) (N := 3) hx hb hg uM_in hown hK hP 0 rfl rfl 1 (by decide) (hg _ w_271) (fun _ h9 => h9) rfl dM_scrub_124 ?_
                refine lv_iload_n hx hb dM_scrub_127 rfl (lv_at hl 3 rfl) ?_
                refine lv_iload_n hx hb dM_scrub_128 rfl (lv_at hl 4 rfl) ?_
                refine lv_iconst (v := nI 1) hx hb dM_scrub_129 (by decide +kernel) ?_
                refine kS (n := 3) (As := [.int (nI (j % 5)), .int (nI j), .int (nI 1)]) (rest := [.ref a]) ⟨hx, hb, hml, hown, hts⟩ (mM_at l (j % 5) j 1) w_311 w_312 w_2 w_313 (by decide +kernel) ⟨rfl, rfl⟩ ⟨(Nat.le_of_ble_eq_true rfl), (Nat.le_of_ble_eq_true rfl)⟩ rfl hl.1 rfl (Nat.le_of_ble_eq_true rfl) dM_scrub_130 ⟨Nat.zero_le _, Nat.zero_le _⟩ ?_
                refine lv_aload_n hx hb dM_scrub_133 rfl (lv_at hl 5 rfl) ?_
                refine lv_iload_n hx hb dM_scrub_134 rfl (lv_at hl 3 rfl) ?_
                refine lv_iload_n hx hb dM_scrub_135 rfl (lv_at hl 4 rfl) ?_
                refine lv_iconst (v := nI 1) hx hb dM_scrub_136 (by decide +kernel) ?_
                refine kV (n := 3) (As := [.int (nI (j % 5)), .int (nI j), .int (nI 1)]) (rest := [.int (nI (ix (j % 5) j 1)), .ref a]) ⟨hx, hb, hml, hown, hts⟩ (mM_others l D o a b cA iA (nI 0) (vp_updL ((scF cf uf j).1) (ix (j % 5) j 0) (xo ((scF cf uf j).1) (j % 5) j 0)) uf (j % 5) j 1 (by omega) (by omega) (by omega)) w_314 w_316 v_15 w_2 w_317 (by decide +kernel) ⟨rfl, rfl⟩ ⟨(Nat.le_of_ble_eq_true rfl), (Nat.le_of_ble_eq_true rfl)⟩ hP hK 1 0 rfl rfl rfl hl.1 rfl (Nat.le_of_ble_eq_true rfl) dM_scrub_137 ⟨Nat.zero_le _, Nat.zero_le _⟩ ?_
                refine sL hx hb hK hP hD hS 1 0 rfl rfl (ix_lt (by omega) (by omega) (by omega)) (by decide) dM_scrub_140 (fun H locs hP hD hS => ?_)
                have hP : va_P D cls_ (wM o a b cA iA (nI 0) (vp_updL (vp_updL ((scF cf uf j).1) (ix (j % 5) j 0) (xo ((scF cf uf j).1) (j % 5) j 0)) (ix (j % 5) j 1) (xo (vp_updL ((scF cf uf j).1) (ix (j % 5) j 0) (xo ((scF cf uf j).1) (j % 5) j 0)) (j % 5) j 1)) uf) H := hP
                have hD : va_D A (wM o a b cA iA (nI 0) (vp_updL (vp_updL ((scF cf uf j).1) (ix (j % 5) j 0) (xo ((scF cf uf j).1) (j % 5) j 0)) (ix (j % 5) j 1) (xo (vp_updL ((scF cf uf j).1) (ix (j % 5) j 0) (xo ((scF cf uf j).1) (j % 5) j 0)) (j % 5) j 1)) uf) := hD
                refine lv_iinc (k := 4) (v := nI (j + 1)) hx hb dM_scrub_141 hl rfl (incI _)  (by decide) rfl (fun ls hl => ?_)
                have hl : lv_has ls 6 [(2, .int (nI (j + 1))), (1, .int (nI ((scF cf uf j).2 + 1))), (5, .int (nI 5)), (4, .int (bi (auN uf j 5))), (3, .int (nI (j % 5))), (0, .ref o)] := hl
                refine lv_goto (tgt := 9) hx hb dM_scrub_144 (by decide) ?_
                have hP : va_P D cls_ (wM o a b cA iA (nI 0) (rbB (scF cf uf j).1 (j % 5) j) uf) H := hP
                have hD : va_D A (wM o a b cA iA (nI 0) (rbB (scF cf uf j).1 (j % 5) j) uf) := hD
                rw [← scF_2b ea eg] at hl
                rw [← scF_r ea] at hP hD
                have hl := lv_sub hl [0, 1, 5] rfl
                exact ih (j + 1) _ _ _ (by omega) hP hD hS hl
              · have e96 := (lg_cmp_eq _ _).mp h96
                refine lv_goto (tgt := 141) hx hb dM_scrub_99 (by decide) ?_
                refine lv_iinc (k := 3) (v := nI (j + 1)) hx hb dM_scrub_141 hl rfl (incI _)  (by decide) rfl (fun ls hl => ?_)
                have hl : lv_has ls 6 [(2, .int (nI (j + 1))), (5, .int (nI 5)), (4, .int (bi (auN uf j 5))), (3, .int (nI (j % 5))), (1, .int (nI ((scF cf uf j).2))), (0, .ref o)] := hl
                refine lv_goto (tgt := 9) hx hb dM_scrub_144 (by decide) ?_
                have eg := good_i e74.symm e96.symm
                rw [← scF_2n ea eg] at hl
                rw [← scF_1g ea (by omega) eg] at hP hD
                have hl := lv_sub hl [0, 4, 5] rfl
                exact ih (j + 1) _ _ _ (by omega) hP hD hS hl
        | succ n ih2 =>
          intro k hk ls hl
          refine lv_iload hx hb dM_scrub_25 (lv_at hl 0 rfl) ?_
          refine lv_iconst (v := nI 5) hx hb dM_scrub_27 (by decide +kernel) ?_
          refine lv_icmp_ge (tgt := 50) hx hb dM_scrub_28 (by decide) (fun h28 => absurd h28 (nI_ge (by omega) (by decide))) (fun h28 => ?_)
          refine lv_aload_n hx hb dM_scrub_31 rfl (lv_at hl 5 rfl) ?_
          refine lv_iload hx hb dM_scrub_32 (lv_at hl 0 rfl) ?_
          refine lv_iload_n hx hb dM_scrub_34 rfl (lv_at hl 3 rfl) ?_
          refine kV (n := 2) (As := [.int (nI k), .int (nI j)]) (rest := []) ⟨hx, hb, hml, hown, hts⟩ (mM_usable l D o a b cA iA (nI 0) ((scF cf uf j).1) uf k j (by omega) (by omega)) w_303 w_305 v_13 w_2 w_306 (by decide +kernel) ⟨rfl, rfl⟩ ⟨(Nat.le_of_ble_eq_true rfl), (Nat.le_of_ble_eq_true rfl)⟩ hP hK 1 0 rfl rfl rfl hl.1 rfl (Nat.le_of_ble_eq_true rfl) dM_scrub_35 ⟨Nat.zero_le _, Nat.zero_le _⟩ ?_
          refine lv_if_ne (tgt := 44) hx hb dM_scrub_38 (by decide) (fun h38 => ?_) (fun h38 => ?_)
          · refine lv_iinc (k := 0) (v := nI (k + 1)) hx hb dM_scrub_44 hl rfl (incI _)  (by decide) rfl (fun ls hl => ?_)
            have hl : lv_has ls 6 [(5, .int (nI (k + 1))), (4, .int (bi (auN uf j k))), (3, .int (nI (j % 5))), (2, .int (nI j)), (1, .int (nI ((scF cf uf j).2))), (0, .ref o)] := hl
            refine lv_goto (tgt := 25) hx hb dM_scrub_47 (by decide) ?_
            rw [← auN_t (bi_1 h38)] at hl
            exact ih2 (k + 1) (by omega) ls hl
          · refine lv_iconst (v := nI 0) hx hb dM_scrub_41 (by decide +kernel) ?_
            refine lv_istore hx hb dM_scrub_42 hl (by decide) rfl (fun ls hl => ?_)
            have hl : lv_has ls 6 [(4, .int (nI 0)), (5, .int (nI k)), (3, .int (nI (j % 5))), (2, .int (nI j)), (1, .int (nI ((scF cf uf j).2))), (0, .ref o)] := hl
            refine lv_iinc (k := 1) (v := nI (k + 1)) hx hb dM_scrub_44 hl rfl (incI _)  (by decide) rfl (fun ls hl => ?_)
            have hl : lv_has ls 6 [(5, .int (nI (k + 1))), (4, .int (nI 0)), (3, .int (nI (j % 5))), (2, .int (nI j)), (1, .int (nI ((scF cf uf j).2))), (0, .ref o)] := hl
            refine lv_goto (tgt := 25) hx hb dM_scrub_47 (by decide) ?_
            have e8 : nI 0 = bi (auN uf j (k + 1)) := by rw [auN_f (bi_0 h38)]; rfl
            rw [e8] at hl
            exact ih2 (k + 1) (by omega) ls hl
      exact ky2 5 0 rfl ls hl
  exact key 100 0 _ _ _ rfl hP hD hS hl
end
section
def cf0 : Nat → Int64 := fun _ => 0
theorem cell_l (n : Nat) (cA : ClassId) : vp_cell cA (n, .inr (.inl cf0)) = arrV cA n (fun _ => defaultValue .long) := rfl
theorem cell_i (n : Nat) (cA : ClassId) : vp_cell cA (n, .inl (fun _ => 0)) = arrV cA n (fun _ => defaultValue .int) := rfl
def uf0 : Nat → Int32 := upd (upd (upd (upd (upd (fun _ => 0) 0 (nI 100)) 1 (nI 100)) 2 (nI 100)) 3 (nI 100)) 4 (nI 100)
set_option maxHeartbeats 400000 in
set_option maxRecDepth 100000 in
theorem mX_init (l : Launch) (D : va_G) (o sz : Nat) : Met l yX_init (.code yX_init cX_init 2 none :: gW) ({ frames := 1, cells := 2, slots := 1005, locals := 12 }) (pWs D [(o, .inr (0, [.null, .null]))] [] sz [.ref o]) (va_Qv (fun (_ : Unit) => True) (fun _ t => ∃ (a b : Nat) (cA iA : ClassId), va_P D cls_ (wX o a b cA iA cf0 uf0) t.heap ∧ va_K D cls_ (kT cA iA) t ∧ va_D (va_A [(o, .inr (0, [.null, .null]))] sz) (wX o a b cA iA cf0 uf0)) (va_A [(o, .inr (0, [.null, .null]))] sz)) 2 1005 (va_A [(o, .inr (0, [.null, .null]))] sz) := by
  refine Met.ofW (cc := cX_init) (maxL := 2) (ret := none) (by decide) rfl ?_
  intro p e s m args below meth c s₁ B hml hv
  obtain ⟨rfl, hsz, hP, hK, hD0⟩ := hv
  have hx := B.exec
  have hb := B.bytes
  have hr := B.returns
  have hts := atoms_spec (ws := (.code yX_init cX_init 2 none :: gW)) B.pre
  have hg : ∀ w ∈ gW, w.before ([.ref o]).toArray s = true := fun w h => hts w (List.mem_cons_of_mem _ h)
  have hown : s.vm.findClass R_X = some m.cls := findClass_of_methodNamed B.named
  have hlocks := B.notSynchronized
  have hin : meth.name = "<init>" := (name_of_methodNamed B.named B.method).1
  subst hsz
  have hD := hD0.self (sz := s.heap.size)
  generalize hAe : va_A [(o, .inr (0, [.null, .null]))] s.heap.size = A at hD ⊢
  have hA : ∀ q : Nat, s.heap.size ≤ q → A q := fun q h => by rw [← hAe]; exact Or.inr h
  have hS : va_S A s.heap s.heap [] := va_S.rf
  have hP : va_P D cls_ [(o, .inr (0, [.null, .null]))] s.heap := hP
  have hl := lv_entry ([.ref o]) (n := 2) (Nat.le_of_ble_eq_true rfl)
  rw [lg_entry_eq]
  generalize (lg_sl ([.ref o]) ++ List.replicate (2 - (lg_sl ([.ref o])).length) Slot.unset).toArray = ls at hl ⊢
  have hl : lv_has ls 2 [(0, .ref o)] := hl
  refine lv_aload_n hx hb dX_init_0 rfl (lv_at hl 0 rfl) ?_
  refine W.objInit hx hb hown (hg _ w_15) (hg _ w_16) (hg _ w_17) rfl (by rw [hml]; exact hl.1) rfl dX_init_1 (Nat.le_of_ble_eq_true rfl) (Nat.le_of_ble_eq_true rfl) ?_
  refine W.eq (g2 := F0 m 4 ls []) rfl ?_
  refine lv_aload_n hx hb dX_init_4 rfl (lv_at hl 0 rfl) ?_
  refine lv_sipush (v := nI 1000) hx hb dX_init_5 (by decide +kernel) ?_
  refine va_newa (atype := .long) (ty := .long) (N' := 1000) (a0 := (1000, .inr (.inl cf0))) hx hb (hg _ w_25) rfl hK hP hD hS hA (cell_l 1000) (by decide +kernel) (by decide +kernel) (by decide +kernel) (Nat.le_of_ble_eq_true rfl) (Nat.le_of_ble_eq_true rfl) dX_init_8 (fun a cA H hK hP hD hS => ?_)
  refine W.widen (k := 1) (n := 1000) (by omega) (by omega) ?_
  have hP : va_P D cls_ [(o, .inr (0, [.null, .null])), (a, .inl (cA, 1000, .inr (.inl cf0)))] H := hP
  have hD : va_D A [(o, .inr (0, [.null, .null])), (a, .inl (cA, 1000, .inr (.inl cf0)))] := hD
  have hK : va_K D cls_ [(cA, .long)] s := hK
  refine va_putF (D := D) (ci := 0) (v := .ref a) (ty := .array .long) (C := R_X) (T := T_X) (N := 2) hx hb hg uX_in ty_X ty_X_ok nd_X hown hK hP hD hS 0 rfl rfl 0 (by decide) (hg _ w_18) (fun _ h9 => h9) rfl hin rfl (by decide +kernel) rfl rfl (Nat.le_of_ble_eq_true rfl) dX_init_10 (fun H locs hP hD hS => ?_)
  have hP : va_P D cls_ [(o, .inr (0, [.ref a, .null])), (a, .inl (cA, 1000, .inr (.inl cf0)))] H := hP
  have hD : va_D A [(o, .inr (0, [.ref a, .null])), (a, .inl (cA, 1000, .inr (.inl cf0)))] := hD
  refine lv_aload_n hx hb dX_init_13 rfl (lv_at hl 0 rfl) ?_
  refine lv_iconst (v := nI 5) hx hb dX_init_14 (by decide +kernel) ?_
  refine va_newa (atype := .int) (ty := .int) (N' := 5) (a0 := (5, .inl (fun _ => 0))) hx hb (hg _ w_26) rfl hK hP hD hS hA (cell_i 5) (by decide +kernel) (by decide +kernel) (by decide +kernel) (Nat.le_of_ble_eq_true rfl) (Nat.le_of_ble_eq_true rfl) dX_init_15 (fun b iA H hK hP hD hS => ?_)
  refine W.widen (k := 2) (n := 1005) (by omega) (by omega) ?_
  have hK : va_K D cls_ (kT cA iA) s := hK
  refine va_putF (D := D) (ci := 0) (v := .ref b) (ty := .array .int) (C := R_X) (T := T_X) (N := 2) hx hb hg uX_in ty_X ty_X_ok nd_X hown hK hP hD hS 0 rfl rfl 1 (by decide) (hg _ w_19) (fun _ h9 => h9) rfl hin rfl (by decide +kernel) rfl rfl (Nat.le_of_ble_eq_true rfl) dX_init_17 (fun H locs hP hD hS => ?_)
  have hP : va_P D cls_ (wX o a b cA iA cf0 (fun _ => 0)) H := hP
  have hD : va_D A (wX o a b cA iA cf0 (fun _ => 0)) := hD
  refine lv_iconst (v := nI 0) hx hb dX_init_20 (by decide +kernel) ?_
  refine lv_istore_n hx hb dX_init_21 rfl hl (by decide) rfl (fun ls hl => ?_)
  have hl : lv_has ls 2 [(1, .int (nI 0)), (0, .ref o)] := hl
  refine lv_iload_n hx hb dX_init_22 rfl (lv_at hl 0 rfl) ?_
  refine lv_iconst (v := nI 5) hx hb dX_init_23 (by decide +kernel) ?_
  refine lv_icmp_ge (tgt := 41) hx hb dX_init_24 (by decide) (fun h24 => absurd h24 (by decide +kernel)) (fun h24 => ?_)
  refine lv_aload_n hx hb dX_init_27 rfl (lv_at hl 1 rfl) ?_
  refine va_get (D := D) (ci := 0) (v := .ref b) (C := R_X) (T := T_X) (N := 2) hx hb hg uX_in hown hK hP 0 rfl rfl 1 (by decide) (hg _ w_19) (fun _ h9 => h9) rfl dX_init_28 ?_
  refine lv_iload_n hx hb dX_init_31 rfl (lv_at hl 0 rfl) ?_
  refine lv_bipush (v := nI 100) hx hb dX_init_32 (by decide +kernel) ?_
  refine sI hx hb hK hP hD hS 2 1 rfl rfl (by omega) (by decide) dX_init_34 (fun H locs hP hD hS => ?_)
  have hP : va_P D cls_ (wX o a b cA iA cf0 (upd (fun _ => 0) 0 (nI 100))) H := hP
  have hD : va_D A (wX o a b cA iA cf0 (upd (fun _ => 0) 0 (nI 100))) := hD
  refine lv_iinc (k := 0) (v := nI 1) hx hb dX_init_35 hl rfl (by decide +kernel)  (by decide) rfl (fun ls hl => ?_)
  have hl : lv_has ls 2 [(1, .int (nI 1)), (0, .ref o)] := hl
  refine lv_goto (tgt := 22) hx hb dX_init_38 (by decide) ?_
  refine lv_iload_n hx hb dX_init_22 rfl (lv_at hl 0 rfl) ?_
  refine lv_iconst (v := nI 5) hx hb dX_init_23 (by decide +kernel) ?_
  refine lv_icmp_ge (tgt := 41) hx hb dX_init_24 (by decide) (fun h24 => absurd h24 (by decide +kernel)) (fun h24 => ?_)
  refine lv_aload_n hx hb dX_init_27 rfl (lv_at hl 1 rfl) ?_
  refine va_get (D := D) (ci := 0) (v := .ref b) (C := R_X) (T := T_X) (N := 2) hx hb hg uX_in hown hK hP 0 rfl rfl 1 (by decide) (hg _ w_19) (fun _ h9 => h9) rfl dX_init_28 ?_
  refine lv_iload_n hx hb dX_init_31 rfl (lv_at hl 0 rfl) ?_
  refine lv_bipush (v := nI 100) hx hb dX_init_32 (by decide +kernel) ?_
  refine sI hx hb hK hP hD hS 2 1 rfl rfl (by omega) (by decide) dX_init_34 (fun H locs hP hD hS => ?_)
  have hP : va_P D cls_ (wX o a b cA iA cf0 (upd (upd (fun _ => 0) 0 (nI 100)) 1 (nI 100))) H := hP
  have hD : va_D A (wX o a b cA iA cf0 (upd (upd (fun _ => 0) 0 (nI 100)) 1 (nI 100))) := hD
  refine lv_iinc (k := 0) (v := nI 2) hx hb dX_init_35 hl rfl (by decide +kernel)  (by decide) rfl (fun ls hl => ?_)
  have hl : lv_has ls 2 [(1, .int (nI 2)), (0, .ref o)] := hl
  refine lv_goto (tgt := 22) hx hb dX_init_38 (by decide) ?_
  refine lv_iload_n hx hb dX_init_22 rfl (lv_at hl 0 rfl) ?_
  refine lv_iconst (v := nI 5) hx hb dX_init_23 (by decide +kernel) ?_
  refine lv_icmp_ge (tgt := 41) hx hb dX_init_24 (by decide) (fun h24 => absurd h24 (by decide +kernel)) (fun h24 => ?_)
  refine lv_aload_n hx hb dX_init_27 rfl (lv_at hl 1 rfl) ?_
  refine va_get (D := D) (ci := 0) (v := .ref b) (C := R_X) (T := T_X) (N := 2) hx hb hg uX_in hown hK hP 0 rfl rfl 1 (by decide) (hg _ w_19) (fun _ h9 => h9) rfl dX_init_28 ?_
  refine lv_iload_n hx hb dX_init_31 rfl (lv_at hl 0 rfl) ?_
  refine lv_bipush (v := nI 100) hx hb dX_init_32 (by decide +kernel) ?_
  refine sI hx hb hK hP hD hS 2 1 rfl rfl (by omega) (by decide) dX_init_34 (fun H locs hP hD hS => ?_)
  have hP : va_P D cls_ (wX o a b cA iA cf0 (upd (upd (upd (fun _ => 0) 0 (nI 100)) 1 (nI 100)) 2 (nI 100))) H := hP
  have hD : va_D A (wX o a b cA iA cf0 (upd (upd (upd (fun _ => 0) 0 (nI 100)) 1 (nI 100)) 2 (nI 100))) := hD
  refine lv_iinc (k := 0) (v := nI 3) hx hb dX_init_35 hl rfl (by decide +kernel)  (by decide) rfl (fun ls hl => ?_)
  have hl : lv_has ls 2 [(1, .int (nI 3)), (0, .ref o)] := hl
  refine lv_goto (tgt := 22) hx hb dX_init_38 (by decide) ?_
  refine lv_iload_n hx hb dX_init_22 rfl (lv_at hl 0 rfl) ?_
  refine lv_iconst (v := nI 5) hx hb dX_init_23 (by decide +kernel) ?_
  refine lv_icmp_ge (tgt := 41) hx hb dX_init_24 (by decide) (fun h24 => absurd h24 (by decide +kernel)) (fun h24 => ?_)
  refine lv_aload_n hx hb dX_init_27 rfl (lv_at hl 1 rfl) ?_
  refine va_get (D := D) (ci := 0) (v := .ref b) (C := R_X) (T := T_X) (N := 2) hx hb hg uX_in hown hK hP 0 rfl rfl 1 (by decide) (hg _ w_19) (fun _ h9 => h9) rfl dX_init_28 ?_
  refine lv_iload_n hx hb dX_init_31 rfl (lv_at hl 0 rfl) ?_
  refine lv_bipush (v := nI 100) hx hb dX_init_32 (by decide +kernel) ?_
  refine sI hx hb hK hP hD hS 2 1 rfl rfl (by omega) (by decide) dX_init_34 (fun H locs hP hD hS => ?_)
  have hP : va_P D cls_ (wX o a b cA iA cf0 (upd (upd (upd (upd (fun _ => 0) 0 (nI 100)) 1 (nI 100)) 2 (nI 100)) 3 (nI 100))) H := hP
  have hD : va_D A (wX o a b cA iA cf0 (upd (upd (upd (upd (fun _ => 0) 0 (nI 100)) 1 (nI 100)) 2 (nI 100)) 3 (nI 100))) := hD
  refine lv_iinc (k := 0) (v := nI 4) hx hb dX_init_35 hl rfl (by decide +kernel)  (by decide) rfl (fun ls hl => ?_)
  have hl : lv_has ls 2 [(1, .int (nI 4)), (0, .ref o)] := hl
  refine lv_goto (tgt := 22) hx hb dX_init_38 (by decide) ?_
  refine lv_iload_n hx hb dX_init_22 rfl (lv_at hl 0 rfl) ?_
  refine lv_iconst (v := nI 5) hx hb dX_init_23 (by decide +kernel) ?_
  refine lv_icmp_ge (tgt := 41) hx hb dX_init_24 (by decide) (fun h24 => absurd h24 (by decide +kernel)) (fun h24 => ?_)
  refine lv_aload_n hx hb dX_init_27 rfl (lv_at hl 1 rfl) ?_
  refine va_get (D := D) (ci := 0) (v := .ref b) (C := R_X) (T := T_X) (N := 2) hx hb hg uX_in hown hK hP 0 rfl rfl 1 (by decide) (hg _ w_19) (fun _ h9 => h9) rfl dX_init_28 ?_
  refine lv_iload_n hx hb dX_init_31 rfl (lv_at hl 0 rfl) ?_
  refine lv_bipush (v := nI 100) hx hb dX_init_32 (by decide +kernel) ?_
  refine sI hx hb hK hP hD hS 2 1 rfl rfl (by omega) (by decide) dX_init_34 (fun H locs hP hD hS => ?_)
  have hP : va_P D cls_ (wX o a b cA iA cf0 (upd (upd (upd (upd (upd (fun _ => 0) 0 (nI 100)) 1 (nI 100)) 2 (nI 100)) 3 (nI 100)) 4 (nI 100))) H := hP
  have hD : va_D A (wX o a b cA iA cf0 (upd (upd (upd (upd (upd (fun _ => 0) 0 (nI 100)) 1 (nI 100)) 2 (nI 100)) 3 (nI 100)) 4 (nI 100))) := hD
  refine lv_iinc (k := 0) (v := nI 5) hx hb dX_init_35 hl rfl (by decide +kernel)  (by decide) rfl (fun ls hl => ?_)
  have hl : lv_has ls 2 [(1, .int (nI 5)), (0, .ref o)] := hl
  refine lv_goto (tgt := 22) hx hb dX_init_38 (by decide) ?_
  refine lv_iload_n hx hb dX_init_22 rfl (lv_at hl 0 rfl) ?_
  refine lv_iconst (v := nI 5) hx hb dX_init_23 (by decide +kernel) ?_
  refine lv_icmp_ge (tgt := 41) hx hb dX_init_24 (by decide) (fun h24 => ?_) (fun h24 => absurd (by decide +kernel) h24)
  exact W.vret hx hb hr (fun t9 ht9 hW9 => ⟨⟨(), rfl, trivial, a, b, cA, iA, by rw [ht9]; exact hP, va_K.moved hW9.alike hK, hD⟩, hS.F ht9⟩) hS.2.2 dX_init_41
set_option maxHeartbeats 400000 in
set_option maxRecDepth 100000 in
theorem mM_init (l : Launch) (D : va_G) (o sz : Nat) : Met l yM_init (.code yM_init cM_init 2 none :: gW) ({ frames := 1, cells := 2, slots := 1005, locals := 12 }) (pWs D [(o, .inr (1, [.int 0, .null, .null]))] [] sz [.ref o]) (va_Qv (fun (_ : Unit) => True) (fun _ t => ∃ (a b : Nat) (cA iA : ClassId), va_P D cls_ (wM o a b cA iA 0 cf0 uf0) t.heap ∧ va_K D cls_ (kT cA iA) t ∧ va_D (va_A [(o, .inr (1, [.int 0, .null, .null]))] sz) (wM o a b cA iA 0 cf0 uf0)) (va_A [(o, .inr (1, [.int 0, .null, .null]))] sz)) 2 1005 (va_A [(o, .inr (1, [.int 0, .null, .null]))] sz) := by
  refine Met.ofW (cc := cM_init) (maxL := 2) (ret := none) (by decide) rfl ?_
  intro p e s m args below meth c s₁ B hml hv
  obtain ⟨rfl, hsz, hP, hK, hD0⟩ := hv
  have hx := B.exec
  have hb := B.bytes
  have hr := B.returns
  have hts := atoms_spec (ws := (.code yM_init cM_init 2 none :: gW)) B.pre
  have hg : ∀ w ∈ gW, w.before ([.ref o]).toArray s = true := fun w h => hts w (List.mem_cons_of_mem _ h)
  have hown : s.vm.findClass R_M = some m.cls := findClass_of_methodNamed B.named
  have hlocks := B.notSynchronized
  have hin : meth.name = "<init>" := (name_of_methodNamed B.named B.method).1
  subst hsz
  have hD := hD0.self (sz := s.heap.size)
  generalize hAe : va_A [(o, .inr (1, [.int 0, .null, .null]))] s.heap.size = A at hD ⊢
  have hA : ∀ q : Nat, s.heap.size ≤ q → A q := fun q h => by rw [← hAe]; exact Or.inr h
  have hS : va_S A s.heap s.heap [] := va_S.rf
  have hP : va_P D cls_ [(o, .inr (1, [.int 0, .null, .null]))] s.heap := hP
  have hl := lv_entry ([.ref o]) (n := 2) (Nat.le_of_ble_eq_true rfl)
  rw [lg_entry_eq]
  generalize (lg_sl ([.ref o]) ++ List.replicate (2 - (lg_sl ([.ref o])).length) Slot.unset).toArray = ls at hl ⊢
  have hl : lv_has ls 2 [(0, .ref o)] := hl
  refine lv_aload_n hx hb dM_init_0 rfl (lv_at hl 0 rfl) ?_
  refine W.objInit hx hb hown (hg _ w_269) (hg _ w_16) (hg _ w_17) rfl (by rw [hml]; exact hl.1) rfl dM_init_1 (Nat.le_of_ble_eq_true rfl) (Nat.le_of_ble_eq_true rfl) ?_
  refine W.eq (g2 := F0 m 4 ls []) rfl ?_
  refine lv_aload_n hx hb dM_init_4 rfl (lv_at hl 0 rfl) ?_
  refine lv_sipush (v := nI 1000) hx hb dM_init_5 (by decide +kernel) ?_
  refine va_newa (atype := .long) (ty := .long) (N' := 1000) (a0 := (1000, .inr (.inl cf0))) hx hb (hg _ w_25) rfl hK hP hD hS hA (cell_l 1000) (by decide +kernel) (by decide +kernel) (by decide +kernel) (Nat.le_of_ble_eq_true rfl) (Nat.le_of_ble_eq_true rfl) dM_init_8 (fun a cA H hK hP hD hS => ?_)
  refine W.widen (k := 1) (n := 1000) (by omega) (by omega) ?_
  have hP : va_P D cls_ [(o, .inr (1, [.int 0, .null, .null])), (a, .inl (cA, 1000, .inr (.inl cf0)))] H := hP
  have hD : va_D A [(o, .inr (1, [.int 0, .null, .null])), (a, .inl (cA, 1000, .inr (.inl cf0)))] := hD
  have hK : va_K D cls_ [(cA, .long)] s := hK
  refine va_putF (D := D) (ci := 1) (v := .ref a) (ty := .array .long) (C := R_M) (T := T_M) (N := 3) hx hb hg uM_in ty_M ty_M_ok nd_M hown hK hP hD hS 0 rfl rfl 1 (by decide) (hg _ w_271) (fun _ h9 => h9) rfl hin rfl (by decide +kernel) rfl rfl (Nat.le_of_ble_eq_true rfl) dM_init_10 (fun H locs hP hD hS => ?_)
  have hP : va_P D cls_ [(o, .inr (1, [.int 0, .ref a, .null])), (a, .inl (cA, 1000, .inr (.inl cf0)))] H := hP
  have hD : va_D A [(o, .inr (1, [.int 0, .ref a, .null])), (a, .inl (cA, 1000, .inr (.inl cf0)))] := hD
  refine lv_aload_n hx hb dM_init_13 rfl (lv_at hl 0 rfl) ?_
  refine lv_iconst (v := nI 5) hx hb dM_init_14 (by decide +kernel) ?_
  refine va_newa (atype := .int) (ty := .int) (N' := 5) (a0 := (5, .inl (fun _ => 0))) hx hb (hg _ w_26) rfl hK hP hD hS hA (cell_i 5) (by decide +kernel) (by decide +kernel) (by decide +kernel) (Nat.le_of_ble_eq_true rfl) (Nat.le_of_ble_eq_true rfl) dM_init_15 (fun b iA H hK hP hD hS => ?_)
  refine W.widen (k := 2) (n := 1005) (by omega) (by omega) ?_
  have hK : va_K D cls_ (kT cA iA) s := hK
  refine va_putF (D := D) (ci := 1) (v := .ref b) (ty := .array .int) (C := R_M) (T := T_M) (N := 3) hx hb hg uM_in ty_M ty_M_ok nd_M hown hK hP hD hS 0 rfl rfl 2 (by decide) (hg _ w_272) (fun _ h9 => h9) rfl hin rfl (by decide +kernel) rfl rfl (Nat.le_of_ble_eq_true rfl) dM_init_17 (fun H locs hP hD hS => ?_)
  have hP : va_P D cls_ (wM o a b cA iA 0 cf0 (fun _ => 0)) H := hP
  have hD : va_D A (wM o a b cA iA 0 cf0 (fun _ => 0)) := hD
  refine lv_iconst (v := nI 0) hx hb dM_init_20 (by decide +kernel) ?_
  refine lv_istore_n hx hb dM_init_21 rfl hl (by decide) rfl (fun ls hl => ?_)
  have hl : lv_has ls 2 [(1, .int (nI 0)), (0, .ref o)] := hl
  refine lv_iload_n hx hb dM_init_22 rfl (lv_at hl 0 rfl) ?_
  refine lv_iconst (v := nI 5) hx hb dM_init_23 (by decide +kernel) ?_
  refine lv_icmp_ge (tgt := 41) hx hb dM_init_24 (by decide) (fun h24 => absurd h24 (by decide +kernel)) (fun h24 => ?_)
  refine lv_aload_n hx hb dM_init_27 rfl (lv_at hl 1 rfl) ?_
  refine va_get (D := D) (ci := 1) (v := .ref b) (C := R_M) (T := T_M) (N := 3) hx hb hg uM_in hown hK hP 0 rfl rfl 2 (by decide) (hg _ w_272) (fun _ h9 => h9) rfl dM_init_28 ?_
  refine lv_iload_n hx hb dM_init_31 rfl (lv_at hl 0 rfl) ?_
  refine lv_bipush (v := nI 100) hx hb dM_init_32 (by decide +kernel) ?_
  refine sI hx hb hK hP hD hS 2 1 rfl rfl (by omega) (by decide) dM_init_34 (fun H locs hP hD hS => ?_)
  have hP : va_P D cls_ (wM o a b cA iA 0 cf0 (upd (fun _ => 0) 0 (nI 100))) H := hP
  have hD : va_D A (wM o a b cA iA 0 cf0 (upd (fun _ => 0) 0 (nI 100))) := hD
  refine lv_iinc (k := 0) (v := nI 1) hx hb dM_init_35 hl rfl (by decide +kernel)  (by decide) rfl (fun ls hl => ?_)
  have hl : lv_has ls 2 [(1, .int (nI 1)), (0, .ref o)] := hl
  refine lv_goto (tgt := 22) hx hb dM_init_38 (by decide) ?_
  refine lv_iload_n hx hb dM_init_22 rfl (lv_at hl 0 rfl) ?_
  refine lv_iconst (v := nI 5) hx hb dM_init_23 (by decide +kernel) ?_
  refine lv_icmp_ge (tgt := 41) hx hb dM_init_24 (by decide) (fun h24 => absurd h24 (by decide +kernel)) (fun h24 => ?_)
  refine lv_aload_n hx hb dM_init_27 rfl (lv_at hl 1 rfl) ?_
  refine va_get (D := D) (ci := 1) (v := .ref b) (C := R_M) (T := T_M) (N := 3) hx hb hg uM_in hown hK hP 0 rfl rfl 2 (by decide) (hg _ w_272) (fun _ h9 => h9) rfl dM_init_28 ?_
  refine lv_iload_n hx hb dM_init_31 rfl (lv_at hl 0 rfl) ?_
  refine lv_bipush (v := nI 100) hx hb dM_init_32 (by decide +kernel) ?_
  refine sI hx hb hK hP hD hS 2 1 rfl rfl (by omega) (by decide) dM_init_34 (fun H locs hP hD hS => ?_)
  have hP : va_P D cls_ (wM o a b cA iA 0 cf0 (upd (upd (fun _ => 0) 0 (nI 100)) 1 (nI 100))) H := hP
  have hD : va_D A (wM o a b cA iA 0 cf0 (upd (upd (fun _ => 0) 0 (nI 100)) 1 (nI 100))) := hD
  refine lv_iinc (k := 0) (v := nI 2) hx hb dM_init_35 hl rfl (by decide +kernel)  (by decide) rfl (fun ls hl => ?_)
  have hl : lv_has ls 2 [(1, .int (nI 2)), (0, .ref o)] := hl
  refine lv_goto (tgt := 22) hx hb dM_init_38 (by decide) ?_
  refine lv_iload_n hx hb dM_init_22 rfl (lv_at hl 0 rfl) ?_
  refine lv_iconst (v := nI 5) hx hb dM_init_23 (by decide +kernel) ?_
  refine lv_icmp_ge (tgt := 41) hx hb dM_init_24 (by decide) (fun h24 => absurd h24 (by decide +kernel)) (fun h24 => ?_)
  refine lv_aload_n hx hb dM_init_27 rfl (lv_at hl 1 rfl) ?_
  refine va_get (D := D) (ci := 1) (v := .ref b) (C := R_M) (T := T_M) (N := 3) hx hb hg uM_in hown hK hP 0 rfl rfl 2 (by decide) (hg _ w_272) (fun _ h9 => h9) rfl dM_init_28 ?_
  refine lv_iload_n hx hb dM_init_31 rfl (lv_at hl 0 rfl) ?_
  refine lv_bipush (v := nI 100) hx hb dM_init_32 (by decide +kernel) ?_
  refine sI hx hb hK hP hD hS 2 1 rfl rfl (by omega) (by decide) dM_init_34 (fun H locs hP hD hS => ?_)
  have hP : va_P D cls_ (wM o a b cA iA 0 cf0 (upd (upd (upd (fun _ => 0) 0 (nI 100)) 1 (nI 100)) 2 (nI 100))) H := hP
  have hD : va_D A (wM o a b cA iA 0 cf0 (upd (upd (upd (fun _ => 0) 0 (nI 100)) 1 (nI 100)) 2 (nI 100))) := hD
  refine lv_iinc (k := 0) (v := nI 3) hx hb dM_init_35 hl rfl (by decide +kernel)  (by decide) rfl (fun ls hl => ?_)
  have hl : lv_has ls 2 [(1, .int (nI 3)), (0, .ref o)] := hl
  refine lv_goto (tgt := 22) hx hb dM_init_38 (by decide) ?_
  refine lv_iload_n hx hb dM_init_22 rfl (lv_at hl 0 rfl) ?_
  refine lv_iconst (v := nI 5) hx hb dM_init_23 (by decide +kernel) ?_
  refine lv_icmp_ge (tgt := 41) hx hb dM_init_24 (by decide) (fun h24 => absurd h24 (by decide +kernel)) (fun h24 => ?_)
  refine lv_aload_n hx hb dM_init_27 rfl (lv_at hl 1 rfl) ?_
  refine va_get (D := D) (ci := 1) (v := .ref b) (C := R_M) (T := T_M) (N := 3) hx hb hg uM_in hown hK hP 0 rfl rfl 2 (by decide) (hg _ w_272) (fun _ h9 => h9) rfl dM_init_28 ?_
  refine lv_iload_n hx hb dM_init_31 rfl (lv_at hl 0 rfl) ?_
  refine lv_bipush (v := nI 100) hx hb dM_init_32 (by decide +kernel) ?_
  refine sI hx hb hK hP hD hS 2 1 rfl rfl (by omega) (by decide) dM_init_34 (fun H locs hP hD hS => ?_)
  have hP : va_P D cls_ (wM o a b cA iA 0 cf0 (upd (upd (upd (upd (fun _ => 0) 0 (nI 100)) 1 (nI 100)) 2 (nI 100)) 3 (nI 100))) H := hP
  have hD : va_D A (wM o a b cA iA 0 cf0 (upd (upd (upd (upd (fun _ => 0) 0 (nI 100)) 1 (nI 100)) 2 (nI 100)) 3 (nI 100))) := hD
  refine lv_iinc (k := 0) (v := nI 4) hx hb dM_init_35 hl rfl (by decide +kernel)  (by decide) rfl (fun ls hl => ?_)
  have hl : lv_has ls 2 [(1, .int (nI 4)), (0, .ref o)] := hl
  refine lv_goto (tgt := 22) hx hb dM_init_38 (by decide) ?_
  refine lv_iload_n hx hb dM_init_22 rfl (lv_at hl 0 rfl) ?_
  refine lv_iconst (v := nI 5) hx hb dM_init_23 (by decide +kernel) ?_
  refine lv_icmp_ge (tgt := 41) hx hb dM_init_24 (by decide) (fun h24 => absurd h24 (by decide +kernel)) (fun h24 => ?_)
  refine lv_aload_n hx hb dM_init_27 rfl (lv_at hl 1 rfl) ?_
  refine va_get (D := D) (ci := 1) (v := .ref b) (C := R_M) (T := T_M) (N := 3) hx hb hg uM_in hown hK hP 0 rfl rfl 2 (by decide) (hg _ w_272) (fun _ h9 => h9) rfl dM_init_28 ?_
  refine lv_iload_n hx hb dM_init_31 rfl (lv_at hl 0 rfl) ?_
  refine lv_bipush (v := nI 100) hx hb dM_init_32 (by decide +kernel) ?_
  refine sI hx hb hK hP hD hS 2 1 rfl rfl (by omega) (by decide) dM_init_34 (fun H locs hP hD hS => ?_)
  have hP : va_P D cls_ (wM o a b cA iA 0 cf0 (upd (upd (upd (upd (upd (fun _ => 0) 0 (nI 100)) 1 (nI 100)) 2 (nI 100)) 3 (nI 100)) 4 (nI 100))) H := hP
  have hD : va_D A (wM o a b cA iA 0 cf0 (upd (upd (upd (upd (upd (fun _ => 0) 0 (nI 100)) 1 (nI 100)) 2 (nI 100)) 3 (nI 100)) 4 (nI 100))) := hD
  refine lv_iinc (k := 0) (v := nI 5) hx hb dM_init_35 hl rfl (by decide +kernel)  (by decide) rfl (fun ls hl => ?_)
  have hl : lv_has ls 2 [(1, .int (nI 5)), (0, .ref o)] := hl
  refine lv_goto (tgt := 22) hx hb dM_init_38 (by decide) ?_
  refine lv_iload_n hx hb dM_init_22 rfl (lv_at hl 0 rfl) ?_
  refine lv_iconst (v := nI 5) hx hb dM_init_23 (by decide +kernel) ?_
  refine lv_icmp_ge (tgt := 41) hx hb dM_init_24 (by decide) (fun h24 => ?_) (fun h24 => absurd (by decide +kernel) h24)
  exact W.vret hx hb hr (fun t9 ht9 hW9 => ⟨⟨(), rfl, trivial, a, b, cA, iA, by rw [ht9]; exact hP, va_K.moved hW9.alike hK, hD⟩, hS.F ht9⟩) hS.2.2 dM_init_41
end
section
/-! the law's helpers: catching; calls with a part of the world -/
def xL (U : State) : Prop := xF U ∧ va_Nc UOE IAE U ∧ va_Nc ISE IAE U
theorem xL_warm {s U : State} (hW : s.WarmedH U.vm) (hh : U.heap = s.heap) (h : xL s) : xL U := ⟨xF_warm hW hh h.1, va_Nc.moved hW.alike h.2.1, va_Nc.moved hW.alike h.2.2⟩
theorem xL_calling {U : State} {g : JFrame} {mk : MethodId} {a : Array Value} (h : xL U) : xL (U.calling g mk a) := ⟨xF_calling h.1, va_Nc.moved (u := U) (U := U.calling g mk a) (Vm.Alike.refl U.vm) h.2.1, va_Nc.moved (u := U) (U := U.calling g mk a) (Vm.Alike.refl U.vm) h.2.2⟩
def pL (D : va_G) (ws : va_W) (tys : List (ClassId × FieldType)) (sz : Nat) (av : List Value) : Array Value → State → Prop := va_Pc av (fun U => U.heap.size = sz ∧ xL U ∧ va_P D cls_ ws U.heap ∧ va_K D cls_ tys U ∧ va_D (fun _ => True) ws)
theorem pL_blind {D : va_G} {ws : va_W} {tys : List (ClassId × FieldType)} {sz : Nat} {av : List Value} : FrameBlind (pL D ws tys sz av) := fun a U g mk q => ⟨q.1, q.2.1, xL_calling q.2.2.1, q.2.2.2.1, va_K.moved (u := U) (U := U.calling g mk a) (Vm.Alike.refl U.vm) q.2.2.2.2.1, q.2.2.2.2.2⟩
/-- the class's cells and the law's long[1] -/
abbrev wXo (o a b z : Nat) (cA iA oA : ClassId) (cf : Nat → Int64) (uf : Nat → Int32) (ou : Nat → Int64) : va_W := [(o, .inr (0, [.ref a, .ref b])), (a, .inl (cA, 1000, .inr (.inl cf))), (b, .inl (iA, 5, .inl uf)), (z, .inl (oA, 1, .inr (.inl ou)))]
abbrev kTo (cA iA oA : ClassId) : List (ClassId × FieldType) := [(cA, .long), (iA, .int), (oA, .long)]
/-- the row of the table that takes E at pc -/
def Cat (c : Code) (s : State) (args : Array Value) (E : String) (pc hpc : Nat) : Prop := ∃ (pre : List ExceptionTableEntry) (x : ExceptionTableEntry) (suf : List ExceptionTableEntry), c.exceptionTable.toList = pre ++ x :: suf ∧ (∀ z ∈ pre, covers z pc = false ∨ (z.catchType ≠ 0 ∧ ∃ nm : String, (Cond.classLink R_L z.catchType nm).before args s = true ∧ va_Nc E nm s)) ∧ covers x pc = true ∧ x.catchType ≠ 0 ∧ (Cond.classLink R_L x.catchType E).before args s = true ∧ x.handlerPc = hpc
theorem cat1 {c : Code} {s : State} {args : Array Value} {E : String} {pc : Nat} {x : ExceptionTableEntry} {suf : List ExceptionTableEntry} (ht : c.exceptionTable.toList = x :: suf) (hc : covers x pc = true) (h0 : x.catchType ≠ 0) (hl : (Cond.classLink R_L x.catchType E).before args s = true) : Cat c s args E pc x.handlerPc := ⟨[], x, suf, ht, (fun _ h => nomatch h), hc, h0, hl, rfl⟩
theorem cat2 {c : Code} {s : State} {args : Array Value} {E : String} {pc : Nat} {y x : ExceptionTableEntry} {suf : List ExceptionTableEntry} (ht : c.exceptionTable.toList = y :: x :: suf) (hy0 : y.catchType ≠ 0) (hyl : (Cond.classLink R_L y.catchType IAE).before args s = true) (hn : va_Nc E IAE s) (hc : covers x pc = true) (h0 : x.catchType ≠ 0) (hl : (Cond.classLink R_L x.catchType E).before args s = true) : Cat c s args E pc x.handlerPc :=
  ⟨[y], x, suf, ht, fun z hz => Or.inr (by rw [List.mem_singleton.mp hz]; exact ⟨hy0, IAE, hyl, hn⟩), hc, h0, hl, rfl⟩
theorem gSW {own : String} {index maxL : Nat} {y : MethodName} {bytes : ByteArray} {ret : Option FieldType} {hh : List (Nat × Nat × Nat × Nat)} {w0 : Cond} (h1 : Cond.methodLink own index y ∈ gW) (h2 : Cond.static y ∈ gW) (h4 : Cond.initialized y.cls ∈ gW) (h5 : Cond.codeWith y bytes maxL ret hh ∈ gW) : GoodIn (w0 :: gW) (va_wsS own index y (Cond.codeWith y bytes maxL ret hh :: gW)) := by
  unfold va_wsS
  refine gw_in2 (w2 := w0) (fun w hw => ?_) (gw_in h5)
  simp only [List.mem_cons, List.not_mem_nil, or_false] at hw
  rcases hw with h | h | h <;> rw [h] <;> assumption
theorem frj {D : va_G} {A : Nat → Prop} {H0 H H1 : Heap} {locs : List Loc} {ws wc wr wc' : va_W} (hP : va_P D cls_ ws H) (hD : va_D A ws) (hS : va_S A H0 H locs) (hA : ∀ q, H0.size ≤ q → A q) (isC isR : List Nat) (hC : isC.map (fun i => ws[i]?) = wc.map some) (hR : isR.map (fun i => ws[i]?) = wr.map some) (hnC : va_nd isC = true) (hnR : va_nd isR = true) (hdis : ∀ i ∈ isR, i ∉ isC)
    (hk : ∀ q : Nat, q < H.size → ¬ va_A wc H.size q → H1[q]? = H[q]?) (hP1 : va_P D cls_ wc' H1) (hadr : wc'.map Prod.fst = wc.map Prod.fst) : va_P D cls_ (wr ++ wc') H1 ∧ va_D A (wr ++ wc') :=
  va_join hP hD isC isR hC hR hnR hdis hk (va_free hD hS hA isC hC) hP1 (vD_adr hadr (hD.sub isC hnC hC).self)
section
variable {p : Program} {l : Launch} {e : Env} {R : Room} {s : State} {m : MethodId} {args : Array Value} {below : List Frame} {meth : Method} {c : Code} {H : Heap} {locs : List Loc} {cells slots : Nat} {Q : State → Prop} {pc hpc : Nat} {ls : Array Slot} {rest st0 : List Value} {cc : ByteArray} {D : va_G} {ws wc wr wc' : va_W} {tys tc : List (ClassId × FieldType)} {A : Nat → Prop} {H0 : Heap}
variable {own C E : String} {index maxL n nL : Nat} {y : MethodName} {bytes : ByteArray} {ret : Option FieldType} {rm : Room} {b : Nat} {As : List Value} {w0 : Cond}
theorem ctW {E' : String} {ce : Cell} {q9 : Addr} {H1 : Heap} {locs1 : List Loc} (hown : s.vm.findClass R_L = some m.cls) (hE : E ∈ [IAE, UOE, ISE]) (hF : xF s) (hcat : Cat c s args E pc hpc) (hE' : E' = E) (hc : H1[q9]? = some ce) (hv : ce.vm = .none) (hcl : s.vm.findClass E' = some ce.cls) (kk : W p l e R s m args below meth c H1 locs1 (0 + 1) (0 + 6) Q (F0 m hpc ls [.ref q9])) : vx_W p l e R s m args below meth c H1 locs1 (0 + 1) (0 + 6) Q (F0 m pc ls rest) q9 := by
  subst hE'
  obtain ⟨pre, x, suf, h1, h2, h3, h4, h5, rfl⟩ := hcat
  exact vx_catch hown pre x suf h1 h2 h3 h4 h5 (va_Nw.use rfl (hF.1 E' hE _ List.mem_cons_self)) hc hv hcl kk
theorem cthL (S : CallFix p m c cc nL s args (w0 :: gW) R_L) (hM : vx_Met l y (Cond.code y bytes maxL ret :: gW) rm (pTW D ws tys (.ref b :: As)) qNl (XE E) 1 6 (fun _ => False))
    (h1 : Cond.methodLink R_L index y ∈ gW) (h2 : Cond.instanceMethod y ∈ gW) (h3 : Cond.selects C y y ∈ gW) (h4 : Cond.initialized C ∈ gW) (h5 : Cond.code y bytes maxL ret ∈ gW)
    (hd : hD_ y C n) (hrm : rm.cells = 1 ∧ rm.slots = 6) (hR : rm.frames + 1 ≤ R.frames ∧ 8 + (maxL + 11) + rm.locals ≤ R.locals) (hF : xF s)
    (hP : va_P D cls_ ws s.heap) (hK : va_K D cls_ tys s) (ci q0 : Nat) {T : u_T} {N : Nat} {fs : List Value} (hc : cls_[ci]? = some (C, T, N)) (he : ws[q0]? = some (b, .inr (ci, fs)))
    (hn : As.length = n) (hsz : ls.size = nL) (hst : st0 = As.reverse ++ .ref b :: rest) (hW : (rest.map fun v => v.category).sum ≤ 8) (hdg : decode cc pc = .ok (.invokevirtual index, 3)) (hcs : 0 + 1 ≤ R.cells ∧ 0 + 6 ≤ R.slots)
    (hE : E ∈ [IAE, UOE, ISE]) (hcat : Cat c s args E pc hpc)
    (kk : ∀ (H1 : Heap) (locs1 : List Loc) (q9 : Nat), (∀ q : Nat, q < s.heap.size → H1[q]? = s.heap[q]?) → va_S A s.heap H1 locs1 → W p l e R s m args below meth c H1 locs1 (0 + 1) (0 + 6) Q (F0 m hpc ls [.ref q9])) : W p l e R s m args below meth c s.heap [] 0 0 Q (F0 m pc ls st0) :=
  vx_calll (A0 := A) (H0 := s.heap) (vx_runV (g := F0 m pc ls st0) (rest := rest) S hM (cwV n S.2.2.2.2 (gV h1 h2 h3 h4 h5) rfl hrm.1 hrm.2 hd hR) ⟨pTW_blind, va_recv hK hP hc he, fun U hU hW => ⟨rfl, xF_warm hW hU hF, by rw [hU]; exact hP, va_K.moved hW.alike hK⟩⟩ rfl hn hsz hst (lv_room hW) hdg hcs) va_S.rf (fun _ _ h => h.elim) (fun _ h => h.elim) (fun _ _ h => h.elim)
    (fun E' ce q9 u t H1 locs1 ht _ _ hE' hz hk hS hc hv hcl => ctW S.2.2.2.1 hE hF hcat hE' hc hv hcl (kk H1 locs1 q9 (fun q h => hk q h id) hS)) (fun r u t H1 locs1 _ _ hp => hp.elim)
theorem cthI (S : CallFix p m c cc nL s args (w0 :: gW) R_L) (hM : vx_Met l y (Cond.code y bytes maxL ret :: gW) rm (pTW D ws tys (.ref b :: As)) qNi (XE E) 1 6 (fun _ => False))
    (h1 : Cond.methodLink R_L index y ∈ gW) (h2 : Cond.instanceMethod y ∈ gW) (h3 : Cond.selects C y y ∈ gW) (h4 : Cond.initialized C ∈ gW) (h5 : Cond.code y bytes maxL ret ∈ gW)
    (hd : hD_ y C n) (hrm : rm.cells = 1 ∧ rm.slots = 6) (hR : rm.frames + 1 ≤ R.frames ∧ 8 + (maxL + 11) + rm.locals ≤ R.locals) (hF : xF s)
    (hP : va_P D cls_ ws s.heap) (hK : va_K D cls_ tys s) (ci q0 : Nat) {T : u_T} {N : Nat} {fs : List Value} (hc : cls_[ci]? = some (C, T, N)) (he : ws[q0]? = some (b, .inr (ci, fs)))
    (hn : As.length = n) (hsz : ls.size = nL) (hst : st0 = As.reverse ++ .ref b :: rest) (hW : (rest.map fun v => v.category).sum ≤ 8) (hdg : decode cc pc = .ok (.invokevirtual index, 3)) (hcs : 0 + 1 ≤ R.cells ∧ 0 + 6 ≤ R.slots)
    (hE : E ∈ [IAE, UOE, ISE]) (hcat : Cat c s args E pc hpc)
    (kk : ∀ (H1 : Heap) (locs1 : List Loc) (q9 : Nat), (∀ q : Nat, q < s.heap.size → H1[q]? = s.heap[q]?) → va_S A s.heap H1 locs1 → W p l e R s m args below meth c H1 locs1 (0 + 1) (0 + 6) Q (F0 m hpc ls [.ref q9])) : W p l e R s m args below meth c s.heap [] 0 0 Q (F0 m pc ls st0) :=
  vx_calli (A0 := A) (H0 := s.heap) (vx_runV (g := F0 m pc ls st0) (rest := rest) S hM (cwV n S.2.2.2.2 (gV h1 h2 h3 h4 h5) rfl hrm.1 hrm.2 hd hR) ⟨pTW_blind, va_recv hK hP hc he, fun U hU hW => ⟨rfl, xF_warm hW hU hF, by rw [hU]; exact hP, va_K.moved hW.alike hK⟩⟩ rfl hn hsz hst (lv_room hW) hdg hcs) va_S.rf (fun _ _ h => h.elim) (fun _ h => h.elim) (fun _ _ h => h.elim)
    (fun E' ce q9 u t H1 locs1 ht _ _ hE' hz hk hS hc hv hcl => ctW S.2.2.2.1 hE hF hcat hE' hc hv hcl (kk H1 locs1 q9 (fun q h => hk q h id) hS)) (fun r u t H1 locs1 _ _ hp => hp.elim)
theorem cthV (S : CallFix p m c cc nL s args (w0 :: gW) R_L) (hM : vx_Met l y (Cond.code y bytes maxL ret :: gW) rm (pTW D ws tys (.ref b :: As)) qNv (XE E) 1 6 (fun _ => False))
    (h1 : Cond.methodLink R_L index y ∈ gW) (h2 : Cond.instanceMethod y ∈ gW) (h3 : Cond.selects C y y ∈ gW) (h4 : Cond.initialized C ∈ gW) (h5 : Cond.code y bytes maxL ret ∈ gW)
    (hd : hD_ y C n) (hrm : rm.cells = 1 ∧ rm.slots = 6) (hR : rm.frames + 1 ≤ R.frames ∧ 8 + (maxL + 11) + rm.locals ≤ R.locals) (hF : xF s)
    (hP : va_P D cls_ ws s.heap) (hK : va_K D cls_ tys s) (ci q0 : Nat) {T : u_T} {N : Nat} {fs : List Value} (hc : cls_[ci]? = some (C, T, N)) (he : ws[q0]? = some (b, .inr (ci, fs)))
    (hn : As.length = n) (hsz : ls.size = nL) (hst : st0 = As.reverse ++ .ref b :: rest) (hW : (rest.map fun v => v.category).sum ≤ 8) (hdg : decode cc pc = .ok (.invokevirtual index, 3)) (hcs : 0 + 1 ≤ R.cells ∧ 0 + 6 ≤ R.slots)
    (hE : E ∈ [IAE, UOE, ISE]) (hcat : Cat c s args E pc hpc)
    (kk : ∀ (H1 : Heap) (locs1 : List Loc) (q9 : Nat), (∀ q : Nat, q < s.heap.size → H1[q]? = s.heap[q]?) → va_S A s.heap H1 locs1 → W p l e R s m args below meth c H1 locs1 (0 + 1) (0 + 6) Q (F0 m hpc ls [.ref q9])) : W p l e R s m args below meth c s.heap [] 0 0 Q (F0 m pc ls st0) :=
  vx_callv (A0 := A) (H0 := s.heap) (vx_runV (g := F0 m pc ls st0) (rest := rest) S hM (cwV n S.2.2.2.2 (gV h1 h2 h3 h4 h5) rfl hrm.1 hrm.2 hd hR) ⟨pTW_blind, va_recv hK hP hc he, fun U hU hW => ⟨rfl, xF_warm hW hU hF, by rw [hU]; exact hP, va_K.moved hW.alike hK⟩⟩ rfl hn hsz hst (lv_room hW) hdg hcs) va_S.rf (fun _ _ h => h.elim) (fun _ h => h.elim) (fun _ _ h => h.elim)
    (fun E' ce q9 u t H1 locs1 ht _ _ hE' hz hk hS hc hv hcl => ctW S.2.2.2.1 hE hF hcat hE' hc hv hcl (kk H1 locs1 q9 (fun q h => hk q h id) hS)) (fun u t H1 locs1 _ _ hp => hp.elim)
/-- a call that writes, with a part wc of the caller's world; the rest wr stays -/
theorem fVi {r0 : Int32} (S : CallFix p m c cc nL s args (w0 :: gW) own) (hM : Met l y (Cond.code y bytes maxL ret :: gW) rm (pWs D wc tc H.size (.ref b :: As)) (QI r0 D wc' (va_A wc H.size)) 0 0 (va_A wc H.size))
    (h1 : Cond.methodLink own index y ∈ gW) (h2 : Cond.instanceMethod y ∈ gW) (h3 : Cond.selects C y y ∈ gW) (h4 : Cond.initialized C ∈ gW) (h5 : Cond.code y bytes maxL ret ∈ gW)
    (hd : hD_ y C n) (hrm : rm.cells = 0 ∧ rm.slots = 0) (hR : rm.frames + 1 ≤ R.frames ∧ 8 + (maxL + 11) + rm.locals ≤ R.locals)
    (hP : va_P D cls_ ws H) (hK : va_K D cls_ tys s) (hDD : va_D A ws) (hS : va_S A H0 H locs) (hA : ∀ q, H0.size ≤ q → A q) (isC isR tC : List Nat) (hC : isC.map (fun i => ws[i]?) = wc.map some) (hCf : isC.filterMap (fun i => ws[i]?) = wc) (hRr : isR.map (fun i => ws[i]?) = wr.map some) (hnC : va_nd isC = true) (hnR : va_nd isR = true) (hdis : ∀ i ∈ isR, i ∉ isC) (htc : tC.filterMap (fun i => tys[i]?) = tc)
    (hadr : wc'.map Prod.fst = wc.map Prod.fst) (ci q0 : Nat) {T : u_T} {N : Nat} {fs : List Value} (hc : cls_[ci]? = some (C, T, N)) (he : wc[q0]? = some (b, .inr (ci, fs)))
    (hn : As.length = n) (hsz : ls.size = nL) (hst : st0 = As.reverse ++ .ref b :: rest) (hW : (rest.map fun v => v.category).sum ≤ 8) (hdg : decode cc pc = .ok (.invokevirtual index, 3)) (hcs : cells ≤ R.cells ∧ slots ≤ R.slots)
    (kk : ∀ (H1 : Heap) (locs1 : List Loc), va_P D cls_ (wr ++ wc') H1 → va_D A (wr ++ wc') → va_S A H0 H1 locs1 → W p l e R s m args below meth c H1 locs1 cells slots Q (F0 m (pc + 3) ls (.int r0 :: rest))) : W p l e R s m args below meth c H locs cells slots Q (F0 m pc ls st0) :=
  va_calli (va_runV (g := F0 m pc ls st0) (rest := rest) S hM (cwV n S.2.2.2.2 (gV h1 h2 h3 h4 h5) rfl hrm.1 hrm.2 hd hR) ⟨pWs_blind, va_recv (hK.sub tC htc) (hP.sub isC hCf) hc he, fun U hU hW => ⟨rfl, by rw [hU], by rw [hU]; exact hP.sub isC hCf, va_K.moved hW.alike (hK.sub tC htc), (hDD.sub isC hnC hC).weaken (fun _ _ _ _ => trivial)⟩⟩ rfl hn hsz hst (lv_room hW) hdg hcs) hS (fun q _ h => va_free hDD hS hA isC hC q h) (va_free hDD hS hA isC hC)
    (fun r _ t H1 locs1 ht _ hr hB _ hk hS1 => by
      have hr9 : r = r0 := hr
      rw [hr9]
      obtain ⟨g1, g2⟩ := frj hP hDD hS hA isC isR hC hRr hnC hnR hdis hk (by rw [← ht]; exact hB) hadr
      exact kk H1 locs1 g1 g2 hS1)
theorem fVl {r0 : Int64} (S : CallFix p m c cc nL s args (w0 :: gW) own) (hM : Met l y (Cond.code y bytes maxL ret :: gW) rm (pWs D wc tc H.size (.ref b :: As)) (QL r0 D wc' (va_A wc H.size)) 0 0 (va_A wc H.size))
    (h1 : Cond.methodLink own index y ∈ gW) (h2 : Cond.instanceMethod y ∈ gW) (h3 : Cond.selects C y y ∈ gW) (h4 : Cond.initialized C ∈ gW) (h5 : Cond.code y bytes maxL ret ∈ gW)
    (hd : hD_ y C n) (hrm : rm.cells = 0 ∧ rm.slots = 0) (hR : rm.frames + 1 ≤ R.frames ∧ 8 + (maxL + 11) + rm.locals ≤ R.locals)
    (hP : va_P D cls_ ws H) (hK : va_K D cls_ tys s) (hDD : va_D A ws) (hS : va_S A H0 H locs) (hA : ∀ q, H0.size ≤ q → A q) (isC isR tC : List Nat) (hC : isC.map (fun i => ws[i]?) = wc.map some) (hCf : isC.filterMap (fun i => ws[i]?) = wc) (hRr : isR.map (fun i => ws[i]?) = wr.map some) (hnC : va_nd isC = true) (hnR : va_nd isR = true) (hdis : ∀ i ∈ isR, i ∉ isC) (htc : tC.filterMap (fun i => tys[i]?) = tc)
    (hadr : wc'.map Prod.fst = wc.map Prod.fst) (ci q0 : Nat) {T : u_T} {N : Nat} {fs : List Value} (hc : cls_[ci]? = some (C, T, N)) (he : wc[q0]? = some (b, .inr (ci, fs)))
    (hn : As.length = n) (hsz : ls.size = nL) (hst : st0 = As.reverse ++ .ref b :: rest) (hW : (rest.map fun v => v.category).sum ≤ 8) (hdg : decode cc pc = .ok (.invokevirtual index, 3)) (hcs : cells ≤ R.cells ∧ slots ≤ R.slots)
    (kk : ∀ (H1 : Heap) (locs1 : List Loc), va_P D cls_ (wr ++ wc') H1 → va_D A (wr ++ wc') → va_S A H0 H1 locs1 → W p l e R s m args below meth c H1 locs1 cells slots Q (F0 m (pc + 3) ls (.long r0 :: rest))) : W p l e R s m args below meth c H locs cells slots Q (F0 m pc ls st0) :=
  va_calll (va_runV (g := F0 m pc ls st0) (rest := rest) S hM (cwV n S.2.2.2.2 (gV h1 h2 h3 h4 h5) rfl hrm.1 hrm.2 hd hR) ⟨pWs_blind, va_recv (hK.sub tC htc) (hP.sub isC hCf) hc he, fun U hU hW => ⟨rfl, by rw [hU], by rw [hU]; exact hP.sub isC hCf, va_K.moved hW.alike (hK.sub tC htc), (hDD.sub isC hnC hC).weaken (fun _ _ _ _ => trivial)⟩⟩ rfl hn hsz hst (lv_room hW) hdg hcs) hS (fun q _ h => va_free hDD hS hA isC hC q h) (va_free hDD hS hA isC hC)
    (fun r _ t H1 locs1 ht _ hr hB _ hk hS1 => by
      have hr9 : r = r0 := hr
      rw [hr9]
      obtain ⟨g1, g2⟩ := frj hP hDD hS hA isC isR hC hRr hnC hnR hdis hk (by rw [← ht]; exact hB) hadr
      exact kk H1 locs1 g1 g2 hS1)
theorem fVv (S : CallFix p m c cc nL s args (w0 :: gW) own) (hM : Met l y (Cond.code y bytes maxL ret :: gW) rm (pWs D wc tc H.size (.ref b :: As)) (QV D wc' (va_A wc H.size)) 0 0 (va_A wc H.size))
    (h1 : Cond.methodLink own index y ∈ gW) (h2 : Cond.instanceMethod y ∈ gW) (h3 : Cond.selects C y y ∈ gW) (h4 : Cond.initialized C ∈ gW) (h5 : Cond.code y bytes maxL ret ∈ gW)
    (hd : hD_ y C n) (hrm : rm.cells = 0 ∧ rm.slots = 0) (hR : rm.frames + 1 ≤ R.frames ∧ 8 + (maxL + 11) + rm.locals ≤ R.locals)
    (hP : va_P D cls_ ws H) (hK : va_K D cls_ tys s) (hDD : va_D A ws) (hS : va_S A H0 H locs) (hA : ∀ q, H0.size ≤ q → A q) (isC isR tC : List Nat) (hC : isC.map (fun i => ws[i]?) = wc.map some) (hCf : isC.filterMap (fun i => ws[i]?) = wc) (hRr : isR.map (fun i => ws[i]?) = wr.map some) (hnC : va_nd isC = true) (hnR : va_nd isR = true) (hdis : ∀ i ∈ isR, i ∉ isC) (htc : tC.filterMap (fun i => tys[i]?) = tc)
    (hadr : wc'.map Prod.fst = wc.map Prod.fst) (ci q0 : Nat) {T : u_T} {N : Nat} {fs : List Value} (hc : cls_[ci]? = some (C, T, N)) (he : wc[q0]? = some (b, .inr (ci, fs)))
    (hn : As.length = n) (hsz : ls.size = nL) (hst : st0 = As.reverse ++ .ref b :: rest) (hW : (rest.map fun v => v.category).sum ≤ 8) (hdg : decode cc pc = .ok (.invokevirtual index, 3)) (hcs : cells ≤ R.cells ∧ slots ≤ R.slots)
    (kk : ∀ (H1 : Heap) (locs1 : List Loc), va_P D cls_ (wr ++ wc') H1 → va_D A (wr ++ wc') → va_S A H0 H1 locs1 → W p l e R s m args below meth c H1 locs1 cells slots Q (F0 m (pc + 3) ls rest)) : W p l e R s m args below meth c H locs cells slots Q (F0 m pc ls st0) :=
  va_callv (va_runV (g := F0 m pc ls st0) (rest := rest) S hM (cwV n S.2.2.2.2 (gV h1 h2 h3 h4 h5) rfl hrm.1 hrm.2 hd hR) ⟨pWs_blind, va_recv (hK.sub tC htc) (hP.sub isC hCf) hc he, fun U hU hW => ⟨rfl, by rw [hU], by rw [hU]; exact hP.sub isC hCf, va_K.moved hW.alike (hK.sub tC htc), (hDD.sub isC hnC hC).weaken (fun _ _ _ _ => trivial)⟩⟩ rfl hn hsz hst (lv_room hW) hdg hcs) hS (fun q _ h => va_free hDD hS hA isC hC q h) (va_free hDD hS hA isC hC)
    (fun _ t H1 locs1 ht _ _ hB _ hk hS1 => by
      obtain ⟨g1, g2⟩ := frj hP hDD hS hA isC isR hC hRr hnC hnR hdis hk (by rw [← ht]; exact hB) hadr
      exact kk H1 locs1 g1 g2 hS1)
/-- the law calls one of its helpers -/
theorem fSW {r0 : Int32} {hh : List (Nat × Nat × Nat × Nat)} (S : CallFix p m c cc nL s args (w0 :: gW) own) (hM : Met l y (Cond.codeWith y bytes maxL ret hh :: gW) rm (pL D wc tc H.size As) (QI r0 D wc' (va_A wc H.size)) 1 6 (va_A wc H.size))
    (h1 : Cond.methodLink own index y ∈ gW) (h2 : Cond.static y ∈ gW) (h4 : Cond.initialized y.cls ∈ gW) (h5 : Cond.codeWith y bytes maxL ret hh ∈ gW)
    (hd : y.cls ≠ "java/lang/invoke/MethodHandle" ∧ y.cls ≠ "java/lang/invoke/VarHandle" ∧ (parseMethodDescriptor y.desc).map (fun d => d.parameters.length) = some n) (hrm : rm.cells = 1 ∧ rm.slots = 6) (hR : rm.frames + 1 ≤ R.frames ∧ 8 + (maxL + 11) + rm.locals ≤ R.locals) (hx9 : ∀ U : State, U.heap = H → s.WarmedH U.vm → xL U)
    (hP : va_P D cls_ ws H) (hK : va_K D cls_ tys s) (hDD : va_D A ws) (hS : va_S A H0 H locs) (hA : ∀ q, H0.size ≤ q → A q) (isC isR tC : List Nat) (hC : isC.map (fun i => ws[i]?) = wc.map some) (hCf : isC.filterMap (fun i => ws[i]?) = wc) (hRr : isR.map (fun i => ws[i]?) = wr.map some) (hnC : va_nd isC = true) (hnR : va_nd isR = true) (hdis : ∀ i ∈ isR, i ∉ isC) (htc : tC.filterMap (fun i => tys[i]?) = tc)
    (hadr : wc'.map Prod.fst = wc.map Prod.fst)
    (hn : As.length = n) (hsz : ls.size = nL) (hst : st0 = As.reverse ++ rest) (hW : (rest.map fun v => v.category).sum ≤ 8) (hdg : decode cc pc = .ok (.invokestatic index, 3)) (hcs : cells + 1 ≤ R.cells ∧ slots + 6 ≤ R.slots)
    (kk : ∀ (H1 : Heap) (locs1 : List Loc), va_P D cls_ (wr ++ wc') H1 → va_D A (wr ++ wc') → va_S A H0 H1 locs1 → W p l e R s m args below meth c H1 locs1 (cells + 1) (slots + 6) Q (F0 m (pc + 3) ls (.int r0 :: rest))) : W p l e R s m args below meth c H locs cells slots Q (F0 m pc ls st0) :=
  va_calli (vx_runSW (g := F0 m pc ls st0) (rest := rest) S hM (vx_cwSW n S.2.2.2.2 (gSW h1 h2 h4 h5) rfl hrm.1 hrm.2 hd hR) ⟨pL_blind, fun U hU hW => ⟨rfl, by rw [hU], hx9 U hU hW, by rw [hU]; exact hP.sub isC hCf, va_K.moved hW.alike (hK.sub tC htc), (hDD.sub isC hnC hC).weaken (fun _ _ _ _ => trivial)⟩⟩ rfl hn hsz hst (lv_room hW) hdg hcs) hS (fun q _ h => va_free hDD hS hA isC hC q h) (va_free hDD hS hA isC hC)
    (fun r _ t H1 locs1 ht _ hr hB _ hk hS1 => by
      have hr9 : r = r0 := hr
      rw [hr9]
      obtain ⟨g1, g2⟩ := frj hP hDD hS hA isC isR hC hRr hnC hnR hdis hk (by rw [← ht]; exact hB) hadr
      exact kk H1 locs1 g1 g2 hS1)
end
end
section
set_option maxHeartbeats 4000000 in
set_option maxRecDepth 100000 in
theorem mL_read_ok (l : Launch) (D : va_G) (o a b : Nat) (cA iA : ClassId) (cf : Nat → Int64) (uf : Nat → Int32) (z : Nat) (oA : ClassId) (ou : Nat → Int64) (sz : Nat) (q h : Nat) (hq : q < 400) (hh : h < 2) (hil : il uf (dk q) (q / 4) = false) : Met l yL_read (.codeWith yL_read cL_read 5 (some .int) [(0, 9, 12, 13), (0, 9, 16, 15)] :: gW) ({ frames := 8, cells := 1, slots := 6, locals := 140 }) (pL D (wXo o a b z cA iA oA cf uf ou) (kTo cA iA oA) sz [.ref o, .int (nI q), .int (nI h), .ref z]) (QI (nI 0) D (wXo o a b z cA iA oA cf uf (vp_updL ou 0 (wh cf uf (dk q) (q / 4) h))) (va_A (wXo o a b z cA iA oA cf uf ou) sz)) 1 6 (va_A (wXo o a b z cA iA oA cf uf ou) sz) := by
  refine va_MetW (cc := cL_read) (maxL := 5) (ret := (some .int)) (hh := [(0, 9, 12, 13), (0, 9, 16, 15)]) (by decide) rfl ?_
  intro p e s m args below meth c s₁ B hml hv
  obtain ⟨rfl, hsz, hxL, hP, hK, hD0⟩ := hv
  have hx := B.exec
  have hb := B.bytes
  have hr := B.returns
  have hts := atoms_spec (ws := (.codeWith yL_read cL_read 5 (some .int) [(0, 9, 12, 13), (0, 9, 16, 15)] :: gW)) B.pre
  have hg : ∀ w ∈ gW, w.before ([.ref o, .int (nI q), .int (nI h), .ref z]).toArray s = true := fun w h => hts w (List.mem_cons_of_mem _ h)
  have hown : s.vm.findClass R_L = some m.cls := findClass_of_methodNamed B.named
  have hlocks := B.notSynchronized
  subst hsz
  have hD := hD0.self (sz := s.heap.size)
  generalize hAe : va_A (wXo o a b z cA iA oA cf uf ou) s.heap.size = A at hD ⊢
  have hA : ∀ q : Nat, s.heap.size ≤ q → A q := fun q h => by rw [← hAe]; exact Or.inr h
  have hS : va_S A s.heap s.heap [] := va_S.rf
  have hP : va_P D cls_ (wXo o a b z cA iA oA cf uf ou) s.heap := hP
  have hl := lv_entry ([.ref o, .int (nI q), .int (nI h), .ref z]) (n := 5) (Nat.le_of_ble_eq_true rfl)
  rw [lg_entry_eq]
  generalize (lg_sl ([.ref o, .int (nI q), .int (nI h), .ref z]) ++ List.replicate (5 - (lg_sl ([.ref o, .int (nI q), .int (nI h), .ref z])).length) Slot.unset).toArray = ls at hl ⊢
  have hl : lv_has ls 5 [(0, .ref o), (1, .int (nI q)), (2, .int (nI h)), (3, .ref z)] := hl
  refine lv_aload_n hx hb dL_read_0 rfl (lv_at hl 3 rfl) ?_
  refine lv_iconst (v := nI 0) hx hb dL_read_1 (by decide +kernel) ?_
  refine lv_aload_n hx hb dL_read_2 rfl (lv_at hl 0 rfl) ?_
  refine lv_iload_n hx hb dL_read_3 rfl (lv_at hl 1 rfl) ?_
  refine lv_iload_n hx hb dL_read_4 rfl (lv_at hl 2 rfl) ?_
  have hPc := hP.sub (ws' := wX o a b cA iA cf uf) [0, 1, 2] rfl
  have hKc := hK.sub (tys' := kT cA iA) [0, 1] rfl
  refine kV (n := 2) (As := [.int (nI q), .int (nI h)]) (rest := [.int (nI 0), .ref z]) ⟨hx, hb, hml, hown, hts⟩ (mX_read_ok l D o a b cA iA cf uf q h hq hh hil) w_76 w_77 w_78 w_1 w_79 (by decide +kernel) ⟨rfl, rfl⟩ ⟨(Nat.le_of_ble_eq_true rfl), (Nat.le_of_ble_eq_true rfl)⟩ hPc hKc 0 0 rfl rfl rfl hl.1 rfl (Nat.le_of_ble_eq_true rfl) dL_read_5 ⟨Nat.zero_le _, Nat.zero_le _⟩ ?_
  refine sL hx hb hK hP hD hS 3 2 rfl rfl (by decide) (by decide) dL_read_8 (fun H locs hP hD hS => ?_)
  have hP : va_P D cls_ (wXo o a b z cA iA oA cf uf (vp_updL ou 0 (wh cf uf (dk q) (q / 4) h))) H := hP
  have hD : va_D A (wXo o a b z cA iA oA cf uf (vp_updL ou 0 (wh cf uf (dk q) (q / 4) h))) := hD
  refine lv_goto (tgt := 20) hx hb dL_read_9 (by decide) ?_
  refine lv_iconst (v := nI 0) hx hb dL_read_20 (by decide +kernel) ?_
  refine W.widen (k := 1) (n := 6) (by omega) (by omega) ?_
  exact W.iret (v := nI 0) hx hb hr (fun t9 ht9 _ => ⟨⟨_, (), rfl, rfl, by show va_P _ _ _ t9.heap; rw [ht9]; exact hP⟩, hS.F ht9⟩) hS.2.2 dL_read_21
set_option maxHeartbeats 4000000 in
set_option maxRecDepth 100000 in
theorem mL_read_a (l : Launch) (hls : l.stackTraces = false) (D : va_G) (o a b : Nat) (cA iA : ClassId) (cf : Nat → Int64) (uf : Nat → Int32) (z : Nat) (oA : ClassId) (ou : Nat → Int64) (sz : Nat) (x y : Int32) (hbad : (inR x 400 && inR y 2) = false) : Met l yL_read (.codeWith yL_read cL_read 5 (some .int) [(0, 9, 12, 13), (0, 9, 16, 15)] :: gW) ({ frames := 8, cells := 1, slots := 6, locals := 140 }) (pL D (wXo o a b z cA iA oA cf uf ou) (kTo cA iA oA) sz [.ref o, .int x, .int y, .ref z]) (QI (nI 1) D (wXo o a b z cA iA oA cf uf ou) (va_A (wXo o a b z cA iA oA cf uf ou) sz)) 1 6 (va_A (wXo o a b z cA iA oA cf uf ou) sz) := by
  refine va_MetW (cc := cL_read) (maxL := 5) (ret := (some .int)) (hh := [(0, 9, 12, 13), (0, 9, 16, 15)]) (by decide) rfl ?_
  intro p e s m args below meth c s₁ B hml hv
  obtain ⟨rfl, hsz, hxL, hP, hK, hD0⟩ := hv
  have hx := B.exec
  have hb := B.bytes
  have hr := B.returns
  have hts := atoms_spec (ws := (.codeWith yL_read cL_read 5 (some .int) [(0, 9, 12, 13), (0, 9, 16, 15)] :: gW)) B.pre
  have hg : ∀ w ∈ gW, w.before ([.ref o, .int x, .int y, .ref z]).toArray s = true := fun w h => hts w (List.mem_cons_of_mem _ h)
  have hown : s.vm.findClass R_L = some m.cls := findClass_of_methodNamed B.named
  have hlocks := B.notSynchronized
  subst hsz
  have hD := hD0.self (sz := s.heap.size)
  generalize hAe : va_A (wXo o a b z cA iA oA cf uf ou) s.heap.size = A at hD ⊢
  have hA : ∀ q : Nat, s.heap.size ≤ q → A q := fun q h => by rw [← hAe]; exact Or.inr h
  have hS : va_S A s.heap s.heap [] := va_S.rf
  have hP : va_P D cls_ (wXo o a b z cA iA oA cf uf ou) s.heap := hP
  have htab : c.exceptionTable.toList = [⟨0, 9, 12, 13⟩, ⟨0, 9, 16, 15⟩] := vx_table B (hts _ List.mem_cons_self)
  have hl := lv_entry ([.ref o, .int x, .int y, .ref z]) (n := 5) (Nat.le_of_ble_eq_true rfl)
  rw [lg_entry_eq]
  generalize (lg_sl ([.ref o, .int x, .int y, .ref z]) ++ List.replicate (5 - (lg_sl ([.ref o, .int x, .int y, .ref z])).length) Slot.unset).toArray = ls at hl ⊢
  have hl : lv_has ls 5 [(0, .ref o), (1, .int x), (2, .int y), (3, .ref z)] := hl
  refine lv_aload_n hx hb dL_read_0 rfl (lv_at hl 3 rfl) ?_
  refine lv_iconst (v := nI 0) hx hb dL_read_1 (by decide +kernel) ?_
  refine lv_aload_n hx hb dL_read_2 rfl (lv_at hl 0 rfl) ?_
  refine lv_iload_n hx hb dL_read_3 rfl (lv_at hl 1 rfl) ?_
  refine lv_iload_n hx hb dL_read_4 rfl (lv_at hl 2 rfl) ?_
  have hPc := hP.sub (ws' := wX o a b cA iA cf uf) [0, 1, 2] rfl
  have hKc := hK.sub (tys' := kT cA iA) [0, 1] rfl
  refine cthL (A := A) (hpc := 12) (n := 2) (As := [.int x, .int y]) (rest := [.int (nI 0), .ref z]) ⟨hx, hb, hml, hown, hts⟩ (mX_read_a l hls D o a b cA iA cf uf x y hbad) w_76 w_77 w_78 w_1 w_79 (by decide +kernel) ⟨rfl, rfl⟩ ⟨(Nat.le_of_ble_eq_true rfl), (Nat.le_of_ble_eq_true rfl)⟩ hxL.1 hPc hKc 0 0 rfl rfl rfl hl.1 rfl (Nat.le_of_ble_eq_true rfl) dL_read_5 ⟨(Nat.le_of_ble_eq_true rfl), (Nat.le_of_ble_eq_true rfl)⟩ (by decide +kernel) (cat1 htab (by decide) (by decide) (hg _ w_74)) (fun H locs q9 hk9 hS => ?_)
  have hP : va_P D cls_ (wXo o a b z cA iA oA cf uf ou) H := hP.kept (fun k q hq9 => hk9 q.1 (vx_lt hP hq9))
  refine lv_astore hx hb dL_read_12 hl (by decide) rfl (fun ls hl => ?_)
  have hl : lv_has ls 5 [(4, .ref q9), (0, .ref o), (1, .int x), (2, .int y), (3, .ref z)] := hl
  refine lv_iconst (v := nI 1) hx hb dL_read_14 (by decide +kernel) ?_
  refine W.widen (k := 1) (n := 6) (by omega) (by omega) ?_
  exact W.iret (v := nI 1) hx hb hr (fun t9 ht9 _ => ⟨⟨_, (), rfl, rfl, by show va_P _ _ _ t9.heap; rw [ht9]; exact hP⟩, hS.F ht9⟩) hS.2.2 dL_read_15
set_option maxHeartbeats 4000000 in
set_option maxRecDepth 100000 in
theorem mL_read_u (l : Launch) (hls : l.stackTraces = false) (D : va_G) (o a b : Nat) (cA iA : ClassId) (cf : Nat → Int64) (uf : Nat → Int32) (z : Nat) (oA : ClassId) (ou : Nat → Int64) (sz : Nat) (q h : Nat) (hq : q < 400) (hh : h < 2) (hil : il uf (dk q) (q / 4) = true) : Met l yL_read (.codeWith yL_read cL_read 5 (some .int) [(0, 9, 12, 13), (0, 9, 16, 15)] :: gW) ({ frames := 8, cells := 1, slots := 6, locals := 140 }) (pL D (wXo o a b z cA iA oA cf uf ou) (kTo cA iA oA) sz [.ref o, .int (nI q), .int (nI h), .ref z]) (QI (nI 2) D (wXo o a b z cA iA oA cf uf ou) (va_A (wXo o a b z cA iA oA cf uf ou) sz)) 1 6 (va_A (wXo o a b z cA iA oA cf uf ou) sz) := by
  refine va_MetW (cc := cL_read) (maxL := 5) (ret := (some .int)) (hh := [(0, 9, 12, 13), (0, 9, 16, 15)]) (by decide) rfl ?_
  intro p e s m args below meth c s₁ B hml hv
  obtain ⟨rfl, hsz, hxL, hP, hK, hD0⟩ := hv
  have hx := B.exec
  have hb := B.bytes
  have hr := B.returns
  have hts := atoms_spec (ws := (.codeWith yL_read cL_read 5 (some .int) [(0, 9, 12, 13), (0, 9, 16, 15)] :: gW)) B.pre
  have hg : ∀ w ∈ gW, w.before ([.ref o, .int (nI q), .int (nI h), .ref z]).toArray s = true := fun w h => hts w (List.mem_cons_of_mem _ h)
  have hown : s.vm.findClass R_L = some m.cls := findClass_of_methodNamed B.named
  have hlocks := B.notSynchronized
  subst hsz
  have hD := hD0.self (sz := s.heap.size)
  generalize hAe : va_A (wXo o a b z cA iA oA cf uf ou) s.heap.size = A at hD ⊢
  have hA : ∀ q : Nat, s.heap.size ≤ q → A q := fun q h => by rw [← hAe]; exact Or.inr h
  have hS : va_S A s.heap s.heap [] := va_S.rf
  have hP : va_P D cls_ (wXo o a b z cA iA oA cf uf ou) s.heap := hP
  have htab : c.exceptionTable.toList = [⟨0, 9, 12, 13⟩, ⟨0, 9, 16, 15⟩] := vx_table B (hts _ List.mem_cons_self)
  have hl := lv_entry ([.ref o, .int (nI q), .int (nI h), .ref z]) (n := 5) (Nat.le_of_ble_eq_true rfl)
  rw [lg_entry_eq]
  generalize (lg_sl ([.ref o, .int (nI q), .int (nI h), .ref z]) ++ List.replicate (5 - (lg_sl ([.ref o, .int (nI q), .int (nI h), .ref z])).length) Slot.unset).toArray = ls at hl ⊢
  have hl : lv_has ls 5 [(0, .ref o), (1, .int (nI q)), (2, .int (nI h)), (3, .ref z)] := hl
  refine lv_aload_n hx hb dL_read_0 rfl (lv_at hl 3 rfl) ?_
  refine lv_iconst (v := nI 0) hx hb dL_read_1 (by decide +kernel) ?_
  refine lv_aload_n hx hb dL_read_2 rfl (lv_at hl 0 rfl) ?_
  refine lv_iload_n hx hb dL_read_3 rfl (lv_at hl 1 rfl) ?_
  refine lv_iload_n hx hb dL_read_4 rfl (lv_at hl 2 rfl) ?_
  have hPc := hP.sub (ws' := wX o a b cA iA cf uf) [0, 1, 2] rfl
  have hKc := hK.sub (tys' := kT cA iA) [0, 1] rfl
  refine cthL (A := A) (hpc := 16) (n := 2) (As := [.int (nI q), .int (nI h)]) (rest := [.int (nI 0), .ref z]) ⟨hx, hb, hml, hown, hts⟩ (mX_read_u l hls D o a b cA iA cf uf q h hq hh hil) w_76 w_77 w_78 w_1 w_79 (by decide +kernel) ⟨rfl, rfl⟩ ⟨(Nat.le_of_ble_eq_true rfl), (Nat.le_of_ble_eq_true rfl)⟩ hxL.1 hPc hKc 0 0 rfl rfl rfl hl.1 rfl (Nat.le_of_ble_eq_true rfl) dL_read_5 ⟨(Nat.le_of_ble_eq_true rfl), (Nat.le_of_ble_eq_true rfl)⟩ (by decide +kernel) (cat2 htab (by decide) (hg _ w_74) hxL.2.1 (by decide) (by decide) (hg _ w_75)) (fun H locs q9 hk9 hS => ?_)
  have hP : va_P D cls_ (wXo o a b z cA iA oA cf uf ou) H := hP.kept (fun k q hq9 => hk9 q.1 (vx_lt hP hq9))
  refine lv_astore hx hb dL_read_16 hl (by decide) rfl (fun ls hl => ?_)
  have hl : lv_has ls 5 [(4, .ref q9), (0, .ref o), (1, .int (nI q)), (2, .int (nI h)), (3, .ref z)] := hl
  refine lv_iconst (v := nI 2) hx hb dL_read_18 (by decide +kernel) ?_
  refine W.widen (k := 1) (n := 6) (by omega) (by omega) ?_
  exact W.iret (v := nI 2) hx hb hr (fun t9 ht9 _ => ⟨⟨_, (), rfl, rfl, by show va_P _ _ _ t9.heap; rw [ht9]; exact hP⟩, hS.F ht9⟩) hS.2.2 dL_read_19
set_option maxHeartbeats 4000000 in
set_option maxRecDepth 100000 in
theorem mL_write_ok (l : Launch) (D : va_G) (o a b : Nat) (cA iA : ClassId) (cf : Nat → Int64) (uf : Nat → Int32) (sz : Nat) (q h : Nat) (hq : q < 400) (hh : h < 2) (v : Int64) (hil : il uf (dk q) (q / 4) = false) : Met l yL_write (.codeWith yL_write cL_write 6 (some .int) [(0, 7, 10, 13), (0, 7, 14, 15)] :: gW) ({ frames := 8, cells := 1, slots := 6, locals := 145 }) (pL D (wX o a b cA iA cf uf) (kT cA iA) sz [.ref o, .int (nI q), .int (nI h), .long v]) (QI (nI 0) D (wX o a b cA iA (wN cf uf q h v) uf) (va_A (wX o a b cA iA cf uf) sz)) 1 6 (va_A (wX o a b cA iA cf uf) sz) := by
  refine va_MetW (cc := cL_write) (maxL := 6) (ret := (some .int)) (hh := [(0, 7, 10, 13), (0, 7, 14, 15)]) (by decide) rfl ?_
  intro p e s m args below meth c s₁ B hml hv
  obtain ⟨rfl, hsz, hxL, hP, hK, hD0⟩ := hv
  have hx := B.exec
  have hb := B.bytes
  have hr := B.returns
  have hts := atoms_spec (ws := (.codeWith yL_write cL_write 6 (some .int) [(0, 7, 10, 13), (0, 7, 14, 15)] :: gW)) B.pre
  have hg : ∀ w ∈ gW, w.before ([.ref o, .int (nI q), .int (nI h), .long v]).toArray s = true := fun w h => hts w (List.mem_cons_of_mem _ h)
  have hown : s.vm.findClass R_L = some m.cls := findClass_of_methodNamed B.named
  have hlocks := B.notSynchronized
  subst hsz
  have hD := hD0.self (sz := s.heap.size)
  generalize hAe : va_A (wX o a b cA iA cf uf) s.heap.size = A at hD ⊢
  have hA : ∀ q : Nat, s.heap.size ≤ q → A q := fun q h => by rw [← hAe]; exact Or.inr h
  have hS : va_S A s.heap s.heap [] := va_S.rf
  have hP : va_P D cls_ (wX o a b cA iA cf uf) s.heap := hP
  have hl := lv_entry ([.ref o, .int (nI q), .int (nI h), .long v]) (n := 6) (Nat.le_of_ble_eq_true rfl)
  rw [lg_entry_eq]
  generalize (lg_sl ([.ref o, .int (nI q), .int (nI h), .long v]) ++ List.replicate (6 - (lg_sl ([.ref o, .int (nI q), .int (nI h), .long v])).length) Slot.unset).toArray = ls at hl ⊢
  have hl : lv_has ls 6 [(0, .ref o), (1, .int (nI q)), (2, .int (nI h)), (3, .long v)] := hl
  refine lv_aload_n hx hb dL_write_0 rfl (lv_at hl 0 rfl) ?_
  refine lv_iload_n hx hb dL_write_1 rfl (lv_at hl 1 rfl) ?_
  refine lv_iload_n hx hb dL_write_2 rfl (lv_at hl 2 rfl) ?_
  refine lv_lload_n hx hb dL_write_3 rfl (lv_at hl 3 rfl) ?_
  refine kVv (n := 3) (As := [.int (nI q), .int (nI h), .long v]) (rest := []) ⟨hx, hb, hml, hown, hts⟩ (mX_write_ok l D o a b cA iA cf uf s.heap.size q h hq hh v hil) w_178 w_179 w_180 w_1 w_181 (by decide +kernel) ⟨rfl, rfl⟩ ⟨(Nat.le_of_ble_eq_true rfl), (Nat.le_of_ble_eq_true rfl)⟩ hP hK hD hS hA rfl 0 0 rfl rfl rfl hl.1 rfl (Nat.le_of_ble_eq_true rfl) dL_write_4 ⟨Nat.zero_le _, Nat.zero_le _⟩ (fun H locs hP hD hS => ?_)
  refine lv_goto (tgt := 18) hx hb dL_write_7 (by decide) ?_
  refine lv_iconst (v := nI 0) hx hb dL_write_18 (by decide +kernel) ?_
  refine W.widen (k := 1) (n := 6) (by omega) (by omega) ?_
  exact W.iret (v := nI 0) hx hb hr (fun t9 ht9 _ => ⟨⟨_, (), rfl, rfl, by show va_P _ _ _ t9.heap; rw [ht9]; exact hP⟩, hS.F ht9⟩) hS.2.2 dL_write_19
set_option maxHeartbeats 4000000 in
set_option maxRecDepth 100000 in
theorem mL_write_a (l : Launch) (hls : l.stackTraces = false) (D : va_G) (o a b : Nat) (cA iA : ClassId) (cf : Nat → Int64) (uf : Nat → Int32) (sz : Nat) (x y : Int32) (v : Int64) (hbad : (inR x 400 && inR y 2) = false) : Met l yL_write (.codeWith yL_write cL_write 6 (some .int) [(0, 7, 10, 13), (0, 7, 14, 15)] :: gW) ({ frames := 8, cells := 1, slots := 6, locals := 145 }) (pL D (wX o a b cA iA cf uf) (kT cA iA) sz [.ref o, .int x, .int y, .long v]) (QI (nI 1) D (wX o a b cA iA cf uf) (va_A (wX o a b cA iA cf uf) sz)) 1 6 (va_A (wX o a b cA iA cf uf) sz) := by
  refine va_MetW (cc := cL_write) (maxL := 6) (ret := (some .int)) (hh := [(0, 7, 10, 13), (0, 7, 14, 15)]) (by decide) rfl ?_
  intro p e s m args below meth c s₁ B hml hv
  obtain ⟨rfl, hsz, hxL, hP, hK, hD0⟩ := hv
  have hx := B.exec
  have hb := B.bytes
  have hr := B.returns
  have hts := atoms_spec (ws := (.codeWith yL_write cL_write 6 (some .int) [(0, 7, 10, 13), (0, 7, 14, 15)] :: gW)) B.pre
  have hg : ∀ w ∈ gW, w.before ([.ref o, .int x, .int y, .long v]).toArray s = true := fun w h => hts w (List.mem_cons_of_mem _ h)
  have hown : s.vm.findClass R_L = some m.cls := findClass_of_methodNamed B.named
  have hlocks := B.notSynchronized
  subst hsz
  have hD := hD0.self (sz := s.heap.size)
  generalize hAe : va_A (wX o a b cA iA cf uf) s.heap.size = A at hD ⊢
  have hA : ∀ q : Nat, s.heap.size ≤ q → A q := fun q h => by rw [← hAe]; exact Or.inr h
  have hS : va_S A s.heap s.heap [] := va_S.rf
  have hP : va_P D cls_ (wX o a b cA iA cf uf) s.heap := hP
  have htab : c.exceptionTable.toList = [⟨0, 7, 10, 13⟩, ⟨0, 7, 14, 15⟩] := vx_table B (hts _ List.mem_cons_self)
  have hl := lv_entry ([.ref o, .int x, .int y, .long v]) (n := 6) (Nat.le_of_ble_eq_true rfl)
  rw [lg_entry_eq]
  generalize (lg_sl ([.ref o, .int x, .int y, .long v]) ++ List.replicate (6 - (lg_sl ([.ref o, .int x, .int y, .long v])).length) Slot.unset).toArray = ls at hl ⊢
  have hl : lv_has ls 6 [(0, .ref o), (1, .int x), (2, .int y), (3, .long v)] := hl
  refine lv_aload_n hx hb dL_write_0 rfl (lv_at hl 0 rfl) ?_
  refine lv_iload_n hx hb dL_write_1 rfl (lv_at hl 1 rfl) ?_
  refine lv_iload_n hx hb dL_write_2 rfl (lv_at hl 2 rfl) ?_
  refine lv_lload_n hx hb dL_write_3 rfl (lv_at hl 3 rfl) ?_
  refine cthV (A := A) (hpc := 10) (n := 3) (As := [.int x, .int y, .long v]) (rest := []) ⟨hx, hb, hml, hown, hts⟩ (mX_write_a l hls D o a b cA iA cf uf x y v hbad) w_178 w_179 w_180 w_1 w_181 (by decide +kernel) ⟨rfl, rfl⟩ ⟨(Nat.le_of_ble_eq_true rfl), (Nat.le_of_ble_eq_true rfl)⟩ hxL.1 hP hK 0 0 rfl rfl rfl hl.1 rfl (Nat.le_of_ble_eq_true rfl) dL_write_4 ⟨(Nat.le_of_ble_eq_true rfl), (Nat.le_of_ble_eq_true rfl)⟩ (by decide +kernel) (cat1 htab (by decide) (by decide) (hg _ w_74)) (fun H locs q9 hk9 hS => ?_)
  have hP : va_P D cls_ (wX o a b cA iA cf uf) H := hP.kept (fun k q hq9 => hk9 q.1 (vx_lt hP hq9))
  refine lv_astore hx hb dL_write_10 hl (by decide) rfl (fun ls hl => ?_)
  have hl : lv_has ls 6 [(5, .ref q9), (0, .ref o), (1, .int x), (2, .int y), (3, .long v)] := hl
  refine lv_iconst (v := nI 1) hx hb dL_write_12 (by decide +kernel) ?_
  refine W.widen (k := 1) (n := 6) (by omega) (by omega) ?_
  exact W.iret (v := nI 1) hx hb hr (fun t9 ht9 _ => ⟨⟨_, (), rfl, rfl, by show va_P _ _ _ t9.heap; rw [ht9]; exact hP⟩, hS.F ht9⟩) hS.2.2 dL_write_13
set_option maxHeartbeats 4000000 in
set_option maxRecDepth 100000 in
theorem mL_write_u (l : Launch) (hls : l.stackTraces = false) (D : va_G) (o a b : Nat) (cA iA : ClassId) (cf : Nat → Int64) (uf : Nat → Int32) (sz : Nat) (q h : Nat) (hq : q < 400) (hh : h < 2) (v : Int64) (hil : il uf (dk q) (q / 4) = true) : Met l yL_write (.codeWith yL_write cL_write 6 (some .int) [(0, 7, 10, 13), (0, 7, 14, 15)] :: gW) ({ frames := 8, cells := 1, slots := 6, locals := 145 }) (pL D (wX o a b cA iA cf uf) (kT cA iA) sz [.ref o, .int (nI q), .int (nI h), .long v]) (QI (nI 2) D (wX o a b cA iA cf uf) (va_A (wX o a b cA iA cf uf) sz)) 1 6 (va_A (wX o a b cA iA cf uf) sz) := by
  refine va_MetW (cc := cL_write) (maxL := 6) (ret := (some .int)) (hh := [(0, 7, 10, 13), (0, 7, 14, 15)]) (by decide) rfl ?_
  intro p e s m args below meth c s₁ B hml hv
  obtain ⟨rfl, hsz, hxL, hP, hK, hD0⟩ := hv
  have hx := B.exec
  have hb := B.bytes
  have hr := B.returns
  have hts := atoms_spec (ws := (.codeWith yL_write cL_write 6 (some .int) [(0, 7, 10, 13), (0, 7, 14, 15)] :: gW)) B.pre
  have hg : ∀ w ∈ gW, w.before ([.ref o, .int (nI q), .int (nI h), .long v]).toArray s = true := fun w h => hts w (List.mem_cons_of_mem _ h)
  have hown : s.vm.findClass R_L = some m.cls := findClass_of_methodNamed B.named
  have hlocks := B.notSynchronized
  subst hsz
  have hD := hD0.self (sz := s.heap.size)
  generalize hAe : va_A (wX o a b cA iA cf uf) s.heap.size = A at hD ⊢
  have hA : ∀ q : Nat, s.heap.size ≤ q → A q := fun q h => by rw [← hAe]; exact Or.inr h
  have hS : va_S A s.heap s.heap [] := va_S.rf
  have hP : va_P D cls_ (wX o a b cA iA cf uf) s.heap := hP
  have htab : c.exceptionTable.toList = [⟨0, 7, 10, 13⟩, ⟨0, 7, 14, 15⟩] := vx_table B (hts _ List.mem_cons_self)
  have hl := lv_entry ([.ref o, .int (nI q), .int (nI h), .long v]) (n := 6) (Nat.le_of_ble_eq_true rfl)
  rw [lg_entry_eq]
  generalize (lg_sl ([.ref o, .int (nI q), .int (nI h), .long v]) ++ List.replicate (6 - (lg_sl ([.ref o, .int (nI q), .int (nI h), .long v])).length) Slot.unset).toArray = ls at hl ⊢
  have hl : lv_has ls 6 [(0, .ref o), (1, .int (nI q)), (2, .int (nI h)), (3, .long v)] := hl
  refine lv_aload_n hx hb dL_write_0 rfl (lv_at hl 0 rfl) ?_
  refine lv_iload_n hx hb dL_write_1 rfl (lv_at hl 1 rfl) ?_
  refine lv_iload_n hx hb dL_write_2 rfl (lv_at hl 2 rfl) ?_
  refine lv_lload_n hx hb dL_write_3 rfl (lv_at hl 3 rfl) ?_
  refine cthV (A := A) (hpc := 14) (n := 3) (As := [.int (nI q), .int (nI h), .long v]) (rest := []) ⟨hx, hb, hml, hown, hts⟩ (mX_write_u l hls D o a b cA iA cf uf q h hq hh v hil) w_178 w_179 w_180 w_1 w_181 (by decide +kernel) ⟨rfl, rfl⟩ ⟨(Nat.le_of_ble_eq_true rfl), (Nat.le_of_ble_eq_true rfl)⟩ hxL.1 hP hK 0 0 rfl rfl rfl hl.1 rfl (Nat.le_of_ble_eq_true rfl) dL_write_4 ⟨(Nat.le_of_ble_eq_true rfl), (Nat.le_of_ble_eq_true rfl)⟩ (by decide +kernel) (cat2 htab (by decide) (hg _ w_74) hxL.2.1 (by decide) (by decide) (hg _ w_75)) (fun H locs q9 hk9 hS => ?_)
  have hP : va_P D cls_ (wX o a b cA iA cf uf) H := hP.kept (fun k q hq9 => hk9 q.1 (vx_lt hP hq9))
  refine lv_astore hx hb dL_write_14 hl (by decide) rfl (fun ls hl => ?_)
  have hl : lv_has ls 6 [(5, .ref q9), (0, .ref o), (1, .int (nI q)), (2, .int (nI h)), (3, .long v)] := hl
  refine lv_iconst (v := nI 2) hx hb dL_write_16 (by decide +kernel) ?_
  refine W.widen (k := 1) (n := 6) (by omega) (by omega) ?_
  exact W.iret (v := nI 2) hx hb hr (fun t9 ht9 _ => ⟨⟨_, (), rfl, rfl, by show va_P _ _ _ t9.heap; rw [ht9]; exact hP⟩, hS.F ht9⟩) hS.2.2 dL_write_17
set_option maxHeartbeats 4000000 in
set_option maxRecDepth 100000 in
theorem mL_fail_ok (l : Launch) (D : va_G) (o a b : Nat) (cA iA : ClassId) (cf : Nat → Int64) (uf : Nat → Int32) (sz : Nat) (d : Nat) (hd : d < 5) : Met l yL_fail (.codeWith yL_fail cL_fail 3 (some .int) [(0, 5, 8, 13)] :: gW) ({ frames := 8, cells := 1, slots := 6, locals := 137 }) (pL D (wX o a b cA iA cf uf) (kT cA iA) sz [.ref o, .int (nI d)]) (QI (nI 0) D (wX o a b cA iA cf (upd uf d (-1))) (va_A (wX o a b cA iA cf uf) sz)) 1 6 (va_A (wX o a b cA iA cf uf) sz) := by
  refine va_MetW (cc := cL_fail) (maxL := 3) (ret := (some .int)) (hh := [(0, 5, 8, 13)]) (by decide) rfl ?_
  intro p e s m args below meth c s₁ B hml hv
  obtain ⟨rfl, hsz, hxL, hP, hK, hD0⟩ := hv
  have hx := B.exec
  have hb := B.bytes
  have hr := B.returns
  have hts := atoms_spec (ws := (.codeWith yL_fail cL_fail 3 (some .int) [(0, 5, 8, 13)] :: gW)) B.pre
  have hg : ∀ w ∈ gW, w.before ([.ref o, .int (nI d)]).toArray s = true := fun w h => hts w (List.mem_cons_of_mem _ h)
  have hown : s.vm.findClass R_L = some m.cls := findClass_of_methodNamed B.named
  have hlocks := B.notSynchronized
  subst hsz
  have hD := hD0.self (sz := s.heap.size)
  generalize hAe : va_A (wX o a b cA iA cf uf) s.heap.size = A at hD ⊢
  have hA : ∀ q : Nat, s.heap.size ≤ q → A q := fun q h => by rw [← hAe]; exact Or.inr h
  have hS : va_S A s.heap s.heap [] := va_S.rf
  have hP : va_P D cls_ (wX o a b cA iA cf uf) s.heap := hP
  have hl := lv_entry ([.ref o, .int (nI d)]) (n := 3) (Nat.le_of_ble_eq_true rfl)
  rw [lg_entry_eq]
  generalize (lg_sl ([.ref o, .int (nI d)]) ++ List.replicate (3 - (lg_sl ([.ref o, .int (nI d)])).length) Slot.unset).toArray = ls at hl ⊢
  have hl : lv_has ls 3 [(0, .ref o), (1, .int (nI d))] := hl
  refine lv_aload_n hx hb dL_fail_0 rfl (lv_at hl 0 rfl) ?_
  refine lv_iload_n hx hb dL_fail_1 rfl (lv_at hl 1 rfl) ?_
  refine kVv (n := 1) (As := [.int (nI d)]) (rest := []) ⟨hx, hb, hml, hown, hts⟩ (mX_fail_ok l D o a b cA iA cf uf s.heap.size d hd) w_186 w_187 w_188 w_1 w_189 (by decide +kernel) ⟨rfl, rfl⟩ ⟨(Nat.le_of_ble_eq_true rfl), (Nat.le_of_ble_eq_true rfl)⟩ hP hK hD hS hA rfl 0 0 rfl rfl rfl hl.1 rfl (Nat.le_of_ble_eq_true rfl) dL_fail_2 ⟨Nat.zero_le _, Nat.zero_le _⟩ (fun H locs hP hD hS => ?_)
  refine lv_goto (tgt := 11) hx hb dL_fail_5 (by decide) ?_
  refine lv_iconst (v := nI 0) hx hb dL_fail_11 (by decide +kernel) ?_
  refine W.widen (k := 1) (n := 6) (by omega) (by omega) ?_
  exact W.iret (v := nI 0) hx hb hr (fun t9 ht9 _ => ⟨⟨_, (), rfl, rfl, by show va_P _ _ _ t9.heap; rw [ht9]; exact hP⟩, hS.F ht9⟩) hS.2.2 dL_fail_12
set_option maxHeartbeats 4000000 in
set_option maxRecDepth 100000 in
theorem mL_fail_a (l : Launch) (hls : l.stackTraces = false) (D : va_G) (o a b : Nat) (cA iA : ClassId) (cf : Nat → Int64) (uf : Nat → Int32) (sz : Nat) (x : Int32) (hbad : inR x 5 = false) : Met l yL_fail (.codeWith yL_fail cL_fail 3 (some .int) [(0, 5, 8, 13)] :: gW) ({ frames := 8, cells := 1, slots := 6, locals := 137 }) (pL D (wX o a b cA iA cf uf) (kT cA iA) sz [.ref o, .int x]) (QI (nI 1) D (wX o a b cA iA cf uf) (va_A (wX o a b cA iA cf uf) sz)) 1 6 (va_A (wX o a b cA iA cf uf) sz) := by
  refine va_MetW (cc := cL_fail) (maxL := 3) (ret := (some .int)) (hh := [(0, 5, 8, 13)]) (by decide) rfl ?_
  intro p e s m args below meth c s₁ B hml hv
  obtain ⟨rfl, hsz, hxL, hP, hK, hD0⟩ := hv
  have hx := B.exec
  have hb := B.bytes
  have hr := B.returns
  have hts := atoms_spec (ws := (.codeWith yL_fail cL_fail 3 (some .int) [(0, 5, 8, 13)] :: gW)) B.pre
  have hg : ∀ w ∈ gW, w.before ([.ref o, .int x]).toArray s = true := fun w h => hts w (List.mem_cons_of_mem _ h)
  have hown : s.vm.findClass R_L = some m.cls := findClass_of_methodNamed B.named
  have hlocks := B.notSynchronized
  subst hsz
  have hD := hD0.self (sz := s.heap.size)
  generalize hAe : va_A (wX o a b cA iA cf uf) s.heap.size = A at hD ⊢
  have hA : ∀ q : Nat, s.heap.size ≤ q → A q := fun q h => by rw [← hAe]; exact Or.inr h
  have hS : va_S A s.heap s.heap [] := va_S.rf
  have hP : va_P D cls_ (wX o a b cA iA cf uf) s.heap := hP
  have htab : c.exceptionTable.toList = [⟨0, 5, 8, 13⟩] := vx_table B (hts _ List.mem_cons_self)
  have hl := lv_entry ([.ref o, .int x]) (n := 3) (Nat.le_of_ble_eq_true rfl)
  rw [lg_entry_eq]
  generalize (lg_sl ([.ref o, .int x]) ++ List.replicate (3 - (lg_sl ([.ref o, .int x])).length) Slot.unset).toArray = ls at hl ⊢
  have hl : lv_has ls 3 [(0, .ref o), (1, .int x)] := hl
  refine lv_aload_n hx hb dL_fail_0 rfl (lv_at hl 0 rfl) ?_
  refine lv_iload_n hx hb dL_fail_1 rfl (lv_at hl 1 rfl) ?_
  refine cthV (A := A) (hpc := 8) (n := 1) (As := [.int x]) (rest := []) ⟨hx, hb, hml, hown, hts⟩ (mX_fail_a l hls D o a b cA iA cf uf x hbad) w_186 w_187 w_188 w_1 w_189 (by decide +kernel) ⟨rfl, rfl⟩ ⟨(Nat.le_of_ble_eq_true rfl), (Nat.le_of_ble_eq_true rfl)⟩ hxL.1 hP hK 0 0 rfl rfl rfl hl.1 rfl (Nat.le_of_ble_eq_true rfl) dL_fail_2 ⟨(Nat.le_of_ble_eq_true rfl), (Nat.le_of_ble_eq_true rfl)⟩ (by decide +kernel) (cat1 htab (by decide) (by decide) (hg _ w_74)) (fun H locs q9 hk9 hS => ?_)
  have hP : va_P D cls_ (wX o a b cA iA cf uf) H := hP.kept (fun k q hq9 => hk9 q.1 (vx_lt hP hq9))
  refine lv_astore_n hx hb dL_fail_8 rfl hl (by decide) rfl (fun ls hl => ?_)
  have hl : lv_has ls 3 [(2, .ref q9), (0, .ref o), (1, .int x)] := hl
  refine lv_iconst (v := nI 1) hx hb dL_fail_9 (by decide +kernel) ?_
  refine W.widen (k := 1) (n := 6) (by omega) (by omega) ?_
  exact W.iret (v := nI 1) hx hb hr (fun t9 ht9 _ => ⟨⟨_, (), rfl, rfl, by show va_P _ _ _ t9.heap; rw [ht9]; exact hP⟩, hS.F ht9⟩) hS.2.2 dL_fail_10
set_option maxHeartbeats 4000000 in
set_option maxRecDepth 100000 in
theorem mL_replace_ok (l : Launch) (D : va_G) (o a b : Nat) (cA iA : ClassId) (cf : Nat → Int64) (uf : Nat → Int32) (sz : Nat) (d : Nat) (hd : d < 5) (hu : uf d = -1) : Met l yL_replace (.codeWith yL_replace cL_replace 3 (some .int) [(0, 5, 8, 13), (0, 5, 11, 28)] :: gW) ({ frames := 8, cells := 1, slots := 6, locals := 139 }) (pL D (wX o a b cA iA cf uf) (kT cA iA) sz [.ref o, .int (nI d)]) (QI (nI 0) D (wX o a b cA iA (zr cf d 100) (upd uf d (nI 0))) (va_A (wX o a b cA iA cf uf) sz)) 1 6 (va_A (wX o a b cA iA cf uf) sz) := by
  refine va_MetW (cc := cL_replace) (maxL := 3) (ret := (some .int)) (hh := [(0, 5, 8, 13), (0, 5, 11, 28)]) (by decide) rfl ?_
  intro p e s m args below meth c s₁ B hml hv
  obtain ⟨rfl, hsz, hxL, hP, hK, hD0⟩ := hv
  have hx := B.exec
  have hb := B.bytes
  have hr := B.returns
  have hts := atoms_spec (ws := (.codeWith yL_replace cL_replace 3 (some .int) [(0, 5, 8, 13), (0, 5, 11, 28)] :: gW)) B.pre
  have hg : ∀ w ∈ gW, w.before ([.ref o, .int (nI d)]).toArray s = true := fun w h => hts w (List.mem_cons_of_mem _ h)
  have hown : s.vm.findClass R_L = some m.cls := findClass_of_methodNamed B.named
  have hlocks := B.notSynchronized
  subst hsz
  have hD := hD0.self (sz := s.heap.size)
  generalize hAe : va_A (wX o a b cA iA cf uf) s.heap.size = A at hD ⊢
  have hA : ∀ q : Nat, s.heap.size ≤ q → A q := fun q h => by rw [← hAe]; exact Or.inr h
  have hS : va_S A s.heap s.heap [] := va_S.rf
  have hP : va_P D cls_ (wX o a b cA iA cf uf) s.heap := hP
  have hl := lv_entry ([.ref o, .int (nI d)]) (n := 3) (Nat.le_of_ble_eq_true rfl)
  rw [lg_entry_eq]
  generalize (lg_sl ([.ref o, .int (nI d)]) ++ List.replicate (3 - (lg_sl ([.ref o, .int (nI d)])).length) Slot.unset).toArray = ls at hl ⊢
  have hl : lv_has ls 3 [(0, .ref o), (1, .int (nI d))] := hl
  refine lv_aload_n hx hb dL_replace_0 rfl (lv_at hl 0 rfl) ?_
  refine lv_iload_n hx hb dL_replace_1 rfl (lv_at hl 1 rfl) ?_
  refine kVv (n := 1) (As := [.int (nI d)]) (rest := []) ⟨hx, hb, hml, hown, hts⟩ (mX_replace_ok l D o a b cA iA cf uf s.heap.size d hd hu) w_198 w_199 w_200 w_1 w_201 (by decide +kernel) ⟨rfl, rfl⟩ ⟨(Nat.le_of_ble_eq_true rfl), (Nat.le_of_ble_eq_true rfl)⟩ hP hK hD hS hA rfl 0 0 rfl rfl rfl hl.1 rfl (Nat.le_of_ble_eq_true rfl) dL_replace_2 ⟨Nat.zero_le _, Nat.zero_le _⟩ (fun H locs hP hD hS => ?_)
  refine lv_goto (tgt := 14) hx hb dL_replace_5 (by decide) ?_
  refine lv_iconst (v := nI 0) hx hb dL_replace_14 (by decide +kernel) ?_
  refine W.widen (k := 1) (n := 6) (by omega) (by omega) ?_
  exact W.iret (v := nI 0) hx hb hr (fun t9 ht9 _ => ⟨⟨_, (), rfl, rfl, by show va_P _ _ _ t9.heap; rw [ht9]; exact hP⟩, hS.F ht9⟩) hS.2.2 dL_replace_15
set_option maxHeartbeats 4000000 in
set_option maxRecDepth 100000 in
theorem mL_replace_a (l : Launch) (hls : l.stackTraces = false) (D : va_G) (o a b : Nat) (cA iA : ClassId) (cf : Nat → Int64) (uf : Nat → Int32) (sz : Nat) (x : Int32) (hbad : inR x 5 = false) : Met l yL_replace (.codeWith yL_replace cL_replace 3 (some .int) [(0, 5, 8, 13), (0, 5, 11, 28)] :: gW) ({ frames := 8, cells := 1, slots := 6, locals := 139 }) (pL D (wX o a b cA iA cf uf) (kT cA iA) sz [.ref o, .int x]) (QI (nI 1) D (wX o a b cA iA cf uf) (va_A (wX o a b cA iA cf uf) sz)) 1 6 (va_A (wX o a b cA iA cf uf) sz) := by
  refine va_MetW (cc := cL_replace) (maxL := 3) (ret := (some .int)) (hh := [(0, 5, 8, 13), (0, 5, 11, 28)]) (by decide) rfl ?_
  intro p e s m args below meth c s₁ B hml hv
  obtain ⟨rfl, hsz, hxL, hP, hK, hD0⟩ := hv
  have hx := B.exec
  have hb := B.bytes
  have hr := B.returns
  have hts := atoms_spec (ws := (.codeWith yL_replace cL_replace 3 (some .int) [(0, 5, 8, 13), (0, 5, 11, 28)] :: gW)) B.pre
  have hg : ∀ w ∈ gW, w.before ([.ref o, .int x]).toArray s = true := fun w h => hts w (List.mem_cons_of_mem _ h)
  have hown : s.vm.findClass R_L = some m.cls := findClass_of_methodNamed B.named
  have hlocks := B.notSynchronized
  subst hsz
  have hD := hD0.self (sz := s.heap.size)
  generalize hAe : va_A (wX o a b cA iA cf uf) s.heap.size = A at hD ⊢
  have hA : ∀ q : Nat, s.heap.size ≤ q → A q := fun q h => by rw [← hAe]; exact Or.inr h
  have hS : va_S A s.heap s.heap [] := va_S.rf
  have hP : va_P D cls_ (wX o a b cA iA cf uf) s.heap := hP
  have htab : c.exceptionTable.toList = [⟨0, 5, 8, 13⟩, ⟨0, 5, 11, 28⟩] := vx_table B (hts _ List.mem_cons_self)
  have hl := lv_entry ([.ref o, .int x]) (n := 3) (Nat.le_of_ble_eq_true rfl)
  rw [lg_entry_eq]
  generalize (lg_sl ([.ref o, .int x]) ++ List.replicate (3 - (lg_sl ([.ref o, .int x])).length) Slot.unset).toArray = ls at hl ⊢
  have hl : lv_has ls 3 [(0, .ref o), (1, .int x)] := hl
  refine lv_aload_n hx hb dL_replace_0 rfl (lv_at hl 0 rfl) ?_
  refine lv_iload_n hx hb dL_replace_1 rfl (lv_at hl 1 rfl) ?_
  refine cthV (A := A) (hpc := 8) (n := 1) (As := [.int x]) (rest := []) ⟨hx, hb, hml, hown, hts⟩ (mX_replace_a l hls D o a b cA iA cf uf x hbad) w_198 w_199 w_200 w_1 w_201 (by decide +kernel) ⟨rfl, rfl⟩ ⟨(Nat.le_of_ble_eq_true rfl), (Nat.le_of_ble_eq_true rfl)⟩ hxL.1 hP hK 0 0 rfl rfl rfl hl.1 rfl (Nat.le_of_ble_eq_true rfl) dL_replace_2 ⟨(Nat.le_of_ble_eq_true rfl), (Nat.le_of_ble_eq_true rfl)⟩ (by decide +kernel) (cat1 htab (by decide) (by decide) (hg _ w_74)) (fun H locs q9 hk9 hS => ?_)
  have hP : va_P D cls_ (wX o a b cA iA cf uf) H := hP.kept (fun k q hq9 => hk9 q.1 (vx_lt hP hq9))
  refine lv_astore_n hx hb dL_replace_8 rfl hl (by decide) rfl (fun ls hl => ?_)
  have hl : lv_has ls 3 [(2, .ref q9), (0, .ref o), (1, .int x)] := hl
  refine lv_iconst (v := nI 1) hx hb dL_replace_9 (by decide +kernel) ?_
  refine W.widen (k := 1) (n := 6) (by omega) (by omega) ?_
  exact W.iret (v := nI 1) hx hb hr (fun t9 ht9 _ => ⟨⟨_, (), rfl, rfl, by show va_P _ _ _ t9.heap; rw [ht9]; exact hP⟩, hS.F ht9⟩) hS.2.2 dL_replace_10
set_option maxHeartbeats 4000000 in
set_option maxRecDepth 100000 in
theorem mL_replace_s (l : Launch) (hls : l.stackTraces = false) (D : va_G) (o a b : Nat) (cA iA : ClassId) (cf : Nat → Int64) (uf : Nat → Int32) (sz : Nat) (d : Nat) (hd : d < 5) (hu : ¬ uf d = -1) : Met l yL_replace (.codeWith yL_replace cL_replace 3 (some .int) [(0, 5, 8, 13), (0, 5, 11, 28)] :: gW) ({ frames := 8, cells := 1, slots := 6, locals := 139 }) (pL D (wX o a b cA iA cf uf) (kT cA iA) sz [.ref o, .int (nI d)]) (QI (nI 2) D (wX o a b cA iA cf uf) (va_A (wX o a b cA iA cf uf) sz)) 1 6 (va_A (wX o a b cA iA cf uf) sz) := by
  refine va_MetW (cc := cL_replace) (maxL := 3) (ret := (some .int)) (hh := [(0, 5, 8, 13), (0, 5, 11, 28)]) (by decide) rfl ?_
  intro p e s m args below meth c s₁ B hml hv
  obtain ⟨rfl, hsz, hxL, hP, hK, hD0⟩ := hv
  have hx := B.exec
  have hb := B.bytes
  have hr := B.returns
  have hts := atoms_spec (ws := (.codeWith yL_replace cL_replace 3 (some .int) [(0, 5, 8, 13), (0, 5, 11, 28)] :: gW)) B.pre
  have hg : ∀ w ∈ gW, w.before ([.ref o, .int (nI d)]).toArray s = true := fun w h => hts w (List.mem_cons_of_mem _ h)
  have hown : s.vm.findClass R_L = some m.cls := findClass_of_methodNamed B.named
  have hlocks := B.notSynchronized
  subst hsz
  have hD := hD0.self (sz := s.heap.size)
  generalize hAe : va_A (wX o a b cA iA cf uf) s.heap.size = A at hD ⊢
  have hA : ∀ q : Nat, s.heap.size ≤ q → A q := fun q h => by rw [← hAe]; exact Or.inr h
  have hS : va_S A s.heap s.heap [] := va_S.rf
  have hP : va_P D cls_ (wX o a b cA iA cf uf) s.heap := hP
  have htab : c.exceptionTable.toList = [⟨0, 5, 8, 13⟩, ⟨0, 5, 11, 28⟩] := vx_table B (hts _ List.mem_cons_self)
  have hl := lv_entry ([.ref o, .int (nI d)]) (n := 3) (Nat.le_of_ble_eq_true rfl)
  rw [lg_entry_eq]
  generalize (lg_sl ([.ref o, .int (nI d)]) ++ List.replicate (3 - (lg_sl ([.ref o, .int (nI d)])).length) Slot.unset).toArray = ls at hl ⊢
  have hl : lv_has ls 3 [(0, .ref o), (1, .int (nI d))] := hl
  refine lv_aload_n hx hb dL_replace_0 rfl (lv_at hl 0 rfl) ?_
  refine lv_iload_n hx hb dL_replace_1 rfl (lv_at hl 1 rfl) ?_
  refine cthV (A := A) (hpc := 11) (n := 1) (As := [.int (nI d)]) (rest := []) ⟨hx, hb, hml, hown, hts⟩ (mX_replace_s l hls D o a b cA iA cf uf d hd hu) w_198 w_199 w_200 w_1 w_201 (by decide +kernel) ⟨rfl, rfl⟩ ⟨(Nat.le_of_ble_eq_true rfl), (Nat.le_of_ble_eq_true rfl)⟩ hxL.1 hP hK 0 0 rfl rfl rfl hl.1 rfl (Nat.le_of_ble_eq_true rfl) dL_replace_2 ⟨(Nat.le_of_ble_eq_true rfl), (Nat.le_of_ble_eq_true rfl)⟩ (by decide +kernel) (cat2 htab (by decide) (hg _ w_74) hxL.2.2 (by decide) (by decide) (hg _ w_197)) (fun H locs q9 hk9 hS => ?_)
  have hP : va_P D cls_ (wX o a b cA iA cf uf) H := hP.kept (fun k q hq9 => hk9 q.1 (vx_lt hP hq9))
  refine lv_astore_n hx hb dL_replace_11 rfl hl (by decide) rfl (fun ls hl => ?_)
  have hl : lv_has ls 3 [(2, .ref q9), (0, .ref o), (1, .int (nI d))] := hl
  refine lv_iconst (v := nI 2) hx hb dL_replace_12 (by decide +kernel) ?_
  refine W.widen (k := 1) (n := 6) (by omega) (by omega) ?_
  exact W.iret (v := nI 2) hx hb hr (fun t9 ht9 _ => ⟨⟨_, (), rfl, rfl, by show va_P _ _ _ t9.heap; rw [ht9]; exact hP⟩, hS.F ht9⟩) hS.2.2 dL_replace_13
end
section
set_option maxHeartbeats 4000000 in
set_option maxRecDepth 100000 in
theorem mL_rebuild_ok (l : Launch) (D : va_G) (o a b : Nat) (cA iA : ClassId) (cf : Nat → Int64) (uf : Nat → Int32) (z : Nat) (oA : ClassId) (ou : Nat → Int64) (sz : Nat) (d n9 f : Nat) (hd : d < 5) (hn : n9 < 2 ^ 31) (hf : f < 100) (hu : uf d = nI f) : Met l yL_rebuild (.codeWith yL_rebuild cL_rebuild 5 (some .int) [(0, 10, 13, 13), (0, 10, 17, 28)] :: gW) ({ frames := 8, cells := 1, slots := 6, locals := 141 }) (pL D (wXo o a b z cA iA oA cf uf ou) (kTo cA iA oA) sz [.ref o, .int (nI d), .int (nI n9), .ref z]) (QI (nI 0) D (wXo o a b z cA iA oA ((rbF uf d (min n9 (100 - f)) cf f).1) (upd uf d (nI (rbF uf d (min n9 (100 - f)) cf f).2)) (vp_updL ou 0 ((nI (rbF uf d (min n9 (100 - f)) cf f).2).toInt64))) (va_A (wXo o a b z cA iA oA cf uf ou) sz)) 1 6 (va_A (wXo o a b z cA iA oA cf uf ou) sz) := by
  refine va_MetW (cc := cL_rebuild) (maxL := 5) (ret := (some .int)) (hh := [(0, 10, 13, 13), (0, 10, 17, 28)]) (by decide) rfl ?_
  intro p e s m args below meth c s₁ B hml hv
  obtain ⟨rfl, hsz, hxL, hP, hK, hD0⟩ := hv
  have hx := B.exec
  have hb := B.bytes
  have hr := B.returns
  have hts := atoms_spec (ws := (.codeWith yL_rebuild cL_rebuild 5 (some .int) [(0, 10, 13, 13), (0, 10, 17, 28)] :: gW)) B.pre
  have hg : ∀ w ∈ gW, w.before ([.ref o, .int (nI d), .int (nI n9), .ref z]).toArray s = true := fun w h => hts w (List.mem_cons_of_mem _ h)
  have hown : s.vm.findClass R_L = some m.cls := findClass_of_methodNamed B.named
  have hlocks := B.notSynchronized
  subst hsz
  have hD := hD0.self (sz := s.heap.size)
  generalize hAe : va_A (wXo o a b z cA iA oA cf uf ou) s.heap.size = A at hD ⊢
  have hA : ∀ q : Nat, s.heap.size ≤ q → A q := fun q h => by rw [← hAe]; exact Or.inr h
  have hS : va_S A s.heap s.heap [] := va_S.rf
  have hP : va_P D cls_ (wXo o a b z cA iA oA cf uf ou) s.heap := hP
  have hl := lv_entry ([.ref o, .int (nI d), .int (nI n9), .ref z]) (n := 5) (Nat.le_of_ble_eq_true rfl)
  rw [lg_entry_eq]
  generalize (lg_sl ([.ref o, .int (nI d), .int (nI n9), .ref z]) ++ List.replicate (5 - (lg_sl ([.ref o, .int (nI d), .int (nI n9), .ref z])).length) Slot.unset).toArray = ls at hl ⊢
  have hl : lv_has ls 5 [(0, .ref o), (1, .int (nI d)), (2, .int (nI n9)), (3, .ref z)] := hl
  refine lv_aload_n hx hb dL_rebuild_0 rfl (lv_at hl 3 rfl) ?_
  refine lv_iconst (v := nI 0) hx hb dL_rebuild_1 (by decide +kernel) ?_
  refine lv_aload_n hx hb dL_rebuild_2 rfl (lv_at hl 0 rfl) ?_
  refine lv_iload_n hx hb dL_rebuild_3 rfl (lv_at hl 1 rfl) ?_
  refine lv_iload_n hx hb dL_rebuild_4 rfl (lv_at hl 2 rfl) ?_
  have hPc := hP.sub (ws' := wX o a b cA iA cf uf) [0, 1, 2] rfl
  have hKc := hK.sub (tys' := kT cA iA) [0, 1] rfl
  refine fVi (n := 2) (As := [.int (nI d), .int (nI n9)]) (rest := [.int (nI 0), .ref z]) ⟨hx, hb, hml, hown, hts⟩ (mX_rebuild_ok l D o a b cA iA cf uf s.heap.size d n9 f hd hn hf hu) w_221 w_222 w_223 w_1 w_224 (by decide +kernel) ⟨rfl, rfl⟩ ⟨(Nat.le_of_ble_eq_true rfl), (Nat.le_of_ble_eq_true rfl)⟩ hP hK hD hS hA [0, 1, 2] [3] [0, 1] rfl rfl (wr := [(z, .inl (oA, 1, .inr (.inl ou)))]) rfl (by decide) (by decide) (by decide) rfl rfl 0 0 rfl rfl rfl hl.1 rfl (Nat.le_of_ble_eq_true rfl) dL_rebuild_5 ⟨Nat.zero_le _, Nat.zero_le _⟩ (fun H locs hP hD hS => ?_)
  have hP : va_P D cls_ (wXo o a b z cA iA oA ((rbF uf d (min n9 (100 - f)) cf f).1) (upd uf d (nI (rbF uf d (min n9 (100 - f)) cf f).2)) ou) H := hP.sub [1, 2, 3, 0] rfl
  have hD : va_D A (wXo o a b z cA iA oA ((rbF uf d (min n9 (100 - f)) cf f).1) (upd uf d (nI (rbF uf d (min n9 (100 - f)) cf f).2)) ou) := hD.sub [1, 2, 3, 0] (by decide) rfl
  refine lv_i2l (v := (nI (rbF uf d (min n9 (100 - f)) cf f).2).toInt64) hx hb dL_rebuild_8 rfl ?_
  refine sL hx hb hK hP hD hS 3 2 rfl rfl (by decide) (by decide) dL_rebuild_9 (fun H locs hP hD hS => ?_)
  have hP : va_P D cls_ (wXo o a b z cA iA oA ((rbF uf d (min n9 (100 - f)) cf f).1) (upd uf d (nI (rbF uf d (min n9 (100 - f)) cf f).2)) (vp_updL ou 0 ((nI (rbF uf d (min n9 (100 - f)) cf f).2).toInt64))) H := hP
  have hD : va_D A (wXo o a b z cA iA oA ((rbF uf d (min n9 (100 - f)) cf f).1) (upd uf d (nI (rbF uf d (min n9 (100 - f)) cf f).2)) (vp_updL ou 0 ((nI (rbF uf d (min n9 (100 - f)) cf f).2).toInt64))) := hD
  refine lv_goto (tgt := 21) hx hb dL_rebuild_10 (by decide) ?_
  refine lv_iconst (v := nI 0) hx hb dL_rebuild_21 (by decide +kernel) ?_
  refine W.widen (k := 1) (n := 6) (by omega) (by omega) ?_
  exact W.iret (v := nI 0) hx hb hr (fun t9 ht9 _ => ⟨⟨_, (), rfl, rfl, by show va_P _ _ _ t9.heap; rw [ht9]; exact hP⟩, hS.F ht9⟩) hS.2.2 dL_rebuild_22
set_option maxHeartbeats 4000000 in
set_option maxRecDepth 100000 in
theorem mL_rebuild_a (l : Launch) (hls : l.stackTraces = false) (D : va_G) (o a b : Nat) (cA iA : ClassId) (cf : Nat → Int64) (uf : Nat → Int32) (z : Nat) (oA : ClassId) (ou : Nat → Int64) (sz : Nat) (x n : Int32) (hbad : (inR x 5 && !decide (n < 0)) = false) : Met l yL_rebuild (.codeWith yL_rebuild cL_rebuild 5 (some .int) [(0, 10, 13, 13), (0, 10, 17, 28)] :: gW) ({ frames := 8, cells := 1, slots := 6, locals := 141 }) (pL D (wXo o a b z cA iA oA cf uf ou) (kTo cA iA oA) sz [.ref o, .int x, .int n, .ref z]) (QI (nI 1) D (wXo o a b z cA iA oA cf uf ou) (va_A (wXo o a b z cA iA oA cf uf ou) sz)) 1 6 (va_A (wXo o a b z cA iA oA cf uf ou) sz) := by
  refine va_MetW (cc := cL_rebuild) (maxL := 5) (ret := (some .int)) (hh := [(0, 10, 13, 13), (0, 10, 17, 28)]) (by decide) rfl ?_
  intro p e s m args below meth c s₁ B hml hv
  obtain ⟨rfl, hsz, hxL, hP, hK, hD0⟩ := hv
  have hx := B.exec
  have hb := B.bytes
  have hr := B.returns
  have hts := atoms_spec (ws := (.codeWith yL_rebuild cL_rebuild 5 (some .int) [(0, 10, 13, 13), (0, 10, 17, 28)] :: gW)) B.pre
  have hg : ∀ w ∈ gW, w.before ([.ref o, .int x, .int n, .ref z]).toArray s = true := fun w h => hts w (List.mem_cons_of_mem _ h)
  have hown : s.vm.findClass R_L = some m.cls := findClass_of_methodNamed B.named
  have hlocks := B.notSynchronized
  subst hsz
  have hD := hD0.self (sz := s.heap.size)
  generalize hAe : va_A (wXo o a b z cA iA oA cf uf ou) s.heap.size = A at hD ⊢
  have hA : ∀ q : Nat, s.heap.size ≤ q → A q := fun q h => by rw [← hAe]; exact Or.inr h
  have hS : va_S A s.heap s.heap [] := va_S.rf
  have hP : va_P D cls_ (wXo o a b z cA iA oA cf uf ou) s.heap := hP
  have htab : c.exceptionTable.toList = [⟨0, 10, 13, 13⟩, ⟨0, 10, 17, 28⟩] := vx_table B (hts _ List.mem_cons_self)
  have hl := lv_entry ([.ref o, .int x, .int n, .ref z]) (n := 5) (Nat.le_of_ble_eq_true rfl)
  rw [lg_entry_eq]
  generalize (lg_sl ([.ref o, .int x, .int n, .ref z]) ++ List.replicate (5 - (lg_sl ([.ref o, .int x, .int n, .ref z])).length) Slot.unset).toArray = ls at hl ⊢
  have hl : lv_has ls 5 [(0, .ref o), (1, .int x), (2, .int n), (3, .ref z)] := hl
  refine lv_aload_n hx hb dL_rebuild_0 rfl (lv_at hl 3 rfl) ?_
  refine lv_iconst (v := nI 0) hx hb dL_rebuild_1 (by decide +kernel) ?_
  refine lv_aload_n hx hb dL_rebuild_2 rfl (lv_at hl 0 rfl) ?_
  refine lv_iload_n hx hb dL_rebuild_3 rfl (lv_at hl 1 rfl) ?_
  refine lv_iload_n hx hb dL_rebuild_4 rfl (lv_at hl 2 rfl) ?_
  have hPc := hP.sub (ws' := wX o a b cA iA cf uf) [0, 1, 2] rfl
  have hKc := hK.sub (tys' := kT cA iA) [0, 1] rfl
  refine cthI (A := A) (hpc := 13) (n := 2) (As := [.int x, .int n]) (rest := [.int (nI 0), .ref z]) ⟨hx, hb, hml, hown, hts⟩ (mX_rebuild_a l hls D o a b cA iA cf uf x n hbad) w_221 w_222 w_223 w_1 w_224 (by decide +kernel) ⟨rfl, rfl⟩ ⟨(Nat.le_of_ble_eq_true rfl), (Nat.le_of_ble_eq_true rfl)⟩ hxL.1 hPc hKc 0 0 rfl rfl rfl hl.1 rfl (Nat.le_of_ble_eq_true rfl) dL_rebuild_5 ⟨(Nat.le_of_ble_eq_true rfl), (Nat.le_of_ble_eq_true rfl)⟩ (by decide +kernel) (cat1 htab (by decide) (by decide) (hg _ w_74)) (fun H locs q9 hk9 hS => ?_)
  have hP : va_P D cls_ (wXo o a b z cA iA oA cf uf ou) H := hP.kept (fun k q hq9 => hk9 q.1 (vx_lt hP hq9))
  refine lv_astore hx hb dL_rebuild_13 hl (by decide) rfl (fun ls hl => ?_)
  have hl : lv_has ls 5 [(4, .ref q9), (0, .ref o), (1, .int x), (2, .int n), (3, .ref z)] := hl
  refine lv_iconst (v := nI 1) hx hb dL_rebuild_15 (by decide +kernel) ?_
  refine W.widen (k := 1) (n := 6) (by omega) (by omega) ?_
  exact W.iret (v := nI 1) hx hb hr (fun t9 ht9 _ => ⟨⟨_, (), rfl, rfl, by show va_P _ _ _ t9.heap; rw [ht9]; exact hP⟩, hS.F ht9⟩) hS.2.2 dL_rebuild_16
set_option maxHeartbeats 4000000 in
set_option maxRecDepth 100000 in
theorem mL_rebuild_s (l : Launch) (hls : l.stackTraces = false) (D : va_G) (o a b : Nat) (cA iA : ClassId) (cf : Nat → Int64) (uf : Nat → Int32) (z : Nat) (oA : ClassId) (ou : Nat → Int64) (sz : Nat) (d : Nat) (n : Int32) (hd : d < 5) (hn : 0 ≤ n) (hu : uf d = nI 100 ∨ uf d = -1) : Met l yL_rebuild (.codeWith yL_rebuild cL_rebuild 5 (some .int) [(0, 10, 13, 13), (0, 10, 17, 28)] :: gW) ({ frames := 8, cells := 1, slots := 6, locals := 141 }) (pL D (wXo o a b z cA iA oA cf uf ou) (kTo cA iA oA) sz [.ref o, .int (nI d), .int n, .ref z]) (QI (nI 2) D (wXo o a b z cA iA oA cf uf ou) (va_A (wXo o a b z cA iA oA cf uf ou) sz)) 1 6 (va_A (wXo o a b z cA iA oA cf uf ou) sz) := by
  refine va_MetW (cc := cL_rebuild) (maxL := 5) (ret := (some .int)) (hh := [(0, 10, 13, 13), (0, 10, 17, 28)]) (by decide) rfl ?_
  intro p e s m args below meth c s₁ B hml hv
  obtain ⟨rfl, hsz, hxL, hP, hK, hD0⟩ := hv
  have hx := B.exec
  have hb := B.bytes
  have hr := B.returns
  have hts := atoms_spec (ws := (.codeWith yL_rebuild cL_rebuild 5 (some .int) [(0, 10, 13, 13), (0, 10, 17, 28)] :: gW)) B.pre
  have hg : ∀ w ∈ gW, w.before ([.ref o, .int (nI d), .int n, .ref z]).toArray s = true := fun w h => hts w (List.mem_cons_of_mem _ h)
  have hown : s.vm.findClass R_L = some m.cls := findClass_of_methodNamed B.named
  have hlocks := B.notSynchronized
  subst hsz
  have hD := hD0.self (sz := s.heap.size)
  generalize hAe : va_A (wXo o a b z cA iA oA cf uf ou) s.heap.size = A at hD ⊢
  have hA : ∀ q : Nat, s.heap.size ≤ q → A q := fun q h => by rw [← hAe]; exact Or.inr h
  have hS : va_S A s.heap s.heap [] := va_S.rf
  have hP : va_P D cls_ (wXo o a b z cA iA oA cf uf ou) s.heap := hP
  have htab : c.exceptionTable.toList = [⟨0, 10, 13, 13⟩, ⟨0, 10, 17, 28⟩] := vx_table B (hts _ List.mem_cons_self)
  have hl := lv_entry ([.ref o, .int (nI d), .int n, .ref z]) (n := 5) (Nat.le_of_ble_eq_true rfl)
  rw [lg_entry_eq]
  generalize (lg_sl ([.ref o, .int (nI d), .int n, .ref z]) ++ List.replicate (5 - (lg_sl ([.ref o, .int (nI d), .int n, .ref z])).length) Slot.unset).toArray = ls at hl ⊢
  have hl : lv_has ls 5 [(0, .ref o), (1, .int (nI d)), (2, .int n), (3, .ref z)] := hl
  refine lv_aload_n hx hb dL_rebuild_0 rfl (lv_at hl 3 rfl) ?_
  refine lv_iconst (v := nI 0) hx hb dL_rebuild_1 (by decide +kernel) ?_
  refine lv_aload_n hx hb dL_rebuild_2 rfl (lv_at hl 0 rfl) ?_
  refine lv_iload_n hx hb dL_rebuild_3 rfl (lv_at hl 1 rfl) ?_
  refine lv_iload_n hx hb dL_rebuild_4 rfl (lv_at hl 2 rfl) ?_
  have hPc := hP.sub (ws' := wX o a b cA iA cf uf) [0, 1, 2] rfl
  have hKc := hK.sub (tys' := kT cA iA) [0, 1] rfl
  refine cthI (A := A) (hpc := 17) (n := 2) (As := [.int (nI d), .int n]) (rest := [.int (nI 0), .ref z]) ⟨hx, hb, hml, hown, hts⟩ (mX_rebuild_s l hls D o a b cA iA cf uf d n hd hn hu) w_221 w_222 w_223 w_1 w_224 (by decide +kernel) ⟨rfl, rfl⟩ ⟨(Nat.le_of_ble_eq_true rfl), (Nat.le_of_ble_eq_true rfl)⟩ hxL.1 hPc hKc 0 0 rfl rfl rfl hl.1 rfl (Nat.le_of_ble_eq_true rfl) dL_rebuild_5 ⟨(Nat.le_of_ble_eq_true rfl), (Nat.le_of_ble_eq_true rfl)⟩ (by decide +kernel) (cat2 htab (by decide) (hg _ w_74) hxL.2.2 (by decide) (by decide) (hg _ w_197)) (fun H locs q9 hk9 hS => ?_)
  have hP : va_P D cls_ (wXo o a b z cA iA oA cf uf ou) H := hP.kept (fun k q hq9 => hk9 q.1 (vx_lt hP hq9))
  refine lv_astore hx hb dL_rebuild_17 hl (by decide) rfl (fun ls hl => ?_)
  have hl : lv_has ls 5 [(4, .ref q9), (0, .ref o), (1, .int (nI d)), (2, .int n), (3, .ref z)] := hl
  refine lv_iconst (v := nI 2) hx hb dL_rebuild_19 (by decide +kernel) ?_
  refine W.widen (k := 1) (n := 6) (by omega) (by omega) ?_
  exact W.iret (v := nI 2) hx hb hr (fun t9 ht9 _ => ⟨⟨_, (), rfl, rfl, by show va_P _ _ _ t9.heap; rw [ht9]; exact hP⟩, hS.F ht9⟩) hS.2.2 dL_rebuild_20
set_option maxHeartbeats 4000000 in
set_option maxRecDepth 100000 in
theorem mL_flip_ok (l : Launch) (D : va_G) (o a b : Nat) (cA iA : ClassId) (cf : Nat → Int64) (uf : Nat → Int32) (sz : Nat) (d t h : Nat) (hd : d < 5) (ht : t < 100) (hh : h < 2) (v : Int64) (hu : ¬ uf d = -1) : Met l yL_flip (.codeWith yL_flip cL_flip 7 (some .int) [(0, 9, 12, 13), (0, 9, 16, 28)] :: gW) ({ frames := 9, cells := 1, slots := 6, locals := 164 }) (pL D (wX o a b cA iA cf uf) (kT cA iA) sz [.ref o, .int (nI d), .int (nI t), .int (nI h), .long v]) (QI (nI 0) D (wX o a b cA iA (vp_updL cf (ix d t h) (cf (ix d t h) ^^^ v)) uf) (va_A (wX o a b cA iA cf uf) sz)) 1 6 (va_A (wX o a b cA iA cf uf) sz) := by
  refine va_MetW (cc := cL_flip) (maxL := 7) (ret := (some .int)) (hh := [(0, 9, 12, 13), (0, 9, 16, 28)]) (by decide) rfl ?_
  intro p e s m args below meth c s₁ B hml hv
  obtain ⟨rfl, hsz, hxL, hP, hK, hD0⟩ := hv
  have hx := B.exec
  have hb := B.bytes
  have hr := B.returns
  have hts := atoms_spec (ws := (.codeWith yL_flip cL_flip 7 (some .int) [(0, 9, 12, 13), (0, 9, 16, 28)] :: gW)) B.pre
  have hg : ∀ w ∈ gW, w.before ([.ref o, .int (nI d), .int (nI t), .int (nI h), .long v]).toArray s = true := fun w h => hts w (List.mem_cons_of_mem _ h)
  have hown : s.vm.findClass R_L = some m.cls := findClass_of_methodNamed B.named
  have hlocks := B.notSynchronized
  subst hsz
  have hD := hD0.self (sz := s.heap.size)
  generalize hAe : va_A (wX o a b cA iA cf uf) s.heap.size = A at hD ⊢
  have hA : ∀ q : Nat, s.heap.size ≤ q → A q := fun q h => by rw [← hAe]; exact Or.inr h
  have hS : va_S A s.heap s.heap [] := va_S.rf
  have hP : va_P D cls_ (wX o a b cA iA cf uf) s.heap := hP
  have hl := lv_entry ([.ref o, .int (nI d), .int (nI t), .int (nI h), .long v]) (n := 7) (Nat.le_of_ble_eq_true rfl)
  rw [lg_entry_eq]
  generalize (lg_sl ([.ref o, .int (nI d), .int (nI t), .int (nI h), .long v]) ++ List.replicate (7 - (lg_sl ([.ref o, .int (nI d), .int (nI t), .int (nI h), .long v])).length) Slot.unset).toArray = ls at hl ⊢
  have hl : lv_has ls 7 [(0, .ref o), (1, .int (nI d)), (2, .int (nI t)), (3, .int (nI h)), (4, .long v)] := hl
  refine lv_aload_n hx hb dL_flip_0 rfl (lv_at hl 0 rfl) ?_
  refine lv_iload_n hx hb dL_flip_1 rfl (lv_at hl 1 rfl) ?_
  refine lv_iload_n hx hb dL_flip_2 rfl (lv_at hl 2 rfl) ?_
  refine lv_iload_n hx hb dL_flip_3 rfl (lv_at hl 3 rfl) ?_
  refine lv_lload hx hb dL_flip_4 (lv_at hl 4 rfl) ?_
  refine kVv (n := 4) (As := [.int (nI d), .int (nI t), .int (nI h), .long v]) (rest := []) ⟨hx, hb, hml, hown, hts⟩ (mX_flip_ok l D o a b cA iA cf uf s.heap.size d t h hd ht hh v hu) w_237 w_238 w_239 w_1 w_240 (by decide +kernel) ⟨rfl, rfl⟩ ⟨(Nat.le_of_ble_eq_true rfl), (Nat.le_of_ble_eq_true rfl)⟩ hP hK hD hS hA rfl 0 0 rfl rfl rfl hl.1 rfl (Nat.le_of_ble_eq_true rfl) dL_flip_6 ⟨Nat.zero_le _, Nat.zero_le _⟩ (fun H locs hP hD hS => ?_)
  refine lv_goto (tgt := 20) hx hb dL_flip_9 (by decide) ?_
  refine lv_iconst (v := nI 0) hx hb dL_flip_20 (by decide +kernel) ?_
  refine W.widen (k := 1) (n := 6) (by omega) (by omega) ?_
  exact W.iret (v := nI 0) hx hb hr (fun t9 ht9 _ => ⟨⟨_, (), rfl, rfl, by show va_P _ _ _ t9.heap; rw [ht9]; exact hP⟩, hS.F ht9⟩) hS.2.2 dL_flip_21
set_option maxHeartbeats 4000000 in
set_option maxRecDepth 100000 in
theorem mL_flip_a (l : Launch) (hls : l.stackTraces = false) (D : va_G) (o a b : Nat) (cA iA : ClassId) (cf : Nat → Int64) (uf : Nat → Int32) (sz : Nat) (x y z9 : Int32) (v : Int64) (hbad : (inR x 5 && (inR y 100 && inR z9 2)) = false) : Met l yL_flip (.codeWith yL_flip cL_flip 7 (some .int) [(0, 9, 12, 13), (0, 9, 16, 28)] :: gW) ({ frames := 9, cells := 1, slots := 6, locals := 164 }) (pL D (wX o a b cA iA cf uf) (kT cA iA) sz [.ref o, .int x, .int y, .int z9, .long v]) (QI (nI 1) D (wX o a b cA iA cf uf) (va_A (wX o a b cA iA cf uf) sz)) 1 6 (va_A (wX o a b cA iA cf uf) sz) := by
  refine va_MetW (cc := cL_flip) (maxL := 7) (ret := (some .int)) (hh := [(0, 9, 12, 13), (0, 9, 16, 28)]) (by decide) rfl ?_
  intro p e s m args below meth c s₁ B hml hv
  obtain ⟨rfl, hsz, hxL, hP, hK, hD0⟩ := hv
  have hx := B.exec
  have hb := B.bytes
  have hr := B.returns
  have hts := atoms_spec (ws := (.codeWith yL_flip cL_flip 7 (some .int) [(0, 9, 12, 13), (0, 9, 16, 28)] :: gW)) B.pre
  have hg : ∀ w ∈ gW, w.before ([.ref o, .int x, .int y, .int z9, .long v]).toArray s = true := fun w h => hts w (List.mem_cons_of_mem _ h)
  have hown : s.vm.findClass R_L = some m.cls := findClass_of_methodNamed B.named
  have hlocks := B.notSynchronized
  subst hsz
  have hD := hD0.self (sz := s.heap.size)
  generalize hAe : va_A (wX o a b cA iA cf uf) s.heap.size = A at hD ⊢
  have hA : ∀ q : Nat, s.heap.size ≤ q → A q := fun q h => by rw [← hAe]; exact Or.inr h
  have hS : va_S A s.heap s.heap [] := va_S.rf
  have hP : va_P D cls_ (wX o a b cA iA cf uf) s.heap := hP
  have htab : c.exceptionTable.toList = [⟨0, 9, 12, 13⟩, ⟨0, 9, 16, 28⟩] := vx_table B (hts _ List.mem_cons_self)
  have hl := lv_entry ([.ref o, .int x, .int y, .int z9, .long v]) (n := 7) (Nat.le_of_ble_eq_true rfl)
  rw [lg_entry_eq]
  generalize (lg_sl ([.ref o, .int x, .int y, .int z9, .long v]) ++ List.replicate (7 - (lg_sl ([.ref o, .int x, .int y, .int z9, .long v])).length) Slot.unset).toArray = ls at hl ⊢
  have hl : lv_has ls 7 [(0, .ref o), (1, .int x), (2, .int y), (3, .int z9), (4, .long v)] := hl
  refine lv_aload_n hx hb dL_flip_0 rfl (lv_at hl 0 rfl) ?_
  refine lv_iload_n hx hb dL_flip_1 rfl (lv_at hl 1 rfl) ?_
  refine lv_iload_n hx hb dL_flip_2 rfl (lv_at hl 2 rfl) ?_
  refine lv_iload_n hx hb dL_flip_3 rfl (lv_at hl 3 rfl) ?_
  refine lv_lload hx hb dL_flip_4 (lv_at hl 4 rfl) ?_
  refine cthV (A := A) (hpc := 12) (n := 4) (As := [.int x, .int y, .int z9, .long v]) (rest := []) ⟨hx, hb, hml, hown, hts⟩ (mX_flip_a l hls D o a b cA iA cf uf x y z9 v hbad) w_237 w_238 w_239 w_1 w_240 (by decide +kernel) ⟨rfl, rfl⟩ ⟨(Nat.le_of_ble_eq_true rfl), (Nat.le_of_ble_eq_true rfl)⟩ hxL.1 hP hK 0 0 rfl rfl rfl hl.1 rfl (Nat.le_of_ble_eq_true rfl) dL_flip_6 ⟨(Nat.le_of_ble_eq_true rfl), (Nat.le_of_ble_eq_true rfl)⟩ (by decide +kernel) (cat1 htab (by decide) (by decide) (hg _ w_74)) (fun H locs q9 hk9 hS => ?_)
  have hP : va_P D cls_ (wX o a b cA iA cf uf) H := hP.kept (fun k q hq9 => hk9 q.1 (vx_lt hP hq9))
  refine lv_astore hx hb dL_flip_12 hl (by decide) rfl (fun ls hl => ?_)
  have hl : lv_has ls 7 [(6, .ref q9), (0, .ref o), (1, .int x), (2, .int y), (3, .int z9), (4, .long v)] := hl
  refine lv_iconst (v := nI 1) hx hb dL_flip_14 (by decide +kernel) ?_
  refine W.widen (k := 1) (n := 6) (by omega) (by omega) ?_
  exact W.iret (v := nI 1) hx hb hr (fun t9 ht9 _ => ⟨⟨_, (), rfl, rfl, by show va_P _ _ _ t9.heap; rw [ht9]; exact hP⟩, hS.F ht9⟩) hS.2.2 dL_flip_15
set_option maxHeartbeats 4000000 in
set_option maxRecDepth 100000 in
theorem mL_flip_s (l : Launch) (hls : l.stackTraces = false) (D : va_G) (o a b : Nat) (cA iA : ClassId) (cf : Nat → Int64) (uf : Nat → Int32) (sz : Nat) (d t h : Nat) (hd : d < 5) (ht : t < 100) (hh : h < 2) (v : Int64) (hu : uf d = -1) : Met l yL_flip (.codeWith yL_flip cL_flip 7 (some .int) [(0, 9, 12, 13), (0, 9, 16, 28)] :: gW) ({ frames := 9, cells := 1, slots := 6, locals := 164 }) (pL D (wX o a b cA iA cf uf) (kT cA iA) sz [.ref o, .int (nI d), .int (nI t), .int (nI h), .long v]) (QI (nI 2) D (wX o a b cA iA cf uf) (va_A (wX o a b cA iA cf uf) sz)) 1 6 (va_A (wX o a b cA iA cf uf) sz) := by
  refine va_MetW (cc := cL_flip) (maxL := 7) (ret := (some .int)) (hh := [(0, 9, 12, 13), (0, 9, 16, 28)]) (by decide) rfl ?_
  intro p e s m args below meth c s₁ B hml hv
  obtain ⟨rfl, hsz, hxL, hP, hK, hD0⟩ := hv
  have hx := B.exec
  have hb := B.bytes
  have hr := B.returns
  have hts := atoms_spec (ws := (.codeWith yL_flip cL_flip 7 (some .int) [(0, 9, 12, 13), (0, 9, 16, 28)] :: gW)) B.pre
  have hg : ∀ w ∈ gW, w.before ([.ref o, .int (nI d), .int (nI t), .int (nI h), .long v]).toArray s = true := fun w h => hts w (List.mem_cons_of_mem _ h)
  have hown : s.vm.findClass R_L = some m.cls := findClass_of_methodNamed B.named
  have hlocks := B.notSynchronized
  subst hsz
  have hD := hD0.self (sz := s.heap.size)
  generalize hAe : va_A (wX o a b cA iA cf uf) s.heap.size = A at hD ⊢
  have hA : ∀ q : Nat, s.heap.size ≤ q → A q := fun q h => by rw [← hAe]; exact Or.inr h
  have hS : va_S A s.heap s.heap [] := va_S.rf
  have hP : va_P D cls_ (wX o a b cA iA cf uf) s.heap := hP
  have htab : c.exceptionTable.toList = [⟨0, 9, 12, 13⟩, ⟨0, 9, 16, 28⟩] := vx_table B (hts _ List.mem_cons_self)
  have hl := lv_entry ([.ref o, .int (nI d), .int (nI t), .int (nI h), .long v]) (n := 7) (Nat.le_of_ble_eq_true rfl)
  rw [lg_entry_eq]
  generalize (lg_sl ([.ref o, .int (nI d), .int (nI t), .int (nI h), .long v]) ++ List.replicate (7 - (lg_sl ([.ref o, .int (nI d), .int (nI t), .int (nI h), .long v])).length) Slot.unset).toArray = ls at hl ⊢
  have hl : lv_has ls 7 [(0, .ref o), (1, .int (nI d)), (2, .int (nI t)), (3, .int (nI h)), (4, .long v)] := hl
  refine lv_aload_n hx hb dL_flip_0 rfl (lv_at hl 0 rfl) ?_
  refine lv_iload_n hx hb dL_flip_1 rfl (lv_at hl 1 rfl) ?_
  refine lv_iload_n hx hb dL_flip_2 rfl (lv_at hl 2 rfl) ?_
  refine lv_iload_n hx hb dL_flip_3 rfl (lv_at hl 3 rfl) ?_
  refine lv_lload hx hb dL_flip_4 (lv_at hl 4 rfl) ?_
  refine cthV (A := A) (hpc := 16) (n := 4) (As := [.int (nI d), .int (nI t), .int (nI h), .long v]) (rest := []) ⟨hx, hb, hml, hown, hts⟩ (mX_flip_s l hls D o a b cA iA cf uf d t h hd ht hh v hu) w_237 w_238 w_239 w_1 w_240 (by decide +kernel) ⟨rfl, rfl⟩ ⟨(Nat.le_of_ble_eq_true rfl), (Nat.le_of_ble_eq_true rfl)⟩ hxL.1 hP hK 0 0 rfl rfl rfl hl.1 rfl (Nat.le_of_ble_eq_true rfl) dL_flip_6 ⟨(Nat.le_of_ble_eq_true rfl), (Nat.le_of_ble_eq_true rfl)⟩ (by decide +kernel) (cat2 htab (by decide) (hg _ w_74) hxL.2.2 (by decide) (by decide) (hg _ w_197)) (fun H locs q9 hk9 hS => ?_)
  have hP : va_P D cls_ (wX o a b cA iA cf uf) H := hP.kept (fun k q hq9 => hk9 q.1 (vx_lt hP hq9))
  refine lv_astore hx hb dL_flip_16 hl (by decide) rfl (fun ls hl => ?_)
  have hl : lv_has ls 7 [(6, .ref q9), (0, .ref o), (1, .int (nI d)), (2, .int (nI t)), (3, .int (nI h)), (4, .long v)] := hl
  refine lv_iconst (v := nI 2) hx hb dL_flip_18 (by decide +kernel) ?_
  refine W.widen (k := 1) (n := 6) (by omega) (by omega) ?_
  exact W.iret (v := nI 2) hx hb hr (fun t9 ht9 _ => ⟨⟨_, (), rfl, rfl, by show va_P _ _ _ t9.heap; rw [ht9]; exact hP⟩, hS.F ht9⟩) hS.2.2 dL_flip_19
set_option maxHeartbeats 4000000 in
set_option maxRecDepth 100000 in
theorem mL_block_ok (l : Launch) (D : va_G) (o a b : Nat) (cA iA : ClassId) (cf : Nat → Int64) (uf : Nat → Int32) (z : Nat) (oA : ClassId) (ou : Nat → Int64) (sz : Nat) (d t h : Nat) (hd : d < 5) (ht : t < 100) (hh : h < 2) (hu : ¬ uf d = -1) : Met l yL_block (.codeWith yL_block cL_block 6 (some .int) [(0, 11, 14, 13), (0, 11, 18, 28)] :: gW) ({ frames := 9, cells := 1, slots := 6, locals := 162 }) (pL D (wXo o a b z cA iA oA cf uf ou) (kTo cA iA oA) sz [.ref o, .int (nI d), .int (nI t), .int (nI h), .ref z]) (QI (nI 0) D (wXo o a b z cA iA oA cf uf (vp_updL ou 0 (cf (ix d t h)))) (va_A (wXo o a b z cA iA oA cf uf ou) sz)) 1 6 (va_A (wXo o a b z cA iA oA cf uf ou) sz) := by
  refine va_MetW (cc := cL_block) (maxL := 6) (ret := (some .int)) (hh := [(0, 11, 14, 13), (0, 11, 18, 28)]) (by decide) rfl ?_
  intro p e s m args below meth c s₁ B hml hv
  obtain ⟨rfl, hsz, hxL, hP, hK, hD0⟩ := hv
  have hx := B.exec
  have hb := B.bytes
  have hr := B.returns
  have hts := atoms_spec (ws := (.codeWith yL_block cL_block 6 (some .int) [(0, 11, 14, 13), (0, 11, 18, 28)] :: gW)) B.pre
  have hg : ∀ w ∈ gW, w.before ([.ref o, .int (nI d), .int (nI t), .int (nI h), .ref z]).toArray s = true := fun w h => hts w (List.mem_cons_of_mem _ h)
  have hown : s.vm.findClass R_L = some m.cls := findClass_of_methodNamed B.named
  have hlocks := B.notSynchronized
  subst hsz
  have hD := hD0.self (sz := s.heap.size)
  generalize hAe : va_A (wXo o a b z cA iA oA cf uf ou) s.heap.size = A at hD ⊢
  have hA : ∀ q : Nat, s.heap.size ≤ q → A q := fun q h => by rw [← hAe]; exact Or.inr h
  have hS : va_S A s.heap s.heap [] := va_S.rf
  have hP : va_P D cls_ (wXo o a b z cA iA oA cf uf ou) s.heap := hP
  have hl := lv_entry ([.ref o, .int (nI d), .int (nI t), .int (nI h), .ref z]) (n := 6) (Nat.le_of_ble_eq_true rfl)
  rw [lg_entry_eq]
  generalize (lg_sl ([.ref o, .int (nI d), .int (nI t), .int (nI h), .ref z]) ++ List.replicate (6 - (lg_sl ([.ref o, .int (nI d), .int (nI t), .int (nI h), .ref z])).length) Slot.unset).toArray = ls at hl ⊢
  have hl : lv_has ls 6 [(0, .ref o), (1, .int (nI d)), (2, .int (nI t)), (3, .int (nI h)), (4, .ref z)] := hl
  refine lv_aload hx hb dL_block_0 (lv_at hl 4 rfl) ?_
  refine lv_iconst (v := nI 0) hx hb dL_block_2 (by decide +kernel) ?_
  refine lv_aload_n hx hb dL_block_3 rfl (lv_at hl 0 rfl) ?_
  refine lv_iload_n hx hb dL_block_4 rfl (lv_at hl 1 rfl) ?_
  refine lv_iload_n hx hb dL_block_5 rfl (lv_at hl 2 rfl) ?_
  refine lv_iload_n hx hb dL_block_6 rfl (lv_at hl 3 rfl) ?_
  have hPc := hP.sub (ws' := wX o a b cA iA cf uf) [0, 1, 2] rfl
  have hKc := hK.sub (tys' := kT cA iA) [0, 1] rfl
  refine kV (n := 3) (As := [.int (nI d), .int (nI t), .int (nI h)]) (rest := [.int (nI 0), .ref z]) ⟨hx, hb, hml, hown, hts⟩ (mX_block_ok l D o a b cA iA cf uf d t h hd ht hh hu) w_253 w_254 w_255 w_1 w_256 (by decide +kernel) ⟨rfl, rfl⟩ ⟨(Nat.le_of_ble_eq_true rfl), (Nat.le_of_ble_eq_true rfl)⟩ hPc hKc 0 0 rfl rfl rfl hl.1 rfl (Nat.le_of_ble_eq_true rfl) dL_block_7 ⟨Nat.zero_le _, Nat.zero_le _⟩ ?_
  refine sL hx hb hK hP hD hS 3 2 rfl rfl (by decide) (by decide) dL_block_10 (fun H locs hP hD hS => ?_)
  have hP : va_P D cls_ (wXo o a b z cA iA oA cf uf (vp_updL ou 0 (cf (ix d t h)))) H := hP
  have hD : va_D A (wXo o a b z cA iA oA cf uf (vp_updL ou 0 (cf (ix d t h)))) := hD
  refine lv_goto (tgt := 22) hx hb dL_block_11 (by decide) ?_
  refine lv_iconst (v := nI 0) hx hb dL_block_22 (by decide +kernel) ?_
  refine W.widen (k := 1) (n := 6) (by omega) (by omega) ?_
  exact W.iret (v := nI 0) hx hb hr (fun t9 ht9 _ => ⟨⟨_, (), rfl, rfl, by show va_P _ _ _ t9.heap; rw [ht9]; exact hP⟩, hS.F ht9⟩) hS.2.2 dL_block_23
set_option maxHeartbeats 4000000 in
set_option maxRecDepth 100000 in
theorem mL_block_a (l : Launch) (hls : l.stackTraces = false) (D : va_G) (o a b : Nat) (cA iA : ClassId) (cf : Nat → Int64) (uf : Nat → Int32) (z : Nat) (oA : ClassId) (ou : Nat → Int64) (sz : Nat) (x y z9 : Int32) (hbad : (inR x 5 && (inR y 100 && inR z9 2)) = false) : Met l yL_block (.codeWith yL_block cL_block 6 (some .int) [(0, 11, 14, 13), (0, 11, 18, 28)] :: gW) ({ frames := 9, cells := 1, slots := 6, locals := 162 }) (pL D (wXo o a b z cA iA oA cf uf ou) (kTo cA iA oA) sz [.ref o, .int x, .int y, .int z9, .ref z]) (QI (nI 1) D (wXo o a b z cA iA oA cf uf ou) (va_A (wXo o a b z cA iA oA cf uf ou) sz)) 1 6 (va_A (wXo o a b z cA iA oA cf uf ou) sz) := by
  refine va_MetW (cc := cL_block) (maxL := 6) (ret := (some .int)) (hh := [(0, 11, 14, 13), (0, 11, 18, 28)]) (by decide) rfl ?_
  intro p e s m args below meth c s₁ B hml hv
  obtain ⟨rfl, hsz, hxL, hP, hK, hD0⟩ := hv
  have hx := B.exec
  have hb := B.bytes
  have hr := B.returns
  have hts := atoms_spec (ws := (.codeWith yL_block cL_block 6 (some .int) [(0, 11, 14, 13), (0, 11, 18, 28)] :: gW)) B.pre
  have hg : ∀ w ∈ gW, w.before ([.ref o, .int x, .int y, .int z9, .ref z]).toArray s = true := fun w h => hts w (List.mem_cons_of_mem _ h)
  have hown : s.vm.findClass R_L = some m.cls := findClass_of_methodNamed B.named
  have hlocks := B.notSynchronized
  subst hsz
  have hD := hD0.self (sz := s.heap.size)
  generalize hAe : va_A (wXo o a b z cA iA oA cf uf ou) s.heap.size = A at hD ⊢
  have hA : ∀ q : Nat, s.heap.size ≤ q → A q := fun q h => by rw [← hAe]; exact Or.inr h
  have hS : va_S A s.heap s.heap [] := va_S.rf
  have hP : va_P D cls_ (wXo o a b z cA iA oA cf uf ou) s.heap := hP
  have htab : c.exceptionTable.toList = [⟨0, 11, 14, 13⟩, ⟨0, 11, 18, 28⟩] := vx_table B (hts _ List.mem_cons_self)
  have hl := lv_entry ([.ref o, .int x, .int y, .int z9, .ref z]) (n := 6) (Nat.le_of_ble_eq_true rfl)
  rw [lg_entry_eq]
  generalize (lg_sl ([.ref o, .int x, .int y, .int z9, .ref z]) ++ List.replicate (6 - (lg_sl ([.ref o, .int x, .int y, .int z9, .ref z])).length) Slot.unset).toArray = ls at hl ⊢
  have hl : lv_has ls 6 [(0, .ref o), (1, .int x), (2, .int y), (3, .int z9), (4, .ref z)] := hl
  refine lv_aload hx hb dL_block_0 (lv_at hl 4 rfl) ?_
  refine lv_iconst (v := nI 0) hx hb dL_block_2 (by decide +kernel) ?_
  refine lv_aload_n hx hb dL_block_3 rfl (lv_at hl 0 rfl) ?_
  refine lv_iload_n hx hb dL_block_4 rfl (lv_at hl 1 rfl) ?_
  refine lv_iload_n hx hb dL_block_5 rfl (lv_at hl 2 rfl) ?_
  refine lv_iload_n hx hb dL_block_6 rfl (lv_at hl 3 rfl) ?_
  have hPc := hP.sub (ws' := wX o a b cA iA cf uf) [0, 1, 2] rfl
  have hKc := hK.sub (tys' := kT cA iA) [0, 1] rfl
  refine cthL (A := A) (hpc := 14) (n := 3) (As := [.int x, .int y, .int z9]) (rest := [.int (nI 0), .ref z]) ⟨hx, hb, hml, hown, hts⟩ (mX_block_a l hls D o a b cA iA cf uf x y z9 hbad) w_253 w_254 w_255 w_1 w_256 (by decide +kernel) ⟨rfl, rfl⟩ ⟨(Nat.le_of_ble_eq_true rfl), (Nat.le_of_ble_eq_true rfl)⟩ hxL.1 hPc hKc 0 0 rfl rfl rfl hl.1 rfl (Nat.le_of_ble_eq_true rfl) dL_block_7 ⟨(Nat.le_of_ble_eq_true rfl), (Nat.le_of_ble_eq_true rfl)⟩ (by decide +kernel) (cat1 htab (by decide) (by decide) (hg _ w_74)) (fun H locs q9 hk9 hS => ?_)
  have hP : va_P D cls_ (wXo o a b z cA iA oA cf uf ou) H := hP.kept (fun k q hq9 => hk9 q.1 (vx_lt hP hq9))
  refine lv_astore hx hb dL_block_14 hl (by decide) rfl (fun ls hl => ?_)
  have hl : lv_has ls 6 [(5, .ref q9), (0, .ref o), (1, .int x), (2, .int y), (3, .int z9), (4, .ref z)] := hl
  refine lv_iconst (v := nI 1) hx hb dL_block_16 (by decide +kernel) ?_
  refine W.widen (k := 1) (n := 6) (by omega) (by omega) ?_
  exact W.iret (v := nI 1) hx hb hr (fun t9 ht9 _ => ⟨⟨_, (), rfl, rfl, by show va_P _ _ _ t9.heap; rw [ht9]; exact hP⟩, hS.F ht9⟩) hS.2.2 dL_block_17
set_option maxHeartbeats 4000000 in
set_option maxRecDepth 100000 in
theorem mL_block_s (l : Launch) (hls : l.stackTraces = false) (D : va_G) (o a b : Nat) (cA iA : ClassId) (cf : Nat → Int64) (uf : Nat → Int32) (z : Nat) (oA : ClassId) (ou : Nat → Int64) (sz : Nat) (d t h : Nat) (hd : d < 5) (ht : t < 100) (hh : h < 2) (hu : uf d = -1) : Met l yL_block (.codeWith yL_block cL_block 6 (some .int) [(0, 11, 14, 13), (0, 11, 18, 28)] :: gW) ({ frames := 9, cells := 1, slots := 6, locals := 162 }) (pL D (wXo o a b z cA iA oA cf uf ou) (kTo cA iA oA) sz [.ref o, .int (nI d), .int (nI t), .int (nI h), .ref z]) (QI (nI 2) D (wXo o a b z cA iA oA cf uf ou) (va_A (wXo o a b z cA iA oA cf uf ou) sz)) 1 6 (va_A (wXo o a b z cA iA oA cf uf ou) sz) := by
  refine va_MetW (cc := cL_block) (maxL := 6) (ret := (some .int)) (hh := [(0, 11, 14, 13), (0, 11, 18, 28)]) (by decide) rfl ?_
  intro p e s m args below meth c s₁ B hml hv
  obtain ⟨rfl, hsz, hxL, hP, hK, hD0⟩ := hv
  have hx := B.exec
  have hb := B.bytes
  have hr := B.returns
  have hts := atoms_spec (ws := (.codeWith yL_block cL_block 6 (some .int) [(0, 11, 14, 13), (0, 11, 18, 28)] :: gW)) B.pre
  have hg : ∀ w ∈ gW, w.before ([.ref o, .int (nI d), .int (nI t), .int (nI h), .ref z]).toArray s = true := fun w h => hts w (List.mem_cons_of_mem _ h)
  have hown : s.vm.findClass R_L = some m.cls := findClass_of_methodNamed B.named
  have hlocks := B.notSynchronized
  subst hsz
  have hD := hD0.self (sz := s.heap.size)
  generalize hAe : va_A (wXo o a b z cA iA oA cf uf ou) s.heap.size = A at hD ⊢
  have hA : ∀ q : Nat, s.heap.size ≤ q → A q := fun q h => by rw [← hAe]; exact Or.inr h
  have hS : va_S A s.heap s.heap [] := va_S.rf
  have hP : va_P D cls_ (wXo o a b z cA iA oA cf uf ou) s.heap := hP
  have htab : c.exceptionTable.toList = [⟨0, 11, 14, 13⟩, ⟨0, 11, 18, 28⟩] := vx_table B (hts _ List.mem_cons_self)
  have hl := lv_entry ([.ref o, .int (nI d), .int (nI t), .int (nI h), .ref z]) (n := 6) (Nat.le_of_ble_eq_true rfl)
  rw [lg_entry_eq]
  generalize (lg_sl ([.ref o, .int (nI d), .int (nI t), .int (nI h), .ref z]) ++ List.replicate (6 - (lg_sl ([.ref o, .int (nI d), .int (nI t), .int (nI h), .ref z])).length) Slot.unset).toArray = ls at hl ⊢
  have hl : lv_has ls 6 [(0, .ref o), (1, .int (nI d)), (2, .int (nI t)), (3, .int (nI h)), (4, .ref z)] := hl
  refine lv_aload hx hb dL_block_0 (lv_at hl 4 rfl) ?_
  refine lv_iconst (v := nI 0) hx hb dL_block_2 (by decide +kernel) ?_
  refine lv_aload_n hx hb dL_block_3 rfl (lv_at hl 0 rfl) ?_
  refine lv_iload_n hx hb dL_block_4 rfl (lv_at hl 1 rfl) ?_
  refine lv_iload_n hx hb dL_block_5 rfl (lv_at hl 2 rfl) ?_
  refine lv_iload_n hx hb dL_block_6 rfl (lv_at hl 3 rfl) ?_
  have hPc := hP.sub (ws' := wX o a b cA iA cf uf) [0, 1, 2] rfl
  have hKc := hK.sub (tys' := kT cA iA) [0, 1] rfl
  refine cthL (A := A) (hpc := 18) (n := 3) (As := [.int (nI d), .int (nI t), .int (nI h)]) (rest := [.int (nI 0), .ref z]) ⟨hx, hb, hml, hown, hts⟩ (mX_block_s l hls D o a b cA iA cf uf d t h hd ht hh hu) w_253 w_254 w_255 w_1 w_256 (by decide +kernel) ⟨rfl, rfl⟩ ⟨(Nat.le_of_ble_eq_true rfl), (Nat.le_of_ble_eq_true rfl)⟩ hxL.1 hPc hKc 0 0 rfl rfl rfl hl.1 rfl (Nat.le_of_ble_eq_true rfl) dL_block_7 ⟨(Nat.le_of_ble_eq_true rfl), (Nat.le_of_ble_eq_true rfl)⟩ (by decide +kernel) (cat2 htab (by decide) (hg _ w_74) hxL.2.2 (by decide) (by decide) (hg _ w_197)) (fun H locs q9 hk9 hS => ?_)
  have hP : va_P D cls_ (wXo o a b z cA iA oA cf uf ou) H := hP.kept (fun k q hq9 => hk9 q.1 (vx_lt hP hq9))
  refine lv_astore hx hb dL_block_18 hl (by decide) rfl (fun ls hl => ?_)
  have hl : lv_has ls 6 [(5, .ref q9), (0, .ref o), (1, .int (nI d)), (2, .int (nI t)), (3, .int (nI h)), (4, .ref z)] := hl
  refine lv_iconst (v := nI 2) hx hb dL_block_20 (by decide +kernel) ?_
  refine W.widen (k := 1) (n := 6) (by omega) (by omega) ?_
  exact W.iret (v := nI 2) hx hb hr (fun t9 ht9 _ => ⟨⟨_, (), rfl, rfl, by show va_P _ _ _ t9.heap; rw [ht9]; exact hP⟩, hS.F ht9⟩) hS.2.2 dL_block_21
set_option maxHeartbeats 4000000 in
set_option maxRecDepth 100000 in
theorem mL_state_ok (l : Launch) (D : va_G) (o a b : Nat) (cA iA : ClassId) (cf : Nat → Int64) (uf : Nat → Int32) (z : Nat) (oA : ClassId) (ou : Nat → Int64) (sz : Nat) (d : Nat) (hd : d < 5) : Met l yL_state (.codeWith yL_state cL_state 4 (some .int) [(0, 9, 12, 13)] :: gW) ({ frames := 8, cells := 1, slots := 6, locals := 138 }) (pL D (wXo o a b z cA iA oA cf uf ou) (kTo cA iA oA) sz [.ref o, .int (nI d), .ref z]) (QI (nI 0) D (wXo o a b z cA iA oA cf uf (vp_updL ou 0 ((sv (uf d)).toInt64))) (va_A (wXo o a b z cA iA oA cf uf ou) sz)) 1 6 (va_A (wXo o a b z cA iA oA cf uf ou) sz) := by
  refine va_MetW (cc := cL_state) (maxL := 4) (ret := (some .int)) (hh := [(0, 9, 12, 13)]) (by decide) rfl ?_
  intro p e s m args below meth c s₁ B hml hv
  obtain ⟨rfl, hsz, hxL, hP, hK, hD0⟩ := hv
  have hx := B.exec
  have hb := B.bytes
  have hr := B.returns
  have hts := atoms_spec (ws := (.codeWith yL_state cL_state 4 (some .int) [(0, 9, 12, 13)] :: gW)) B.pre
  have hg : ∀ w ∈ gW, w.before ([.ref o, .int (nI d), .ref z]).toArray s = true := fun w h => hts w (List.mem_cons_of_mem _ h)
  have hown : s.vm.findClass R_L = some m.cls := findClass_of_methodNamed B.named
  have hlocks := B.notSynchronized
  subst hsz
  have hD := hD0.self (sz := s.heap.size)
  generalize hAe : va_A (wXo o a b z cA iA oA cf uf ou) s.heap.size = A at hD ⊢
  have hA : ∀ q : Nat, s.heap.size ≤ q → A q := fun q h => by rw [← hAe]; exact Or.inr h
  have hS : va_S A s.heap s.heap [] := va_S.rf
  have hP : va_P D cls_ (wXo o a b z cA iA oA cf uf ou) s.heap := hP
  have hl := lv_entry ([.ref o, .int (nI d), .ref z]) (n := 4) (Nat.le_of_ble_eq_true rfl)
  rw [lg_entry_eq]
  generalize (lg_sl ([.ref o, .int (nI d), .ref z]) ++ List.replicate (4 - (lg_sl ([.ref o, .int (nI d), .ref z])).length) Slot.unset).toArray = ls at hl ⊢
  have hl : lv_has ls 4 [(0, .ref o), (1, .int (nI d)), (2, .ref z)] := hl
  refine lv_aload_n hx hb dL_state_0 rfl (lv_at hl 2 rfl) ?_
  refine lv_iconst (v := nI 0) hx hb dL_state_1 (by decide +kernel) ?_
  refine lv_aload_n hx hb dL_state_2 rfl (lv_at hl 0 rfl) ?_
  refine lv_iload_n hx hb dL_state_3 rfl (lv_at hl 1 rfl) ?_
  have hPc := hP.sub (ws' := wX o a b cA iA cf uf) [0, 1, 2] rfl
  have hKc := hK.sub (tys' := kT cA iA) [0, 1] rfl
  refine kV (n := 1) (As := [.int (nI d)]) (rest := [.int (nI 0), .ref z]) ⟨hx, hb, hml, hown, hts⟩ (mX_state_ok l D o a b cA iA cf uf d hd) w_260 w_261 w_262 w_1 w_263 (by decide +kernel) ⟨rfl, rfl⟩ ⟨(Nat.le_of_ble_eq_true rfl), (Nat.le_of_ble_eq_true rfl)⟩ hPc hKc 0 0 rfl rfl rfl hl.1 rfl (Nat.le_of_ble_eq_true rfl) dL_state_4 ⟨Nat.zero_le _, Nat.zero_le _⟩ ?_
  refine lv_i2l (v := (sv (uf d)).toInt64) hx hb dL_state_7 rfl ?_
  refine sL hx hb hK hP hD hS 3 2 rfl rfl (by decide) (by decide) dL_state_8 (fun H locs hP hD hS => ?_)
  have hP : va_P D cls_ (wXo o a b z cA iA oA cf uf (vp_updL ou 0 ((sv (uf d)).toInt64))) H := hP
  have hD : va_D A (wXo o a b z cA iA oA cf uf (vp_updL ou 0 ((sv (uf d)).toInt64))) := hD
  refine lv_goto (tgt := 15) hx hb dL_state_9 (by decide) ?_
  refine lv_iconst (v := nI 0) hx hb dL_state_15 (by decide +kernel) ?_
  refine W.widen (k := 1) (n := 6) (by omega) (by omega) ?_
  exact W.iret (v := nI 0) hx hb hr (fun t9 ht9 _ => ⟨⟨_, (), rfl, rfl, by show va_P _ _ _ t9.heap; rw [ht9]; exact hP⟩, hS.F ht9⟩) hS.2.2 dL_state_16
set_option maxHeartbeats 4000000 in
set_option maxRecDepth 100000 in
theorem mL_state_a (l : Launch) (hls : l.stackTraces = false) (D : va_G) (o a b : Nat) (cA iA : ClassId) (cf : Nat → Int64) (uf : Nat → Int32) (z : Nat) (oA : ClassId) (ou : Nat → Int64) (sz : Nat) (x : Int32) (hbad : inR x 5 = false) : Met l yL_state (.codeWith yL_state cL_state 4 (some .int) [(0, 9, 12, 13)] :: gW) ({ frames := 8, cells := 1, slots := 6, locals := 138 }) (pL D (wXo o a b z cA iA oA cf uf ou) (kTo cA iA oA) sz [.ref o, .int x, .ref z]) (QI (nI 1) D (wXo o a b z cA iA oA cf uf ou) (va_A (wXo o a b z cA iA oA cf uf ou) sz)) 1 6 (va_A (wXo o a b z cA iA oA cf uf ou) sz) := by
  refine va_MetW (cc := cL_state) (maxL := 4) (ret := (some .int)) (hh := [(0, 9, 12, 13)]) (by decide) rfl ?_
  intro p e s m args below meth c s₁ B hml hv
  obtain ⟨rfl, hsz, hxL, hP, hK, hD0⟩ := hv
  have hx := B.exec
  have hb := B.bytes
  have hr := B.returns
  have hts := atoms_spec (ws := (.codeWith yL_state cL_state 4 (some .int) [(0, 9, 12, 13)] :: gW)) B.pre
  have hg : ∀ w ∈ gW, w.before ([.ref o, .int x, .ref z]).toArray s = true := fun w h => hts w (List.mem_cons_of_mem _ h)
  have hown : s.vm.findClass R_L = some m.cls := findClass_of_methodNamed B.named
  have hlocks := B.notSynchronized
  subst hsz
  have hD := hD0.self (sz := s.heap.size)
  generalize hAe : va_A (wXo o a b z cA iA oA cf uf ou) s.heap.size = A at hD ⊢
  have hA : ∀ q : Nat, s.heap.size ≤ q → A q := fun q h => by rw [← hAe]; exact Or.inr h
  have hS : va_S A s.heap s.heap [] := va_S.rf
  have hP : va_P D cls_ (wXo o a b z cA iA oA cf uf ou) s.heap := hP
  have htab : c.exceptionTable.toList = [⟨0, 9, 12, 13⟩] := vx_table B (hts _ List.mem_cons_self)
  have hl := lv_entry ([.ref o, .int x, .ref z]) (n := 4) (Nat.le_of_ble_eq_true rfl)
  rw [lg_entry_eq]
  generalize (lg_sl ([.ref o, .int x, .ref z]) ++ List.replicate (4 - (lg_sl ([.ref o, .int x, .ref z])).length) Slot.unset).toArray = ls at hl ⊢
  have hl : lv_has ls 4 [(0, .ref o), (1, .int x), (2, .ref z)] := hl
  refine lv_aload_n hx hb dL_state_0 rfl (lv_at hl 2 rfl) ?_
  refine lv_iconst (v := nI 0) hx hb dL_state_1 (by decide +kernel) ?_
  refine lv_aload_n hx hb dL_state_2 rfl (lv_at hl 0 rfl) ?_
  refine lv_iload_n hx hb dL_state_3 rfl (lv_at hl 1 rfl) ?_
  have hPc := hP.sub (ws' := wX o a b cA iA cf uf) [0, 1, 2] rfl
  have hKc := hK.sub (tys' := kT cA iA) [0, 1] rfl
  refine cthI (A := A) (hpc := 12) (n := 1) (As := [.int x]) (rest := [.int (nI 0), .ref z]) ⟨hx, hb, hml, hown, hts⟩ (mX_state_a l hls D o a b cA iA cf uf x hbad) w_260 w_261 w_262 w_1 w_263 (by decide +kernel) ⟨rfl, rfl⟩ ⟨(Nat.le_of_ble_eq_true rfl), (Nat.le_of_ble_eq_true rfl)⟩ hxL.1 hPc hKc 0 0 rfl rfl rfl hl.1 rfl (Nat.le_of_ble_eq_true rfl) dL_state_4 ⟨(Nat.le_of_ble_eq_true rfl), (Nat.le_of_ble_eq_true rfl)⟩ (by decide +kernel) (cat1 htab (by decide) (by decide) (hg _ w_74)) (fun H locs q9 hk9 hS => ?_)
  have hP : va_P D cls_ (wXo o a b z cA iA oA cf uf ou) H := hP.kept (fun k q hq9 => hk9 q.1 (vx_lt hP hq9))
  refine lv_astore_n hx hb dL_state_12 rfl hl (by decide) rfl (fun ls hl => ?_)
  have hl : lv_has ls 4 [(3, .ref q9), (0, .ref o), (1, .int x), (2, .ref z)] := hl
  refine lv_iconst (v := nI 1) hx hb dL_state_13 (by decide +kernel) ?_
  refine W.widen (k := 1) (n := 6) (by omega) (by omega) ?_
  exact W.iret (v := nI 1) hx hb hr (fun t9 ht9 _ => ⟨⟨_, (), rfl, rfl, by show va_P _ _ _ t9.heap; rw [ht9]; exact hP⟩, hS.F ht9⟩) hS.2.2 dL_state_14
end
