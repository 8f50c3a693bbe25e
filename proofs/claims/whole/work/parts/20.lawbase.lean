/-! the law's loop: its world, what holds all along -/
abbrev w7 (o a b o2 a2 b2 z : Nat) (cA iA cB iB oA : ClassId) (er : Int32) (cf : Nat → Int64) (uf : Nat → Int32) (cg : Nat → Int64) (ug : Nat → Int32) (ou : Nat → Int64) : va_W :=
  [(o, .inr (0, [.ref a, .ref b])), (a, .inl (cA, 1000, .inr (.inl cf))), (b, .inl (iA, 5, .inl uf)), (o2, .inr (1, [.int er, .ref a2, .ref b2])), (a2, .inl (cB, 1000, .inr (.inl cg))), (b2, .inl (iB, 5, .inl ug)), (z, .inl (oA, 1, .inr (.inl ou)))]
abbrev k7 (cA iA cB iB oA : ClassId) : List (ClassId × FieldType) := [(cA, .long), (iA, .int), (cB, .long), (iB, .int), (oA, .long)]
/-- at the law's entry: what throws and catches need, the statics outside of A -/
def xZ (A : Nat → Prop) (s : State) : Prop := ((∀ E ∈ [IAE, UOE, ISE], ∀ w ∈ eBad E, va_Nw w s) ∧ vx_Zq Bundle.tN "UNASSIGNED_STACK" Bundle.steD A s s.heap ∧ vx_Zq Bundle.tN "SUPPRESSED_SENTINEL" Bundle.listD A s s.heap ∧ ∀ q ∈ strs, ∃ a, vk_R R_X q.1 q.2 a s) ∧ va_Nc UOE IAE s ∧ va_Nc ISE IAE s
theorem xZ_at {A : Nat → Prop} {s : State} {H : Heap} {locs : List Loc} (h : xZ A s) (hS : va_S A s.heap H locs) : ∀ U : State, U.heap = H → s.WarmedH U.vm → xL U := by
  intro U hU hW
  obtain ⟨⟨h1, h2, h3, h4⟩, h5, h6⟩ := h
  refine ⟨⟨fun E hE w hw => eBad_warm hw hW (h1 E hE w hw), ?_, ?_, fun q hq => ?_⟩, va_Nc.moved hW.alike h5, va_Nc.moved hW.alike h6⟩
  · rw [hU]; exact vx_Zq.moved hW.alike (vx_Zq.narrow (vx_Zq.kept h2 hS.2.1) (fun _ z => z.elim))
  · rw [hU]; exact vx_Zq.moved hW.alike (vx_Zq.narrow (vx_Zq.kept h3 hS.2.1) (fun _ z => z.elim))
  · obtain ⟨a, ha⟩ := h4 q hq
    exact ⟨a, vk_R.warm hW ha⟩
/-- what the law's frame stands on all along -/
def LC (p : Program) (s : State) (m : MethodId) (meth : Method) (c : Code) (b0 N : Nat) (xs : Nat → Int32) (D : va_G) (cA iA cB iB oA : ClassId) : Prop :=
  p.tables.exec = Jvm.exec ∧ c.code = cL_law ∧ c.maxLocals = 8 ∧ s.vm.findClass R_L = some m.cls ∧ (∀ w ∈ Cond.initialized R_L :: gW, w.before (#[Value.ref b0]) s = true) ∧ va_X b0 N xs s s.heap ∧ b0 < s.heap.size ∧ xZ (fun q => s.heap.size ≤ q) s ∧ va_K D cls_ (k7 cA iA cB iB oA) s ∧ N ≤ 3072
section
variable {p : Program} {l : Launch} {e : Env} {R : Room} {s : State} {m : MethodId} {args : Array Value} {below : List Frame} {meth : Method} {c : Code} {H : Heap} {locs : List Loc} {cells slots : Nat} {Q : State → Prop} {pc : Nat} {ls : Array Slot} {rest : List Value} {cc : ByteArray} {A : Nat → Prop}
theorem sldN (hx : p.tables.exec = Jvm.exec) (hb : c.code = cc) {b0 N i : Nat} {xs : Nat → Int32} (hX : va_X b0 N xs s s.heap) (hbl : b0 < s.heap.size) (hbA : ¬ A b0) (hS : va_S A s.heap H locs) (hi : i < N) (hn : N < 2 ^ 31) (hdg : decode cc pc = .ok (.iaload, 1))
    (kk : W p l e R s m args below meth c H locs cells slots Q (F0 m (pc + 1) ls (.int (xs i) :: rest))) : W p l e R s m args below meth c H locs cells slots Q (F0 m pc ls (.int (nI i) :: .ref b0 :: rest)) :=
  va_sld hx hb hX hbl hbA hS (nI_in hi hn) hdg (by rw [nI_clamp (Nat.lt_trans hi hn)]; exact kk)
end
theorem inc6 (k : Nat) : nI (6 * k) + Int32.ofInt 6 = nI (6 * (k + 1)) := by
  have e : Int32.ofInt 6 = nI 6 := by decide +kernel
  rw [e, nI_add, Nat.mul_succ]
theorem fits6 {N k : Nat} (hN : N ≤ 3072) (hk : k ≤ 600) (h : ¬ nI N - nI 6 < nI (6 * k)) : 6 * k + 6 ≤ N := by
  rw [Int32.lt_iff_toInt_lt, pk_sub_toInt (by omega) (by decide), nI_toInt (by omega)] at h
  omega
theorem ends6 {N k : Nat} (hN : N ≤ 3072) (hk : k ≤ 600) (h : N ≤ 6 * k + 5) : nI N - nI 6 < nI (6 * k) := by
  rw [Int32.lt_iff_toInt_lt, pk_sub_toInt (by omega) (by decide), nI_toInt (by omega)]
  omega
theorem u_nn {uf : Nat → Int32} {d : Nat} (h : uOk uf) (hd : d < 5) (hne : ¬ uf d = -1) : ∃ f, f ≤ 100 ∧ uf d = nI f := (h d hd).resolve_left hne
theorem u_ge {uf : Nat → Int32} {d : Nat} (h : uOk uf) (hd : d < 5) (hne : ¬ uf d = -1) : 0 ≤ uf d := by
  obtain ⟨f, hf, e⟩ := u_nn h hd hne
  rw [e]; exact nI_pos' (by omega)
theorem u_or {uf : Nat → Int32} {d : Nat} (h : uOk uf) (hd : d < 5) : uf d = -1 ∨ 0 ≤ uf d := by
  by_cases e : uf d = -1
  · exact Or.inl e
  · exact Or.inr (u_ge h hd e)
theorem rbF_le {uf : Nat → Int32} {d : Nat} (m : Nat) : ∀ (cf : Nat → Int64) (st : Nat), (rbF uf d m cf st).2 ≤ st + m := by
  induction m with
  | zero => intro cf st; exact Nat.le_refl _
  | succ m ih =>
    intro cf st
    by_cases h : oc uf d st = true
    · rw [rbF_t h]
      have h2 := ih (rbB cf d st) (st + 1)
      omega
    · rw [rbF_f (Bool.eq_false_iff.mpr h)]
      exact Nat.le_add_right _ _
theorem uOk_0 : uOk uf0 := by
  intro d hd
  have e : d = 0 ∨ d = 1 ∨ d = 2 ∨ d = 3 ∨ d = 4 := by omega
  rcases e with rfl | rfl | rfl | rfl | rfl <;> exact Or.inr ⟨100, Nat.le_refl _, by decide +kernel⟩
