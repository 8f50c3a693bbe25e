/-! the meaning: what both classes compute, over the cells (cf) and the marks (uf) -/
def bi (b : Bool) : Int32 := if b = true then nI 1 else nI 0
theorem bi_t : bi true = nI 1 := rfl
theorem bi_f : bi false = nI 0 := rfl
theorem bi_0 {b : Bool} (h : bi b = 0) : b = false := by
  cases b
  · rfl
  · exact absurd h (by decide +kernel)
theorem bi_1 {b : Bool} (h : ¬ bi b = 0) : b = true := by
  cases b
  · exact absurd (by decide +kernel : bi false = 0) h
  · rfl
theorem nar_0 : narrow .boolean (.int (nI 0)) = .int (nI 0) := by first | rfl | decide +kernel
theorem nar_1 : narrow .boolean (.int (nI 1)) = .int (nI 1) := by first | rfl | decide +kernel
theorem bi_narrow (b : Bool) : narrow .boolean (.int (bi b)) = .int (bi b) := by
  cases b
  · exact nar_0
  · exact nar_1
/-- the place of a half of a block -/
def ix (d s h : Nat) : Nat := (d * 100 + s) * 2 + h
theorem ix_lt {d s h : Nat} (hd : d < 5) (hs : s < 100) (hh : h < 2) : ix d s h < 1000 := by unfold ix; omega
/-- can be used -/
def cu (uf : Nat → Int32) (d s : Nat) : Bool := decide (nI s < uf d)
/-- .. all but d, from disk 5 - n on -/
def ocN (uf : Nat → Int32) (d s : Nat) : Nat → Bool
  | 0 => true
  | n + 1 => (decide (4 - n = d) || cu uf (4 - n) s) && ocN uf d s n
def oc (uf : Nat → Int32) (d s : Nat) : Bool := ocN uf d s 5
def il (uf : Nat → Int32) (d s : Nat) : Bool := !cu uf d s && !oc uf d s
/-- the xor of all but d, below disk k -/
def xoN (cf : Nat → Int64) (d s h : Nat) : Nat → Int64
  | 0 => 0
  | k + 1 => if k = d then xoN cf d s h k else xoN cf d s h k ^^^ cf (ix k s h)
def xo (cf : Nat → Int64) (d s h : Nat) : Int64 := xoN cf d s h 5
def wh (cf : Nat → Int64) (uf : Nat → Int32) (d s h : Nat) : Int64 := if cu uf d s = true then cf (ix d s h) else xo cf d s h
def dk (p : Nat) : Nat := if p % 4 < p / 4 % 5 then p % 4 else p % 4 + 1
theorem dk_lt (p : Nat) : dk p < 5 := by unfold dk; split <;> omega
theorem dk_ne (p : Nat) : dk p ≠ p / 4 % 5 := by unfold dk; split <;> omega
/-- a number in 0 .. n - 1 -/
def inR (x : Int32) (n : Nat) : Bool := decide (¬ x < 0 ∧ x < nI n)
theorem inR_nat {x : Int32} {n : Nat} (hn : n < 2 ^ 31) (h : inR x n = true) : ∃ k, k < n ∧ x = nI k := by
  obtain ⟨h1, h2⟩ := of_decide_eq_true h
  obtain ⟨j, hj, rfl⟩ := nI_of h1
  exact ⟨j, (nI_ltI hj hn).mp h2, rfl⟩
theorem inR_of {k n : Nat} (hn : n < 2 ^ 31) (h : k < n) : inR (nI k) n = true := decide_eq_true ⟨nI_pos (Nat.lt_trans h hn), nI_lt h hn⟩
theorem inR_f {x : Int32} {n : Nat} (h : inR x n = false) (h1 : ¬ x < 0) : ¬ x < nI n := fun h2 => of_decide_eq_false h ⟨h1, h2⟩
/-- cells of a block of a disk by the others, in both halves -/
def rbB (cf : Nat → Int64) (d s : Nat) : Nat → Int64 :=
  vp_updL (vp_updL cf (ix d s 0) (xo cf d s 0)) (ix d s 1) (xo (vp_updL cf (ix d s 0) (xo cf d s 0)) d s 1)
/-- the parity of a stripe was right -/
def good (cf : Nat → Int64) (s : Nat) : Bool := decide (cf (ix (s % 5) s 0) = xo cf (s % 5) s 0) && decide (cf (ix (s % 5) s 1) = xo cf (s % 5) s 1)
def allU (uf : Nat → Int32) (s : Nat) : Bool := cu uf (s % 5) s && oc uf (s % 5) s
/-- scrub: the stripes below k -/
def scF (cf : Nat → Int64) (uf : Nat → Int32) : Nat → (Nat → Int64) × Nat
  | 0 => (cf, 0)
  | k + 1 => if allU uf k = true then (rbB (scF cf uf k).1 (k % 5) k, if good (scF cf uf k).1 k = true then (scF cf uf k).2 else (scF cf uf k).2 + 1) else scF cf uf k
/-- lost: the places below k -/
def loF (uf : Nat → Int32) : Nat → Nat
  | 0 => 0
  | k + 1 => if il uf (dk k) (k / 4) = true then loF uf k + 1 else loF uf k
/-- rebuild: at most m stripes from st on -/
def rbF (uf : Nat → Int32) (d : Nat) : Nat → (Nat → Int64) → Nat → (Nat → Int64) × Nat
  | 0, cf, st => (cf, st)
  | m + 1, cf, st => if oc uf d st = true then rbF uf d m (rbB cf d st) (st + 1) else (cf, st)
/-- replace: the disk's cells below stripe k are 0 -/
def zr (cf : Nat → Int64) (d k : Nat) : Nat → Int64 := fun i => if d * 200 ≤ i ∧ i < d * 200 + 2 * k then 0 else cf i
theorem zr_0 (cf : Nat → Int64) (d : Nat) : zr cf d 0 = cf := by
  funext i
  unfold zr
  rw [if_neg (by omega)]
theorem zr_s (cf : Nat → Int64) (d k : Nat) : vp_updL (vp_updL (zr cf d k) (ix d k 0) 0) (ix d k 1) 0 = zr cf d (k + 1) := by
  funext i
  unfold vp_updL zr ix
  by_cases h1 : i = (d * 100 + k) * 2 + 1
  · rw [if_pos h1, if_pos (by omega)]
  · rw [if_neg h1]
    by_cases h0 : i = (d * 100 + k) * 2 + 0
    · rw [if_pos h0, if_pos (by omega)]
    · rw [if_neg h0]
      by_cases h : d * 200 ≤ i ∧ i < d * 200 + 2 * k
      · rw [if_pos h, if_pos (by omega)]
      · rw [if_neg h, if_neg (by omega)]
/-- the marks are in -1 .. 100 -/
def uOk (uf : Nat → Int32) : Prop := ∀ d, d < 5 → uf d = -1 ∨ ∃ k, k ≤ 100 ∧ uf d = nI k
theorem uOk_upd {uf : Nat → Int32} (h : uOk uf) (d : Nat) {x : Int32} (hx : x = -1 ∨ ∃ k, k ≤ 100 ∧ x = nI k) : uOk (upd uf d x) := by
  intro j hj
  unfold upd
  by_cases e : j = d
  · rw [if_pos e]; exact hx
  · rw [if_neg e]; exact h j hj
theorem nI_nm1 {k : Nat} (h : k < 2 ^ 31) : nI k ≠ -1 := fun e => nI_pos h (by rw [e]; decide)
theorem updL_self (f : Nat → Int64) (i : Nat) : vp_updL f i (f i) = f := by
  funext j
  unfold vp_updL
  by_cases h : j = i
  · rw [if_pos h, h]
  · rw [if_neg h]
theorem updL_ne {f : Nat → Int64} {i j : Nat} {x : Int64} (h : j ≠ i) : vp_updL f i x j = f j := if_neg h
theorem updL_eq {f : Nat → Int64} {i : Nat} {x : Int64} : vp_updL f i x i = x := if_pos rfl
/-- the others don't look at the other half -/
theorem xoN_other {cf : Nat → Int64} {d s h i : Nat} {x : Int64} (hi : ∀ k, k < 5 → ix k s h ≠ i) : ∀ k, k ≤ 5 → xoN (vp_updL cf i x) d s h k = xoN cf d s h k
  | 0, _ => rfl
  | k + 1, hk => by
    simp only [xoN]
    rw [xoN_other hi k (by omega), updL_ne (hi k (by omega))]
theorem xo_half {cf : Nat → Int64} {p d s : Nat} {x : Int64} (hs : s < 100) : xo (vp_updL cf (ix p s 0) x) d s 1 = xo cf d s 1 := xoN_other (fun k _ => by unfold ix; omega) 5 (Nat.le_refl _)
/-- a right parity stays -/
theorem rbB_good {cf : Nat → Int64} {s : Nat} (hs : s < 100) (h : good cf s = true) : rbB cf (s % 5) s = cf := by
  unfold good at h
  rw [Bool.and_eq_true] at h
  have h0 := of_decide_eq_true h.1
  have h1 := of_decide_eq_true h.2
  unfold rbB
  rw [xo_half hs, ← h0, updL_self, ← h1, updL_self]
theorem ocN_upd {uf : Nat → Int32} {d s : Nat} {x : Int32} (n : Nat) : ocN (upd uf d x) d s n = ocN uf d s n := by
  induction n with
  | zero => rfl
  | succ n ih =>
    simp only [ocN]
    rw [ih]
    by_cases e : 4 - n = d
    · rw [decide_eq_true e, Bool.true_or, Bool.true_or]
    · have e2 : cu (upd uf d x) (4 - n) s = cu uf (4 - n) s := by unfold cu upd; rw [if_neg e]
      rw [e2]
theorem oc_upd {uf : Nat → Int32} {d s : Nat} {x : Int32} : oc (upd uf d x) d s = oc uf d s := ocN_upd 5
theorem oc_of {uf : Nat → Int32} {d s : Nat} (h : oc uf d s = true) : ∀ k, k < 5 → k ≠ d → cu uf k s = true := by
  have key : ∀ n, n ≤ 5 → ocN uf d s n = true → ∀ k, 5 - n ≤ k → k < 5 → k ≠ d → cu uf k s = true := by
    intro n
    induction n with
    | zero => intro _ _ k h1 h2; omega
    | succ n ih =>
      intro hn hh k h1 h2 h3
      simp only [ocN, Bool.and_eq_true, Bool.or_eq_true] at hh
      by_cases e : k = 4 - n
      · rcases hh.1 with h4 | h4
        · exact absurd (e.trans (of_decide_eq_true h4)) h3
        · rw [e]; exact h4
      · exact ih (by omega) hh.2 k (by omega) h2 h3
  exact fun k hk hd => key 5 (Nat.le_refl _) h k (by omega) hk hd
theorem oc_not {uf : Nat → Int32} {d s : Nat} (h : oc uf d s = false) : ∃ k, k < 5 ∧ k ≠ d ∧ cu uf k s = false := by
  have key : ∀ n, n ≤ 5 → ocN uf d s n = false → ∃ k, k < 5 ∧ k ≠ d ∧ cu uf k s = false := by
    intro n
    induction n with
    | zero => intro _ hh; cases hh
    | succ n ih =>
      intro hn hh
      simp only [ocN, Bool.and_eq_false_iff, Bool.or_eq_false_iff] at hh
      rcases hh with h4 | h4
      · exact ⟨4 - n, by omega, of_decide_eq_false h4.1, h4.2⟩
      · exact ih (by omega) h4
  exact key 5 (Nat.le_refl _) h
theorem cu_t {uf : Nat → Int32} {d s : Nat} (h : ¬ uf d ≤ nI s) : cu uf d s = true := decide_eq_true (Int32.not_le.mp h)
theorem cu_f {uf : Nat → Int32} {d s : Nat} (h : uf d ≤ nI s) : cu uf d s = false := decide_eq_false (Int32.not_lt.mpr h)
theorem nt_f {b : Bool} (h : b = false) : ¬ b = true := fun e => Bool.noConfusion (h.symm.trans e)
theorem wh_t {cf : Nat → Int64} {uf : Nat → Int32} {d s h : Nat} (e : cu uf d s = true) : wh cf uf d s h = cf (ix d s h) := if_pos e
theorem wh_f {cf : Nat → Int64} {uf : Nat → Int32} {d s h : Nat} (e : cu uf d s = false) : wh cf uf d s h = xo cf d s h := if_neg (nt_f e)
theorem loF_t {uf : Nat → Int32} {k : Nat} (h : il uf (dk k) (k / 4) = true) : loF uf (k + 1) = loF uf k + 1 := if_pos h
theorem loF_f {uf : Nat → Int32} {k : Nat} (h : il uf (dk k) (k / 4) = false) : loF uf (k + 1) = loF uf k := if_neg (nt_f h)
theorem xoN_p {cf : Nat → Int64} {d s h k : Nat} (e : k = d) : xoN cf d s h (k + 1) = xoN cf d s h k := if_pos e
theorem xoN_n {cf : Nat → Int64} {d s h k : Nat} (e : ¬ k = d) : xoN cf d s h (k + 1) = xoN cf d s h k ^^^ cf (ix k s h) := if_neg e
theorem scF_n {cf : Nat → Int64} {uf : Nat → Int32} {k : Nat} (h : allU uf k = false) : scF cf uf (k + 1) = scF cf uf k := if_neg (nt_f h)
theorem scF_g {cf : Nat → Int64} {uf : Nat → Int32} {k : Nat} (h : allU uf k = true) (hk : k < 100) (g : good (scF cf uf k).1 k = true) : scF cf uf (k + 1) = ((scF cf uf k).1, (scF cf uf k).2) := by
  have e : scF cf uf (k + 1) = (rbB (scF cf uf k).1 (k % 5) k, if good (scF cf uf k).1 k = true then (scF cf uf k).2 else (scF cf uf k).2 + 1) := if_pos h
  rw [e, rbB_good hk g, if_pos g]
theorem scF_b {cf : Nat → Int64} {uf : Nat → Int32} {k : Nat} (h : allU uf k = true) (g : good (scF cf uf k).1 k = false) : scF cf uf (k + 1) = (rbB (scF cf uf k).1 (k % 5) k, (scF cf uf k).2 + 1) := by
  have e : scF cf uf (k + 1) = (rbB (scF cf uf k).1 (k % 5) k, if good (scF cf uf k).1 k = true then (scF cf uf k).2 else (scF cf uf k).2 + 1) := if_pos h
  rw [e, if_neg (nt_f g)]
theorem scF_r {cf : Nat → Int64} {uf : Nat → Int32} {k : Nat} (h : allU uf k = true) : (scF cf uf (k + 1)).1 = rbB (scF cf uf k).1 (k % 5) k := by
  have e : scF cf uf (k + 1) = (rbB (scF cf uf k).1 (k % 5) k, if good (scF cf uf k).1 k = true then (scF cf uf k).2 else (scF cf uf k).2 + 1) := if_pos h
  rw [e]
theorem rbF_t {uf : Nat → Int32} {d m st : Nat} {cf : Nat → Int64} (h : oc uf d st = true) : rbF uf d (m + 1) cf st = rbF uf d m (rbB cf d st) (st + 1) := if_pos h
theorem rbF_f {uf : Nat → Int32} {d m st : Nat} {cf : Nat → Int64} (h : oc uf d st = false) : rbF uf d (m + 1) cf st = (cf, st) := if_neg (nt_f h)
theorem good_i {cf : Nat → Int64} {s : Nat} (h0 : cf (ix (s % 5) s 0) = xo cf (s % 5) s 0) (h1 : cf (ix (s % 5) s 1) = xo cf (s % 5) s 1) : good cf s = true := by
  unfold good; rw [decide_eq_true h0, decide_eq_true h1]; rfl
theorem good_n0 {cf : Nat → Int64} {s : Nat} (h0 : ¬ cf (ix (s % 5) s 0) = xo cf (s % 5) s 0) : good cf s = false := by
  unfold good; rw [decide_eq_false h0]; rfl
theorem good_n1 {cf : Nat → Int64} {s : Nat} (h1 : ¬ cf (ix (s % 5) s 1) = xo cf (s % 5) s 1) : good cf s = false := by
  unfold good; rw [decide_eq_false h1, Bool.and_false]
theorem ix_01 (d s : Nat) : ix d s 1 ≠ ix d s 0 := by unfold ix; omega
theorem bi_z {b : Bool} (h : b = false) : bi b = 0 := by rw [h]; decide +kernel
theorem bi_nz {b : Bool} (h : b = true) : ¬ bi b = 0 := by rw [h]; decide +kernel
theorem scF_2n {cf : Nat → Int64} {uf : Nat → Int32} {k : Nat} (h : allU uf k = true) (g : good (scF cf uf k).1 k = true) : (scF cf uf (k + 1)).2 = (scF cf uf k).2 := by
  have e : scF cf uf (k + 1) = (rbB (scF cf uf k).1 (k % 5) k, if good (scF cf uf k).1 k = true then (scF cf uf k).2 else (scF cf uf k).2 + 1) := if_pos h
  rw [e, if_pos g]
theorem scF_2b {cf : Nat → Int64} {uf : Nat → Int32} {k : Nat} (h : allU uf k = true) (g : good (scF cf uf k).1 k = false) : (scF cf uf (k + 1)).2 = (scF cf uf k).2 + 1 := by rw [scF_b h g]
theorem nb_t {b : Bool} (h : (!b) = false) : b = true := by cases b <;> first | rfl | exact h.symm
theorem nb_f {b : Bool} (h : (!b) = true) : b = false := by cases b <;> first | rfl | exact Bool.noConfusion h
/-- what state answers for a mark -/
def sv (x : Int32) : Int32 := if x = nI 100 then nI 0 else if x = -1 then nI 1 else nI 2 + x
/-- the cells behind a write: first the parity, then the block -/
def wP (cf : Nat → Int64) (uf : Nat → Int32) (q h : Nat) (v : Int64) : Nat → Int64 :=
  if cu uf (q / 4 % 5) (q / 4) = true then vp_updL cf (ix (q / 4 % 5) (q / 4) h) (cf (ix (q / 4 % 5) (q / 4) h) ^^^ (wh cf uf (dk q) (q / 4) h ^^^ v)) else cf
def wN (cf : Nat → Int64) (uf : Nat → Int32) (q h : Nat) (v : Int64) : Nat → Int64 :=
  if cu uf (dk q) (q / 4) = true then vp_updL (wP cf uf q h v) (ix (dk q) (q / 4) h) v else wP cf uf q h v
theorem il_oc {uf : Nat → Int32} {d s : Nat} (h : cu uf d s = false) : il uf d s = !oc uf d s := by rw [il, h]; rfl
theorem min_n {a b : Nat} (ha : a < 2 ^ 31) (hb : b < 2 ^ 31) : (if nI b < nI a then nI b else nI a) = nI (min a b) := by
  by_cases h : b < a
  · rw [if_pos (nI_lt h ha), Nat.min_eq_right (Nat.le_of_lt h)]
  · rw [if_neg (nI_nlt (Nat.le_of_not_lt h) hb), Nat.min_eq_left (Nat.le_of_not_lt h)]
theorem b9t {b : Bool} (h : b = true) : bi b = nI 1 := by rw [h]; rfl
theorem b9f {b : Bool} (h : b = false) : bi b = nI 0 := by rw [h]; rfl
theorem inR_t {x : Int32} {n : Nat} (h1 : ¬ x < 0) (h2 : ¬ nI n ≤ x) : inR x n = true := decide_eq_true ⟨h1, Int32.not_le.mp h2⟩
theorem inR_t' {x : Int32} {n : Nat} (h1 : ¬ x < 0) (h2 : x < nI n) : inR x n = true := decide_eq_true ⟨h1, h2⟩
theorem inR_neg {x : Int32} {n : Nat} (h : x < 0) : inR x n = false := decide_eq_false (fun z => z.1 h)
theorem inR_ge {x : Int32} {n : Nat} (h : nI n ≤ x) : inR x n = false := decide_eq_false (fun z => Int32.not_lt.mpr h z.2)
theorem inR_nl {x : Int32} {n : Nat} (h : ¬ x < nI n) : inR x n = false := decide_eq_false (fun z => h z.2)
theorem le1_lt2 (y : Int32) : y ≤ nI 1 ↔ y < nI 2 := by
  rw [Int32.le_iff_toInt_le, Int32.lt_iff_toInt_lt, nI_toInt (by decide), nI_toInt (by decide)]
  omega
theorem inR_1 {y : Int32} (h1 : ¬ y < 0) (h : y ≤ nI 1) : inR y 2 = true := inR_t' h1 ((le1_lt2 y).mp h)
theorem inR_n1 {y : Int32} (h : ¬ y ≤ nI 1) : inR y 2 = false := inR_nl (fun z => h ((le1_lt2 y).mpr z))
def auN (uf : Nat → Int32) (t : Nat) : Nat → Bool
  | 0 => true
  | k + 1 => auN uf t k && cu uf k t
theorem auN_t {uf : Nat → Int32} {t k : Nat} (h : cu uf k t = true) : auN uf t (k + 1) = auN uf t k := by simp [auN, h]
theorem auN_f {uf : Nat → Int32} {t k : Nat} (h : cu uf k t = false) : auN uf t (k + 1) = false := by simp [auN, h]
theorem auN_of {uf : Nat → Int32} {t : Nat} : ∀ n, auN uf t n = true ↔ ∀ k, k < n → cu uf k t = true
  | 0 => ⟨fun _ k hk => absurd hk (Nat.not_lt_zero k), fun _ => rfl⟩
  | n + 1 => by
    rw [auN, Bool.and_eq_true, auN_of n]
    constructor
    · intro h k hk
      by_cases e : k = n
      · rw [e]; exact h.2
      · exact h.1 k (by omega)
    · intro h
      exact ⟨fun k hk => h k (by omega), h n (by omega)⟩
theorem auN_5 (uf : Nat → Int32) (t : Nat) : auN uf t 5 = allU uf t := by
  have h1 : auN uf t 5 = true ↔ allU uf t = true := by
    rw [auN_of, allU, Bool.and_eq_true]
    constructor
    · intro h
      refine ⟨h _ (by omega), ?_⟩
      cases ho : oc uf (t % 5) t with
      | true => rfl
      | false =>
        obtain ⟨k, h1, -, h3⟩ := oc_not ho
        rw [h k h1] at h3
        cases h3
    · intro h k hk
      by_cases e : k = t % 5
      · rw [e]; exact h.1
      · exact oc_of h.2 k hk e
  cases h2 : auN uf t 5 <;> cases h3 : allU uf t
  · rfl
  · exact absurd (h1.mpr h3) (by rw [h2]; decide)
  · exact absurd (h1.mp h2) (by rw [h3]; decide)
  · rfl
theorem scF_1g {cf : Nat → Int64} {uf : Nat → Int32} {k : Nat} (h : allU uf k = true) (hk : k < 100) (g : good (scF cf uf k).1 k = true) : (scF cf uf (k + 1)).1 = (scF cf uf k).1 := by rw [scF_g h hk g]
theorem upd_eq {uf : Nat → Int32} {d : Nat} {x : Int32} : upd uf d x d = x := if_pos rfl
theorem upd_self (uf : Nat → Int32) (d : Nat) : upd uf d (uf d) = uf := by
  funext j
  unfold upd
  by_cases h : j = d
  · rw [if_pos h, h]
  · rw [if_neg h]
theorem upd_upd {uf : Nat → Int32} {d : Nat} {x y : Int32} : upd (upd uf d x) d y = upd uf d y := by
  funext j
  unfold upd
  by_cases h : j = d
  · rw [if_pos h, if_pos h]
  · rw [if_neg h, if_neg h, if_neg h]
theorem cu_upd_self {uf : Nat → Int32} {d j : Nat} : cu (upd uf d (nI j)) d j = false := decide_eq_false (by rw [upd_eq]; exact Int32.lt_irrefl)
theorem cu_p {uf : Nat → Int32} {q : Nat} (h : il uf (dk q) (q / 4) = false) (hc : cu uf (dk q) (q / 4) = false) : cu uf (q / 4 % 5) (q / 4) = true := by
  rw [il_oc hc] at h
  exact oc_of (nb_t h) _ (by omega) (fun e => dk_ne q e.symm)
