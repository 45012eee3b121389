/-! the reference's own functions of the numbers -/
theorem sup_row (S : yS) {a b j a' b' : Nat} (v : Int32) (h : ¬ (a' = a ∧ b' = b)) : sup S a b j v a' b' = S a' b' := by
  funext j'
  exact sup_off S v h
theorem vp_in_le {x : Int32} {n N : Nat} (h : vp_in x n) (hn : n ≤ N) : vp_in x N := fun q => h (q.elim Or.inl (fun z => Or.inr (Nat.le_trans hn z)))
theorem oR_oN {n : Nat} {x : Int32} (hn : n ≤ 1000) : oR 0 (nI n - 1) x ↔ oN n x := by
  constructor
  · intro h
    refine nvin (fun q => ?_)
    obtain ⟨j, hj, rfl⟩ := vp_in_of q (by omega)
    exact out_in hj hn h
  · intro h
    exact in_out (fun q => q h) hn
theorem ix4 {i : Nat} {D : Int32} (hi : i < 40) (hD : vp_in D 4) : (4 * nI i + D).toNatClampNeg = 4 * i + D.toNatClampNeg := by
  obtain ⟨d, hd, rfl⟩ := vp_in_of hD (by omega)
  rw [show (4 : Int32) = nI 4 from rfl, pk_mul, nI_add, nI_clamp (by omega), nI_clamp (by omega)]
theorem ix4i {i : Nat} {D : Int32} (hi : i < 40) (hD : vp_in D 4) : vp_in (4 * nI i + D) 160 := by
  obtain ⟨d, hd, rfl⟩ := vp_in_of hD (by omega)
  rw [show (4 : Int32) = nI 4 from rfl, pk_mul, nI_add]
  exact vp_in_nI (by omega) (by omega)
theorem ix44 {f t : Int32} (hf : vp_in f 4) (ht : vp_in t 4) : (4 * f + t).toNatClampNeg = 4 * f.toNatClampNeg + t.toNatClampNeg := by
  obtain ⟨a, ha, rfl⟩ := vp_in_of hf (by omega)
  obtain ⟨b, hb, rfl⟩ := vp_in_of ht (by omega)
  rw [show (4 : Int32) = nI 4 from rfl, pk_mul, nI_add, nI_clamp (by omega), nI_clamp (by omega), nI_clamp (by omega)]
theorem ix44i {f t : Int32} (hf : vp_in f 4) (ht : vp_in t 4) : vp_in (4 * f + t) 16 := by
  obtain ⟨a, ha, rfl⟩ := vp_in_of hf (by omega)
  obtain ⟨b, hb, rfl⟩ := vp_in_of ht (by omega)
  rw [show (4 : Int32) = nI 4 from rfl, pk_mul, nI_add]
  exact vp_in_nI (by omega) (by omega)
/-- the code is written down first -/
def gO (S : yS) (k : Int32) : yS := sup S 40 0 0 k
/-- live sessions on a machine -/
def mOn (e mo : Nat → Int32) (m : Int32) (i : Nat) (a : Int32) : Nat → Int32
  | 0 => a
  | k + 1 => mOn e mo m (i + 1) (a + if e i = 0 ∧ mo i = m then 1 else 0) k
def fEmp1 (S : yS) (ns m : Nat) : yS := sup S 48 0 m (if S 48 0 m = 103 ∧ mOn (S 59 0) (S 55 0) (nI m) 0 0 ns = 0 then 109 else S 48 0 m)
def lEmp (ns : Nat) (S : yS) (i : Nat) : Nat → yS
  | 0 => S
  | k + 1 => lEmp ns (fEmp1 S ns i) (i + 1) k
def mNx (e mo po ho se : Nat → Int32) (x : Int32) (ns i : Nat) (b : Int32) : Nat → Int32
  | 0 => b
  | k + 1 => mNx e mo po ho se x ns (i + 1) (if po i = x ∧ ho i = 117 ∧ mOn e mo (nI i) 0 0 ns < se i then (if b = -1 then nI i else if mOn e mo (nI i) 0 0 ns < mOn e mo b 0 0 ns then nI i else b) else b) k
def mFree (e mo po ho se : Nat → Int32) (x : Int32) (ns i : Nat) (a : Int32) : Nat → Int32
  | 0 => a
  | k + 1 => mFree e mo po ho se x ns (i + 1) (a + if po i = x ∧ ho i = 117 then se i - mOn e mo (nI i) 0 0 ns else 0) k
def mOwns (e ow : Nat → Int32) (u : Int32) (i : Nat) (a : Int32) : Nat → Int32
  | 0 => a
  | k + 1 => mOwns e ow u (i + 1) (if a = 0 then (if e i = 0 ∧ ow i = u then 1 else 0) else 1) k
def mIn (c : Nat → Int32) (i : Nat) : Int32 := 0 + c (4 * i + 0) + c (4 * i + 1) + c (4 * i + 2) + c (4 * i + 3)
def mDep (S : yS) (i : Nat) : Nat := (S 51 0 (S 54 0 i).toNatClampNeg).toNatClampNeg
def mChg (S : yS) (i : Nat) (x : Int32) : yS := sup (sup (sup S 49 0 (mDep S i) (S 49 0 (mDep S i) - x)) 58 0 (4 * i + mDep S i) (S 58 0 (4 * i + mDep S i) + x)) 40 0 22 (S 40 0 22 + x)
theorem mChg_o {S : yS} {i : Nat} {x : Int32} {a b j : Nat} (h : a ≠ 49) (h2 : a ≠ 58) (h3 : ¬ (a = 40 ∧ j = 22)) : mChg S i x a b j = S a b j := by
  unfold mChg
  rw [sup_ne _ _ (fun q => h3 ⟨q.1, q.2.2⟩), sup_off _ _ (fun q => h2 q.1), sup_off _ _ (fun q => h q.1)]
theorem mChg_r {S : yS} {i : Nat} {x : Int32} {a b : Nat} (h : a ≠ 49) (h2 : a ≠ 58) (h3 : a ≠ 40) : mChg S i x a b = S a b := by
  funext j
  exact mChg_o h h2 (fun q => h3 q.1)
/-- a minute of the session i, with an ended mark where it ends -/
def mPool (S : yS) (i : Nat) : Nat := (S 45 0 (S 55 0 i).toNatClampNeg).toNatClampNeg
def mMin (S : yS) (i : Nat) : yS := if S 49 0 (mDep S i) = 0 then sup S 59 0 i 111 else sup (mChg S i 1) 59 0 i (if S 40 0 1 - S 57 0 i < S 42 0 (mPool S i) then (if S 40 0 1 - S 56 0 i < S 43 0 (mPool S i) then S 59 0 i else 120) else 105)
def mStep (S : yS) (i : Nat) : yS := if S 59 0 i = 0 then mMin S i else S
def mEnds (S : yS) (i : Nat) (a : Int32) : Int32 := a + if S 59 0 i = 0 ∧ mMin S i 59 0 i ≠ 0 then 1 else 0
def nMin (T : yS) (i : Nat) : Nat → yS
  | 0 => T
  | k + 1 => nMin (mStep T i) (i + 1) k
def nCnt (T : yS) (i : Nat) (a : Int32) : Nat → Int32
  | 0 => a
  | k + 1 => nCnt (mStep T i) (i + 1) (mEnds T i a) k
def mTick (T : yS) : yS := sup T 40 0 1 (T 40 0 1 + 1)
def nPass (ns : Nat) (T : yS) : Nat → yS
  | 0 => T
  | k + 1 => nPass ns (nMin (mTick T) 0 ns) k
def nEnd (ns : Nat) (T : yS) (a : Int32) : Nat → Int32
  | 0 => a
  | k + 1 => nEnd ns (nMin (mTick T) 0 ns) (nCnt (mTick T) 0 a ns) k
/-- a char's place -/
abbrev chOk (x : Int32) : Prop := narrow .char (.int x) = .int x
theorem lEmp_o {ns : Nat} {a b j : Nat} (ha : a ≠ 48) : ∀ (k i : Nat) (S : yS), lEmp ns S i k a b j = S a b j := by
  intro k
  induction k with
  | zero => intro i S; rfl
  | succ k ih =>
    intro i S
    show lEmp ns (fEmp1 S ns i) (i + 1) k a b j = S a b j
    rw [ih]
    exact sup_off _ _ (fun q => ha q.1)
/-- what the reference's code wants of the numbers -/
def XI (S : yS) (nm ns : Nat) : Prop := S 40 0 4 = nI nm ∧ S 40 0 12 = nI ns ∧ nm ≤ 6 ∧ ns ≤ 40 ∧ (∀ i, i < ns → vp_in (S 54 0 i) 10) ∧ (∀ u, u < 10 → vp_in (S 51 0 u) 4) ∧ (∀ i, i < ns → vp_in (S 55 0 i) 6) ∧ (∀ i, i < 6 → vp_in (S 45 0 i) 3) ∧ (∀ i, i < 6 → vp_in (S 46 0 i) 3) ∧ (∀ i, chOk (S 48 0 i)) ∧ ∀ i, chOk (S 59 0 i)
theorem XI.of {S T : yS} {nm ns : Nat} (h : XI S nm ns) (h1 : T 40 0 4 = S 40 0 4) (h2 : T 40 0 12 = S 40 0 12) (h3 : T 54 0 = S 54 0) (h4 : T 51 0 = S 51 0) (h5 : T 55 0 = S 55 0) (h6 : T 45 0 = S 45 0) (h7 : T 46 0 = S 46 0) (h8 : ∀ i, chOk (T 48 0 i)) (h9 : ∀ i, chOk (T 59 0 i)) : XI T nm ns := by
  obtain ⟨a1, a2, a3, a4, a5, a6, a7, a8, a9, a10, a11⟩ := h
  refine ⟨h1.trans a1, h2.trans a2, a3, a4, ?_, ?_, ?_, ?_, ?_, h8, h9⟩
  · rw [h3]; exact a5
  · rw [h4]; exact a6
  · rw [h5]; exact a7
  · rw [h6]; exact a8
  · rw [h7]; exact a9
theorem XI.s {S : yS} {nm ns a b j : Nat} {v : Int32} (h : XI S nm ns) (q : a ≠ 54 ∧ a ≠ 51 ∧ a ≠ 55 ∧ a ≠ 45 ∧ a ≠ 46 ∧ a ≠ 48 ∧ a ≠ 59 ∧ ¬ (a = 40 ∧ j = 4) ∧ ¬ (a = 40 ∧ j = 12)) : XI (sup S a b j v) nm ns := by
  obtain ⟨q1, q2, q3, q4, q5, q6, q7, q8, q9⟩ := q
  refine h.of (sup_ne _ _ (fun z => q8 ⟨z.1.symm, z.2.2.symm⟩)) (sup_ne _ _ (fun z => q9 ⟨z.1.symm, z.2.2.symm⟩)) (sup_row _ _ (fun z => q1 z.1.symm)) (sup_row _ _ (fun z => q2 z.1.symm)) (sup_row _ _ (fun z => q3 z.1.symm)) (sup_row _ _ (fun z => q4 z.1.symm)) (sup_row _ _ (fun z => q5 z.1.symm)) ?_ ?_
  · rw [sup_row _ _ (fun z => q6 z.1.symm)]; exact h.2.2.2.2.2.2.2.2.2.1
  · rw [sup_row _ _ (fun z => q7 z.1.symm)]; exact h.2.2.2.2.2.2.2.2.2.2
theorem chOk_sup {S : yS} {a a' b b' j : Nat} {v : Int32} (h : ∀ i, chOk (S a' b' i)) (hv : chOk v) : ∀ i, chOk (sup S a b j v a' b' i) := by
  intro i
  unfold sup
  split
  · exact hv
  · exact h i
theorem XI.s59 {S : yS} {nm ns j : Nat} {v : Int32} (h : XI S nm ns) (hv : chOk v) : XI (sup S 59 0 j v) nm ns :=
  h.of (sup_off _ _ (by simp)) (sup_off _ _ (by simp)) (sup_row _ _ (by simp)) (sup_row _ _ (by simp)) (sup_row _ _ (by simp)) (sup_row _ _ (by simp)) (sup_row _ _ (by simp)) (chOk_sup h.2.2.2.2.2.2.2.2.2.1 hv) (chOk_sup h.2.2.2.2.2.2.2.2.2.2 hv)
theorem XI.s48 {S : yS} {nm ns j : Nat} {v : Int32} (h : XI S nm ns) (hv : chOk v) : XI (sup S 48 0 j v) nm ns :=
  h.of (sup_off _ _ (by simp)) (sup_off _ _ (by simp)) (sup_row _ _ (by simp)) (sup_row _ _ (by simp)) (sup_row _ _ (by simp)) (sup_row _ _ (by simp)) (sup_row _ _ (by simp)) (chOk_sup h.2.2.2.2.2.2.2.2.2.1 hv) (chOk_sup h.2.2.2.2.2.2.2.2.2.2 hv)
theorem XI.s54 {S : yS} {nm ns j : Nat} {v : Int32} (h : XI S nm ns) (hv : vp_in v 10) : XI (sup S 54 0 j v) nm ns := by
  obtain ⟨a1, a2, a3, a4, a5, a6, a7, a8, a9, a10, a11⟩ := h
  refine ⟨by rw [sup_off _ _ (by simp)]; exact a1, by rw [sup_off _ _ (by simp)]; exact a2, a3, a4, ?_, by rw [sup_row _ _ (by simp)]; exact a6, by rw [sup_row _ _ (by simp)]; exact a7, by rw [sup_row _ _ (by simp)]; exact a8, by rw [sup_row _ _ (by simp)]; exact a9, by rw [sup_row _ _ (by simp)]; exact a10, by rw [sup_row _ _ (by simp)]; exact a11⟩
  intro i hi
  unfold sup
  split
  · exact hv
  · exact a5 i hi
theorem XI.s51 {S : yS} {nm ns j : Nat} {v : Int32} (h : XI S nm ns) (hv : vp_in v 4) : XI (sup S 51 0 j v) nm ns := by
  obtain ⟨a1, a2, a3, a4, a5, a6, a7, a8, a9, a10, a11⟩ := h
  refine ⟨by rw [sup_off _ _ (by simp)]; exact a1, by rw [sup_off _ _ (by simp)]; exact a2, a3, a4, by rw [sup_row _ _ (by simp)]; exact a5, ?_, by rw [sup_row _ _ (by simp)]; exact a7, by rw [sup_row _ _ (by simp)]; exact a8, by rw [sup_row _ _ (by simp)]; exact a9, by rw [sup_row _ _ (by simp)]; exact a10, by rw [sup_row _ _ (by simp)]; exact a11⟩
  intro i hi
  unfold sup
  split
  · exact hv
  · exact a6 i hi
theorem XI.emp {S : yS} {nm ns : Nat} : ∀ (k i : Nat) (T : yS), XI T nm ns → XI (lEmp ns T i k) nm ns := by
  intro k
  induction k with
  | zero => exact fun i T h => h
  | succ k ih =>
    intro i T h
    refine ih (i + 1) _ (h.s48 ?_)
    split
    · rfl
    · exact h.2.2.2.2.2.2.2.2.2.1 i
theorem XI.chg {S : yS} {nm ns i : Nat} {x : Int32} (h : XI S nm ns) : XI (mChg S i x) nm ns := ((h.s (by simp)).s (by simp)).s (by simp)
theorem XI.tick {S : yS} {nm ns : Nat} (h : XI S nm ns) : XI (mTick S) nm ns := h.s (by simp)
theorem XI.min {S : yS} {nm ns i : Nat} (h : XI S nm ns) : XI (mMin S i) nm ns := by
  unfold mMin
  split
  · exact h.s59 rfl
  · refine h.chg.s59 ?_
    split
    · split
      · exact h.2.2.2.2.2.2.2.2.2.2 i
      · rfl
    · rfl
theorem XI.step {S : yS} {nm ns i : Nat} (h : XI S nm ns) : XI (mStep S i) nm ns := by
  unfold mStep
  split
  · exact h.min
  · exact h
theorem XI.mins {nm ns : Nat} : ∀ (k i : Nat) (T : yS), XI T nm ns → XI (nMin T i k) nm ns := by
  intro k
  induction k with
  | zero => exact fun i T h => h
  | succ k ih => exact fun i T h => ih (i + 1) _ h.step
/-- the codes as the reference tells them -/
def xNext (p best : Int32) : Int32 := if oR 0 2 p then 1 else if best = -1 then 2 else 0
def xIn (u p : Int32) (owns : Prop) [Decidable owns] (n : Nat) (have_ best : Int32) : Int32 := if oR 0 9 u ∨ oR 0 2 p then 1 else if owns ∨ 40 ≤ n then 2 else if have_ = 0 then 3 else if best = -1 then 4 else 0
def xTake (n : Nat) (x u cur : Int32) (live : Prop) [Decidable live] (have_ : Int32) : Int32 := if oN n x then 1 else if oR 0 9 u ∨ cur = u then 2 else if live then (if have_ = 0 then 4 else 0) else 3
def xPrint (n : Nat) (x g : Int32) (live : Prop) [Decidable live] (have_ : Int32) : Int32 := if oN n x then 1 else if oR 1 99 g then 2 else if live then (if have_ < 2 * g then 4 else 0) else 3
/-- a call of the reference: its code is noted; 0: its answer and its world -/
def yM (k : Int32) (al : yAl) (sh : ySh) (r : Int32) (S1 S : yS) : Option Value → yAl → ySh → yS → Prop := fun v9 al9 sh9 S9 => al9 = al ∧ sh9 = sh ∧ if k = 0 then v9 = some (.int r) ∧ S9 = S1 else v9 = some (.int 0) ∧ S9 = sup S 40 0 0 k
theorem yM_0 {k : Int32} {al : yAl} {sh : ySh} {r x : Int32} {S1 S T : yS} (hk : k = 0) (hr : x = r) (hS : T = S1) : yM k al sh r S1 S (some (.int x)) al sh T := by
  subst hr hS
  exact ⟨rfl, rfl, by rw [if_pos hk]; exact ⟨rfl, rfl⟩⟩
theorem yM_n {k c : Int32} {al : yAl} {sh : ySh} {r : Int32} {S1 S : yS} (hk : k = c) (hc : c ≠ 0) : yM k al sh r S1 S (some (.int 0)) al sh (sup S 40 0 0 c) := by
  subst hk
  exact ⟨rfl, rfl, by rw [if_neg hc]; exact ⟨rfl, rfl⟩⟩
theorem nI_6 {n : Nat} (h : n ≤ 1000) {m : Nat} (hm : m ≤ 1000) : nI n = nI m ↔ n = m := by
  constructor
  · intro q
    have := congrArg Int32.toNatClampNeg q
    rwa [nI_clamp (by omega), nI_clamp (by omega)] at this
  · rintro rfl; rfl
