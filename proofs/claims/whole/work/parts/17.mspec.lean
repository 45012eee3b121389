/-! the reference's own functions of the numbers -/
theorem sup_row (S : yS) {a b j a' b' : Nat} (v : Int32) (h : ¬ (a' = a ∧ b' = b)) : sup S a b j v a' b' = S a' b' := by
  funext j'
  exact sup_off S v h
theorem vp_in_le {x : Int32} {n N : Nat} (h : vp_in x n) (hn : n ≤ N) : vp_in x N := fun q => h (q.elim Or.inl (fun z => Or.inr (Nat.le_trans hn z)))
theorem oR_oN {n : Nat} {x : Int32} (hn : n ≤ 1000) : oR 0 (nI n - 1) x ↔ oN n x := by
  constructor
  · intro h
    refine nvin (fun q => ?_)
    obtain ⟨j, hj, rfl⟩ := vp_in_of q (by omega)
    exact out_in hj hn h
  · intro h
    exact in_out (fun q => q h) hn
theorem ix4 {i : Nat} {D : Int32} (hi : i < 40) (hD : vp_in D 4) : (4 * nI i + D).toNatClampNeg = 4 * i + D.toNatClampNeg := by
  obtain ⟨d, hd, rfl⟩ := vp_in_of hD (by omega)
  rw [show (4 : Int32) = nI 4 from rfl, pk_mul, nI_add, nI_clamp (by omega), nI_clamp (by omega)]
theorem ix4i {i : Nat} {D : Int32} (hi : i < 40) (hD : vp_in D 4) : vp_in (4 * nI i + D) 160 := by
  obtain ⟨d, hd, rfl⟩ := vp_in_of hD (by omega)
  rw [show (4 : Int32) = nI 4 from rfl, pk_mul, nI_add]
  exact vp_in_nI (by omega) (by omega)
theorem ix44 {f t : Int32} (hf : vp_in f 4) (ht : vp_in t 4) : (4 * f + t).toNatClampNeg = 4 * f.toNatClampNeg + t.toNatClampNeg := by
  obtain ⟨a, ha, rfl⟩ := vp_in_of hf (by omega)
  obtain ⟨b, hb, rfl⟩ := vp_in_of ht (by omega)
  rw [show (4 : Int32) = nI 4 from rfl, pk_mul, nI_add, nI_clamp (by omega), nI_clamp (by omega), nI_clamp (by omega)]
theorem ix44i {f t : Int32} (hf : vp_in f 4) (ht : vp_in t 4) : vp_in (4 * f + t) 16 := by
  obtain ⟨a, ha, rfl⟩ := vp_in_of hf (by omega)
  obtain ⟨b, hb, rfl⟩ := vp_in_of ht (by omega)
  rw [show (4 : Int32) = nI 4 from rfl, pk_mul, nI_add]
  exact vp_in_nI (by omega) (by omega)
/-- the code is written down first -/
def gO (S : yS) (k : Int32) : yS := sup S 40 0 0 k
/-- live sessions on a machine -/
def mOn (e mo : Nat → Int32) (m : Int32) (i : Nat) (a : Int32) : Nat → Int32
  | 0 => a
  | k + 1 => mOn e mo m (i + 1) (a + if e i = 0 ∧ mo i = m then 1 else 0) k
def fEmp1 (S : yS) (ns m : Nat) : yS := sup S 48 0 m (if S 48 0 m = 103 ∧ mOn (S 59 0) (S 55 0) (nI m) 0 0 ns = 0 then 109 else S 48 0 m)
def lEmp (ns : Nat) (S : yS) (i : Nat) : Nat → yS
  | 0 => S
  | k + 1 => lEmp ns (fEmp1 S ns i) (i + 1) k
def mNx (e mo po ho se : Nat → Int32) (x : Int32) (ns i : Nat) (b : Int32) : Nat → Int32
  | 0 => b
  | k + 1 => mNx e mo po ho se x ns (i + 1) (if po i = x ∧ ho i = 117 ∧ mOn e mo (nI i) 0 0 ns < se i then (if b = -1 then nI i else if mOn e mo (nI i) 0 0 ns < mOn e mo b 0 0 ns then nI i else b) else b) k
def mFree (e mo po ho se : Nat → Int32) (x : Int32) (ns i : Nat) (a : Int32) : Nat → Int32
  | 0 => a
  | k + 1 => mFree e mo po ho se x ns (i + 1) (a + if po i = x ∧ ho i = 117 then se i - mOn e mo (nI i) 0 0 ns else 0) k
def mOwns (e ow : Nat → Int32) (u : Int32) (i : Nat) (a : Int32) : Nat → Int32
  | 0 => a
  | k + 1 => mOwns e ow u (i + 1) (if a = 0 then (if e i = 0 ∧ ow i = u then 1 else 0) else 1) k
def mIn (c : Nat → Int32) (i : Nat) : Int32 := 0 + c (4 * i + 0) + c (4 * i + 1) + c (4 * i + 2) + c (4 * i + 3)
def mDep (S : yS) (i : Nat) : Nat := (S 51 0 (S 54 0 i).toNatClampNeg).toNatClampNeg
def mChg (S : yS) (i : Nat) (x : Int32) : yS := sup (sup (sup S 49 0 (mDep S i) (S 49 0 (mDep S i) - x)) 58 0 (4 * i + mDep S i) (S 58 0 (4 * i + mDep S i) + x)) 40 0 22 (S 40 0 22 + x)
theorem mChg_o {S : yS} {i : Nat} {x : Int32} {a b j : Nat} (h : a ≠ 49) (h2 : a ≠ 58) (h3 : ¬ (a = 40 ∧ j = 22)) : mChg S i x a b j = S a b j := by
  unfold mChg
  rw [sup_ne _ _ (fun q => h3 ⟨q.1, q.2.2⟩), sup_off _ _ (fun q => h2 q.1), sup_off _ _ (fun q => h q.1)]
theorem mChg_r {S : yS} {i : Nat} {x : Int32} {a b : Nat} (h : a ≠ 49) (h2 : a ≠ 58) (h3 : a ≠ 40) : mChg S i x a b = S a b := by
  funext j
  exact mChg_o h h2 (fun q => h3 q.1)
/-- a minute of the session i, with an ended mark where it ends -/
def mPool (S : yS) (i : Nat) : Nat := (S 45 0 (S 55 0 i).toNatClampNeg).toNatClampNeg
def mMin (S : yS) (i : Nat) : yS := if S 49 0 (mDep S i) = 0 then sup S 59 0 i 111 else sup (mChg S i 1) 59 0 i (if S 40 0 1 - S 57 0 i < S 42 0 (mPool S i) then (if S 40 0 1 - S 56 0 i < S 43 0 (mPool S i) then S 59 0 i else 120) else 105)
def mStep (S : yS) (i : Nat) : yS := if S 59 0 i = 0 then mMin S i else S
def mEnds (S : yS) (i : Nat) (a : Int32) : Int32 := a + if S 59 0 i = 0 ∧ mMin S i 59 0 i ≠ 0 then 1 else 0
def nMin (T : yS) (i : Nat) : Nat → yS
  | 0 => T
  | k + 1 => nMin (mStep T i) (i + 1) k
def nCnt (T : yS) (i : Nat) (a : Int32) : Nat → Int32
  | 0 => a
  | k + 1 => nCnt (mStep T i) (i + 1) (mEnds T i a) k
def mTick (T : yS) : yS := sup T 40 0 1 (T 40 0 1 + 1)
def nPass (ns : Nat) (T : yS) : Nat → yS
  | 0 => T
  | k + 1 => nPass ns (nMin (mTick T) 0 ns) k
def nEnd (ns : Nat) (T : yS) (a : Int32) : Nat → Int32
  | 0 => a
  | k + 1 => nEnd ns (nMin (mTick T) 0 ns) (nCnt (mTick T) 0 a ns) k
/-- a char's place -/
abbrev chOk (x : Int32) : Prop := narrow .char (.int x) = .int x
