/-! pass: the two sides in step, each in its own half of the kinds -/
def comb (A B : yS) : yS := fun a => if a < 40 then A a else B a
theorem comb_l {A B : yS} {a : Nat} (h : a < 40) : comb A B a = A a := if_pos h
theorem comb_r {A B : yS} {a : Nat} (h : ¬ a < 40) : comb A B a = B a := if_neg h
theorem comb_supB (A B : yS) {a b j : Nat} {v : Int32} (h : ¬ a < 40) : sup (comb A B) a b j v = comb A (sup B a b j v) := by
  funext a' b' j'
  by_cases e : a' < 40
  · rw [comb_l e, sup_off _ _ (by omega), comb_l e]
  · rw [comb_r e]
    by_cases z : a' = a ∧ b' = b ∧ j' = j
    · obtain ⟨rfl, rfl, rfl⟩ := z
      rw [sup_self, sup_self]
    · rw [sup_ne _ _ z, sup_ne _ _ z, comb_r e]
theorem comb_chg (A B : yS) (i : Nat) (x : Int32) : mChg (comb A B) i x = comb A (mChg B i x) := by
  unfold mChg mDep
  rw [comb_r (a := 51) (by decide), comb_r (a := 54) (by decide), comb_r (a := 49) (by decide), comb_r (a := 58) (by decide), comb_r (a := 40) (by decide), comb_supB _ _ (by decide), comb_supB _ _ (by decide), comb_supB _ _ (by decide)]
theorem comb_min (A B : yS) (i : Nat) : mMin (comb A B) i = comb A (mMin B i) := by
  unfold mMin mPool
  rw [comb_chg, comb_supB _ _ (by decide), comb_supB _ _ (by decide)]
  unfold mDep
  rw [comb_r (a := 51) (by decide), comb_r (a := 54) (by decide), comb_r (a := 49) (by decide), comb_r (a := 40) (by decide), comb_r (a := 57) (by decide), comb_r (a := 42) (by decide), comb_r (a := 45) (by decide), comb_r (a := 55) (by decide), comb_r (a := 56) (by decide), comb_r (a := 43) (by decide), comb_r (a := 59) (by decide)]
  split <;> rfl
theorem comb_step (A B : yS) (i : Nat) : mStep (comb A B) i = comb A (mStep B i) := by
  unfold mStep
  rw [comb_min, comb_r (a := 59) (by decide)]
  split <;> rfl
theorem comb_ends (A B : yS) (i : Nat) (a : Int32) : mEnds (comb A B) i a = mEnds B i a := by
  unfold mEnds
  rw [comb_min, comb_r (a := 59) (by decide), comb_r (a := 59) (by decide)]
theorem comb_mins (A : yS) : ∀ (k i : Nat) (B : yS), nMin (comb A B) i k = comb A (nMin B i k) := by
  intro k
  induction k with
  | zero => intro i B; rfl
  | succ k ih =>
    intro i B
    show nMin (mStep (comb A B) i) (i + 1) k = comb A (nMin (mStep B i) (i + 1) k)
    rw [comb_step, ih]
theorem comb_cnt (A : yS) : ∀ (k i : Nat) (B : yS) (a : Int32), nCnt (comb A B) i a k = nCnt B i a k := by
  intro k
  induction k with
  | zero => intro i B a; rfl
  | succ k ih =>
    intro i B a
    show nCnt (mStep (comb A B) i) (i + 1) (mEnds (comb A B) i a) k = nCnt (mStep B i) (i + 1) (mEnds B i a) k
    rw [comb_step, comb_ends, ih]
theorem comb_tick (A B : yS) : mTick (comb A B) = comb A (mTick B) := by
  unfold mTick
  rw [comb_supB _ _ (by decide), comb_r (a := 40) (by decide)]
theorem comb_pass (A : yS) (ns : Nat) : ∀ (k : Nat) (B : yS), nPass ns (comb A B) k = comb A (nPass ns B k) := by
  intro k
  induction k with
  | zero => intro B; rfl
  | succ k ih =>
    intro B
    show nPass ns (nMin (mTick (comb A B)) 0 ns) k = comb A (nPass ns (nMin (mTick B) 0 ns) k)
    rw [comb_tick, comb_mins, ih]
theorem comb_end (A : yS) (ns : Nat) : ∀ (k : Nat) (B : yS) (a : Int32), nEnd ns (comb A B) a k = nEnd ns B a k := by
  intro k
  induction k with
  | zero => intro B a; rfl
  | succ k ih =>
    intro B a
    show nEnd ns (nMin (mTick (comb A B)) 0 ns) (nCnt (mTick (comb A B)) 0 a ns) k = nEnd ns (nMin (mTick B) 0 ns) (nCnt (mTick B) 0 a ns) k
    rw [comb_tick, comb_mins, comb_cnt, ih]
/-- the class's steps keep to their half -/
theorem fEnd_k {S : yS} {m i : Nat} {h : Int32} {a : Nat} (g1 : a ≠ 20) (g2 : a ≠ 21) : fEnd S m i h a = S a := by
  unfold fEnd
  rw [fRep_k g1, sup_k g1, sup_k g2]
theorem fCharge_k {S : yS} {i : Nat} {x : Int32} {a : Nat} (g1 : a ≠ 5) (g2 : a ≠ 22) : fCharge S i x a = S a := by
  unfold fCharge
  rw [sup_k g2, sup_k g1]
theorem sMin_k {S : yS} {m i a : Nat} (h : ¬ a < 40) : sMin S m i a = S a := by
  have e : fMin S i a = S a := by
    unfold fMin
    split
    · exact fCharge_k (by omega) (by omega)
    · rfl
  unfold sMin
  split
  · split
    · exact e
    · rw [fEnd_k (by omega) (by omega), e]
  · rfl
theorem lMin_k {mu : Nat → Nat} {a : Nat} (h : ¬ a < 40) : ∀ (k i : Nat) (S : yS), lMin mu S i k a = S a := by
  intro k
  induction k with
  | zero => intro i S; rfl
  | succ k ih =>
    intro i S
    show lMin mu (sMin S (mu i) i) (i + 1) k a = S a
    rw [ih, sMin_k h]
theorem lPass_k {mu : Nat → Nat} {ns a : Nat} (h : ¬ a < 40) : ∀ (k : Nat) (S : yS), lPass mu ns S k a = S a := by
  intro k
  induction k with
  | zero => intro S; rfl
  | succ k ih =>
    intro S
    show lPass mu ns (lMin mu (fTick S) 0 ns) k a = S a
    rw [ih, lMin_k h]
    exact sup_k (by omega)
theorem comb_fEnd (A B : yS) (m i : Nat) (h : Int32) : comb (fEnd A m i h) (sup B 59 0 i h) = sup (sup (fEnd (comb A B) m i h) 40 0 0 (B 40 0 0)) 59 0 i h := by
  have e1 : ∀ a, a < 40 → fEnd A m i h a = fEnd (comb A B) m i h a := by
    intro a ha
    have s1 : ∀ a, a < 40 → (sup (sup A 21 i 6 h) 20 m 5 (A 20 m 5 - 1)) a = (sup (sup (comb A B) 21 i 6 h) 20 m 5 ((comb A B) 20 m 5 - 1)) a := by
      intro a ha
      rw [comb_l (a := 20) (by decide)]
      funext b j
      simp only [sup]
      rw [comb_l ha]
    unfold fEnd fRep
    rw [s1 20 (by decide)]
    split
    · funext b j
      have q := congrFun (congrFun (s1 a ha) b) j
      show sup _ 20 m 4 109 a b j = sup _ 20 m 4 109 a b j
      by_cases z : a = 20 ∧ b = m ∧ j = 4
      · obtain ⟨rfl, rfl, rfl⟩ := z
        rw [sup_self, sup_self]
      · rw [sup_ne _ _ z, sup_ne _ _ z]; exact q
    · exact s1 a ha
  funext a b j
  by_cases ha : a < 40
  · rw [comb_l ha, e1 a ha, sup_off _ _ (by omega), sup_off _ _ (by omega)]
  · rw [comb_r ha]
    by_cases z : a = 59 ∧ b = 0 ∧ j = i
    · obtain ⟨rfl, rfl, rfl⟩ := z
      rw [sup_self, sup_self]
    · rw [sup_ne _ _ z, sup_ne _ _ z]
      by_cases z2 : a = 40 ∧ b = 0 ∧ j = 0
      · obtain ⟨rfl, rfl, rfl⟩ := z2
        rw [sup_self]
      · rw [sup_ne _ _ z2, fEnd_k (by omega) (by omega), comb_r ha]
/-- a minute is charged, on both sides -/
theorem IN2.chg {A B : yS} {nm ns K : Nat} {mu : Nat → Nat} {j : Nat} (hK : K ≤ 3000000) (h : IN2 (comb A B) nm ns mu K) (hj : j < ns) (hge : 1 ≤ A 5 0 (cDep A j)) : IN2 (comb (fCharge A j 1) (mChg B j 1)) nm ns mu K := by
  obtain ⟨n1, n2, n3, n4, n5, n6, n7, n8, n9, n10, n11, n12, n13, n14, n15, n16, n17, n18, n19, n20, n21⟩ := h
  have hu : vp_in (A 21 j 4) 10 := n2.2.2.1 j hj
  have hd0 : vp_in (A 4 0 (A 21 j 4).toNatClampNeg) 4 := n2.2.2.2.1 _ (ix_of hu)
  have hd : cDep A j < 4 := ix_of hd0
  have hmd : mDep B j = cDep A j := by
    unfold mDep cDep
    have e1 : A 21 j 4 = B 54 0 j := (n18 j hj).2.2.1
    have e2 : A 4 0 (A 21 j 4).toNatClampNeg = B 51 0 (A 21 j 4).toNatClampNeg := n9 _ (ix_of hu)
    rw [← e1, ← e2]
  have hge2 : (1 : Int32).toInt ≤ (A 5 0 (cDep A j)).toInt := Int32.le_iff_toInt_le.mp hge
  have key := _root_.Jvm.Pilot.CTerminalYardLaw_law_r2568_273dcf.chg (A := fCharge A j 1 5) (B := mChg B j 1 49) (G22 := fCharge A j 1 22) (G58 := mChg B j 1 58) (d := cDep A j) (j := j) (x := 1) hK n10 n11 n13 n14 hd hj ⟨by decide, hge2⟩
    (by show fCharge A j 1 5 0 (cDep A j) = A 5 0 (cDep A j) - 1; unfold fCharge; rw [sup_off _ _ (by omega), sup_self]) (fun z hz => by show fCharge A j 1 5 0 z = A 5 0 z; unfold fCharge; rw [sup_off _ _ (by omega), sup_ne _ _ (fun q => hz q.2.2)])
    (by show mChg B j 1 49 0 (cDep A j) = B 49 0 (cDep A j) - 1; unfold mChg; rw [sup_off _ _ (by omega), sup_off _ _ (by omega), hmd, sup_self]) (fun z hz => by show mChg B j 1 49 0 z = B 49 0 z; unfold mChg; rw [sup_off _ _ (by omega), sup_off _ _ (by omega), hmd, sup_ne _ _ (fun q => hz q.2.2)])
    (by show fCharge A j 1 22 j (cDep A j) = A 22 j (cDep A j) + 1; unfold fCharge; rw [sup_self]) (fun i z hz => by show fCharge A j 1 22 i z = A 22 i z; unfold fCharge; rw [sup_ne _ _ (fun q => hz q.2), sup_off _ _ (by omega)])
    (by show mChg B j 1 58 0 (4 * j + cDep A j) = B 58 0 (4 * j + cDep A j) + 1; unfold mChg; rw [sup_off _ _ (by omega), hmd, sup_self]) (fun z hz => by show mChg B j 1 58 0 z = B 58 0 z; unfold mChg; rw [sup_off _ _ (by omega), hmd, sup_ne _ _ (fun q => hz q.2.2), sup_off _ _ (by omega)])
  obtain ⟨k1, k2, k3, k4, k5⟩ := key
  have u : ∀ a, a ≠ 5 → a ≠ 22 → a ≠ 40 → a ≠ 49 → a ≠ 58 → comb (fCharge A j 1) (mChg B j 1) a = comb A B a := fun a g1 g2 g3 g4 g5 => by
    by_cases e : a < 40
    · rw [comb_l e, comb_l e, fCharge_k g1 g2]
    · rw [comb_r e, comb_r e]
      unfold mChg
      rw [sup_k g3, sup_k g5, sup_k g4]
  have u40 : ∀ z, z ≠ 22 → comb (fCharge A j 1) (mChg B j 1) 40 0 z = comb A B 40 0 z := fun z hz => by
    rw [comb_r (by decide), comb_r (by decide), mChg_o (by decide) (by decide) (fun q => hz q.2)]
  have hx : XI (comb (fCharge A j 1) (mChg B j 1)) nm ns := n1.of (u40 4 (by decide)) (u40 12 (by decide)) (by rw [u 54] <;> decide) (by rw [u 51] <;> decide) (by rw [u 55] <;> decide) (by rw [u 45] <;> decide) (by rw [u 46] <;> decide) (by rw [u 48]; exact n1.2.2.2.2.2.2.2.2.2.1; all_goals decide) (by rw [u 59]; exact n1.2.2.2.2.2.2.2.2.2.2; all_goals decide)
  refine ⟨hx, n2.of (by rw [u 9] <;> decide) (by rw [u 11] <;> decide) (fun i => by rw [u 21] <;> decide) (fun i => by rw [u 4] <;> decide) (fun i => by rw [u 20] <;> decide), by rw [u 20, u 21]; exact n3; all_goals decide, by rw [u 0, u40 1 (by decide)]; exact n4; all_goals decide, by rw [u 0, u40 21 (by decide)]; exact n5; all_goals decide, by rw [u 1, u 42]; exact n6; all_goals decide, by rw [u 2, u 43]; exact n7; all_goals decide, by rw [u 3, u 60]; exact n8; all_goals decide, by rw [u 4, u 51]; exact n9; all_goals decide, k1, k2, by rw [u 8, u 50]; exact n12; all_goals decide, by rw [u 6, u 8]; exact k3; all_goals decide, k4, ?_, by rw [u 20, u 45, u 46, u 47, u 48]; exact n16; all_goals decide, by rw [u 20, u 59, u 55]; exact n17; all_goals decide, by rw [u 21, u 53, u 54, u 55, u 56, u 57, u 59]; exact n18; all_goals decide, by rw [u 59]; exact n19; all_goals decide, n20, by rw [u 21]; exact n21; all_goals decide⟩
  show mChg B j 1 40 0 22 = gSum (fCharge A j 1 22) 0 0 ns
  rw [k5]
  unfold mChg
  rw [sup_self]
  exact congrArg (fun z => z + 1) n15
