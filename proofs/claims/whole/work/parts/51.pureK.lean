theorem mMin_40 (S : yS) (i : Nat) : mMin S i 40 0 0 = S 40 0 0 := by
  unfold mMin
  split
  · exact sup_off _ _ (by omega)
  · rw [sup_off _ _ (by omega)]
    exact mChg_o (by decide) (by decide) (by omega)
theorem nMin_40 : ∀ (k i : Nat) (S : yS), nMin S i k 40 0 0 = S 40 0 0 := by
  intro k
  induction k with
  | zero => intro i S; rfl
  | succ k ih =>
    intro i S
    show nMin (mStep S i) (i + 1) k 40 0 0 = S 40 0 0
    rw [ih]
    unfold mStep
    split
    · exact mMin_40 S i
    · rfl
theorem nPass_40 (ns : Nat) : ∀ (k : Nat) (S : yS), nPass ns S k 40 0 0 = S 40 0 0 := by
  intro k
  induction k with
  | zero => intro S; rfl
  | succ k ih =>
    intro S
    show nPass ns (nMin (mTick S) 0 ns) k 40 0 0 = S 40 0 0
    rw [ih, nMin_40]
    exact sup_ne _ _ (by omega)
theorem sup_id (S : yS) (a b j : Nat) {v : Int32} (h : S a b j = v) : sup S a b j v = S := by
  funext a' b' j'
  by_cases z : a' = a ∧ b' = b ∧ j' = j
  · obtain ⟨rfl, rfl, rfl⟩ := z
    rw [sup_self, h]
  · rw [sup_ne _ _ z]
theorem IN2.tick {A B : yS} {nm ns K : Nat} {mu : Nat → Nat} (h : IN2 (comb A B) nm ns mu K) : IN2 (comb (fTick A) (mTick B)) nm ns mu K := by
  obtain ⟨n1, n2, n3, n4, n5, n6, n7, n8, n9, n10, n11, n12, n13, n14, n15, n16, n17, n18, n19, n20, n21⟩ := h
  have u : ∀ a, a ≠ 0 → a ≠ 40 → comb (fTick A) (mTick B) a = comb A B a := fun a g1 g2 => by
    by_cases e : a < 40
    · rw [comb_l e, comb_l e]; exact sup_k g1
    · rw [comb_r e, comb_r e]; exact sup_k g2
  have u40 : ∀ z, z ≠ 1 → comb (fTick A) (mTick B) 40 0 z = comb A B 40 0 z := fun z hz => sup_ne _ _ (fun q => hz q.2.2)
  have u0 : ∀ z, z ≠ 9 → comb (fTick A) (mTick B) 0 0 z = comb A B 0 0 z := fun z hz => sup_ne _ _ (fun q => hz q.2.2)
  have hx : XI (comb (fTick A) (mTick B)) nm ns := n1.of (u40 4 (by decide)) (u40 12 (by decide)) (by rw [u 54] <;> decide) (by rw [u 51] <;> decide) (by rw [u 55] <;> decide) (by rw [u 45] <;> decide) (by rw [u 46] <;> decide) (by rw [u 48]; exact n1.2.2.2.2.2.2.2.2.2.1; all_goals decide) (by rw [u 59]; exact n1.2.2.2.2.2.2.2.2.2.2; all_goals decide)
  refine ⟨hx, n2.of (by rw [u 9] <;> decide) (by rw [u 11] <;> decide) (fun i => by rw [u 21] <;> decide) (fun i => by rw [u 4] <;> decide) (fun i => by rw [u 20] <;> decide), by rw [u 20, u 21]; exact n3; all_goals decide, ?_, by rw [u0 10 (by decide), u40 21 (by decide)]; exact n5, by rw [u 1, u 42]; exact n6; all_goals decide, by rw [u 2, u 43]; exact n7; all_goals decide, by rw [u 3, u 60]; exact n8; all_goals decide, by rw [u 4, u 51]; exact n9; all_goals decide, by rw [u 5, u 49]; exact n10; all_goals decide, by rw [u 5]; exact n11; all_goals decide, by rw [u 8, u 50]; exact n12; all_goals decide, by rw [u 5, u 6, u 8, u 22]; exact n13; all_goals decide, by rw [u 22, u 58]; exact n14; all_goals decide, by rw [u40 22 (by decide), u 22]; exact n15; all_goals decide, by rw [u 20, u 45, u 46, u 47, u 48]; exact n16; all_goals decide, by rw [u 20, u 59, u 55]; exact n17; all_goals decide, by rw [u 21, u 53, u 54, u 55, u 56, u 57, u 59]; exact n18; all_goals decide, by rw [u 59]; exact n19; all_goals decide, n20, by rw [u 21]; exact n21; all_goals decide⟩
  show fTick A 0 0 9 = mTick B 40 0 1
  unfold fTick mTick
  rw [sup_self, sup_self]
  exact congrArg (fun z => z + 1) n4
theorem le1_iff {x : Int32} (h : 0 ≤ x.toInt) : 1 ≤ x ↔ ¬ x = 0 := by
  rw [← lt1_iff h]
  exact Int32.not_lt.symm
theorem step2 {A B : yS} {nm ns K : Nat} {mu : Nat → Nat} {i : Nat} (hK : K ≤ 3000000) (h : IN2 (comb A B) nm ns mu K) (hi : i < ns) : IN2 (comb (sMin A (mu i) i) (mStep B i)) nm ns mu K ∧ ∀ a c : Int32, mEnds B i (a + c) = a + eMin A (mu i) i c := by
  have hh := h
  obtain ⟨n1, n2, n3, n4, n5, n6, n7, n8, n9, n10, n11, n12, n13, n14, n15, n16, n17, n18, n19, n20, n21⟩ := hh
  have hl : A 21 i 6 = 97 ↔ B 59 0 i = 0 := live_iff n18 hi
  by_cases hlv : B 59 0 i = 0
  · have hu : vp_in (A 21 i 4) 10 := n2.2.2.1 i hi
    have hd0 : vp_in (A 4 0 (A 21 i 4).toNatClampNeg) 4 := n2.2.2.2.1 _ (ix_of hu)
    have hd : cDep A i < 4 := ix_of hd0
    have q4 : A 21 i 4 = B 54 0 i := (n18 i hi).2.2.1
    have q5 : A 21 i 5 = B 57 0 i := (n18 i hi).2.2.2.1
    have q2 : A 21 i 2 = B 56 0 i := (n18 i hi).2.1
    have qm : B 55 0 i = nI (mu i) := (n18 i hi).2.2.2.2.1
    have hnm := n1.2.2.1
    have hm := n20 i hi
    have hmd : mDep B i = cDep A i := by
      unfold mDep cDep
      have e2 : A 4 0 (A 21 i 4).toNatClampNeg = B 51 0 (A 21 i 4).toNatClampNeg := n9 _ (ix_of hu)
      rw [← q4, ← e2]
    have hpp : A 20 (mu i) 1 = B 45 0 (mu i) := (n16 _ hm).2.1
    have hmp : mPool B i = (A 20 (mu i) 1).toNatClampNeg := by
      unfold mPool
      rw [qm, nI_clamp (by omega), hpp]
    have hp3 : (A 20 (mu i) 1).toNatClampNeg < 3 := ix_of (n2.2.2.2.2 _ hm)
    have hid : A 1 0 (A 20 (mu i) 1).toNatClampNeg = B 42 0 (A 20 (mu i) 1).toNatClampNeg := n6 _ hp3
    have hha : A 2 0 (A 20 (mu i) 1).toNatClampNeg = B 43 0 (A 20 (mu i) 1).toNatClampNeg := n7 _ hp3
    have hti : A 0 0 9 = B 40 0 1 := n4
    have hkp : A 5 0 (cDep A i) = B 49 0 (cDep A i) := n10 _ hd
    have hk1 : 1 ≤ A 5 0 (cDep A i) ↔ ¬ B 49 0 (mDep B i) = 0 := by
      rw [hmd, ← hkp]
      exact le1_iff (n11 _ hd).1
    have hs : sMin A (mu i) i = if hMin A (mu i) i = 97 then fMin A i else fEnd (fMin A i) (mu i) i (hMin A (mu i) i) := if_pos (hl.mpr hlv)
    have hst : mStep B i = mMin B i := if_pos hlv
    have hem : ∀ c, eMin A (mu i) i c = if hMin A (mu i) i = 97 then c else c + 1 := fun c => if_pos (hl.mpr hlv)
    rw [hs, hst]
    by_cases p1 : 1 ≤ A 5 0 (cDep A i)
    · have hf : fMin A i = fCharge A i 1 := if_pos p1
      have hb : mMin B i = sup (mChg B i 1) 59 0 i (if B 40 0 1 - B 57 0 i < B 42 0 (mPool B i) then (if B 40 0 1 - B 56 0 i < B 43 0 (mPool B i) then B 59 0 i else 120) else 105) := if_neg (hk1.mp p1)
      have hc := h.chg hK hi p1
      have b59 : mChg B i 1 59 0 i = B 59 0 i := mChg_o (by decide) (by decide) (by omega)
      have hh2 : hMin A (mu i) i = if B 40 0 1 - B 57 0 i < B 42 0 (mPool B i) then (if B 40 0 1 - B 56 0 i < B 43 0 (mPool B i) then 97 else 120) else 105 := by
        unfold hMin
        rw [if_pos p1, hti, q5, q2, hid, hha, hmp]
      rw [hf, hb]
      have fin : ∀ w : Int32, w ≠ 0 → w ≠ 97 → chOk w → IN2 (comb (fEnd (fCharge A i 1) (mu i) i w) (sup (mChg B i 1) 59 0 i w)) nm ns mu K := fun w g1 g2 g3 => by
        rw [comb_fEnd]
        exact hc.fin hi (by rw [comb_r (by decide), b59]; exact hlv) g1 g2 g3
      by_cases p2 : B 40 0 1 - B 57 0 i < B 42 0 (mPool B i)
      · by_cases p3 : B 40 0 1 - B 56 0 i < B 43 0 (mPool B i)
        · have e9 : hMin A (mu i) i = 97 := by rw [hh2, if_pos p2, if_pos p3]
          rw [if_pos e9, if_pos p2, if_pos p3, sup_id _ _ _ _ b59]
          refine ⟨hc, fun a c => ?_⟩
          unfold mEnds
          rw [hem, if_pos e9, hb, if_pos p2, if_pos p3, sup_self, if_neg (fun q => q.2 hlv)]
          grind
        · have e9 : hMin A (mu i) i = 120 := by rw [hh2, if_pos p2, if_neg p3]
          rw [e9, if_neg (by decide), if_pos p2, if_neg p3]
          refine ⟨fin 120 (by decide) (by decide) rfl, fun a c => ?_⟩
          unfold mEnds
          rw [hem, e9, if_neg (show ¬ (120 : Int32) = 97 by decide), hb, if_pos p2, if_neg p3, sup_self, if_pos ⟨hlv, by decide⟩]
          grind
      · have e9 : hMin A (mu i) i = 105 := by rw [hh2, if_neg p2]
        rw [e9, if_neg (by decide), if_neg p2]
        refine ⟨fin 105 (by decide) (by decide) rfl, fun a c => ?_⟩
        unfold mEnds
        rw [hem, e9, if_neg (show ¬ (105 : Int32) = 97 by decide), hb, if_neg p2, sup_self, if_pos ⟨hlv, by decide⟩]
        grind
    · have hf : fMin A i = A := if_neg p1
      have hz : B 49 0 (mDep B i) = 0 := Decidable.of_not_not (fun q => p1 (hk1.mpr q))
      have hb : mMin B i = sup B 59 0 i 111 := if_pos hz
      have e9 : hMin A (mu i) i = 111 := if_neg p1
      rw [hf, hb, e9, if_neg (by decide)]
      refine ⟨?_, fun a c => ?_⟩
      · rw [comb_fEnd]
        exact h.fin hi (by rw [comb_r (by decide)]; exact hlv) (by decide) (by decide) rfl
      · unfold mEnds
        rw [hem, e9, if_neg (show ¬ (111 : Int32) = 97 by decide), hb, sup_self, if_pos ⟨hlv, by decide⟩]
        grind
  · have hs : sMin A (mu i) i = A := if_neg (fun q => hlv (hl.mp q))
    have hst : mStep B i = B := if_neg hlv
    rw [hs, hst]
    refine ⟨h, fun a c => ?_⟩
    unfold mEnds
    rw [if_neg (fun q => hlv q.1), show eMin A (mu i) i c = c from if_neg (fun q => hlv (hl.mp q))]
    grind
theorem mins2 {nm ns K : Nat} {mu : Nat → Nat} (hK : K ≤ 3000000) : ∀ (k i : Nat) (A B : yS) (a c : Int32), i + k = ns → IN2 (comb A B) nm ns mu K → IN2 (comb (lMin mu A i k) (nMin B i k)) nm ns mu K ∧ nCnt B i (a + c) k = a + lCnt mu A i c k := by
  intro k
  induction k with
  | zero => exact fun i A B a c _ h => ⟨h, rfl⟩
  | succ k ih =>
    intro i A B a c hik h
    obtain ⟨s1, s2⟩ := step2 hK h (i := i) (by omega)
    obtain ⟨g1, g2⟩ := ih (i + 1) (sMin A (mu i) i) (mStep B i) a (eMin A (mu i) i c) (by omega) s1
    refine ⟨g1, ?_⟩
    show nCnt (mStep B i) (i + 1) (mEnds B i (a + c)) k = a + lCnt mu (sMin A (mu i) i) (i + 1) (eMin A (mu i) i c) k
    rw [s2]
    exact g2
theorem pass2 {nm ns K : Nat} {mu : Nat → Nat} (hK : K ≤ 3000000) : ∀ (k : Nat) (A B : yS) (a : Int32), IN2 (comb A B) nm ns mu K → IN2 (comb (lPass mu ns A k) (nPass ns B k)) nm ns mu K ∧ nEnd ns B a k = lEnd mu ns A a k := by
  intro k
  induction k with
  | zero => exact fun A B a h => ⟨h, rfl⟩
  | succ k ih =>
    intro A B a h
    obtain ⟨s1, s2⟩ := mins2 hK ns 0 (fTick A) (mTick B) a 0 (by omega) h.tick
    have s3 : nCnt (mTick B) 0 a ns = a + lCnt mu (fTick A) 0 0 ns := by rw [← s2, show a + 0 = a by grind]
    obtain ⟨g1, g2⟩ := ih _ _ (a + lCnt mu (fTick A) 0 0 ns) s1
    refine ⟨g1, ?_⟩
    show nEnd ns (nMin (mTick B) 0 ns) (nCnt (mTick B) 0 a ns) k = lEnd mu ns (lMin mu (fTick A) 0 ns) (a + lCnt mu (fTick A) 0 0 ns) k
    rw [s3]
    exact g2
theorem IN.k {S : yS} {nm ns K : Nat} {mu : Nat → Nat} (h : IN S nm ns mu K) (k0 : Int32) : IN (sup S 40 0 0 k0) nm ns mu K := by
  obtain ⟨n1, n2, n3, n4, n5, n6, n7, n8, n9, n10, n11, n12, n13, n14, n15, n16, n17, n18, n19, n20, n21⟩ := h
  exact ⟨n1.s (by simp), n2, n3, n4, n5, n6, n7, n8, n9, n10, n11, n12, n13, n14, n15, n16, n17, n18, n19, n20, n21⟩
theorem p_pass : ∀ (S : yS) (nm ns : Nat) (mu : Nat → Nat) (K : Nat) (a1 : Int32), K ≤ 3000000 → IN S nm ns mu K → P_pass S nm ns mu K a1 := by
  intro S nm ns mu K a1 hK h
  have hc : kc_pass S nm ns mu a1 = km_pass S nm ns mu a1 := congrArg (fun z => kPass a1 z) h.2.2.2.1
  refine ⟨hc, fun _ => p_zk _ _ _ _ _ _ h, fun hk => ?_⟩
  have hL : ∀ a, ¬ a < 40 → sc_pass S nm ns mu a1 a = S a := fun a ha => lPass_k ha _ _
  have e0 : comb S (sup S 40 0 0 0) = sup S 40 0 0 0 := by
    funext a b j
    by_cases e : a < 40
    · rw [comb_l e, sup_off _ _ (by omega)]
    · rw [comb_r e]
  have e1 : sup (sc_pass S nm ns mu a1) 40 0 0 0 = comb (sc_pass S nm ns mu a1) (sup S 40 0 0 0) := by
    funext a b j
    by_cases e : a < 40
    · rw [comb_l e, sup_off _ _ (by omega)]
    · rw [comb_r e]
      simp only [sup]
      rw [hL a e]
  have h2 : IN2 (comb S (sup S 40 0 0 0)) nm ns mu K := by rw [e0]; exact (h.k 0).two
  obtain ⟨g1, g2⟩ := pass2 hK a1.toNatClampNeg S (sup S 40 0 0 0) 0 h2
  have n1 := h.1
  refine ⟨?_, ?_, ?_, ?_, ?_⟩
  · exact n1.of (by rw [hL 40 (by decide)]) (by rw [hL 40 (by decide)]) (by rw [hL 54 (by decide)]) (by rw [hL 51 (by decide)]) (by rw [hL 55 (by decide)]) (by rw [hL 45 (by decide)]) (by rw [hL 46 (by decide)]) (by rw [hL 48 (by decide)]; exact n1.2.2.2.2.2.2.2.2.2.1) (by rw [hL 59 (by decide)]; exact n1.2.2.2.2.2.2.2.2.2.2)
  · simp only [km_pass]
    rw [hL 40 (by decide)]
    exact hc.symm.trans hk
  · simp only [rm_pass, rc_pass]
    rw [show sup (lPass mu ns S a1.toNatClampNeg) 40 0 0 0 = comb (lPass mu ns S a1.toNatClampNeg) (sup S 40 0 0 0) from e1, comb_end]
    exact g2
  · simp only [sm_pass]
    rw [show sup (lPass mu ns S a1.toNatClampNeg) 40 0 0 0 = comb (lPass mu ns S a1.toNatClampNeg) (sup S 40 0 0 0) from e1, comb_pass, lEmp_o (by decide), comb_r (by decide)]
    exact (nPass_40 _ _ _).trans (sup_self _ _ _ _ _)
  · simp only [sm_pass]
    rw [show sup (lPass mu ns S a1.toNatClampNeg) 40 0 0 0 = comb (lPass mu ns S a1.toNatClampNeg) (sup S 40 0 0 0) from e1, comb_pass]
    exact (g1.emp).more (by omega)
theorem pure_all : PURE := ⟨p_addMachine, p_setLimits, p_drain, p_putUp, p_machine, p_next, p_free, p_assign, p_buy, p_lend, p_giveBack, p_minutes, p_minutesBySessions, p_logIn, p_logOut, p_use, p_takeOver, p_handBack, p_print, p_state, p_machineOf, p_userOf, p_charged, p_endsIn, p_pass, p_zk⟩
