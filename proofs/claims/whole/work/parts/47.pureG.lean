/-! print -/
theorem kPrint_c {n : Nat} {x g : Int32} {P Q : Prop} [Decidable P] [Decidable Q] {a a' : Int32} (h : ¬ oN n x → (P ↔ Q) ∧ a = a') : kPrint n x g P a = xPrint n x g Q a' := by
  unfold kPrint xPrint
  by_cases h1 : oN n x
  · rw [if_pos h1, if_pos h1]
  · rw [if_neg h1, if_neg h1]
    obtain ⟨g1, g2⟩ := h h1
    by_cases h3 : oR 1 99 g
    · rw [if_pos h3, if_pos h3]
    · rw [if_neg h3, if_neg h3, g2, show g * 2 = 2 * g by grind]
      simp only [g1]
theorem kPrint0 {n : Nat} {x g : Int32} {P : Prop} [Decidable P] {a : Int32} (h : kPrint n x g P a = 0) : x.toNatClampNeg < n ∧ ¬ oR 1 99 g ∧ ¬ a < g * 2 := by
  unfold kPrint at h
  by_cases h1 : oN n x
  · rw [if_pos h1] at h; exact absurd h (by decide)
  · rw [if_neg h1] at h
    by_cases h3 : oR 1 99 g
    · rw [if_pos h3] at h; exact absurd h (by decide)
    · rw [if_neg h3] at h
      by_cases hp : P
      · rw [if_pos hp] at h
        by_cases h4 : a < g * 2
        · rw [if_pos h4] at h; exact absurd h (by decide)
        · exact ⟨ix_of (vinm h1), h3, h4⟩
      · rw [if_neg hp] at h; exact absurd h (by decide)
theorem g99 {g : Int32} (h : ¬ oR 1 99 g) : (g * 2).toInt = g.toInt * 2 ∧ 1 ≤ g.toInt ∧ g.toInt ≤ 99 := by
  have h1 : ¬ g < 1 := fun q => h (Or.inl q)
  have h2 : ¬ 99 < g := fun q => h (Or.inr q)
  rw [Int32.lt_iff_toInt_lt] at h1 h2
  rw [show (1 : Int32).toInt = 1 by decide] at h1
  rw [show (99 : Int32).toInt = 99 by decide] at h2
  have e : g * 2 = g + g := by grind
  refine ⟨?_, by omega, by omega⟩
  rw [e, add_toInt (by omega) (by omega)]
  omega
theorem p_print : ∀ (S : yS) (nm ns : Nat) (mu : Nat → Nat) (K : Nat) (a1 a2 : Int32), K ≤ 3000000 → IN S nm ns mu K → P_print S nm ns mu K a1 a2 := by
  intro S nm ns mu K a1 a2 hK h
  have h2 := h
  obtain ⟨n1, n2, n3, n4, n5, n6, n7, n8, n9, n10, n11, n12, n13, n14, n15, n16, n17, n18, n19, n20, n21⟩ := h2
  have dep : ∀ i, i < ns → (S 51 0 (S 54 0 i).toNatClampNeg).toNatClampNeg = cDep S i ∧ cDep S i < 4 := fun i hi => by
    have hu := n2.2.2.1 i hi
    have e := (n18 i hi).2.2.1
    have hd := n2.2.2.2.1 _ (ix_of hu)
    unfold cDep
    rw [← e, ← n9 _ (ix_of hu)]
    exact ⟨rfl, ix_of hd⟩
  have hc : kc_print S nm ns mu a1 a2 = km_print S nm ns mu a1 a2 := by
    refine kPrint_c (fun q => ⟨live_iff n18 (ix_of (vinm q)), ?_⟩)
    obtain ⟨e1, e2⟩ := dep _ (ix_of (vinm q))
    rw [e1]
    exact n10 _ e2
  refine ⟨hc, fun _ => p_zk _ _ _ _ _ _ h, fun hk => ?_⟩
  obtain ⟨hj, hg, hge⟩ := kPrint0 hk
  obtain ⟨hg2, hg3, hg4⟩ := g99 hg
  generalize hjj : a1.toNatClampNeg = j at *
  obtain ⟨hd1, hd⟩ := dep j hj
  obtain ⟨e1, e2, e3, e4, e5, e6⟩ := n18 j hj
  have hm := n20 j hj
  have hnm := n1.2.2.1
  have hmi : (S 55 0 j).toNatClampNeg = mu j := by rw [e5, nI_clamp (by omega)]
  have hrm : S 46 0 (mu j) = S 20 (mu j) 2 := (n16 _ hm).2.2.1.symm
  have hr3 : (S 20 (mu j) 2).toNatClampNeg < 3 := ix_of (n3.1 _ hm)
  have hcmp : 0 ≤ (a2 * 2).toInt ∧ (a2 * 2).toInt ≤ (S 5 0 (cDep S j)).toInt := by
    rw [Int32.lt_iff_toInt_lt] at hge
    show 0 ≤ (a2 * 2).toInt ∧ (a2 * 2).toInt ≤ (S 5 0 (cDep S j)).toInt
    omega
  have e22 : (2 : Int32) * a2 = a2 * 2 := by grind
  have hsc : sc_print S nm ns mu a1 a2 = fPrint S (mu j) j a2 := by simp only [sc_print]; rw [hjj]
  have c0 : ∀ a, a ≠ 0 → a ≠ 3 → a ≠ 5 → a ≠ 21 → a ≠ 22 → sc_print S nm ns mu a1 a2 a = S a := fun a g0 g1 g2 g3 g4 => by
    rw [hsc]
    unfold fPrint fCharge
    rw [sup_k g1, sup_k g3, sup_k g0, sup_k g4, sup_k g2]
  have c5 : sc_print S nm ns mu a1 a2 5 = sup S 5 0 (cDep S j) (S 5 0 (cDep S j) - a2 * 2) 5 := by
    rw [hsc]; unfold fPrint fCharge
    rw [sup_k (by decide), sup_k (by decide), sup_k (by decide), sup_k (by decide)]
  have c22 : sc_print S nm ns mu a1 a2 22 = sup S 22 j (cDep S j) (S 22 j (cDep S j) + a2 * 2) 22 := by
    rw [hsc]; unfold fPrint fCharge
    rw [sup_k (by decide), sup_k (by decide), sup_k (by decide)]
    funext b z
    simp only [sup]
    simp
  have c3 : sc_print S nm ns mu a1 a2 3 = sup S 3 0 (S 20 (mu j) 2).toNatClampNeg (S 3 0 (S 20 (mu j) 2).toNatClampNeg + a2) 3 := by
    rw [hsc]; unfold fPrint
    funext b z
    simp only [sup]
    simp [fCharge_o]
  have c0s : ∀ z, sc_print S nm ns mu a1 a2 0 0 z = if z = 10 then S 0 0 10 + a2 * 2 else S 0 0 z := fun z => by
    rw [hsc]; unfold fPrint
    rw [sup_off _ _ (by omega), sup_off _ _ (by omega)]
    by_cases e : z = 10
    · rw [if_pos e, e, sup_self]
    · rw [if_neg e, sup_ne _ _ (fun q => e q.2.2), fCharge_o (by decide) (by decide)]
  have c21 : ∀ i z, sc_print S nm ns mu a1 a2 21 i z = if i = j ∧ z = 5 then S 0 0 9 else S 21 i z := fun i z => by
    rw [hsc]; unfold fPrint
    rw [sup_off _ _ (by omega)]
    by_cases e : i = j ∧ z = 5
    · rw [if_pos e, e.1, e.2, sup_self]
    · rw [if_neg e, sup_ne _ _ (fun q => e q.2), sup_off _ _ (by omega), fCharge_o (by decide) (by decide)]
  have hx1 : XI (sc_print S nm ns mu a1 a2) nm ns := n1.of (by rw [c0 40 (by decide) (by decide) (by decide) (by decide) (by decide)]) (by rw [c0 40 (by decide) (by decide) (by decide) (by decide) (by decide)]) (by rw [c0 54 (by decide) (by decide) (by decide) (by decide) (by decide)]) (by rw [c0 51 (by decide) (by decide) (by decide) (by decide) (by decide)]) (by rw [c0 55 (by decide) (by decide) (by decide) (by decide) (by decide)]) (by rw [c0 45 (by decide) (by decide) (by decide) (by decide) (by decide)]) (by rw [c0 46 (by decide) (by decide) (by decide) (by decide) (by decide)]) (by rw [c0 48 (by decide) (by decide) (by decide) (by decide) (by decide)]; exact n1.2.2.2.2.2.2.2.2.2.1) (by rw [c0 59 (by decide) (by decide) (by decide) (by decide) (by decide)]; exact n1.2.2.2.2.2.2.2.2.2.2)
  have d51 := c0 51 (by decide) (by decide) (by decide) (by decide) (by decide)
  have d54 := c0 54 (by decide) (by decide) (by decide) (by decide) (by decide)
  have d49 := c0 49 (by decide) (by decide) (by decide) (by decide) (by decide)
  have d58 := c0 58 (by decide) (by decide) (by decide) (by decide) (by decide)
  have d40 := c0 40 (by decide) (by decide) (by decide) (by decide) (by decide)
  have d57 := c0 57 (by decide) (by decide) (by decide) (by decide) (by decide)
  have d60 := c0 60 (by decide) (by decide) (by decide) (by decide) (by decide)
  have d55 := c0 55 (by decide) (by decide) (by decide) (by decide) (by decide)
  have d46 := c0 46 (by decide) (by decide) (by decide) (by decide) (by decide)
  have d59 := c0 59 (by decide) (by decide) (by decide) (by decide) (by decide)
  have hmd : mDep (sup (sc_print S nm ns mu a1 a2) 40 0 0 0) j = cDep S j := by
    unfold mDep
    rw [sup_off _ _ (by omega), sup_off _ _ (by omega), d51, d54]
    exact hd1
  refine ⟨hx1, ?_, ?_, ?_, ?_⟩
  · simp only [km_print]
    rw [d59, d49, d51, d54]
    exact hc.symm.trans hk
  · simp only [rm_print, rc_print]
    rw [d60, d46, d55, hjj, hmi, hrm, ← n8 _ hr3]
  · simp only [sm_print]
    rw [sup_off _ _ (by omega), sup_off _ _ (by omega), sup_ne _ _ (by omega), mChg_o (by decide) (by decide) (by omega), sup_self]
  · generalize hT : sm_print (sc_print S nm ns mu a1 a2) nm ns mu a1 a2 = T
    have tk : ∀ a, a ≠ 40 → a ≠ 49 → a ≠ 57 → a ≠ 58 → a ≠ 60 → T a = sc_print S nm ns mu a1 a2 a := fun a g1 g2 g3 g4 g5 => by
      rw [← hT]; simp only [sm_print]
      rw [sup_k g5, sup_k g3, sup_k g1]
      unfold mChg
      rw [sup_k g1, sup_k g4, sup_k g2, sup_k g1]
    have t49 : T 49 = sup S 49 0 (cDep S j) (S 49 0 (cDep S j) - a2 * 2) 49 := by
      rw [← hT]; simp only [sm_print]
      rw [sup_k (by decide), sup_k (by decide), sup_k (by decide), hjj]
      unfold mChg
      rw [sup_k (by decide), sup_k (by decide), hmd, e22]
      funext b z
      simp only [sup, d49]
      simp
    have t58 : T 58 = sup S 58 0 (4 * j + cDep S j) (S 58 0 (4 * j + cDep S j) + a2 * 2) 58 := by
      rw [← hT]; simp only [sm_print]
      rw [sup_k (by decide), sup_k (by decide), sup_k (by decide), hjj]
      unfold mChg
      rw [sup_k (by decide), hmd, e22]
      funext b z
      simp only [sup, d58]
      simp
    have t57 : T 57 = sup S 57 0 j (S 40 0 1) 57 := by
      rw [← hT]; simp only [sm_print]
      rw [sup_k (by decide), hjj, d40]
      funext b z
      simp only [sup]
      simp [mChg_o, sup, d57]
    have t60 : T 60 = sup S 60 0 (S 20 (mu j) 2).toNatClampNeg (S 60 0 (S 20 (mu j) 2).toNatClampNeg + a2) 60 := by
      rw [← hT]; simp only [sm_print]
      rw [hjj, d46, d55, hmi, hrm, d60]
      funext b z
      simp only [sup]
      simp [mChg_o, sup, d60]
    have t40 : ∀ z, z ≠ 0 → z ≠ 21 → z ≠ 22 → T 40 0 z = S 40 0 z := fun z g1 g2 g3 => by
      rw [← hT]; simp only [sm_print]
      rw [sup_off _ _ (by omega), sup_off _ _ (by omega), sup_ne _ _ (fun q => g2 q.2.2), mChg_o (by decide) (by decide) (fun q => g3 q.2), sup_ne _ _ (fun q => g1 q.2.2), d40]
    have t4021 : T 40 0 21 = S 40 0 21 + a2 * 2 := by
      rw [← hT]; simp only [sm_print]
      rw [sup_off _ _ (by omega), sup_off _ _ (by omega), sup_self, d40, e22]
    have t4022 : T 40 0 22 = S 40 0 22 + a2 * 2 := by
      rw [← hT]; simp only [sm_print]
      rw [sup_off _ _ (by omega), sup_off _ _ (by omega), sup_ne _ _ (by omega)]
      unfold mChg
      rw [sup_self, sup_ne _ _ (by omega), d40, e22]
    have hxT : XI T nm ns := by
      rw [← hT]; simp only [sm_print]
      exact ((((hx1.s (by simp)).chg).s (by simp)).s (by simp)).s (by simp)
    have key := chg (A := T 5) (B := T 49) (G22 := T 22) (G58 := T 58) (d := cDep S j) (j := j) (x := a2 * 2) hK n10 n11 n13 n14 hd hj hcmp
      (by rw [tk 5 (by decide) (by decide) (by decide) (by decide) (by decide), c5, sup_self]) (fun z hz => by rw [tk 5 (by decide) (by decide) (by decide) (by decide) (by decide), c5, sup_ne _ _ (fun q => hz q.2.2)])
      (by rw [t49, sup_self]) (fun z hz => by rw [t49, sup_ne _ _ (fun q => hz q.2.2)])
      (by rw [tk 22 (by decide) (by decide) (by decide) (by decide) (by decide), c22, sup_self]) (fun i z hz => by rw [tk 22 (by decide) (by decide) (by decide) (by decide) (by decide), c22, sup_ne _ _ (fun q => hz q.2)])
      (by rw [t58, sup_self]) (fun z hz => by rw [t58, sup_ne _ _ (fun q => hz q.2.2)])
    obtain ⟨k1, k2, k3, k4, k5⟩ := key
    have u : ∀ a, a ≠ 0 → a ≠ 3 → a ≠ 5 → a ≠ 21 → a ≠ 22 → a ≠ 40 → a ≠ 49 → a ≠ 57 → a ≠ 58 → a ≠ 60 → T a = S a := fun a g0 g1 g2 g3 g4 g5 g6 g7 g8 g9 => (tk a g5 g6 g7 g8 g9).trans (c0 a g0 g1 g2 g3 g4)
    have t0 : ∀ z, T 0 0 z = if z = 10 then S 0 0 10 + a2 * 2 else S 0 0 z := fun z => by rw [tk 0 (by decide) (by decide) (by decide) (by decide) (by decide), c0s]
    have t21 : ∀ i z, T 21 i z = if i = j ∧ z = 5 then S 0 0 9 else S 21 i z := fun i z => by rw [tk 21 (by decide) (by decide) (by decide) (by decide) (by decide), c21]
    have t3 : T 3 = sup S 3 0 (S 20 (mu j) 2).toNatClampNeg (S 3 0 (S 20 (mu j) 2).toNatClampNeg + a2) 3 := (tk 3 (by decide) (by decide) (by decide) (by decide) (by decide)).trans c3
    refine ⟨hxT, n2.of (by rw [u 9] <;> decide) (by rw [u 11] <;> decide) (fun i => by rw [t21, if_neg (by omega)]) (fun i => by rw [u 4] <;> decide) (fun i => by rw [u 20] <;> decide), ⟨fun i hi => by rw [u 20]; exact n3.1 i hi; all_goals decide, fun i hi => by rw [u 20]; exact n3.2.1 i hi; all_goals decide, fun i hi => by rw [t21, if_neg (by omega)]; exact n3.2.2 i hi⟩, ?_, ?_, ?_, ?_, ?_, ?_, k1, k2.up (by omega), ?_, ?_, k4, ?_, ?_, ?_, ?_, ?_, n20, fun i hi => by rw [t21, if_neg (by omega)]; exact n21 i hi⟩
    · rw [t0, if_neg (by decide), t40 1 (by decide) (by decide) (by decide)]; exact n4
    · rw [t0, if_pos rfl, t4021, n5]
    · rw [u 1, u 42]; exact n6; all_goals decide
    · rw [u 2, u 43]; exact n7; all_goals decide
    · rw [t3, t60]
      intro z hz
      by_cases e : z = (S 20 (mu j) 2).toNatClampNeg
      · rw [e, sup_self, sup_self, n8 _ hr3]
      · rw [sup_ne _ _ (fun q => e q.2.2), sup_ne _ _ (fun q => e q.2.2), n8 _ hz]
    · rw [u 4, u 51]; exact n9; all_goals decide
    · rw [u 8, u 50]; exact n12; all_goals decide
    · rw [u 6, u 8]; exact k3; all_goals decide
    · rw [t4022, n15, k5]
    · rw [u 20, u 45, u 46, u 47, u 48]; exact n16; all_goals decide
    · rw [u 20, u 59, u 55, u 48]; exact n17; all_goals decide
    · rw [u 53, u 54, u 55, u 56, u 59, t57]
      · intro i hi
        obtain ⟨q0, q1, q2, q3, q4, q5⟩ := n18 i hi
        rw [t21 i 0, t21 i 2, t21 i 4, t21 i 6, t21 i 5, if_neg (show ¬ (i = j ∧ 0 = 5) by omega), if_neg (show ¬ (i = j ∧ 2 = 5) by omega), if_neg (show ¬ (i = j ∧ 4 = 5) by omega), if_neg (show ¬ (i = j ∧ 6 = 5) by omega)]
        refine ⟨q0, q1, q2, ?_, q4, q5⟩
        by_cases e : i = j
        · rw [if_pos ⟨e, rfl⟩, e, sup_self, n4]
        · rw [if_neg (fun q => e q.1), sup_ne _ _ (fun q => e q.2.2)]; exact q3
      all_goals decide
    · rw [u 59]; exact n19; all_goals decide
