theorem own_eq {S : yS} {nm ns : Nat} {mu : Nat → Nat} (hS : cS (S 21) (S 53) (S 54) (S 55) (S 56) (S 57) (S 59) ns mu) (u : Int32) : ∀ (k i : Nat), i + k = ns → mOwns (S 59 0) (S 53 0) u i 0 k = (if lOwns S u i k = true then 1 else 0) ∧ mOwns (S 59 0) (S 53 0) u i 1 k = 1 := by
  intro k
  induction k with
  | zero => intro i _; exact ⟨rfl, rfl⟩
  | succ k ih =>
    intro i hik
    obtain ⟨g1, g2⟩ := ih (i + 1) (by omega)
    have e0 := (hS i (by omega)).1
    have el := live_iff hS (i := i) (by omega)
    refine ⟨?_, g2⟩
    show mOwns (S 59 0) (S 53 0) u (i + 1) (if (0 : Int32) = 0 then (if S 59 0 i = 0 ∧ S 53 0 i = u then 1 else 0) else 1) k = if (if S 21 i 0 = u ∧ S 21 i 6 = 97 then true else lOwns S u (i + 1) k) = true then 1 else 0
    rw [if_pos rfl]
    by_cases h : S 59 0 i = 0 ∧ S 53 0 i = u
    · rw [if_pos h, g2, if_pos (show S 21 i 0 = u ∧ S 21 i 6 = 97 from ⟨e0.trans h.2, el.mpr h.1⟩), if_pos rfl]
    · rw [if_neg h, g1, if_neg (show ¬ (S 21 i 0 = u ∧ S 21 i 6 = 97) from fun q => h ⟨el.mp q.2, e0.symm.trans q.1⟩)]
theorem kIn_c {u p : Int32} {P Q : Prop} [Decidable P] [Decidable Q] {n : Nat} {a a' : Int32} {b : Option Nat} {nm : Nat} (hnm : nm ≤ 6) (hb : ∀ j, b = some j → j < nm) (h : P ↔ Q) (h2 : ¬ oR 0 9 u → (a < 1 ↔ a' = 0)) : kIn u p P n a b = xIn u p Q n a' (enc b) := by
  unfold kIn xIn
  by_cases h1 : oR 0 9 u ∨ oR 0 2 p
  · rw [if_pos h1, if_pos h1]
  · rw [if_neg h1, if_neg h1]
    by_cases h3 : P ∨ 40 ≤ n
    · rw [if_pos h3, if_pos (h3.imp h.mp id)]
    · rw [if_neg h3, if_neg (show ¬ (Q ∨ 40 ≤ n) from fun q => h3 (q.imp h.mpr id))]
      have g := h2 (fun q => h1 (Or.inl q))
      by_cases h4 : a < 1
      · rw [if_pos h4, if_pos (g.mp h4)]
      · rw [if_neg h4, if_neg (fun q => h4 (g.mpr q))]
        cases b with
        | none => rfl
        | some j => exact (if_neg (nI_m1 (by have := hb j rfl; omega))).symm
theorem kIn0 {u p : Int32} {P : Prop} [Decidable P] {n : Nat} {a : Int32} {b : Option Nat} (h : kIn u p P n a b = 0) : vp_in u 10 ∧ n < 40 := by
  unfold kIn at h
  by_cases h1 : oR 0 9 u ∨ oR 0 2 p
  · rw [if_pos h1] at h; exact absurd h (by decide)
  · rw [if_neg h1] at h
    by_cases h3 : P ∨ 40 ≤ n
    · rw [if_pos h3] at h; exact absurd h (by decide)
    · exact ⟨vp_in_out (b := 9) (by decide) (fun q => h1 (Or.inl q)), Nat.not_le.mp (fun q => h3 (Or.inr q))⟩
theorem p_logIn : ∀ (S : yS) (nm ns : Nat) (mu : Nat → Nat) (K : Nat) (a1 a2 : Int32), K ≤ 3000000 → IN S nm ns mu K → P_logIn S nm ns mu K a1 a2 := by
  intro S nm ns mu K us po _ h
  have h2 := h
  obtain ⟨n1, n2, n3, n4, n5, n6, n7, n8, n9, n10, n11, n12, n13, n14, n15, n16, n17, n18, n19, n20, n21⟩ := h2
  obtain ⟨g1, g2⟩ := best0 n1.2.2.2.1 n1.2.2.1 n16 n17 po
  have hc : kc_logIn S nm ns mu us po = km_logIn S nm ns mu us po := by
    simp only [kc_logIn, km_logIn]
    rw [g1]
    refine kIn_c n1.2.2.1 g2 ?_ (fun q => ?_)
    · rw [(own_eq (nm := nm) n18 us ns 0 (by omega)).1]
      by_cases z : lOwns S us 0 ns = true
      · rw [if_pos z]; exact iff_of_true z (by decide)
      · rw [if_neg z]; exact iff_of_false z (by decide)
    · have hu : us.toNatClampNeg < 10 := oR_lt rfl (by decide) q
      have hd : (S 4 0 us.toNatClampNeg).toNatClampNeg < 4 := ix_of (n2.2.2.2.1 _ hu)
      rw [← n9 _ hu, ← n10 _ hd]
      exact lt1_iff (n11 _ hd).1
  refine ⟨hc, fun _ => p_zk _ _ _ _ _ _ h, fun hk m9 S9 hm9 hb9 f1 f2 f3 f4 f5 => ?_⟩
  obtain ⟨hu, hn40⟩ := kIn0 hk
  have hmx : mNx (S 59 0) (S 55 0) (S 45 0) (S 48 0) (S 47 0) po ns 0 (-1) nm = nI m9 := by rw [g1, hb9]; rfl
  have u : ∀ a, a ≠ 11 → a ≠ 12 → a ≠ 20 → a ≠ 21 → a ≠ 22 → S9 a = S a := fun a q1 q2 q3 q4 q5 => by
    funext b j
    exact f5 a b j q1 q2 (fun z => z.1.elim q4 q5) (fun z => q3 z.1)
  have u20 : ∀ i j, j ≠ 5 → S9 20 i j = S 20 i j := fun i j g => f5 20 i j (by decide) (by decide) (by omega) (fun q => g q.2.2)
  have u205 : ∀ i, S9 20 i 5 = if i = m9 then S 20 m9 5 + 1 else S 20 i 5 := fun i => by
    by_cases e : i = m9
    · rw [if_pos e, e, f2]
    · rw [if_neg e, f5 20 i 5 (by decide) (by decide) (by omega) (fun q => e q.2.1)]
  have u21 : ∀ i j, i ≠ ns → S9 21 i j = S 21 i j := fun i j g => f5 21 i j (by decide) (by decide) (fun q => g q.2) (by omega)
  have u22 : ∀ i j, i ≠ ns → S9 22 i j = S 22 i j := fun i j g => f5 22 i j (by decide) (by decide) (fun q => g q.2) (by omega)
  have v : ∀ j, S9 21 ns j = if j = 5 then S 0 0 9 else if j = 4 then us else if j = 2 then S 0 0 9 else if j = 0 then us else if j = 6 then 97 else 0 := fun j => by
    rw [f3]
    simp only [fSes, sup, szero]
    simp
  have hx : XI S9 nm ns := n1.of (by rw [u 40] <;> decide) (by rw [u 40] <;> decide) (by rw [u 54] <;> decide) (by rw [u 51] <;> decide) (by rw [u 55] <;> decide) (by rw [u 45] <;> decide) (by rw [u 46] <;> decide) (by rw [u 48]; exact n1.2.2.2.2.2.2.2.2.2.1; all_goals decide) (by rw [u 59]; exact n1.2.2.2.2.2.2.2.2.2.2; all_goals decide)
  refine ⟨hx, ?_, ?_, ?_, ?_⟩
  · simp only [km_logIn]
    rw [u 59, u 53, u 49, u 51, u 55, u 45, u 48, u 47]
    · exact hc.symm.trans hk
    all_goals decide
  · simp only [rm_logIn]
  · simp only [sm_logIn]
    rw [sup_ne _ _ (by omega), sup_off _ _ (by omega), sup_off _ _ (by omega), sup_off _ _ (by omega), sup_off _ _ (by omega), sup_off _ _ (by omega), sup_self]
  · generalize hT : sm_logIn S9 nm ns mu us po = T
    have t : ∀ a, a ≠ 40 → a ≠ 53 → a ≠ 54 → a ≠ 55 → a ≠ 56 → a ≠ 57 → T a = S9 a := fun a q1 q2 q3 q4 q5 q6 => by
      rw [← hT]; simp only [sm_logIn]
      rw [sup_k q1, sup_k q6, sup_k q5, sup_k q4, sup_k q3, sup_k q2, sup_k q1]
    have w : ∀ a, a ≠ 11 → a ≠ 12 → a ≠ 20 → a ≠ 21 → a ≠ 22 → a ≠ 40 → a ≠ 53 → a ≠ 54 → a ≠ 55 → a ≠ 56 → a ≠ 57 → T a = S a := fun a q1 q2 q3 q4 q5 q6 q7 q8 q9 q10 q11 => (t a q6 q7 q8 q9 q10 q11).trans (u a q1 q2 q3 q4 q5)
    have t53 : T 53 = sup S 53 0 ns us 53 := by
      rw [← hT]; simp only [sm_logIn]
      rw [sup_k (by decide), sup_k (by decide), sup_k (by decide), sup_k (by decide), sup_k (by decide)]
      funext b j
      simp only [sup]
      simp [u 53]
    have t54 : T 54 = sup S 54 0 ns us 54 := by
      rw [← hT]; simp only [sm_logIn]
      rw [sup_k (by decide), sup_k (by decide), sup_k (by decide), sup_k (by decide)]
      funext b j
      simp only [sup]
      simp [u 54]
    have t55 : T 55 = sup S 55 0 ns (nI m9) 55 := by
      rw [← hT]; simp only [sm_logIn]
      rw [sup_k (by decide), sup_k (by decide), sup_k (by decide), u 59, u 55, u 45, u 48, u 47, hmx]
      · funext b j
        simp only [sup]
        simp [u 55]
      all_goals decide
    have t56 : T 56 = sup S 56 0 ns (S 40 0 1) 56 := by
      rw [← hT]; simp only [sm_logIn]
      rw [sup_k (by decide), sup_k (by decide)]
      funext b j
      simp only [sup]
      simp [u 56, u 40]
    have t57 : T 57 = sup S 57 0 ns (S 40 0 1) 57 := by
      rw [← hT]; simp only [sm_logIn]
      rw [sup_k (by decide)]
      funext b j
      simp only [sup]
      simp [u 57, u 40]
    have t40 : ∀ z, z ≠ 0 → z ≠ 12 → T 40 0 z = S 40 0 z := fun z q1 q2 => by
      rw [← hT]; simp only [sm_logIn]
      rw [sup_ne _ _ (fun q => q2 q.2.2), sup_off _ _ (by omega), sup_off _ _ (by omega), sup_off _ _ (by omega), sup_off _ _ (by omega), sup_off _ _ (by omega), sup_ne _ _ (fun q => q1 q.2.2), u 40] <;> decide
    have t4012 : T 40 0 12 = nI (ns + 1) := by
      rw [← hT]; simp only [sm_logIn]
      rw [sup_self, nI_1' ns]
    have t20 : T 20 = S9 20 := by rw [t 20] <;> decide
    have t21 : T 21 = S9 21 := by rw [t 21] <;> decide
    have t22 : T 22 = S9 22 := by rw [t 22] <;> decide
    have nns : ∀ i, i < ns → i ≠ ns := fun i hi => by omega
    obtain ⟨a1, a2, a3, a4, a5, a6, a7, a8, a9, a10, a11⟩ := n1
    have sub0 : ∀ d (a : Int32), gSub (T 22) d 0 a (ns + 1) = gSub (S 22) d 0 a ns := fun d a => by
      rw [gSub_last, t22, Nat.zero_add, f4, gSub_c ns 0 a (fun z _ hz => u22 z d (nns z (by omega)))]
      grind
    refine ⟨⟨(t40 4 (by decide) (by decide)).trans a1, t4012, a3, by omega, ?_, ?_, ?_, ?_, ?_, ?_, ?_⟩, ⟨?_, ?_, ?_, ?_, ?_⟩, ⟨?_, ?_, ?_⟩, ?_, ?_, ?_, ?_, ?_, ?_, ?_, ?_, ?_, ?_, ⟨?_, ?_⟩, ?_, ?_, ?_, ?_, ?_, ?_, ?_⟩
    · intro i hi
      rw [t54]
      by_cases e : i = ns
      · rw [e, sup_self]; exact hu
      · rw [sup_ne _ _ (fun q => e q.2.2)]; exact a5 i (by omega)
    · rw [w 51]; exact a6; all_goals decide
    · intro i hi
      rw [t55]
      by_cases e : i = ns
      · rw [e, sup_self]; exact vp_in_nI (by omega) (by omega)
      · rw [sup_ne _ _ (fun q => e q.2.2)]; exact a7 i (by omega)
    · rw [w 45]; exact a8; all_goals decide
    · rw [w 46]; exact a9; all_goals decide
    · rw [w 48]; exact a10; all_goals decide
    · rw [w 59]; exact a11; all_goals decide
    · rw [w 9]; exact n2.1; all_goals decide
    · rw [t 11]; exact f1; all_goals decide
    · intro i hi
      rw [t21]
      by_cases e : i = ns
      · rw [e, v]; exact hu
      · rw [u21 i 4 e]; exact n2.2.2.1 i (by omega)
    · rw [w 4]; exact n2.2.2.2.1; all_goals decide
    · intro i hi; rw [t20, u20 i 1 (by decide)]; exact n2.2.2.2.2 i hi
    · intro i hi; rw [t20, u20 i 2 (by decide)]; exact n3.1 i hi
    · intro i hi; rw [t20, u20 i 4 (by decide)]; exact n3.2.1 i hi
    · intro i hi
      rw [t21]
      by_cases e : i = ns
      · rw [e, v]; rfl
      · rw [u21 i 6 e]; exact n3.2.2 i (by omega)
    · rw [w 0, t40 1 (by decide) (by decide)]; exact n4; all_goals decide
    · rw [w 0, t40 21 (by decide) (by decide)]; exact n5; all_goals decide
    · rw [w 1, w 42]; exact n6; all_goals decide
    · rw [w 2, w 43]; exact n7; all_goals decide
    · rw [w 3, w 60]; exact n8; all_goals decide
    · rw [w 4, w 51]; exact n9; all_goals decide
    · rw [w 5, w 49]; exact n10; all_goals decide
    · rw [w 5]; exact n11.up (by omega); all_goals decide
    · rw [w 8, w 50]; exact n12; all_goals decide
    · intro d hd
      rw [sub0, w 5, w 6, w 8]
      · exact n13 d hd
      all_goals decide
    · intro i d hi hd
      rw [t22, w 58]
      · by_cases e : i = ns
        · rw [e, f4, n14.2 _ (by omega)]
        · rw [u22 i d e]; exact n14.1 i d (by omega) hd
      all_goals decide
    · intro j hj
      rw [w 58]
      · exact n14.2 j (by omega)
      all_goals decide
    · rw [t40 22 (by decide) (by decide), gSum_last, t22, Nat.zero_add, gSum_c (F := S 22) ns 0 0 (fun z _ hz => ?_), n15]
      · have : gIn (S9 22) ns = 0 := by
          unfold gIn
          rw [f4, f4, f4, f4]
          rfl
        rw [this]
        grind
      · unfold gIn
        rw [u22 z 0 (by omega), u22 z 1 (by omega), u22 z 2 (by omega), u22 z 3 (by omega)]
    · intro i hi
      rw [t20, u20 i 0 (by decide), u20 i 1 (by decide), u20 i 2 (by decide), u20 i 3 (by decide), u20 i 4 (by decide), w 45, w 46, w 47, w 48]
      · exact n16 i hi
      all_goals decide
    · intro i hi
      rw [t20, u205, w 59, w 48, t55, mOn_last, Nat.zero_add, sup_self, n19 ns (by omega), mOn_c (e' := S 59 0) (mo' := S 55 0) ns 0 0 (fun z _ hz => ⟨rfl, sup_ne _ _ (fun q => by omega)⟩)]
      · obtain ⟨c, hc1, -, hc2⟩ := mOn_nat (S 59 0) (S 55 0) (nI i) ns 0 0
        have hc3 : mOn (S 59 0) (S 55 0) (nI i) 0 0 ns = nI c := hc1
        by_cases e : i = m9
        · subst e
          rw [if_pos rfl, if_pos ⟨rfl, rfl⟩, (n17 i hi).1, hc3]
          refine ⟨rfl, fun _ q => ?_⟩
          rw [nI_1' c] at q
          exact absurd ((nI_eq0 (by omega)).mp q) (by omega)
        · rw [if_neg e, if_neg (fun q => e ((nI_6 (by omega) (by omega)).mp q.2).symm)]
          refine ⟨?_, (n17 i hi).2⟩
          rw [(n17 i hi).1]
          grind
      all_goals decide
    · intro i hi
      rw [t21, t53, t54, t55, t56, t57, w 59]
      · by_cases e : i = ns
        · rw [e, v, v, v, v, v, sup_self, sup_self, sup_self, sup_self, sup_self, n19 ns (by omega)]
          refine ⟨rfl, n4, rfl, n4, ?_, Or.inl ⟨rfl, rfl⟩⟩
          show nI m9 = nI (if ns = ns then m9 else mu ns)
          rw [if_pos rfl]
        · rw [u21 i 0 e, u21 i 2 e, u21 i 4 e, u21 i 5 e, u21 i 6 e, sup_ne _ _ (fun q => e q.2.2), sup_ne _ _ (fun q => e q.2.2), sup_ne _ _ (fun q => e q.2.2), sup_ne _ _ (fun q => e q.2.2), sup_ne _ _ (fun q => e q.2.2)]
          obtain ⟨q0, q1, q2, q3, q4, q5⟩ := n18 i (by omega)
          refine ⟨q0, q1, q2, q3, ?_, q5⟩
          show S 55 0 i = nI (if i = ns then m9 else mu i)
          rw [if_neg e]
          exact q4
      all_goals decide
    · intro i hi
      rw [w 59]
      · exact n19 i (by omega)
      all_goals decide
    · intro i hi
      show (if i = ns then m9 else mu i) < nm
      by_cases e : i = ns
      · rw [if_pos e]; exact hm9
      · rw [if_neg e]; exact n20 i (by omega)
    · intro i hi
      rw [t21]
      by_cases e : i = ns
      · rw [e, v]; exact hu
      · rw [u21 i 0 e]; exact n21 i (by omega)
