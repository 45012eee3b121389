/-! a new machine, a new session -/
theorem kAdd0 {p r s : Int32} {n : Nat} (h : kAdd p r s n = 0) : vp_in p 3 ∧ vp_in r 3 ∧ ¬ oR 1 4 s ∧ n < 6 := by
  unfold kAdd at h
  by_cases h1 : oR 0 2 p ∨ oR 0 2 r ∨ oR 1 4 s
  · rw [if_pos h1] at h; exact absurd h (by decide)
  · rw [if_neg h1] at h
    by_cases h2 : 6 ≤ n
    · rw [if_pos h2] at h; exact absurd h (by decide)
    · exact ⟨vp_in_out (b := 2) (by decide) (fun q => h1 (Or.inl q)), vp_in_out (b := 2) (by decide) (fun q => h1 (Or.inr (Or.inl q))), fun q => h1 (Or.inr (Or.inr q)), by omega⟩
theorem seats4 {s : Int32} (h : ¬ oR 1 4 s) : ∃ n : Nat, 1 ≤ n ∧ n ≤ 4 ∧ s = nI n := by
  have h1 : ¬ s < 1 := fun q => h (Or.inl q)
  have h2 : ¬ 4 < s := fun q => h (Or.inr q)
  rw [Int32.lt_iff_toInt_lt] at h1 h2
  rw [show (1 : Int32).toInt = 1 by decide] at h1
  rw [show (4 : Int32).toInt = 4 by decide] at h2
  refine ⟨s.toInt.toNat, by omega, by omega, ?_⟩
  apply Int32.toInt.inj
  rw [nI_toInt (by omega)]
  omega
theorem mOn_0 {e mo : Nat → Int32} {m : Int32} : ∀ (k i : Nat) (a : Int32), (∀ z, i ≤ z → z < i + k → mo z ≠ m) → mOn e mo m i a k = a := by
  intro k
  induction k with
  | zero => intro i a _; rfl
  | succ k ih =>
    intro i a h
    show mOn e mo m (i + 1) (a + if e i = 0 ∧ mo i = m then 1 else 0) k = a
    rw [if_neg (fun q => h i (by omega) (by omega) q.2), ih (i + 1) _ (fun z h1 h2 => h z (by omega) (by omega))]
    grind
theorem mOn_last {e mo : Nat → Int32} {m : Int32} : ∀ (k i : Nat) (a : Int32), mOn e mo m i a (k + 1) = mOn e mo m i a k + (if e (i + k) = 0 ∧ mo (i + k) = m then 1 else 0) := by
  intro k
  induction k with
  | zero => intro i a; rfl
  | succ k ih =>
    intro i a
    show mOn e mo m (i + 1) _ (k + 1) = mOn e mo m (i + 1) _ k + _
    rw [ih, show i + 1 + k = i + (k + 1) by omega]
theorem gSub_last {F : Nat → Nat → Int32} {d : Nat} : ∀ (k i : Nat) (a : Int32), gSub F d i a (k + 1) = gSub F d i a k - F (i + k) d := by
  intro k
  induction k with
  | zero => intro i a; rfl
  | succ k ih =>
    intro i a
    show gSub F d (i + 1) _ (k + 1) = gSub F d (i + 1) _ k - _
    rw [ih, show i + 1 + k = i + (k + 1) by omega]
theorem gSum_last {F : Nat → Nat → Int32} : ∀ (k i : Nat) (a : Int32), gSum F i a (k + 1) = gSum F i a k + gIn F (i + k) := by
  intro k
  induction k with
  | zero => intro i a; rfl
  | succ k ih =>
    intro i a
    show gSum F (i + 1) _ (k + 1) = gSum F (i + 1) _ k + _
    rw [ih, show i + 1 + k = i + (k + 1) by omega]
theorem p_addMachine : ∀ (S : yS) (nm ns : Nat) (mu : Nat → Nat) (K : Nat) (a1 a2 a3 : Int32), K ≤ 3000000 → IN S nm ns mu K → P_addMachine S nm ns mu K a1 a2 a3 := by
  intro S nm ns mu K p r s _ h
  refine ⟨rfl, fun _ => p_zk _ _ _ _ _ _ h, fun hk S9 f1 f2 f3 => ?_⟩
  obtain ⟨n1, n2, n3, n4, n5, n6, n7, n8, n9, n10, n11, n12, n13, n14, n15, n16, n17, n18, n19, n20, n21⟩ := h
  obtain ⟨hp, hr, hs, hn6⟩ := kAdd0 hk
  have u : ∀ a, a ≠ 9 → a ≠ 10 → a ≠ 20 → S9 a = S a := fun a g1 g2 g3 => by
    funext b j
    exact f3 a b j g1 g2 (fun q => g3 q.1)
  have u20 : ∀ i j, i ≠ nm → S9 20 i j = S 20 i j := fun i j g => f3 20 i j (by decide) (by decide) (fun q => g q.2)
  have v : ∀ j, S9 20 nm j = if j = 3 then s else if j = 2 then r else if j = 1 then p else if j = 0 then nI nm else if j = 5 then 0 else if j = 4 then 117 else 0 := fun j => by
    rw [f2]
    simp only [fMac, sup, szero]
    simp
  have hx : XI S9 nm ns := n1.of (by rw [u 40] <;> decide) (by rw [u 40] <;> decide) (by rw [u 54] <;> decide) (by rw [u 51] <;> decide) (by rw [u 55] <;> decide) (by rw [u 45] <;> decide) (by rw [u 46] <;> decide) (by rw [u 48]; exact n1.2.2.2.2.2.2.2.2.2.1; all_goals decide) (by rw [u 59]; exact n1.2.2.2.2.2.2.2.2.2.2; all_goals decide)
  refine ⟨hx, hk, ?_, ?_, ?_⟩
  · simp only [rm_addMachine]
  · simp only [sm_addMachine]
    rw [sup_ne _ _ (by omega), sup_off _ _ (by omega), sup_off _ _ (by omega), sup_off _ _ (by omega), sup_off _ _ (by omega), sup_self]
  · generalize hT : sm_addMachine S9 nm ns mu p r s = T
    have t : ∀ a, a ≠ 40 → a ≠ 45 → a ≠ 46 → a ≠ 47 → a ≠ 48 → T a = S9 a := fun a g1 g2 g3 g4 g5 => by
      rw [← hT]; simp only [sm_addMachine]
      rw [sup_k g1, sup_k g5, sup_k g4, sup_k g3, sup_k g2, sup_k g1]
    have w : ∀ a, a ≠ 9 → a ≠ 10 → a ≠ 20 → a ≠ 40 → a ≠ 45 → a ≠ 46 → a ≠ 47 → a ≠ 48 → T a = S a := fun a g1 g2 g3 g4 g5 g6 g7 g8 => (t a g4 g5 g6 g7 g8).trans (u a g1 g2 g3)
    have t45 : T 45 = sup S 45 0 nm p 45 := by
      rw [← hT]; simp only [sm_addMachine]
      rw [sup_k (by decide), sup_k (by decide), sup_k (by decide), sup_k (by decide)]
      funext b j
      simp only [sup]
      simp [u 45]
    have t46 : T 46 = sup S 46 0 nm r 46 := by
      rw [← hT]; simp only [sm_addMachine]
      rw [sup_k (by decide), sup_k (by decide), sup_k (by decide)]
      funext b j
      simp only [sup]
      simp [u 46]
    have t47 : T 47 = sup S 47 0 nm s 47 := by
      rw [← hT]; simp only [sm_addMachine]
      rw [sup_k (by decide), sup_k (by decide)]
      funext b j
      simp only [sup]
      simp [u 47]
    have t48 : T 48 = sup S 48 0 nm 117 48 := by
      rw [← hT]; simp only [sm_addMachine]
      rw [sup_k (by decide)]
      funext b j
      simp only [sup]
      simp [u 48]
    have t40 : ∀ z, z ≠ 0 → z ≠ 4 → T 40 0 z = S 40 0 z := fun z g1 g2 => by
      rw [← hT]; simp only [sm_addMachine]
      rw [sup_ne _ _ (fun q => g2 q.2.2), sup_off _ _ (by omega), sup_off _ _ (by omega), sup_off _ _ (by omega), sup_off _ _ (by omega), sup_ne _ _ (fun q => g1 q.2.2), u 40] <;> decide
    have t404 : T 40 0 4 = nI (nm + 1) := by
      rw [← hT]; simp only [sm_addMachine]
      rw [sup_self, nI_1' nm]
    have w20 : ∀ i j, i ≠ nm → T 20 i j = S 20 i j := fun i j g => by rw [t 20]; exact u20 i j g; all_goals decide
    have v20 : ∀ j, T 20 nm j = S9 20 nm j := fun j => by rw [t 20] <;> decide
    obtain ⟨a1, a2, a3, a4, a5, a6, a7, a8, a9, a10, a11⟩ := n1
    refine ⟨⟨t404, (t40 12 (by decide) (by decide)).trans a2, by omega, a4, ?_, ?_, ?_, ?_, ?_, ?_, ?_⟩, ⟨?_, ?_, ?_, ?_, ?_⟩, ⟨?_, ?_, ?_⟩, ?_, ?_, ?_, ?_, ?_, ?_, ?_, ?_, ?_, ?_, ?_, ?_, ?_, ?_, ?_, ?_, ?_, ?_⟩
    · rw [w 54]; exact a5; all_goals decide
    · rw [w 51]; exact a6; all_goals decide
    · rw [w 55]; exact a7; all_goals decide
    · intro i hi
      rw [t45]
      by_cases e : i = nm
      · rw [e, sup_self]; exact hp
      · rw [sup_ne _ _ (fun q => e q.2.2)]; exact a8 i hi
    · intro i hi
      rw [t46]
      by_cases e : i = nm
      · rw [e, sup_self]; exact hr
      · rw [sup_ne _ _ (fun q => e q.2.2)]; exact a9 i hi
    · rw [t48]; exact chOk_sup a10 rfl
    · rw [w 59]; exact a11; all_goals decide
    · rw [t 9]; exact f1; all_goals decide
    · rw [w 11]; exact n2.2.1; all_goals decide
    · rw [w 21]; exact n2.2.2.1; all_goals decide
    · rw [w 4]; exact n2.2.2.2.1; all_goals decide
    · intro i hi
      by_cases e : i = nm
      · rw [e, v20, v]; exact hp
      · rw [w20 i 1 e]; exact n2.2.2.2.2 i (by omega)
    · intro i hi
      by_cases e : i = nm
      · rw [e, v20, v]; exact hr
      · rw [w20 i 2 e]; exact n3.1 i (by omega)
    · intro i hi
      by_cases e : i = nm
      · rw [e, v20, v]; rfl
      · rw [w20 i 4 e]; exact n3.2.1 i (by omega)
    · rw [w 21]; exact n3.2.2; all_goals decide
    · rw [w 0, t40 1 (by decide) (by decide)]; exact n4; all_goals decide
    · rw [w 0, t40 21 (by decide) (by decide)]; exact n5; all_goals decide
    · rw [w 1, w 42]; exact n6; all_goals decide
    · rw [w 2, w 43]; exact n7; all_goals decide
    · rw [w 3, w 60]; exact n8; all_goals decide
    · rw [w 4, w 51]; exact n9; all_goals decide
    · rw [w 5, w 49]; exact n10; all_goals decide
    · rw [w 5]; exact n11.up (by omega); all_goals decide
    · rw [w 8, w 50]; exact n12; all_goals decide
    · rw [w 5, w 6, w 8, w 22]; exact n13; all_goals decide
    · rw [w 22, w 58]; exact n14; all_goals decide
    · rw [w 22, t40 22 (by decide) (by decide)]; exact n15; all_goals decide
    · intro i hi
      by_cases e : i = nm
      · rw [e, v20, v20, v20, v20, v20, v, v, v, v, v, t45, t46, t47, t48, sup_self, sup_self, sup_self, sup_self]
        exact ⟨rfl, rfl, rfl, rfl, seats4 hs, rfl, Or.inl rfl⟩
      · rw [w20 i 0 e, w20 i 1 e, w20 i 2 e, w20 i 3 e, w20 i 4 e, t45, t46, t47, t48, sup_ne _ _ (fun q => e q.2.2), sup_ne _ _ (fun q => e q.2.2), sup_ne _ _ (fun q => e q.2.2), sup_ne _ _ (fun q => e q.2.2)]
        exact n16 i (by omega)
    · intro i hi
      rw [w 59, w 55]
      · by_cases e : i = nm
        · rw [e, v20, v, t48, sup_self, mOn_0]
          · exact ⟨rfl, fun q => absurd q (by decide)⟩
          · intro z _ hz q
            rw [(n18 z (by omega)).2.2.2.2.1] at q
            have := (nI_6 (by have := n20 z (by omega); omega) (by omega)).mp q
            have := n20 z (by omega)
            omega
        · rw [w20 i 5 e, t48, sup_ne _ _ (fun q => e q.2.2)]
          exact n17 i (by omega)
      all_goals decide
    · rw [w 21, w 53, w 54, w 55, w 56, w 57, w 59]; exact n18; all_goals decide
    · rw [w 59]; exact n19; all_goals decide
    · exact fun i hi => Nat.lt_succ_of_lt (n20 i hi)
    · rw [w 21]; exact n21; all_goals decide
