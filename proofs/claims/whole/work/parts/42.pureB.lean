theorem kSet0 {p i h : Int32} (q : kSet p i h = 0) : p.toNatClampNeg < 3 := by
  unfold kSet at q
  split at q
  · exact absurd q (by decide)
  · rename_i z
    exact oR_lt rfl (by decide) (fun w => z (Or.inl w))
theorem p_setLimits : ∀ (S : yS) (nm ns : Nat) (mu : Nat → Nat) (K : Nat) (a1 a2 a3 : Int32), K ≤ 3000000 → IN S nm ns mu K → P_setLimits S nm ns mu K a1 a2 a3 := by
  intro S nm ns mu K a1 a2 a3 _ h
  refine ⟨rfl, fun _ => p_zk _ _ _ _ _ _ h, fun hk => ?_⟩
  obtain ⟨n1, n2, n3, n4, n5, n6, n7, n8, n9, n10, n11, n12, n13, n14, n15, n16, n17, n18, n19, n20, n21⟩ := h
  have hp := kSet0 hk
  refine ⟨(n1.s (by simp)).s (by simp), hk, (n6 _ hp).symm, rfl, ((((n1.s (by simp)).s (by simp)).s (by simp)).s (by simp)).s (by simp), n2, n3, n4, n5, ?_, ?_, n8, n9, n10, n11.up (by omega), n12, n13, n14, n15, n16, n17, n18, n19, n20, n21⟩
  · intro j hj
    by_cases e : j = a1.toNatClampNeg <;> simp [sup, e, n6 j hj]
  · intro j hj
    by_cases e : j = a1.toNatClampNeg <;> simp [sup, e, n7 j hj]
theorem kAss0 {u d : Int32} (q : kAss u d = 0) : u.toNatClampNeg < 10 ∧ vp_in d 4 := by
  unfold kAss at q
  split at q
  · exact absurd q (by decide)
  · rename_i z
    exact ⟨oR_lt rfl (by decide) (fun w => z (Or.inl w)), vp_in_out (b := 3) (by decide) (fun w => z (Or.inr w))⟩
theorem p_assign : ∀ (S : yS) (nm ns : Nat) (mu : Nat → Nat) (K : Nat) (a1 a2 : Int32), K ≤ 3000000 → IN S nm ns mu K → P_assign S nm ns mu K a1 a2 := by
  intro S nm ns mu K a1 a2 _ h
  refine ⟨rfl, fun _ => p_zk _ _ _ _ _ _ h, fun hk => ?_⟩
  obtain ⟨n1, n2, n3, n4, n5, n6, n7, n8, n9, n10, n11, n12, n13, n14, n15, n16, n17, n18, n19, n20, n21⟩ := h
  obtain ⟨hu, hd⟩ := kAss0 hk
  refine ⟨n1.s (by simp), hk, (n9 _ hu).symm, rfl, ((n1.s (by simp)).s (by simp)).s51 hd, ⟨n2.1, n2.2.1, n2.2.2.1, fun u hu' => ?_, n2.2.2.2.2⟩, n3, n4, n5, n6, n7, n8, ?_, n10, n11.up (by omega), n12, n13, n14, n15, n16, n17, n18, n19, n20, n21⟩
  · show vp_in (sup S 4 0 a1.toNatClampNeg a2 4 0 u) 4
    by_cases e : u = a1.toNatClampNeg
    · rw [e, sup_self]; exact hd
    · rw [sup_ne _ _ (fun q => e q.2.2)]; exact n2.2.2.2.1 u hu'
  · intro j hj
    by_cases e : j = a1.toNatClampNeg <;> simp [sup, e, n9 j hj]
theorem p_use : ∀ (S : yS) (nm ns : Nat) (mu : Nat → Nat) (K : Nat) (a1 : Int32), K ≤ 3000000 → IN S nm ns mu K → P_use S nm ns mu K a1 := by
  intro S nm ns mu K a1 _ h
  have hc : kc_use S nm ns mu a1 = km_use S nm ns mu a1 := kLive_c (fun q => live_iff h.2.2.2.2.2.2.2.2.2.2.2.2.2.2.2.2.2.1 (ix_of (vinm q)))
  refine ⟨hc, fun _ => p_zk _ _ _ _ _ _ h, fun hk => ?_⟩
  obtain ⟨n1, n2, n3, n4, n5, n6, n7, n8, n9, n10, n11, n12, n13, n14, n15, n16, n17, n18, n19, n20, n21⟩ := h
  have hj := (kLive0 hk).1
  obtain ⟨e1, e2, e3, e4, e5, e6⟩ := n18 _ hj
  refine ⟨n1.s (by simp), hc.symm.trans hk, ?_, rfl, (((n1.s (by simp)).s (by simp)).s (by simp)), n2.of rfl rfl (fun i => by simp [sup]) (fun i => rfl) (fun i => rfl), ⟨n3.1, n3.2.1, fun i hi => ?_⟩, n4, n5, n6, n7, n8, n9, n10, n11.up (by omega), n12, n13, n14, n15, n16, n17, ?_, n19, n20, fun i hi => by have := n21 i hi; simpa [sup] using this⟩
  · show S 40 0 1 - S 57 0 a1.toNatClampNeg = S 0 0 9 - S 21 a1.toNatClampNeg 5
    rw [e4, n4]
  · have := n3.2.2 i hi
    simpa [sup] using this
  · intro i hi
    have q := n18 i hi
    by_cases e : i = a1.toNatClampNeg
    · simp only [sup]
      simp [e]
      rw [e] at q
      exact ⟨q.1, q.2.1, q.2.2.1, n4, q.2.2.2.2⟩
    · simp only [sup]
      simp [e]
      exact q
theorem kHand_c {n : Nat} {x : Int32} {P Q A B : Prop} [Decidable P] [Decidable Q] [Decidable A] [Decidable B] (h : ¬ oN n x → (P ↔ Q) ∧ (A ↔ B)) : kHand n x P A = kHand n x Q B := by
  unfold kHand
  by_cases h1 : oN n x
  · rw [if_pos h1, if_pos h1]
  · rw [if_neg h1, if_neg h1]
    obtain ⟨g1, g2⟩ := h h1
    simp only [g1, g2]
theorem kHand0 {n : Nat} {x : Int32} {P A : Prop} [Decidable P] [Decidable A] (h : kHand n x P A = 0) : x.toNatClampNeg < n := by
  unfold kHand at h
  by_cases h1 : oN n x
  · rw [if_pos h1] at h; exact absurd h (by decide)
  · exact ix_of (vinm h1)
/-- the session's user is another -/
theorem pass_to {S : yS} {nm ns K : Nat} {mu : Nat → Nat} {j : Nat} {u : Int32} (h : IN S nm ns mu K) (hj : j < ns) (hu : vp_in u 10) : IN (sup (sup (sup (fTo S j u) 40 0 0 0) 54 0 j u) 57 0 j (S 40 0 1)) nm ns mu (K + 5000) := by
  obtain ⟨n1, n2, n3, n4, n5, n6, n7, n8, n9, n10, n11, n12, n13, n14, n15, n16, n17, n18, n19, n20, n21⟩ := h
  refine ⟨(((((n1.s (by simp)).s (by simp)).s (by simp)).s54 hu).s (by simp)), ⟨n2.1, n2.2.1, fun i hi => ?_, n2.2.2.2.1, n2.2.2.2.2⟩, ⟨n3.1, n3.2.1, fun i hi => ?_⟩, n4, n5, n6, n7, n8, n9, n10, n11.up (by omega), n12, n13, n14, n15, n16, n17, ?_, n19, n20, fun i hi => by have := n21 i hi; simpa [fTo, sup] using this⟩
  · show vp_in (fTo S j u 21 i 4) 10
    by_cases e : i = j
    · rw [show fTo S j u 21 i 4 = u by simp [fTo, sup, e]]; exact hu
    · rw [show fTo S j u 21 i 4 = S 21 i 4 by simp [fTo, sup, e]]; exact n2.2.2.1 i hi
  · show chOk (fTo S j u 21 i 6)
    rw [show fTo S j u 21 i 6 = S 21 i 6 by simp [fTo, sup]]; exact n3.2.2 i hi
  · intro i hi
    have q := n18 i hi
    by_cases e : i = j
    · subst e
      simp only [sup, fTo]
      simp
      exact ⟨q.1, q.2.1, n4, q.2.2.2.2⟩
    · simp only [sup, fTo]
      simp [e]
      exact q
theorem p_handBack : ∀ (S : yS) (nm ns : Nat) (mu : Nat → Nat) (K : Nat) (a1 : Int32), K ≤ 3000000 → IN S nm ns mu K → P_handBack S nm ns mu K a1 := by
  intro S nm ns mu K a1 _ h
  have hc : kc_handBack S nm ns mu a1 = km_handBack S nm ns mu a1 := kHand_c (fun q => ⟨live_iff h.2.2.2.2.2.2.2.2.2.2.2.2.2.2.2.2.2.1 (ix_of (vinm q)), by
    have e := h.2.2.2.2.2.2.2.2.2.2.2.2.2.2.2.2.2.1 _ (ix_of (vinm q))
    rw [e.1, e.2.2.1]⟩)
  refine ⟨hc, fun _ => p_zk _ _ _ _ _ _ h, fun hk => ?_⟩
  have hj := kHand0 hk
  have e := h.2.2.2.2.2.2.2.2.2.2.2.2.2.2.2.2.2.1 _ hj
  refine ⟨(h.1.s (by simp)).s (by simp), hc.symm.trans hk, e.2.2.1.symm, rfl, ?_⟩
  have hu : vp_in (S 21 a1.toNatClampNeg 0) 10 := h.2.2.2.2.2.2.2.2.2.2.2.2.2.2.2.2.2.2.2.2 _ hj
  have := pass_to h hj hu
  show IN (sup (sup (sup (fTo S a1.toNatClampNeg (S 21 a1.toNatClampNeg 0)) 40 0 0 0) 54 0 a1.toNatClampNeg (S 53 0 a1.toNatClampNeg)) 57 0 a1.toNatClampNeg (S 40 0 1)) nm ns mu (K + 5000)
  rw [← e.1]
  exact this
theorem lt1_iff {x : Int32} (h : 0 ≤ x.toInt) : x < 1 ↔ x = 0 := by
  rw [Int32.lt_iff_toInt_lt, show (1 : Int32).toInt = 1 by decide]
  constructor
  · intro q
    apply Int32.toInt.inj
    rw [show (0 : Int32).toInt = 0 by decide]
    omega
  · rintro rfl
    decide
theorem kTake_c {n : Nat} {x u c c' : Int32} {P Q : Prop} [Decidable P] [Decidable Q] {a a' : Int32} (h : ¬ oN n x → (P ↔ Q) ∧ c = c') (h2 : ¬ oR 0 9 u → (a < 1 ↔ a' = 0)) : kTake n x u c P a = xTake n x u c' Q a' := by
  unfold kTake xTake
  by_cases h1 : oN n x
  · rw [if_pos h1, if_pos h1]
  · rw [if_neg h1, if_neg h1]
    obtain ⟨g1, g2⟩ := h h1
    rw [g2]
    by_cases h3 : oR 0 9 u ∨ c' = u
    · rw [if_pos h3, if_pos h3]
    · rw [if_neg h3, if_neg h3]
      have g3 := h2 (fun q => h3 (Or.inl q))
      simp only [g1, g3]
theorem kTake0 {n : Nat} {x u c : Int32} {P : Prop} [Decidable P] {a : Int32} (h : kTake n x u c P a = 0) : x.toNatClampNeg < n ∧ vp_in u 10 := by
  unfold kTake at h
  by_cases h1 : oN n x
  · rw [if_pos h1] at h; exact absurd h (by decide)
  · rw [if_neg h1] at h
    by_cases h3 : oR 0 9 u ∨ c = u
    · rw [if_pos h3] at h; exact absurd h (by decide)
    · exact ⟨ix_of (vinm h1), vp_in_out (b := 9) (by decide) (fun q => h3 (Or.inl q))⟩
theorem p_takeOver : ∀ (S : yS) (nm ns : Nat) (mu : Nat → Nat) (K : Nat) (a1 a2 : Int32), K ≤ 3000000 → IN S nm ns mu K → P_takeOver S nm ns mu K a1 a2 := by
  intro S nm ns mu K a1 a2 _ h
  have hc : kc_takeOver S nm ns mu a1 a2 = km_takeOver S nm ns mu a1 a2 := by
    obtain ⟨n1, n2, n3, n4, n5, n6, n7, n8, n9, n10, n11, n12, n13, n14, n15, n16, n17, n18, n19, n20, n21⟩ := id h
    refine kTake_c (fun q => ⟨live_iff n18 (ix_of (vinm q)), (n18 _ (ix_of (vinm q))).2.2.1⟩) (fun q => ?_)
    have hu : a2.toNatClampNeg < 10 := oR_lt rfl (by decide) q
    have hd : (S 4 0 a2.toNatClampNeg).toNatClampNeg < 4 := ix_of (n2.2.2.2.1 _ hu)
    rw [← n9 _ hu, ← n10 _ hd]
    exact lt1_iff (n11 _ hd).1
  refine ⟨hc, fun _ => p_zk _ _ _ _ _ _ h, fun hk => ?_⟩
  obtain ⟨hj, hu⟩ := kTake0 hk
  have e := h.2.2.2.2.2.2.2.2.2.2.2.2.2.2.2.2.2.1 _ hj
  exact ⟨(h.1.s (by simp)).s (by simp), hc.symm.trans hk, e.2.2.1.symm, rfl, pass_to h hj hu⟩
theorem gSub_add (F : Nat → Nat → Int32) (d : Nat) (m : Int32) : ∀ (k i : Nat) (a : Int32), gSub F d i (a + m) k = gSub F d i a k + m := by
  intro k
  induction k with
  | zero => intro i a; rfl
  | succ k ih =>
    intro i a
    show gSub F d (i + 1) (a + m - F i d) k = gSub F d (i + 1) (a - F i d) k + m
    rw [← ih]
    congr 1
    grind
theorem kBuy0 {d m a : Int32} (h : kBuy d m a = 0) : d.toNatClampNeg < 4 ∧ ¬ oR 1 5000 m := by
  unfold kBuy at h
  by_cases h1 : oR 0 3 d ∨ oR 1 5000 m
  · rw [if_pos h1] at h; exact absurd h (by decide)
  · exact ⟨oR_lt rfl (by decide) (fun q => h1 (Or.inl q)), fun q => h1 (Or.inr q)⟩
theorem kBuy_c {d m a a' : Int32} (h : ¬ oR 0 3 d → a = a') : kBuy d m a = kBuy d m a' := by
  unfold kBuy
  by_cases h1 : oR 0 3 d ∨ oR 1 5000 m
  · rw [if_pos h1, if_pos h1]
  · rw [h (fun q => h1 (Or.inl q))]
theorem m5000 {m : Int32} (h : ¬ oR 1 5000 m) : 1 ≤ m.toInt ∧ m.toInt ≤ 5000 := by
  have h1 : ¬ m < 1 := fun q => h (Or.inl q)
  have h2 : ¬ 5000 < m := fun q => h (Or.inr q)
  rw [Int32.lt_iff_toInt_lt] at h1 h2
  rw [show (1 : Int32).toInt = 1 by decide] at h1
  rw [show (5000 : Int32).toInt = 5000 by decide] at h2
  omega
theorem add_toInt {x m : Int32} (h1 : -1000000000 ≤ x.toInt + m.toInt) (h2 : x.toInt + m.toInt ≤ 1000000000) : (x + m).toInt = x.toInt + m.toInt := by
  rw [Int32.toInt_add]
  exact Int.bmod_eq_of_le (by omega) (by omega)
theorem sub_toInt {x m : Int32} (h1 : -1000000000 ≤ x.toInt - m.toInt) (h2 : x.toInt - m.toInt ≤ 1000000000) : (x - m).toInt = x.toInt - m.toInt := by
  rw [Int32.toInt_sub]
  exact Int.bmod_eq_of_le (by omega) (by omega)
theorem p_buy : ∀ (S : yS) (nm ns : Nat) (mu : Nat → Nat) (K : Nat) (a1 a2 : Int32), K ≤ 3000000 → IN S nm ns mu K → P_buy S nm ns mu K a1 a2 := by
  intro S nm ns mu K a1 a2 hK h
  have hc : kc_buy S nm ns mu a1 a2 = km_buy S nm ns mu a1 a2 := kBuy_c (fun q => h.2.2.2.2.2.2.2.2.2.1 _ (oR_lt rfl (by decide) q))
  refine ⟨hc, fun _ => p_zk _ _ _ _ _ _ h, fun hk => ?_⟩
  obtain ⟨n1, n2, n3, n4, n5, n6, n7, n8, n9, n10, n11, n12, n13, n14, n15, n16, n17, n18, n19, n20, n21⟩ := h
  obtain ⟨hd, hm⟩ := kBuy0 hk
  have hm5 := m5000 hm
  refine ⟨(n1.s (by simp)).s (by simp), hc.symm.trans hk, congrArg (fun z => z + a2) (n10 _ hd).symm, rfl, (((n1.s (by simp)).s (by simp)).s (by simp)).s (by simp), n2, n3, n4, n5, n6, n7, n8, n9, ?_, ?_, n12, ?_, n14, n15, n16, n17, n18, n19, n20, n21⟩
  · intro j hj
    by_cases e : j = a1.toNatClampNeg <;> simp [sup, e, n10 j hj, n10 _ hd]
  · intro j hj
    have q := n11 j hj
    by_cases e : j = a1.toNatClampNeg
    · subst e
      have e2 : (S 5 0 a1.toNatClampNeg + a2).toInt = _ := add_toInt (by omega) (by omega)
      show 0 ≤ (sup S 5 0 a1.toNatClampNeg (S 5 0 a1.toNatClampNeg + a2) 5 0 a1.toNatClampNeg).toInt ∧ (sup S 5 0 a1.toNatClampNeg (S 5 0 a1.toNatClampNeg + a2) 5 0 a1.toNatClampNeg).toInt ≤ ((K + 5000 : Nat) : Int)
      rw [sup_self, e2]
      omega
    · show 0 ≤ (sup S 5 0 a1.toNatClampNeg (S 5 0 a1.toNatClampNeg + a2) 5 0 j).toInt ∧ (sup S 5 0 a1.toNatClampNeg (S 5 0 a1.toNatClampNeg + a2) 5 0 j).toInt ≤ ((K + 5000 : Nat) : Int)
      rw [sup_ne _ _ (fun z => e z.2.2)]
      omega
  · intro d hd'
    have q := n13 d hd'
    by_cases e : d = a1.toNatClampNeg
    · show gSub (S 22) d 0 (gBy (sup S 6 0 a1.toNatClampNeg (S 6 0 a1.toNatClampNeg + a2) 6) (S 8) d) ns = sup S 5 0 a1.toNatClampNeg (S 5 0 a1.toNatClampNeg + a2) 5 0 d
      have e3 : gBy (sup S 6 0 a1.toNatClampNeg (S 6 0 a1.toNatClampNeg + a2) 6) (S 8) d = gBy (S 6) (S 8) d + a2 := by
        unfold gBy
        rw [e, sup_self]
        grind
      rw [e3, gSub_add, q, e, sup_self]
    · show gSub (S 22) d 0 (gBy (sup S 6 0 a1.toNatClampNeg (S 6 0 a1.toNatClampNeg + a2) 6) (S 8) d) ns = sup S 5 0 a1.toNatClampNeg (S 5 0 a1.toNatClampNeg + a2) 5 0 d
      have e3 : gBy (sup S 6 0 a1.toNatClampNeg (S 6 0 a1.toNatClampNeg + a2) 6) (S 8) d = gBy (S 6) (S 8) d := by
        unfold gBy
        rw [sup_ne _ _ (fun z => e z.2.2)]
      rw [e3, q, sup_ne _ _ (fun z => e z.2.2)]
