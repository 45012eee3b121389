/-! THE NUMBERS: every call keeps the two sides in step -/
theorem cKb.up {F : Nat → Nat → Int32} {K K' : Nat} (h : cKb F K) (hK : K ≤ K') : cKb F K' := fun j hj => ⟨(h j hj).1, Int.le_trans (h j hj).2 (by omega)⟩
theorem p_zk : ∀ (S : yS) (nm ns : Nat) (mu : Nat → Nat) (K : Nat) (k : Int32), IN S nm ns mu K → IN (sup S 40 0 0 k) nm ns mu (K + 5000) := by
  intro S nm ns mu K k h
  obtain ⟨n1, n2, n3, n4, n5, n6, n7, n8, n9, n10, n11, n12, n13, n14, n15, n16, n17, n18, n19, n20, n21⟩ := h
  exact ⟨n1.s (by simp), n2, n3, n4, n5, n6, n7, n8, n9, n10, n11.up (by omega), n12, n13, n14, n15, n16, n17, n18, n19, n20, n21⟩
theorem lt_of0 {n : Nat} {x : Int32} (h : kIdx n x = 0) : x.toNatClampNeg < n := by
  refine ix_of (vinm fun q => ?_)
  rw [kIdx, if_pos q] at h
  exact absurd h (by decide)
theorem oR_lt {a b x : Int32} {n : Nat} (ha : a = 0) (hb : b.toInt + 1 = n) (h : ¬ oR a b x) : x.toNatClampNeg < n := by
  subst ha
  exact ix_of (vp_in_out hb h)
theorem lSub_g (S : yS) (d : Nat) : ∀ (k i : Nat) (a : Int32), lSub S d i a k = gSub (S 22) d i a k := by
  intro k
  induction k with
  | zero => intro i a; rfl
  | succ k ih => exact fun i a => ih (i + 1) _
theorem p_machine : ∀ (S : yS) (nm ns : Nat) (mu : Nat → Nat) (K : Nat) (a1 : Int32), K ≤ 3000000 → IN S nm ns mu K → P_machine S nm ns mu K a1 := by
  intro S nm ns mu K a1 _ h
  refine ⟨rfl, fun _ => p_zk _ _ _ _ _ _ h, fun hk => ⟨h.1, hk, ?_, sup_self _ _ _ _ _, p_zk _ _ _ _ _ _ h⟩⟩
  obtain ⟨n1, n2, n3, n4, n5, n6, n7, n8, n9, n10, n11, n12, n13, n14, n15, n16, n17, n18, n19, n20, n21⟩ := h
  exact (n16 _ (lt_of0 hk)).2.2.2.2.2.1.symm
theorem p_machineOf : ∀ (S : yS) (nm ns : Nat) (mu : Nat → Nat) (K : Nat) (a1 : Int32), K ≤ 3000000 → IN S nm ns mu K → P_machineOf S nm ns mu K a1 := by
  intro S nm ns mu K a1 _ h
  refine ⟨rfl, fun _ => p_zk _ _ _ _ _ _ h, fun hk => ⟨h.1, hk, ?_, sup_self _ _ _ _ _, p_zk _ _ _ _ _ _ h⟩⟩
  obtain ⟨n1, n2, n3, n4, n5, n6, n7, n8, n9, n10, n11, n12, n13, n14, n15, n16, n17, n18, n19, n20, n21⟩ := h
  exact ((n18 _ (lt_of0 hk)).2.2.2.2.1).trans (n16 _ (n20 _ (lt_of0 hk))).1.symm
theorem p_userOf : ∀ (S : yS) (nm ns : Nat) (mu : Nat → Nat) (K : Nat) (a1 : Int32), K ≤ 3000000 → IN S nm ns mu K → P_userOf S nm ns mu K a1 := by
  intro S nm ns mu K a1 _ h
  refine ⟨rfl, fun _ => p_zk _ _ _ _ _ _ h, fun hk => ⟨h.1, hk, ?_, sup_self _ _ _ _ _, p_zk _ _ _ _ _ _ h⟩⟩
  obtain ⟨n1, n2, n3, n4, n5, n6, n7, n8, n9, n10, n11, n12, n13, n14, n15, n16, n17, n18, n19, n20, n21⟩ := h
  exact (n18 _ (lt_of0 hk)).2.2.1.symm
theorem kChg0 {n : Nat} {x d : Int32} (h : kChg n x d = 0) : x.toNatClampNeg < n ∧ d.toNatClampNeg < 4 := by
  unfold kChg at h
  by_cases h1 : oN n x
  · rw [if_pos h1] at h; exact absurd h (by decide)
  · rw [if_neg h1] at h
    by_cases h2 : oR 0 3 d
    · rw [if_pos h2] at h; exact absurd h (by decide)
    · exact ⟨ix_of (vinm h1), oR_lt rfl (by decide) h2⟩
theorem p_charged : ∀ (S : yS) (nm ns : Nat) (mu : Nat → Nat) (K : Nat) (a1 a2 : Int32), K ≤ 3000000 → IN S nm ns mu K → P_charged S nm ns mu K a1 a2 := by
  intro S nm ns mu K a1 a2 _ h
  refine ⟨rfl, fun _ => p_zk _ _ _ _ _ _ h, fun hk => ⟨h.1, hk, ?_, sup_self _ _ _ _ _, p_zk _ _ _ _ _ _ h⟩⟩
  obtain ⟨n1, n2, n3, n4, n5, n6, n7, n8, n9, n10, n11, n12, n13, n14, n15, n16, n17, n18, n19, n20, n21⟩ := h
  exact (n14.1 _ _ (kChg0 hk).1 (kChg0 hk).2).symm
theorem kDep0 {d : Int32} (h : kDep d = 0) : d.toNatClampNeg < 4 := by
  unfold kDep at h
  by_cases h2 : oR 0 3 d
  · rw [if_pos h2] at h; exact absurd h (by decide)
  · exact oR_lt rfl (by decide) h2
theorem p_minutes : ∀ (S : yS) (nm ns : Nat) (mu : Nat → Nat) (K : Nat) (a1 : Int32), K ≤ 3000000 → IN S nm ns mu K → P_minutes S nm ns mu K a1 := by
  intro S nm ns mu K a1 _ h
  refine ⟨rfl, fun _ => p_zk _ _ _ _ _ _ h, fun hk => ⟨h.1, hk, ?_, sup_self _ _ _ _ _, p_zk _ _ _ _ _ _ h⟩⟩
  obtain ⟨n1, n2, n3, n4, n5, n6, n7, n8, n9, n10, n11, n12, n13, n14, n15, n16, n17, n18, n19, n20, n21⟩ := h
  exact (n10 _ (kDep0 hk)).symm
theorem p_minutesBySessions : ∀ (S : yS) (nm ns : Nat) (mu : Nat → Nat) (K : Nat) (a1 : Int32), K ≤ 3000000 → IN S nm ns mu K → P_minutesBySessions S nm ns mu K a1 := by
  intro S nm ns mu K a1 _ h
  refine ⟨rfl, fun _ => p_zk _ _ _ _ _ _ h, fun hk => ⟨h.1, hk, ?_, sup_self _ _ _ _ _, p_zk _ _ _ _ _ _ h⟩⟩
  obtain ⟨n1, n2, n3, n4, n5, n6, n7, n8, n9, n10, n11, n12, n13, n14, n15, n16, n17, n18, n19, n20, n21⟩ := h
  show S 49 0 a1.toNatClampNeg = mBy S a1.toNatClampNeg ns
  rw [← n10 _ (kDep0 hk), ← n13 _ (kDep0 hk)]
  exact (lSub_g S a1.toNatClampNeg ns 0 _).symm
/-- live on both sides -/
theorem live_iff {F O U M B D E : Nat → Nat → Int32} {ns : Nat} {mu : Nat → Nat} (h : cS F O U M B D E ns mu) {i : Nat} (hi : i < ns) : F i 6 = 97 ↔ E 0 i = 0 := by
  rcases (h i hi).2.2.2.2.2 with ⟨q1, q2⟩ | ⟨q1, q2, q3⟩
  · exact iff_of_true q1 q2
  · exact iff_of_false (fun q => q3 (q1.symm.trans q)) q2
theorem p_state : ∀ (S : yS) (nm ns : Nat) (mu : Nat → Nat) (K : Nat) (a1 : Int32), K ≤ 3000000 → IN S nm ns mu K → P_state S nm ns mu K a1 := by
  intro S nm ns mu K a1 _ h
  refine ⟨rfl, fun _ => p_zk _ _ _ _ _ _ h, fun hk => ⟨h.1, hk, ?_, sup_self _ _ _ _ _, p_zk _ _ _ _ _ _ h⟩⟩
  obtain ⟨n1, n2, n3, n4, n5, n6, n7, n8, n9, n10, n11, n12, n13, n14, n15, n16, n17, n18, n19, n20, n21⟩ := h
  have hj := lt_of0 hk
  obtain ⟨e1, e2, e3, e4, e5, e6⟩ := n18 _ hj
  show (if S 59 0 a1.toNatClampNeg = 0 then (if S 54 0 a1.toNatClampNeg = S 53 0 a1.toNatClampNeg then (97 : Int32) else 116) else S 59 0 a1.toNatClampNeg) = qState S a1.toNatClampNeg
  unfold qState
  rw [e3, e1]
  rcases e6 with ⟨q1, q2⟩ | ⟨q1, q2, q3⟩
  · rw [if_pos q2, q1]
    by_cases q : S 54 0 a1.toNatClampNeg = S 53 0 a1.toNatClampNeg
    · rw [if_pos q, if_neg (fun z => z.2 q)]
    · rw [if_neg q, if_pos ⟨rfl, q⟩]
  · rw [if_neg q2, if_neg (fun z => q3 (q1.symm.trans z.1)), q1]
theorem ymin_eq (a b : Int32) : ymin a b = if a < b then a else b := by
  unfold ymin
  by_cases h1 : b < a
  · rw [if_pos h1, if_neg (fun q => by rw [Int32.lt_iff_toInt_lt] at *; omega)]
  · rw [if_neg h1]
    by_cases h2 : a < b
    · rw [if_pos h2]
    · rw [if_neg h2]
      apply Int32.toInt.inj
      rw [Int32.lt_iff_toInt_lt] at *
      omega
theorem ymax_eq (a b : Int32) : ymax a b = if b < a then a else b := by
  unfold ymax
  by_cases h1 : a < b
  · rw [if_pos h1, if_neg (fun q => by rw [Int32.lt_iff_toInt_lt] at *; omega)]
  · rw [if_neg h1]
    by_cases h2 : b < a
    · rw [if_pos h2]
    · rw [if_neg h2]
      apply Int32.toInt.inj
      rw [Int32.lt_iff_toInt_lt] at *
      omega
theorem rot (a t u : Int32) : a - t + u = u + a - t := by
  rw [Int32.sub_eq_add_neg, Int32.sub_eq_add_neg]
  ac_rfl
theorem kLive_c {n : Nat} {x : Int32} {P Q : Prop} [Decidable P] [Decidable Q] (h : ¬ oN n x → (P ↔ Q)) : kLive n x P = kLive n x Q := by
  unfold kLive
  by_cases h1 : oN n x
  · rw [if_pos h1, if_pos h1]
  · rw [if_neg h1, if_neg h1]
    by_cases hp : P
    · rw [if_pos hp, if_pos ((h h1).mp hp)]
    · rw [if_neg hp, if_neg (fun q => hp ((h h1).mpr q))]
theorem kLive0 {n : Nat} {x : Int32} {P : Prop} [Decidable P] (h : kLive n x P = 0) : x.toNatClampNeg < n ∧ P := by
  unfold kLive at h
  by_cases h1 : oN n x
  · rw [if_pos h1] at h; exact absurd h (by decide)
  · rw [if_neg h1] at h
    by_cases hp : P
    · exact ⟨ix_of (vinm h1), hp⟩
    · rw [if_neg hp] at h; exact absurd h (by decide)
theorem p_endsIn : ∀ (S : yS) (nm ns : Nat) (mu : Nat → Nat) (K : Nat) (a1 : Int32), K ≤ 3000000 → IN S nm ns mu K → P_endsIn S nm ns mu K a1 := by
  intro S nm ns mu K a1 _ h
  have hc : kc_endsIn S nm ns mu a1 = km_endsIn S nm ns mu a1 := kLive_c (fun q => live_iff h.2.2.2.2.2.2.2.2.2.2.2.2.2.2.2.2.2.1 (ix_of (vinm q)))
  refine ⟨hc, fun _ => p_zk _ _ _ _ _ _ h, fun hk => ⟨h.1, hc ▸ hk, ?_, sup_self _ _ _ _ _, p_zk _ _ _ _ _ _ h⟩⟩
  have hj := (kLive0 hk).1
  have hcx := h.2.1.2.2.2.2
  obtain ⟨n1, n2, n3, n4, n5, n6, n7, n8, n9, n10, n11, n12, n13, n14, n15, n16, n17, n18, n19, n20, n21⟩ := h
  obtain ⟨e1, e2, e3, e4, e5, e6⟩ := n18 _ hj
  have hm := n20 _ hj
  have hmi : (S 55 0 a1.toNatClampNeg).toNatClampNeg = mu a1.toNatClampNeg := by rw [e5, nI_clamp (by have := n1.2.2.1; omega)]
  have hp : S 45 0 (mu a1.toNatClampNeg) = S 20 (mu a1.toNatClampNeg) 1 := (n16 _ hm).2.1.symm
  have hp3 : (S 20 (mu a1.toNatClampNeg) 1).toNatClampNeg < 3 := ix_of (hcx _ hm)
  show rm_endsIn S nm ns mu a1 = rc_endsIn S nm ns mu a1
  unfold rm_endsIn rc_endsIn
  rw [ymax_eq, ymin_eq, hmi, hp, ← n6 _ hp3, ← n7 _ hp3, ← n4, ← e4, ← e2, rot, rot]
