/-! minutes charged to a session -/
theorem gSub_c {F G : Nat → Nat → Int32} {d : Nat} : ∀ (k i : Nat) (a : Int32), (∀ z, i ≤ z → z < i + k → G z d = F z d) → gSub G d i a k = gSub F d i a k := by
  intro k
  induction k with
  | zero => intro i a _; rfl
  | succ k ih =>
    intro i a h
    show gSub G d (i + 1) (a - G i d) k = gSub F d (i + 1) (a - F i d) k
    rw [h i (by omega) (by omega)]
    exact ih (i + 1) _ (fun z h1 h2 => h z (by omega) (by omega))
theorem gSub_up {F G : Nat → Nat → Int32} {d j : Nat} {x : Int32} (h1 : G j d = F j d + x) (h2 : ∀ z, z ≠ j → G z d = F z d) : ∀ (k i : Nat) (a : Int32), i ≤ j → j < i + k → gSub G d i a k = gSub F d i a k - x := by
  intro k
  induction k with
  | zero => intro i a h3 h4; omega
  | succ k ih =>
    intro i a h3 h4
    show gSub G d (i + 1) (a - G i d) k = gSub F d (i + 1) (a - F i d) k - x
    by_cases e : i = j
    · subst e
      rw [h1, gSub_c k (i + 1) _ (fun z g1 g2 => h2 z (by omega))]
      have q := gSub_add F d (- x) k (i + 1) (a - F i d)
      rw [show a - (F i d + x) = a - F i d + - x by grind, q]
      grind
    · rw [h2 i e]
      exact ih (i + 1) _ (by omega) (by omega)
theorem gSum_add (F : Nat → Nat → Int32) (c : Int32) : ∀ (k i : Nat) (a : Int32), gSum F i (a + c) k = gSum F i a k + c := by
  intro k
  induction k with
  | zero => intro i a; rfl
  | succ k ih =>
    intro i a
    show gSum F (i + 1) (a + c + gIn F i) k = gSum F (i + 1) (a + gIn F i) k + c
    rw [← ih]
    congr 1
    grind
theorem gSum_c {F G : Nat → Nat → Int32} : ∀ (k i : Nat) (a : Int32), (∀ z, i ≤ z → z < i + k → gIn G z = gIn F z) → gSum G i a k = gSum F i a k := by
  intro k
  induction k with
  | zero => intro i a _; rfl
  | succ k ih =>
    intro i a h
    show gSum G (i + 1) (a + gIn G i) k = gSum F (i + 1) (a + gIn F i) k
    rw [h i (by omega) (by omega)]
    exact ih (i + 1) _ (fun z h1 h2 => h z (by omega) (by omega))
theorem gSum_up {F G : Nat → Nat → Int32} {j : Nat} {x : Int32} (h1 : gIn G j = gIn F j + x) (h2 : ∀ z, z ≠ j → gIn G z = gIn F z) : ∀ (k i : Nat) (a : Int32), i ≤ j → j < i + k → gSum G i a k = gSum F i a k + x := by
  intro k
  induction k with
  | zero => intro i a h3 h4; omega
  | succ k ih =>
    intro i a h3 h4
    show gSum G (i + 1) (a + gIn G i) k = gSum F (i + 1) (a + gIn F i) k + x
    by_cases e : i = j
    · subst e
      rw [h1, gSum_c k (i + 1) _ (fun z g1 g2 => h2 z (by omega)), ← gSum_add]
      congr 1
      grind
    · rw [h2 i e]
      exact ih (i + 1) _ (by omega) (by omega)
theorem chg {A B F5 F49 F6 F8 F22 F58 : Nat → Nat → Int32} {G22 G58 : Nat → Nat → Int32} {ns K d j : Nat} {x : Int32} (hK : K ≤ 3000000) (n10 : cEq F5 F49 4) (n11 : cKb F5 K) (n13 : cB F5 F6 F8 F22 ns) (n14 : cC F22 F58 ns) (hd : d < 4) (hj : j < ns) (hx : 0 ≤ x.toInt ∧ x.toInt ≤ (F5 0 d).toInt)
    (h1 : A 0 d = F5 0 d - x) (h1' : ∀ z, z ≠ d → A 0 z = F5 0 z) (h2 : B 0 d = F49 0 d - x) (h2' : ∀ z, z ≠ d → B 0 z = F49 0 z) (h3 : G22 j d = F22 j d + x) (h3' : ∀ i z, ¬ (i = j ∧ z = d) → G22 i z = F22 i z) (h4 : G58 0 (4 * j + d) = F58 0 (4 * j + d) + x) (h4' : ∀ z, z ≠ 4 * j + d → G58 0 z = F58 0 z) :
    cEq A B 4 ∧ cKb A K ∧ cB A F6 F8 G22 ns ∧ cC G22 G58 ns ∧ gSum G22 0 0 ns = gSum F22 0 0 ns + x := by
  refine ⟨fun z hz => ?_, fun z hz => ?_, fun z hz => ?_, ⟨fun i z hi hz => ?_, fun z hz => ?_⟩, ?_⟩
  · by_cases e : z = d
    · subst e; rw [h1, h2, n10 _ hd]
    · rw [h1' z e, h2' z e, n10 _ hz]
  · have bz := n11 z hz
    by_cases e : z = d
    · subst e
      have e3 : (F5 0 z - x).toInt = _ := sub_toInt (by omega) (by omega)
      rw [h1, e3]
      omega
    · rw [h1' z e]; exact bz
  · by_cases e : z = d
    · subst e
      rw [gSub_up h3 (fun i hi => h3' i z (fun q => hi q.1)) ns 0 _ (by omega) (by omega), n13 z hz, h1]
    · rw [gSub_c ns 0 _ (fun i _ _ => h3' i z (fun q => e q.2)), n13 z hz, h1' z e]
  · by_cases e : i = j ∧ z = d
    · obtain ⟨rfl, rfl⟩ := e
      rw [h3, h4, n14.1 i z hi hz]
    · rw [h3' i z e, h4' _ (by omega), n14.1 i z hi hz]
  · rw [h4' z (by omega)]
    exact n14.2 z hz
  · refine gSum_up (j := j) ?_ (fun z hz => ?_) ns 0 0 (by omega) (by omega)
    · unfold gIn
      have c4 : d = 0 ∨ d = 1 ∨ d = 2 ∨ d = 3 := by omega
      rcases c4 with rfl | rfl | rfl | rfl
      · rw [h3, h3' j 1 (by omega), h3' j 2 (by omega), h3' j 3 (by omega)]; grind
      · rw [h3, h3' j 0 (by omega), h3' j 2 (by omega), h3' j 3 (by omega)]; grind
      · rw [h3, h3' j 0 (by omega), h3' j 1 (by omega), h3' j 3 (by omega)]; grind
      · rw [h3, h3' j 0 (by omega), h3' j 1 (by omega), h3' j 2 (by omega)]; grind
    · unfold gIn
      rw [h3' z 0 (fun q => hz q.1), h3' z 1 (fun q => hz q.1), h3' z 2 (fun q => hz q.1), h3' z 3 (fun q => hz q.1)]
/-! drain -/
theorem kDrain_c {n : Nat} {x a b : Int32} (h : ¬ oN n x → a = b) : kDrain n x a = kDrain n x b := by
  unfold kDrain
  by_cases h1 : oN n x
  · rw [if_pos h1, if_pos h1]
  · rw [h h1]
theorem kDrain0 {n : Nat} {x a : Int32} (h : kDrain n x a = 0) : vp_in x n := by
  unfold kDrain at h
  by_cases h1 : oN n x
  · rw [if_pos h1] at h; exact absurd h (by decide)
  · exact vinm h1
theorem p_drain : ∀ (S : yS) (nm ns : Nat) (mu : Nat → Nat) (K : Nat) (a1 : Int32), K ≤ 3000000 → IN S nm ns mu K → P_drain S nm ns mu K a1 := by
  intro S nm ns mu K a1 _ h
  have h2 := h
  obtain ⟨n1, n2, n3, n4, n5, n6, n7, n8, n9, n10, n11, n12, n13, n14, n15, n16, n17, n18, n19, n20, n21⟩ := h2
  have hc : kc_drain S nm ns mu a1 = km_drain S nm ns mu a1 := kDrain_c (fun q => (n16 _ (ix_of (vinm q))).2.2.2.2.2.1)
  refine ⟨hc, fun _ => p_zk _ _ _ _ _ _ h, fun hk => ?_⟩
  have hx := kDrain0 hk
  have hj := ix_of hx
  have hxj := ix_nI hx (by have := n1.2.2.1; omega)
  have hnm := n1.2.2.1
  generalize hjj : a1.toNatClampNeg = j at *
  have hk' : ∀ a, a ≠ 20 → sc_drain S nm ns mu a1 a = S a := fun a g1 => by
    simp only [sc_drain]
    rw [fRep_k g1, sup_k g1]
  have hx1 : XI (sc_drain S nm ns mu a1) nm ns := n1.of (by rw [hk' 40 (by decide)]) (by rw [hk' 40 (by decide)]) (by rw [hk' 54 (by decide)]) (by rw [hk' 51 (by decide)]) (by rw [hk' 55 (by decide)]) (by rw [hk' 45 (by decide)]) (by rw [hk' 46 (by decide)]) (by rw [hk' 48 (by decide)]; exact n1.2.2.2.2.2.2.2.2.2.1) (by rw [hk' 59 (by decide)]; exact n1.2.2.2.2.2.2.2.2.2.2)
  refine ⟨hx1, ?_, ?_, ?_, ?_⟩
  · simp only [km_drain]
    rw [hk' 48 (by decide)]
    exact hc.symm.trans hk
  · simp only [rm_drain, rc_drain]
    rw [hk' 59 (by decide), hk' 55 (by decide), hjj, hxj, n17 _ hj |>.1]
  · simp only [sm_drain]
    rw [lEmp_o (by decide), sup_off _ _ (by omega), sup_self]
  · refine (IN2.emp (T := sup (sup (sc_drain S nm ns mu a1) 40 0 0 0) 48 0 a1.toNatClampNeg 103) ?_).more (Nat.le_add_right K 5000)
    rw [hjj]
    have k20 : ∀ i k, sup (sup (sc_drain S nm ns mu a1) 40 0 0 0) 48 0 j 103 20 i k = fRep (sup S 20 j 4 103) j 20 i k := fun i k => by
      rw [sup_off _ _ (by omega), sup_off _ _ (by omega)]
      simp only [sc_drain]
      rw [hjj]
    have k5 : ∀ i, fRep (sup S 20 j 4 103) j 20 i 5 = S 20 i 5 := fun i => by rw [fRep_i _ (by omega), sup_ne _ _ (by omega)]
    have k4 : ∀ i, fRep (sup S 20 j 4 103) j 20 i 4 = if i = j then (if S 20 j 5 = 0 then 109 else 103) else S 20 i 4 := fun i => by
      by_cases e : i = j
      · rw [if_pos e, e, fRep_4, sup_self, sup_ne _ _ (by omega)]
        by_cases z : S 20 j 5 = 0
        · rw [if_pos ⟨rfl, z⟩, if_pos z]
        · rw [if_neg (fun q => z q.2), if_neg z]
      · rw [if_neg e, fRep_i _ (fun q => e q.1), sup_ne _ _ (fun q => e q.2.1)]
    have k48 : ∀ i, sup (sup (sc_drain S nm ns mu a1) 40 0 0 0) 48 0 j 103 48 0 i = if i = j then 103 else S 48 0 i := fun i => by
      by_cases e : i = j
      · rw [if_pos e, e, sup_self]
      · rw [if_neg e, sup_ne _ _ (fun q => e q.2.2), sup_off _ _ (by omega), hk' 48 (by decide)]
    refine h.two.of ((hx1.s (by simp)).s48 rfl) (fun a g1 g2 g3 g4 g5 => ?_) (fun z hz => ?_) (fun i z hz => ?_) (fun i z g1 g2 => ?_) ⟨fun i hi => ?_, fun i hi => ?_⟩ (fun i hi => ?_) (fun i hi => ?_) (fun i hi => ?_) (fun i hi => ?_)
    · rw [sup_k g4, sup_k g3, hk' a g1]
    · rw [sup_off _ _ (by omega), sup_ne _ _ (fun q => hz q.2.2), hk' 40 (by decide)]
    · rw [sup_off _ _ (by omega), sup_off _ _ (by omega), hk' 21 (by decide)]
    · rw [k20, fRep_i _ (fun q => g1 q.2), sup_ne _ _ (fun q => g1 q.2.2)]
    · rw [k20, k4]
      by_cases e : i = j
      · rw [if_pos e]; split <;> rfl
      · rw [if_neg e]; exact n3.2.1 i hi
    · rw [sup_off _ _ (by omega), sup_off _ _ (by omega), hk' 21 (by decide)]; exact n3.2.2 i hi
    · rw [k20, k20, k4, k5, k48]
      by_cases e : i = j
      · subst e
        rw [if_pos rfl, if_pos rfl]
        refine ⟨?_, Or.inr (Or.inl rfl)⟩
        by_cases z : S 20 i 5 = 0
        · rw [if_pos z, if_pos ⟨rfl, z⟩]
        · rw [if_neg z, if_neg (fun q => z q.2)]
      · rw [if_neg e, if_neg e]
        refine ⟨?_, (n16 i hi).2.2.2.2.2.2⟩
        rw [if_neg (fun z => (n17 i hi).2 z.1 z.2)]
        exact (n16 i hi).2.2.2.2.2.1
    · rw [k20, k5, sup_row _ _ (by omega), sup_row _ _ (by omega), hk' 59 (by decide)]
      exact (n17 i hi).1
    · rw [sup_off _ _ (by omega), sup_off _ _ (by omega), sup_off _ _ (by omega), sup_off _ _ (by omega), hk' 21 (by decide), hk' 59 (by decide)]
      exact (n18 i hi).2.2.2.2.2
    · rw [sup_off _ _ (by omega), sup_off _ _ (by omega), hk' 59 (by decide)]
      exact n19 i hi
