/-! live sessions on a machine, as a number -/
theorem mOn_add (e mo : Nat → Int32) (m c : Int32) : ∀ (k i : Nat) (a : Int32), mOn e mo m i (a + c) k = mOn e mo m i a k + c := by
  intro k
  induction k with
  | zero => intro i a; rfl
  | succ k ih =>
    intro i a
    show mOn e mo m (i + 1) (a + c + if e i = 0 ∧ mo i = m then 1 else 0) k = mOn e mo m (i + 1) (a + if e i = 0 ∧ mo i = m then 1 else 0) k + c
    rw [← ih]
    congr 1
    grind
theorem mOn_nat (e mo : Nat → Int32) (m : Int32) : ∀ (k i n : Nat), ∃ n', mOn e mo m i (nI n) k = nI n' ∧ n ≤ n' ∧ n' ≤ n + k := by
  intro k
  induction k with
  | zero => exact fun i n => ⟨n, rfl, by omega, by omega⟩
  | succ k ih =>
    intro i n
    show ∃ n', mOn e mo m (i + 1) (nI n + if e i = 0 ∧ mo i = m then 1 else 0) k = nI n' ∧ n ≤ n' ∧ n' ≤ n + (k + 1)
    by_cases h : e i = 0 ∧ mo i = m
    · rw [if_pos h, nI_1' n]
      obtain ⟨n', h1, h2, h3⟩ := ih (i + 1) (n + 1)
      exact ⟨n', h1, by omega, by omega⟩
    · rw [if_neg h, show nI n + 0 = nI n by grind]
      obtain ⟨n', h1, h2, h3⟩ := ih (i + 1) n
      exact ⟨n', h1, by omega, by omega⟩
theorem mOn_c {e e' mo mo' : Nat → Int32} {m : Int32} : ∀ (k i : Nat) (a : Int32), (∀ j, i ≤ j → j < i + k → e j = e' j ∧ mo j = mo' j) → mOn e mo m i a k = mOn e' mo' m i a k := by
  intro k
  induction k with
  | zero => intro i a _; rfl
  | succ k ih =>
    intro i a h
    show mOn e mo m (i + 1) (a + if e i = 0 ∧ mo i = m then 1 else 0) k = mOn e' mo' m (i + 1) (a + if e' i = 0 ∧ mo' i = m then 1 else 0) k
    rw [(h i (by omega) (by omega)).1, (h i (by omega) (by omega)).2]
    exact ih (i + 1) _ (fun j h1 h2 => h j (by omega) (by omega))
/-- the session j ends -/
theorem mOn_end {e e' mo : Nat → Int32} {m : Int32} {j : Nat} (hj0 : e j = 0) (hj1 : e' j ≠ 0) (he : ∀ i, i ≠ j → e' i = e i) : ∀ (k i : Nat) (a : Int32), i ≤ j → j < i + k → mOn e' mo m i a k = mOn e mo m i a k - (if mo j = m then 1 else 0) := by
  intro k
  induction k with
  | zero => intro i a h1 h2; omega
  | succ k ih =>
    intro i a h1 h2
    show mOn e' mo m (i + 1) (a + if e' i = 0 ∧ mo i = m then 1 else 0) k = mOn e mo m (i + 1) (a + if e i = 0 ∧ mo i = m then 1 else 0) k - _
    by_cases h : i = j
    · subst h
      rw [if_neg (fun q => hj1 q.1), mOn_c (e' := e) (mo' := mo) k (i + 1) _ (fun q h3 h4 => ⟨he q (by omega), rfl⟩)]
      by_cases hm : mo i = m
      · rw [if_pos ⟨hj0, hm⟩, if_pos hm, mOn_add, mOn_add]
        grind
      · rw [if_neg (fun q => hm q.2), if_neg hm]
        grind
    · rw [he i h]
      exact ih (i + 1) _ (by omega) (by omega)
theorem nI_sub_le {q c : Nat} (hq : q ≤ 1000) (hc : c ≤ 1000) : nI q - nI c ≤ 0 ↔ q ≤ c := by
  have h1 : (nI q - nI c).toInt = (q : Int) - c := pk_sub_toInt (by omega) (by omega)
  rw [Int32.le_iff_toInt_le, h1, show (0 : Int32).toInt = 0 by decide]
  omega
theorem nI_lt_iff {a b : Nat} (ha : a ≤ 1000) (hb : b ≤ 1000) : nI a < nI b ↔ a < b := by
  rw [Int32.lt_iff_toInt_lt, nI_toInt (by omega), nI_toInt (by omega)]
  omega
theorem nI_le_iff {a b : Nat} (ha : a ≤ 1000) (hb : b ≤ 1000) : nI a ≤ nI b ↔ a ≤ b := by
  rw [Int32.le_iff_toInt_le, nI_toInt (by omega), nI_toInt (by omega)]
  omega
def enc (b : Option Nat) : Int32 := match b with
  | none => -1
  | some j => nI j
theorem nI_m1 {j : Nat} (hj : j ≤ 1000) : nI j ≠ -1 := by
  intro q
  have := congrArg Int32.toInt q
  rw [nI_toInt (by omega)] at this
  revert this
  rw [show (-1 : Int32).toInt = -1 by decide]
  omega
theorem best_eq {S : yS} {nm ns : Nat} (hns : ns ≤ 40) (hnm : nm ≤ 6) (hM : cM (S 20) (S 45) (S 46) (S 47) (S 48) nm) (hV : cV (S 20) (S 59) (S 55) (S 48) nm ns) (x : Int32) : ∀ (k i : Nat) (b : Option Nat), i + k = nm → (∀ j, b = some j → j < nm) → mNx (S 59 0) (S 55 0) (S 45 0) (S 48 0) (S 47 0) x ns i (enc b) k = enc (lBest S x i b k) ∧ ∀ j, lBest S x i b k = some j → j < nm := by
  intro k
  induction k with
  | zero => exact fun i b _ hb => ⟨rfl, hb⟩
  | succ k ih =>
    intro i b hik hb
    obtain ⟨e0, e1, e2, e3, ⟨q, hq1, hq2, e4⟩, e5, e6⟩ := hM i (by omega)
    obtain ⟨f1, -⟩ := hV i (by omega)
    obtain ⟨c, hc, -, hc2⟩ := mOn_nat (S 59 0) (S 55 0) (nI i) ns 0 0
    have hci : mOn (S 59 0) (S 55 0) (nI i) 0 0 ns = nI c := hc
    simp only [mNx, lBest]
    rw [e5, e1, e3, e4, f1, hci]
    by_cases h1 : S 48 0 i = 117 ∧ S 45 0 i = x
    · rw [if_pos h1]
      by_cases h2 : q ≤ c
      · rw [if_pos ((nI_sub_le (by omega) (by omega)).mpr h2), if_neg (fun z => absurd ((nI_lt_iff (by omega) (by omega)).mp z.2.2) (by omega))]
        exact ih (i + 1) b (by omega) hb
      · rw [if_neg (fun z => h2 ((nI_sub_le (by omega) (by omega)).mp z)), if_pos ⟨h1.2, h1.1, (nI_lt_iff (by omega) (by omega)).mpr (by omega)⟩]
        cases b with
        | none =>
          rw [if_pos (show enc none = -1 from rfl)]
          exact ih (i + 1) (some i) (by omega) (fun j hj => by cases hj; omega)
        | some j =>
          have hj := hb j rfl
          obtain ⟨c', hc', -, hc2'⟩ := mOn_nat (S 59 0) (S 55 0) (nI j) ns 0 0
          have hcj : mOn (S 59 0) (S 55 0) (enc (some j)) 0 0 ns = nI c' := hc'
          have hcj2 : S 20 j 5 = nI c' := (hV j hj).1.trans hc'
          rw [if_neg (show enc (some j) ≠ -1 from nI_m1 (by omega)), hcj]
          dsimp only
          rw [hcj2]
          by_cases h3 : c' ≤ c
          · rw [if_pos ((nI_le_iff (by omega) (by omega)).mpr h3), if_neg (fun z => absurd ((nI_lt_iff (by omega) (by omega)).mp z) (by omega))]
            exact ih (i + 1) (some j) (by omega) hb
          · rw [if_neg (fun z => h3 ((nI_le_iff (by omega) (by omega)).mp z)), if_pos ((nI_lt_iff (by omega) (by omega)).mpr (by omega))]
            exact ih (i + 1) (some i) (by omega) (fun j hj => by cases hj; omega)
    · rw [if_neg h1, if_neg (fun z => h1 ⟨z.2.1, z.1⟩)]
      exact ih (i + 1) b (by omega) hb
theorem best0 {S : yS} {nm ns : Nat} (hns : ns ≤ 40) (hnm : nm ≤ 6) (hM : cM (S 20) (S 45) (S 46) (S 47) (S 48) nm) (hV : cV (S 20) (S 59) (S 55) (S 48) nm ns) (x : Int32) : mNx (S 59 0) (S 55 0) (S 45 0) (S 48 0) (S 47 0) x ns 0 (-1) nm = enc (lBest S x 0 none nm) ∧ ∀ j, lBest S x 0 none nm = some j → j < nm :=
  best_eq hns hnm hM hV x nm 0 none (by omega) (fun j h => by cases h)
theorem kNext_c {p : Int32} {b : Option Nat} {nm : Nat} (hnm : nm ≤ 6) (hb : ∀ j, b = some j → j < nm) : kNext p b = xNext p (enc b) := by
  unfold kNext xNext
  by_cases h : oR 0 2 p
  · rw [if_pos h, if_pos h]
  · rw [if_neg h, if_neg h]
    cases b with
    | none => rfl
    | some j => exact (if_neg (nI_m1 (by have := hb j rfl; omega))).symm
theorem p_next : ∀ (S : yS) (nm ns : Nat) (mu : Nat → Nat) (K : Nat) (a1 : Int32), K ≤ 3000000 → IN S nm ns mu K → P_next S nm ns mu K a1 := by
  intro S nm ns mu K a1 _ h
  have h2 := h
  obtain ⟨n1, n2, n3, n4, n5, n6, n7, n8, n9, n10, n11, n12, n13, n14, n15, n16, n17, n18, n19, n20, n21⟩ := h2
  obtain ⟨g1, g2⟩ := best0 n1.2.2.2.1 n1.2.2.1 n16 n17 a1
  have hc : kc_next S nm ns mu a1 = km_next S nm ns mu a1 := by
    unfold kc_next km_next
    rw [g1]
    exact kNext_c n1.2.2.1 g2
  refine ⟨hc, fun _ => p_zk _ _ _ _ _ _ h, fun hk => ⟨h.1, hc.symm.trans hk, ?_, sup_self _ _ _ _ _, p_zk _ _ _ _ _ _ h⟩⟩
  show mNx (S 59 0) (S 55 0) (S 45 0) (S 48 0) (S 47 0) a1 ns 0 (-1) nm = rc_next S nm ns mu a1
  rw [g1]
  unfold rc_next
  have hk2 : kNext a1 (lBest S a1 0 none nm) = 0 := hk
  cases hb : lBest S a1 0 none nm with
  | none =>
    rw [hb] at hk2
    unfold kNext at hk2
    split at hk2
    · exact absurd hk2 (by decide)
    · exact absurd hk2 (by decide)
  | some j => exact (n16 j (g2 j hb)).1.symm
theorem free_eq {S : yS} {nm ns : Nat} (hM : cM (S 20) (S 45) (S 46) (S 47) (S 48) nm) (hV : cV (S 20) (S 59) (S 55) (S 48) nm ns) (x : Int32) : ∀ (k i : Nat) (a : Int32), i + k = nm → mFree (S 59 0) (S 55 0) (S 45 0) (S 48 0) (S 47 0) x ns i a k = lFree S x i a k := by
  intro k
  induction k with
  | zero => intro i a _; rfl
  | succ k ih =>
    intro i a hik
    obtain ⟨e0, e1, e2, e3, -, e5, e6⟩ := hM i (by omega)
    obtain ⟨f1, -⟩ := hV i (by omega)
    show mFree (S 59 0) (S 55 0) (S 45 0) (S 48 0) (S 47 0) x ns (i + 1) (a + if S 45 0 i = x ∧ S 48 0 i = 117 then S 47 0 i - mOn (S 59 0) (S 55 0) (nI i) 0 0 ns else 0) k = lFree S x (i + 1) (if S 20 i 4 = 117 ∧ S 20 i 1 = x then a + (S 20 i 3 - S 20 i 5) else a) k
    rw [e5, e1, e3, f1, ih (i + 1) _ (by omega)]
    congr 1
    by_cases h1 : S 48 0 i = 117 ∧ S 45 0 i = x
    · rw [if_pos h1, if_pos ⟨h1.2, h1.1⟩]
    · rw [if_neg h1, if_neg (fun z => h1 ⟨z.2, z.1⟩)]
      grind
theorem p_free : ∀ (S : yS) (nm ns : Nat) (mu : Nat → Nat) (K : Nat) (a1 : Int32), K ≤ 3000000 → IN S nm ns mu K → P_free S nm ns mu K a1 := by
  intro S nm ns mu K a1 _ h
  refine ⟨rfl, fun _ => p_zk _ _ _ _ _ _ h, fun hk => ⟨h.1, hk, ?_, sup_self _ _ _ _ _, p_zk _ _ _ _ _ _ h⟩⟩
  obtain ⟨n1, n2, n3, n4, n5, n6, n7, n8, n9, n10, n11, n12, n13, n14, n15, n16, n17, n18, n19, n20, n21⟩ := h
  exact free_eq n16 n17 a1 nm 0 0 (by omega)
theorem kPut_c {n : Nat} {x a b : Int32} (h : ¬ oN n x → a = b) : kPut n x a = kPut n x b := by
  unfold kPut
  by_cases h1 : oN n x
  · rw [if_pos h1, if_pos h1]
  · rw [h h1]
theorem kPut0 {n : Nat} {x a : Int32} (h : kPut n x a = 0) : vp_in x n := by
  unfold kPut at h
  by_cases h1 : oN n x
  · rw [if_pos h1] at h; exact absurd h (by decide)
  · exact vinm h1
theorem p_putUp : ∀ (S : yS) (nm ns : Nat) (mu : Nat → Nat) (K : Nat) (a1 : Int32), K ≤ 3000000 → IN S nm ns mu K → P_putUp S nm ns mu K a1 := by
  intro S nm ns mu K a1 _ h
  have h2 := h
  obtain ⟨n1, n2, n3, n4, n5, n6, n7, n8, n9, n10, n11, n12, n13, n14, n15, n16, n17, n18, n19, n20, n21⟩ := h2
  have hc : kc_putUp S nm ns mu a1 = km_putUp S nm ns mu a1 := kPut_c (fun q => (n16 _ (ix_of (vinm q))).2.2.2.2.2.1)
  refine ⟨hc, fun _ => p_zk _ _ _ _ _ _ h, fun hk => ?_⟩
  have hx := kPut0 hk
  have hj := ix_of hx
  have hxj := ix_nI hx (by have := n1.2.2.1; omega)
  generalize a1.toNatClampNeg = j at *
  subst hxj
  refine ⟨n1.s (by simp), hc.symm.trans hk, ?_, rfl, ?_⟩
  · show S 47 0 (nI j).toNatClampNeg - mOn (S 59 0) (S 55 0) (nI j) 0 0 ns = S 20 (nI j).toNatClampNeg 3 - S 20 (nI j).toNatClampNeg 5
    rw [nI_clamp (by have := n1.2.2.1; omega), (n16 _ hj).2.2.2.1, (n17 _ hj).1]
  · show IN (sup (sup (sup S 20 (nI j).toNatClampNeg 4 117) 40 0 0 0) 48 0 (nI j).toNatClampNeg 117) nm ns mu (K + 5000)
    rw [nI_clamp (by have := n1.2.2.1; omega)]
    refine ⟨((n1.s (by simp)).s (by simp)).s48 rfl, n2.of rfl rfl (fun i => rfl) (fun i => rfl) (fun i => by simp [sup]), ⟨fun i hi => ?_, fun i hi => ?_, n3.2.2⟩, n4, n5, n6, n7, n8, n9, n10, n11.up (by omega), n12, n13, n14, n15, ?_, ?_, n18, n19, n20, n21⟩
    · have := n3.1 i hi; simpa [sup] using this
    · have := n3.2.1 i hi
      show chOk (sup S 20 j 4 117 20 i 4)
      by_cases e : i = j
      · rw [e, sup_self]; rfl
      · rw [sup_ne _ _ (fun z => e z.2.1)]; exact this
    · intro i hi
      have q := n16 i hi
      by_cases e : i = j
      · subst e
        simp only [sup]
        simp
        exact ⟨q.1, q.2.1, q.2.2.1, q.2.2.2.1, q.2.2.2.2.1⟩
      · simp only [sup]
        simp [e]
        exact q
    · intro i hi
      have q := n17 i hi
      by_cases e : i = j
      · subst e
        simp only [sup]
        simp
        exact q.1
      · simp only [sup]
        simp [e]
        exact q
