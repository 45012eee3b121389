/-! the numbers while sessions end: a machine's condition may be ahead of the reference's -/
def cM2 (F P R T H : Nat → Nat → Int32) (nm : Nat) : Prop := ∀ i, i < nm → F i 0 = nI i ∧ F i 1 = P 0 i ∧ F i 2 = R 0 i ∧ F i 3 = T 0 i ∧ (∃ n : Nat, 1 ≤ n ∧ n ≤ 4 ∧ T 0 i = nI n) ∧ F i 4 = (if H 0 i = 103 ∧ F i 5 = 0 then 109 else H 0 i) ∧ (H 0 i = 117 ∨ H 0 i = 103 ∨ H 0 i = 109)
def cV2 (F E M : Nat → Nat → Int32) (nm ns : Nat) : Prop := ∀ i, i < nm → F i 5 = mOn (E 0) (M 0) (nI i) 0 0 ns
def IN2 (S : yS) (nm ns : Nat) (mu : Nat → Nat) (K : Nat) : Prop := XI S nm ns ∧ CI S nm ns ∧ cX (S 20) (S 21) nm ns ∧ S 0 0 9 = S 40 0 1 ∧ S 0 0 10 = S 40 0 21 ∧ cEq (S 1) (S 42) 3 ∧ cEq (S 2) (S 43) 3 ∧ cEq (S 3) (S 60) 3 ∧ cEq (S 4) (S 51) 10 ∧ cEq (S 5) (S 49) 4 ∧ cKb (S 5) K ∧ cO (S 8) (S 50) ∧ cB (S 5) (S 6) (S 8) (S 22) ns ∧ cC (S 22) (S 58) ns ∧ S 40 0 22 = gSum (S 22) 0 0 ns ∧ cM2 (S 20) (S 45) (S 46) (S 47) (S 48) nm ∧ cV2 (S 20) (S 59) (S 55) nm ns ∧ cS (S 21) (S 53) (S 54) (S 55) (S 56) (S 57) (S 59) ns mu ∧ cE (S 59) ns ∧ (∀ i, i < ns → mu i < nm) ∧ ∀ i, i < ns → vp_in (S 21 i 0) 10
theorem IN.two {S : yS} {nm ns K : Nat} {mu : Nat → Nat} (h : IN S nm ns mu K) : IN2 S nm ns mu K := by
  obtain ⟨n1, n2, n3, n4, n5, n6, n7, n8, n9, n10, n11, n12, n13, n14, n15, n16, n17, n18, n19, n20, n21⟩ := h
  refine ⟨n1, n2, n3, n4, n5, n6, n7, n8, n9, n10, n11, n12, n13, n14, n15, fun i hi => ?_, fun i hi => (n17 i hi).1, n18, n19, n20, n21⟩
  obtain ⟨e0, e1, e2, e3, e4, e5, e6⟩ := n16 i hi
  refine ⟨e0, e1, e2, e3, e4, ?_, e6⟩
  rw [if_neg (fun z => (n17 i hi).2 z.1 z.2)]
  exact e5
theorem lEmp_at {ns : Nat} : ∀ (k s : Nat) (T : yS) (i : Nat), lEmp ns T s k 48 0 i = if s ≤ i ∧ i < s + k then (if T 48 0 i = 103 ∧ mOn (T 59 0) (T 55 0) (nI i) 0 0 ns = 0 then 109 else T 48 0 i) else T 48 0 i := by
  intro k
  induction k with
  | zero => intro s T i; rw [if_neg (by omega)]; rfl
  | succ k ih =>
    intro s T i
    show lEmp ns (fEmp1 T ns s) (s + 1) k 48 0 i = _
    rw [ih]
    have r1 : fEmp1 T ns s 59 0 = T 59 0 := sup_row _ _ (by omega)
    have r2 : fEmp1 T ns s 55 0 = T 55 0 := sup_row _ _ (by omega)
    rw [r1, r2]
    by_cases e : i = s
    · subst e
      rw [if_neg (by omega), if_pos (by omega)]
      exact sup_self _ _ _ _ _
    · have r3 : fEmp1 T ns s 48 0 i = T 48 0 i := sup_ne _ _ (fun z => e z.2.2)
      rw [r3]
      by_cases h : s + 1 ≤ i ∧ i < s + 1 + k
      · rw [if_pos h, if_pos (show s ≤ i ∧ i < s + (k + 1) by omega)]
      · rw [if_neg h, if_neg (by omega)]
theorem lEmp_k {ns a k s : Nat} {T : yS} (h : a ≠ 48) : lEmp ns T s k a = T a := by
  funext b j
  exact lEmp_o h k s T
/-- the reference's machines catch up -/
theorem IN2.emp {T : yS} {nm ns K : Nat} {mu : Nat → Nat} (h : IN2 T nm ns mu K) : IN (lEmp ns T 0 nm) nm ns mu K := by
  obtain ⟨n1, n2, n3, n4, n5, n6, n7, n8, n9, n10, n11, n12, n13, n14, n15, n16, n17, n18, n19, n20, n21⟩ := h
  have e : ∀ a, a ≠ 48 → lEmp ns T 0 nm a = T a := fun a ha => lEmp_k ha
  refine ⟨XI.emp (S := T) _ _ _ n1, n2.of (by rw [e 9 (by decide)]) (by rw [e 11 (by decide)]) (fun i => by rw [e 21 (by decide)]) (fun i => by rw [e 4 (by decide)]) (fun i => by rw [e 20 (by decide)]), by rw [e 20 (by decide), e 21 (by decide)]; exact n3, by rw [e 0 (by decide), e 40 (by decide)]; exact n4, by rw [e 0 (by decide), e 40 (by decide)]; exact n5, by rw [e 1 (by decide), e 42 (by decide)]; exact n6, by rw [e 2 (by decide), e 43 (by decide)]; exact n7, by rw [e 3 (by decide), e 60 (by decide)]; exact n8, by rw [e 4 (by decide), e 51 (by decide)]; exact n9, by rw [e 5 (by decide), e 49 (by decide)]; exact n10, by rw [e 5 (by decide)]; exact n11, by rw [e 8 (by decide), e 50 (by decide)]; exact n12, by rw [e 5 (by decide), e 6 (by decide), e 8 (by decide), e 22 (by decide)]; exact n13, by rw [e 22 (by decide), e 58 (by decide)]; exact n14, by rw [e 40 (by decide), e 22 (by decide)]; exact n15, ?_, ?_, by rw [e 21 (by decide), e 53 (by decide), e 54 (by decide), e 55 (by decide), e 56 (by decide), e 57 (by decide), e 59 (by decide)]; exact n18, by rw [e 59 (by decide)]; exact n19, n20, by rw [e 21 (by decide)]; exact n21⟩
  · intro i hi
    obtain ⟨e0, e1, e2, e3, e4, e5, e6⟩ := n16 i hi
    rw [e 20 (by decide), e 45 (by decide), e 46 (by decide), e 47 (by decide), lEmp_at, if_pos (by omega), ← n17 i hi]
    refine ⟨e0, e1, e2, e3, e4, e5, ?_⟩
    by_cases z : T 48 0 i = 103 ∧ T 20 i 5 = 0
    · rw [if_pos z]; exact Or.inr (Or.inr rfl)
    · rw [if_neg z]; exact e6
  · intro i hi
    rw [e 20 (by decide), e 59 (by decide), e 55 (by decide), lEmp_at, if_pos (by omega), ← n17 i hi]
    refine ⟨rfl, fun q z => ?_⟩
    by_cases y : T 48 0 i = 103 ∧ T 20 i 5 = 0
    · rw [if_pos y] at q; exact absurd q (by decide)
    · rw [if_neg y] at q; exact y ⟨q, z⟩
theorem IN2.more {S : yS} {nm ns K K' : Nat} {mu : Nat → Nat} (h : IN2 S nm ns mu K) (hK : K ≤ K') : IN2 S nm ns mu K' := by
  obtain ⟨n1, n2, n3, n4, n5, n6, n7, n8, n9, n10, n11, n12, n13, n14, n15, n16, n17, n18, n19, n20, n21⟩ := h
  exact ⟨n1, n2, n3, n4, n5, n6, n7, n8, n9, n10, n11.up hK, n12, n13, n14, n15, n16, n17, n18, n19, n20, n21⟩
theorem fRep_i {S : yS} {i k : Nat} (m : Nat) (h : ¬ (i = m ∧ k = 4)) : fRep S m 20 i k = S 20 i k := by
  unfold fRep
  split
  · exact sup_ne _ _ (fun q => h q.2)
  · rfl
theorem fRep_4 (S : yS) (m : Nat) : fRep S m 20 m 4 = if S 20 m 4 = 103 ∧ S 20 m 5 = 0 then 109 else S 20 m 4 := by
  unfold fRep
  by_cases h : S 20 m 4 = 103 ∧ S 20 m 5 = 0
  · rw [if_pos h, if_pos h, sup_self]
  · rw [if_neg h, if_neg h]
theorem fRep_k {S : yS} {m a : Nat} (h : a ≠ 20) : fRep S m a = S a := by
  funext b j
  exact fRep_o (fun q => h q.1)
/-- only machines' and sessions' numbers change -/
theorem IN2.of {S T : yS} {nm ns K : Nat} {mu : Nat → Nat} (h : IN2 S nm ns mu K) (h1 : XI T nm ns) (hk : ∀ a, a ≠ 20 → a ≠ 21 → a ≠ 40 → a ≠ 48 → a ≠ 59 → T a = S a) (h40 : ∀ j, j ≠ 0 → T 40 0 j = S 40 0 j) (h21 : ∀ i j, j ≠ 6 → T 21 i j = S 21 i j) (h20 : ∀ i j, j ≠ 4 → j ≠ 5 → T 20 i j = S 20 i j) (hX : (∀ i, i < nm → chOk (T 20 i 4)) ∧ ∀ i, i < ns → chOk (T 21 i 6))
    (h4 : ∀ i, i < nm → T 20 i 4 = (if T 48 0 i = 103 ∧ T 20 i 5 = 0 then 109 else T 48 0 i) ∧ (T 48 0 i = 117 ∨ T 48 0 i = 103 ∨ T 48 0 i = 109)) (h5 : cV2 (T 20) (T 59) (S 55) nm ns) (h6 : ∀ i, i < ns → (T 21 i 6 = 97 ∧ T 59 0 i = 0) ∨ (T 21 i 6 = T 59 0 i ∧ T 59 0 i ≠ 0 ∧ T 59 0 i ≠ 97)) (h7 : cE (T 59) ns) : IN2 T nm ns mu K := by
  obtain ⟨n1, n2, n3, n4, n5, n6, n7, n8, n9, n10, n11, n12, n13, n14, n15, n16, n17, n18, n19, n20, n21⟩ := h
  have e : ∀ a, a ≠ 20 → a ≠ 21 → a ≠ 40 → a ≠ 48 → a ≠ 59 → T a = S a := hk
  refine ⟨h1, n2.of (by rw [e 9 (by decide) (by decide) (by decide) (by decide) (by decide)]) (by rw [e 11 (by decide) (by decide) (by decide) (by decide) (by decide)]) (fun i => h21 i 4 (by decide)) (fun i => by rw [e 4 (by decide) (by decide) (by decide) (by decide) (by decide)]) (fun i => h20 i 1 (by decide) (by decide)), ⟨fun i hi => by rw [h20 i 2 (by decide) (by decide)]; exact n3.1 i hi, hX.1, hX.2⟩, ?_, ?_, ?_, ?_, ?_, ?_, ?_, ?_, ?_, ?_, ?_, ?_, fun i hi => ?_, ?_, fun i hi => ?_, h7, n20, fun i hi => by rw [h21 i 0 (by decide)]; exact n21 i hi⟩
  · rw [e 0 (by decide) (by decide) (by decide) (by decide) (by decide), h40 1 (by decide)]; exact n4
  · rw [e 0 (by decide) (by decide) (by decide) (by decide) (by decide), h40 21 (by decide)]; exact n5
  · rw [e 1 (by decide) (by decide) (by decide) (by decide) (by decide), e 42 (by decide) (by decide) (by decide) (by decide) (by decide)]; exact n6
  · rw [e 2 (by decide) (by decide) (by decide) (by decide) (by decide), e 43 (by decide) (by decide) (by decide) (by decide) (by decide)]; exact n7
  · rw [e 3 (by decide) (by decide) (by decide) (by decide) (by decide), e 60 (by decide) (by decide) (by decide) (by decide) (by decide)]; exact n8
  · rw [e 4 (by decide) (by decide) (by decide) (by decide) (by decide), e 51 (by decide) (by decide) (by decide) (by decide) (by decide)]; exact n9
  · rw [e 5 (by decide) (by decide) (by decide) (by decide) (by decide), e 49 (by decide) (by decide) (by decide) (by decide) (by decide)]; exact n10
  · rw [e 5 (by decide) (by decide) (by decide) (by decide) (by decide)]; exact n11
  · rw [e 8 (by decide) (by decide) (by decide) (by decide) (by decide), e 50 (by decide) (by decide) (by decide) (by decide) (by decide)]; exact n12
  · rw [e 5 (by decide) (by decide) (by decide) (by decide) (by decide), e 6 (by decide) (by decide) (by decide) (by decide) (by decide), e 8 (by decide) (by decide) (by decide) (by decide) (by decide), e 22 (by decide) (by decide) (by decide) (by decide) (by decide)]; exact n13
  · rw [e 22 (by decide) (by decide) (by decide) (by decide) (by decide), e 58 (by decide) (by decide) (by decide) (by decide) (by decide)]; exact n14
  · rw [h40 22 (by decide), e 22 (by decide) (by decide) (by decide) (by decide) (by decide)]; exact n15
  · obtain ⟨q0, q1, q2, q3, q4, q5, q6⟩ := n16 i hi
    rw [h20 i 0 (by decide) (by decide), h20 i 1 (by decide) (by decide), h20 i 2 (by decide) (by decide), h20 i 3 (by decide) (by decide), e 45 (by decide) (by decide) (by decide) (by decide) (by decide), e 46 (by decide) (by decide) (by decide) (by decide) (by decide), e 47 (by decide) (by decide) (by decide) (by decide) (by decide)]
    exact ⟨q0, q1, q2, q3, q4, (h4 i hi).1, (h4 i hi).2⟩
  · rw [e 55 (by decide) (by decide) (by decide) (by decide) (by decide)]; exact h5
  · obtain ⟨q0, q1, q2, q3, q4, q5⟩ := n18 i hi
    rw [h21 i 0 (by decide), h21 i 2 (by decide), h21 i 4 (by decide), h21 i 5 (by decide), e 53 (by decide) (by decide) (by decide) (by decide) (by decide), e 54 (by decide) (by decide) (by decide) (by decide) (by decide), e 55 (by decide) (by decide) (by decide) (by decide) (by decide), e 56 (by decide) (by decide) (by decide) (by decide) (by decide), e 57 (by decide) (by decide) (by decide) (by decide) (by decide)]
    exact ⟨q0, q1, q2, q3, q4, h6 i hi⟩
/-- the session j ends, on both sides -/
theorem IN2.fin {S : yS} {nm ns K : Nat} {mu : Nat → Nat} {j : Nat} {how k0 : Int32} (h : IN2 S nm ns mu K) (hj : j < ns) (hl : S 59 0 j = 0) (h0 : how ≠ 0) (h97 : how ≠ 97) (hc : chOk how) : IN2 (sup (sup (fEnd S (mu j) j how) 40 0 0 k0) 59 0 j how) nm ns mu K := by
  have hh := h
  obtain ⟨n1, n2, n3, n4, n5, n6, n7, n8, n9, n10, n11, n12, n13, n14, n15, n16, n17, n18, n19, n20, n21⟩ := hh
  have hm := n20 j hj
  have hmo : S 55 0 j = nI (mu j) := (n18 j hj).2.2.2.2.1
  have hns := n1.2.2.2.1
  have hnm := n1.2.2.1
  have k20 : ∀ i k, sup (sup (fEnd S (mu j) j how) 40 0 0 k0) 59 0 j how 20 i k = fEnd S (mu j) j how 20 i k := fun i k => (sup_off _ _ (by omega)).trans (sup_off _ _ (by omega))
  have k48 : sup (sup (fEnd S (mu j) j how) 40 0 0 k0) 59 0 j how 48 = S 48 := by
    rw [sup_k (by decide), sup_k (by decide)]
    unfold fEnd
    rw [fRep_k (by decide), sup_k (by decide), sup_k (by decide)]
  have k5 : ∀ i, fEnd S (mu j) j how 20 i 5 = if i = mu j then S 20 (mu j) 5 - 1 else S 20 i 5 := by
    intro i
    unfold fEnd
    rw [fRep_i _ (by omega)]
    by_cases e : i = mu j
    · rw [if_pos e, e, sup_self]
    · rw [if_neg e, sup_ne _ _ (fun q => e q.2.1), sup_off _ _ (by omega)]
  have k4 : ∀ i, fEnd S (mu j) j how 20 i 4 = if i = mu j then (if S 20 (mu j) 4 = 103 ∧ S 20 (mu j) 5 - 1 = 0 then 109 else S 20 (mu j) 4) else S 20 i 4 := by
    intro i
    unfold fEnd
    by_cases e : i = mu j
    · rw [if_pos e, e, fRep_4, sup_self, sup_ne _ _ (by omega), sup_off _ _ (by omega)]
    · rw [if_neg e, fRep_i _ (fun q => e q.1), sup_ne _ _ (fun q => e q.2.1), sup_off _ _ (by omega)]
  have k59 : ∀ i, sup (sup (fEnd S (mu j) j how) 40 0 0 k0) 59 0 j how 59 0 i = if i = j then how else S 59 0 i := by
    intro i
    by_cases e : i = j
    · rw [if_pos e, e, sup_self]
    · rw [if_neg e, sup_ne _ _ (fun q => e q.2.2), sup_off _ _ (by omega)]
      unfold fEnd
      rw [fRep_k (by decide), sup_off _ _ (by omega), sup_off _ _ (by omega)]
  have cnt : ∀ i, mOn (sup (sup (fEnd S (mu j) j how) 40 0 0 k0) 59 0 j how 59 0) (S 55 0) (nI i) 0 0 ns = mOn (S 59 0) (S 55 0) (nI i) 0 0 ns - (if S 55 0 j = nI i then 1 else 0) := fun i =>
    mOn_end hl (by rw [k59, if_pos rfl]; exact h0) (fun z hz => by rw [k59, if_neg hz]) ns 0 0 (by omega) (by omega)
  have live1 : ∃ c, S 20 (mu j) 5 = nI (c + 1) ∧ c ≤ 40 := by
    obtain ⟨c, hc1, -, hc2⟩ := mOn_nat (sup (sup (fEnd S (mu j) j how) 40 0 0 k0) 59 0 j how 59 0) (S 55 0) (nI (mu j)) ns 0 0
    have q := cnt (mu j)
    rw [hmo, if_pos rfl] at q
    refine ⟨c, ?_, by omega⟩
    rw [n17 _ hm, ← nI_1' c, ← hc1]
    show _ = mOn _ _ _ 0 0 ns + 1
    rw [q]
    grind
  obtain ⟨c, hc1, hc2⟩ := live1
  have hne : S 20 (mu j) 5 ≠ 0 := by
    rw [hc1]
    exact fun q => absurd ((nI_eq0 (by omega)).mp q) (by omega)
  have h4m : S 20 (mu j) 4 = S 48 0 (mu j) := by
    have q := (n16 _ hm).2.2.2.2.2.1
    rw [if_neg (fun z => hne z.2)] at q
    exact q
  refine h.of ?_ (fun a g1 g2 g3 g4 g5 => ?_) (fun z hz => ?_) (fun i z hz => ?_) (fun i z g1 g2 => ?_) ⟨fun i hi => ?_, fun i hi => ?_⟩ (fun i hi => ?_) (fun i hi => ?_) (fun i hi => ?_) (fun i hi => ?_)
  · refine XI.s59 (XI.s ?_ (by simp)) hc
    have e : ∀ a, a ≠ 20 → a ≠ 21 → fEnd S (mu j) j how a = S a := fun a g1 g2 => by
      unfold fEnd
      rw [fRep_k g1, sup_k g1, sup_k g2]
    exact n1.of (by rw [e 40 (by decide) (by decide)]) (by rw [e 40 (by decide) (by decide)]) (by rw [e 54 (by decide) (by decide)]) (by rw [e 51 (by decide) (by decide)]) (by rw [e 55 (by decide) (by decide)]) (by rw [e 45 (by decide) (by decide)]) (by rw [e 46 (by decide) (by decide)]) (by rw [e 48 (by decide) (by decide)]; exact n1.2.2.2.2.2.2.2.2.2.1) (by rw [e 59 (by decide) (by decide)]; exact n1.2.2.2.2.2.2.2.2.2.2)
  · rw [sup_k g5, sup_k g3]
    unfold fEnd
    rw [fRep_k g1, sup_k g1, sup_k g2]
  · rw [sup_off _ _ (by omega), sup_ne _ _ (fun q => hz q.2.2)]
    unfold fEnd
    rw [fRep_k (by decide), sup_off _ _ (by omega), sup_off _ _ (by omega)]
  · rw [sup_off _ _ (by omega), sup_off _ _ (by omega)]
    unfold fEnd
    rw [fRep_k (by decide), sup_off _ _ (by omega), sup_ne _ _ (fun q => hz q.2.2)]
  · rw [k20]
    unfold fEnd
    rw [fRep_i _ (fun q => g1 q.2), sup_ne _ _ (fun q => g2 q.2.2), sup_off _ _ (by omega)]
  · rw [k20, k4]
    by_cases e : i = mu j
    · rw [if_pos e]
      split
      · rfl
      · exact n3.2.1 _ hm
    · rw [if_neg e]; exact n3.2.1 i hi
  · rw [sup_off _ _ (by omega), sup_off _ _ (by omega)]
    unfold fEnd
    rw [fRep_k (by decide), sup_off _ _ (by omega)]
    by_cases e : i = j
    · rw [e, sup_self]; exact hc
    · rw [sup_ne _ _ (fun q => e q.2.1)]; exact n3.2.2 i hi
  · rw [k20, k20, k4, k5, k48]
    refine ⟨?_, (n16 i hi).2.2.2.2.2.2⟩
    by_cases e : i = mu j
    · subst e
      rw [if_pos rfl, if_pos rfl, h4m]
    · rw [if_neg e, if_neg e]
      exact (n16 i hi).2.2.2.2.2.1
  · rw [k20, k5, cnt, hmo]
    by_cases e : i = mu j
    · subst e
      rw [if_pos rfl, if_pos rfl, n17 _ hi]
    · rw [if_neg e, if_neg (fun q => e ((nI_6 (by omega) (by omega)).mp q).symm), n17 i hi]
      grind
  · rw [sup_off _ _ (by omega), sup_off _ _ (by omega), k59]
    unfold fEnd
    rw [fRep_k (by decide), sup_off _ _ (by omega)]
    by_cases e : i = j
    · rw [if_pos e, e, sup_self]
      exact Or.inr ⟨rfl, h0, h97⟩
    · rw [if_neg e, sup_ne _ _ (fun q => e q.2.1)]
      exact (n18 i hi).2.2.2.2.2
  · rw [k59, if_neg (by omega)]
    exact n19 i hi
theorem qIn_g (S : yS) (i : Nat) : qIn S i = gIn (S 22) i := rfl
theorem p_logOut : ∀ (S : yS) (nm ns : Nat) (mu : Nat → Nat) (K : Nat) (a1 : Int32), K ≤ 3000000 → IN S nm ns mu K → P_logOut S nm ns mu K a1 := by
  intro S nm ns mu K a1 _ h
  have hc : kc_logOut S nm ns mu a1 = km_logOut S nm ns mu a1 := kLive_c (fun q => live_iff h.2.2.2.2.2.2.2.2.2.2.2.2.2.2.2.2.2.1 (ix_of (vinm q)))
  refine ⟨hc, fun _ => p_zk _ _ _ _ _ _ h, fun hk => ?_⟩
  obtain ⟨hj, hl⟩ := kLive0 hk
  have hl2 := (live_iff h.2.2.2.2.2.2.2.2.2.2.2.2.2.2.2.2.2.1 hj).mp hl
  have hk' : ∀ a, a ≠ 20 → a ≠ 21 → sc_logOut S nm ns mu a1 a = S a := fun a g1 g2 => by
    simp only [sc_logOut]
    unfold fEnd
    rw [fRep_k g1, sup_k g1, sup_k g2]
  have h2 := h
  obtain ⟨n1, n2, n3, n4, n5, n6, n7, n8, n9, n10, n11, n12, n13, n14, n15, n16, n17, n18, n19, n20, n21⟩ := h2
  refine ⟨?_, ?_, ?_, ?_, ?_⟩
  · exact n1.of (by rw [hk' 40 (by decide) (by decide)]) (by rw [hk' 40 (by decide) (by decide)]) (by rw [hk' 54 (by decide) (by decide)]) (by rw [hk' 51 (by decide) (by decide)]) (by rw [hk' 55 (by decide) (by decide)]) (by rw [hk' 45 (by decide) (by decide)]) (by rw [hk' 46 (by decide) (by decide)]) (by rw [hk' 48 (by decide) (by decide)]; exact n1.2.2.2.2.2.2.2.2.2.1) (by rw [hk' 59 (by decide) (by decide)]; exact n1.2.2.2.2.2.2.2.2.2.2)
  · simp only [km_logOut]
    rw [hk' 59 (by decide) (by decide)]
    exact hc.symm.trans hk
  · simp only [rm_logOut]
    rw [hk' 58 (by decide) (by decide)]
    show mIn (S 58 0) a1.toNatClampNeg = gIn (sc_logOut S nm ns mu a1 22) a1.toNatClampNeg
    rw [hk' 22 (by decide) (by decide)]
    unfold mIn gIn
    rw [n14.1 _ 0 hj (by decide), n14.1 _ 1 hj (by decide), n14.1 _ 2 hj (by decide), n14.1 _ 3 hj (by decide)]
  · simp only [sm_logOut]
    rw [lEmp_o (by decide), sup_off _ _ (by omega), sup_self]
  · exact ((h.two.fin hj hl2 (by decide) (by decide) rfl).emp).more (by omega)
