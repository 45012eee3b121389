/-! general laws of sums and numbers -/
def gSub (F : Nat → Nat → Int32) (d i : Nat) (a : Int32) : Nat → Int32
  | 0 => a
  | k + 1 => gSub F d (i + 1) (a - F i d) k
def gIn (F : Nat → Nat → Int32) (i : Nat) : Int32 := 0 + F i 0 + F i 1 + F i 2 + F i 3
def gSum (F : Nat → Nat → Int32) (i : Nat) (a : Int32) : Nat → Int32
  | 0 => a
  | k + 1 => gSum F (i + 1) (a + gIn F i) k
def gBy (F6 F8 : Nat → Nat → Int32) (d : Nat) : Int32 := F6 0 d + (F8 d 0 - F8 0 d) + (F8 d 1 - F8 1 d) + (F8 d 2 - F8 2 d) + (F8 d 3 - F8 3 d)
theorem sup_k {S : yS} {a b j a' : Nat} {v : Int32} (h : a' ≠ a) : sup S a b j v a' = S a' := by
  funext b' j'
  exact sup_off _ _ (fun q => h q.1)
theorem lSub_g (S : yS) (d : Nat) : ∀ (k i : Nat) (a : Int32), lSub S d i a k = gSub (S 22) d i a k := by
  intro k
  induction k with
  | zero => intro i a; rfl
  | succ k ih => exact fun i a => ih (i + 1) _
theorem gSub_add (F : Nat → Nat → Int32) (d : Nat) (m : Int32) : ∀ (k i : Nat) (a : Int32), gSub F d i (a + m) k = gSub F d i a k + m := by
  intro k
  induction k with
  | zero => intro i a; rfl
  | succ k ih =>
    intro i a
    show gSub F d (i + 1) (a + m - F i d) k = gSub F d (i + 1) (a - F i d) k + m
    rw [← ih]
    congr 1
    grind
/-- what the owed minutes come to, with one of them changed by w -/
theorem gBy_up (F6 F8 G : Nat → Nat → Int32) (t f : Nat) (w : Int32) (ht : t < 4) (hf : f < 4) (hne : f ≠ t) (h1 : G t f = F8 t f + w) (h2 : ∀ d e, ¬ (d = t ∧ e = f) → G d e = F8 d e) (d : Nat) (hd : d < 4) : gBy F6 G d = gBy F6 F8 d + (if d = t then w else if d = f then - w else 0) := by
  have ct : t = 0 ∨ t = 1 ∨ t = 2 ∨ t = 3 := by omega
  have cf : f = 0 ∨ f = 1 ∨ f = 2 ∨ f = 3 := by omega
  have cd : d = 0 ∨ d = 1 ∨ d = 2 ∨ d = 3 := by omega
  unfold gBy
  by_cases e1 : d = t
  · subst e1
    have k : ∀ e, G e d = F8 e d := fun e => h2 e d (fun q => hne q.2.symm)
    rw [if_pos rfl]
    simp only [k]
    rcases cf with rfl | rfl | rfl | rfl
    · rw [h1, h2 d 1 (by omega), h2 d 2 (by omega), h2 d 3 (by omega)]; grind
    · rw [h1, h2 d 0 (by omega), h2 d 2 (by omega), h2 d 3 (by omega)]; grind
    · rw [h1, h2 d 0 (by omega), h2 d 1 (by omega), h2 d 3 (by omega)]; grind
    · rw [h1, h2 d 0 (by omega), h2 d 1 (by omega), h2 d 2 (by omega)]; grind
  · rw [if_neg e1]
    have k : ∀ e, G d e = F8 d e := fun e => h2 d e (fun q => e1 q.1)
    by_cases e2 : d = f
    · subst e2
      rw [if_pos rfl]
      simp only [k]
      rcases ct with rfl | rfl | rfl | rfl
      · rw [h1, h2 1 d (by omega), h2 2 d (by omega), h2 3 d (by omega)]; grind
      · rw [h1, h2 0 d (by omega), h2 2 d (by omega), h2 3 d (by omega)]; grind
      · rw [h1, h2 0 d (by omega), h2 1 d (by omega), h2 3 d (by omega)]; grind
      · rw [h1, h2 0 d (by omega), h2 1 d (by omega), h2 2 d (by omega)]; grind
    · rw [if_neg e2]
      have k2 : ∀ e, G e d = F8 e d := fun e => h2 e d (fun q => e2 q.2)
      simp only [k, k2]
      grind
theorem gSub_c {F G : Nat → Nat → Int32} {d : Nat} : ∀ (k i : Nat) (a : Int32), (∀ z, i ≤ z → z < i + k → G z d = F z d) → gSub G d i a k = gSub F d i a k := by
  intro k
  induction k with
  | zero => intro i a _; rfl
  | succ k ih =>
    intro i a h
    show gSub G d (i + 1) (a - G i d) k = gSub F d (i + 1) (a - F i d) k
    rw [h i (by omega) (by omega)]
    exact ih (i + 1) _ (fun z h1 h2 => h z (by omega) (by omega))
theorem gSub_up {F G : Nat → Nat → Int32} {d j : Nat} {x : Int32} (h1 : G j d = F j d + x) (h2 : ∀ z, z ≠ j → G z d = F z d) : ∀ (k i : Nat) (a : Int32), i ≤ j → j < i + k → gSub G d i a k = gSub F d i a k - x := by
  intro k
  induction k with
  | zero => intro i a h3 h4; omega
  | succ k ih =>
    intro i a h3 h4
    show gSub G d (i + 1) (a - G i d) k = gSub F d (i + 1) (a - F i d) k - x
    by_cases e : i = j
    · subst e
      rw [h1, gSub_c k (i + 1) _ (fun z g1 g2 => h2 z (by omega))]
      have q := gSub_add F d (- x) k (i + 1) (a - F i d)
      rw [show a - (F i d + x) = a - F i d + - x by grind, q]
      grind
    · rw [h2 i e]
      exact ih (i + 1) _ (by omega) (by omega)
theorem gSum_add (F : Nat → Nat → Int32) (c : Int32) : ∀ (k i : Nat) (a : Int32), gSum F i (a + c) k = gSum F i a k + c := by
  intro k
  induction k with
  | zero => intro i a; rfl
  | succ k ih =>
    intro i a
    show gSum F (i + 1) (a + c + gIn F i) k = gSum F (i + 1) (a + gIn F i) k + c
    rw [← ih]
    congr 1
    grind
theorem gSum_c {F G : Nat → Nat → Int32} : ∀ (k i : Nat) (a : Int32), (∀ z, i ≤ z → z < i + k → gIn G z = gIn F z) → gSum G i a k = gSum F i a k := by
  intro k
  induction k with
  | zero => intro i a _; rfl
  | succ k ih =>
    intro i a h
    show gSum G (i + 1) (a + gIn G i) k = gSum F (i + 1) (a + gIn F i) k
    rw [h i (by omega) (by omega)]
    exact ih (i + 1) _ (fun z h1 h2 => h z (by omega) (by omega))
theorem gSum_up {F G : Nat → Nat → Int32} {j : Nat} {x : Int32} (h1 : gIn G j = gIn F j + x) (h2 : ∀ z, z ≠ j → gIn G z = gIn F z) : ∀ (k i : Nat) (a : Int32), i ≤ j → j < i + k → gSum G i a k = gSum F i a k + x := by
  intro k
  induction k with
  | zero => intro i a h3 h4; omega
  | succ k ih =>
    intro i a h3 h4
    show gSum G (i + 1) (a + gIn G i) k = gSum F (i + 1) (a + gIn F i) k + x
    by_cases e : i = j
    · subst e
      rw [h1, gSum_c k (i + 1) _ (fun z g1 g2 => h2 z (by omega)), ← gSum_add]
      congr 1
      grind
    · rw [h2 i e]
      exact ih (i + 1) _ (by omega) (by omega)
theorem gSub_last {F : Nat → Nat → Int32} {d : Nat} : ∀ (k i : Nat) (a : Int32), gSub F d i a (k + 1) = gSub F d i a k - F (i + k) d := by
  intro k
  induction k with
  | zero => intro i a; rfl
  | succ k ih =>
    intro i a
    show gSub F d (i + 1) _ (k + 1) = gSub F d (i + 1) _ k - _
    rw [ih, show i + 1 + k = i + (k + 1) by omega]
theorem gSum_last {F : Nat → Nat → Int32} : ∀ (k i : Nat) (a : Int32), gSum F i a (k + 1) = gSum F i a k + gIn F (i + k) := by
  intro k
  induction k with
  | zero => intro i a; rfl
  | succ k ih =>
    intro i a
    show gSum F (i + 1) _ (k + 1) = gSum F (i + 1) _ k + _
    rw [ih, show i + 1 + k = i + (k + 1) by omega]
theorem nI_sub_le {q c : Nat} (hq : q ≤ 1000) (hc : c ≤ 1000) : nI q - nI c ≤ 0 ↔ q ≤ c := by
  have h1 : (nI q - nI c).toInt = (q : Int) - c := pk_sub_toInt (by omega) (by omega)
  rw [Int32.le_iff_toInt_le, h1, show (0 : Int32).toInt = 0 by decide]
  omega
theorem nI_lt_iff {a b : Nat} (ha : a ≤ 1000) (hb : b ≤ 1000) : nI a < nI b ↔ a < b := by
  rw [Int32.lt_iff_toInt_lt, nI_toInt (by omega), nI_toInt (by omega)]
  omega
theorem nI_le_iff {a b : Nat} (ha : a ≤ 1000) (hb : b ≤ 1000) : nI a ≤ nI b ↔ a ≤ b := by
  rw [Int32.le_iff_toInt_le, nI_toInt (by omega), nI_toInt (by omega)]
  omega
theorem oR_lt {a b x : Int32} {n : Nat} (ha : a = 0) (hb : b.toInt + 1 = n) (h : ¬ oR a b x) : x.toNatClampNeg < n := by
  subst ha
  exact ix_of (vp_in_out hb h)
theorem kDep0 {d : Int32} (h : kDep d = 0) : d.toNatClampNeg < 4 := by
  unfold kDep at h
  by_cases h2 : oR 0 3 d
  · rw [if_pos h2] at h; exact absurd h (by decide)
  · exact oR_lt rfl (by decide) h2
theorem kChg0 {n : Nat} {x d : Int32} (h : kChg n x d = 0) : x.toNatClampNeg < n ∧ d.toNatClampNeg < 4 := by
  unfold kChg at h
  by_cases h1 : oN n x
  · rw [if_pos h1] at h; exact absurd h (by decide)
  · rw [if_neg h1] at h
    by_cases h2 : oR 0 3 d
    · rw [if_pos h2] at h; exact absurd h (by decide)
    · exact ⟨ix_of (vinm h1), oR_lt rfl (by decide) h2⟩
theorem lt_of0 {n : Nat} {x : Int32} (h : kIdx n x = 0) : x.toNatClampNeg < n := by
  refine ix_of (vinm fun q => ?_)
  rw [kIdx, if_pos q] at h
  exact absurd h (by decide)
