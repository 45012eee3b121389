/-! lend and give back -/
theorem kLend_c {f t m a a' : Int32} (h : ¬ oR 0 3 f → a = a') : kLend f t m a = kLend f t m a' := by
  unfold kLend
  by_cases h1 : oR 0 3 f ∨ oR 0 3 t ∨ f = t ∨ oR 1 5000 m
  · rw [if_pos h1, if_pos h1]
  · rw [h (fun q => h1 (Or.inl q))]
theorem two_0 {f t m : Int32} (h1 : ¬ (oR 0 3 f ∨ oR 0 3 t ∨ f = t ∨ oR 1 5000 m)) : f.toNatClampNeg < 4 ∧ t.toNatClampNeg < 4 ∧ f.toNatClampNeg ≠ t.toNatClampNeg ∧ 1 ≤ m.toInt ∧ m.toInt ≤ 5000 := by
  have hf := two_f h1
  have ht := two_t h1
  refine ⟨ix_of hf, ix_of ht, fun q => ?_, m5000 (fun q => h1 (Or.inr (Or.inr (Or.inr q))))⟩
  exact h1 (Or.inr (Or.inr (Or.inl ((ix_nI hf (by omega)).trans ((congrArg nI q).trans (ix_nI ht (by omega)).symm)))))
theorem kLend0' {f t m a : Int32} (h : kLend f t m a = 0) : ¬ (oR 0 3 f ∨ oR 0 3 t ∨ f = t ∨ oR 1 5000 m) ∧ ¬ a < m := by
  unfold kLend at h
  by_cases h1 : oR 0 3 f ∨ oR 0 3 t ∨ f = t ∨ oR 1 5000 m
  · rw [if_pos h1] at h; exact absurd h (by decide)
  · rw [if_neg h1] at h
    by_cases h2 : a < m
    · rw [if_pos h2] at h; exact absurd h (by decide)
    · exact ⟨h1, h2⟩
theorem kGive_c {f t m a a' o o' : Int32} (h : ¬ oR 0 3 f → a = a') (h2 : ¬ oR 0 3 f → ¬ oR 0 3 t → o = o') : kGive f t m o a = kGive f t m o' a' := by
  unfold kGive
  by_cases h1 : oR 0 3 f ∨ oR 0 3 t ∨ f = t ∨ oR 1 5000 m
  · rw [if_pos h1, if_pos h1]
  · rw [h (fun q => h1 (Or.inl q)), h2 (fun q => h1 (Or.inl q)) (fun q => h1 (Or.inr (Or.inl q)))]
theorem kGive0' {f t m o a : Int32} (h : kGive f t m o a = 0) : ¬ (oR 0 3 f ∨ oR 0 3 t ∨ f = t ∨ oR 1 5000 m) ∧ ¬ a < m := by
  unfold kGive at h
  by_cases h1 : oR 0 3 f ∨ oR 0 3 t ∨ f = t ∨ oR 1 5000 m
  · rw [if_pos h1] at h; exact absurd h (by decide)
  · rw [if_neg h1] at h
    by_cases h2 : o < m
    · rw [if_pos h2] at h; exact absurd h (by decide)
    · rw [if_neg h2] at h
      by_cases h3 : a < m
      · rw [if_pos h3] at h; exact absurd h (by decide)
      · exact ⟨h1, h3⟩
theorem fMove_k {S : yS} {f t a : Nat} {m : Int32} (h : a ≠ 5) : fMove S f t m a = S a := by
  funext b j
  unfold fMove
  rw [sup_off _ _ (fun q => h q.1), sup_off _ _ (fun q => h q.1)]
theorem sup_k {S : yS} {a b j a' : Nat} {v : Int32} (h : a' ≠ a) : sup S a b j v a' = S a' := by
  funext b' j'
  exact sup_off _ _ (fun q => h q.1)
theorem fMove_f {S : yS} {f t : Nat} {m : Int32} (h : f ≠ t) : fMove S f t m 5 0 f = S 5 0 f - m := by
  unfold fMove
  rw [sup_ne _ _ (fun q => h q.2.2), sup_self]
theorem fMove_t {S : yS} {f t : Nat} {m : Int32} (h : f ≠ t) : fMove S f t m 5 0 t = S 5 0 t + m := by
  unfold fMove
  rw [sup_self, sup_ne _ _ (fun q => h q.2.2.symm)]
theorem fMove_o {S : yS} {f t j : Nat} {m : Int32} (h : j ≠ f) (h2 : j ≠ t) : fMove S f t m 5 0 j = S 5 0 j := by
  unfold fMove
  rw [sup_ne _ _ (fun q => h2 q.2.2), sup_ne _ _ (fun q => h q.2.2)]
/-- what the owed minutes come to, with one of them changed by w -/
theorem gBy_up (F6 F8 G : Nat → Nat → Int32) (t f : Nat) (w : Int32) (ht : t < 4) (hf : f < 4) (hne : f ≠ t) (h1 : G t f = F8 t f + w) (h2 : ∀ d e, ¬ (d = t ∧ e = f) → G d e = F8 d e) (d : Nat) (hd : d < 4) : gBy F6 G d = gBy F6 F8 d + (if d = t then w else if d = f then - w else 0) := by
  have ct : t = 0 ∨ t = 1 ∨ t = 2 ∨ t = 3 := by omega
  have cf : f = 0 ∨ f = 1 ∨ f = 2 ∨ f = 3 := by omega
  have cd : d = 0 ∨ d = 1 ∨ d = 2 ∨ d = 3 := by omega
  unfold gBy
  by_cases e1 : d = t
  · subst e1
    have k : ∀ e, G e d = F8 e d := fun e => h2 e d (fun q => hne q.2.symm)
    rw [if_pos rfl]
    simp only [k]
    rcases cf with rfl | rfl | rfl | rfl
    · rw [h1, h2 d 1 (by omega), h2 d 2 (by omega), h2 d 3 (by omega)]; grind
    · rw [h1, h2 d 0 (by omega), h2 d 2 (by omega), h2 d 3 (by omega)]; grind
    · rw [h1, h2 d 0 (by omega), h2 d 1 (by omega), h2 d 3 (by omega)]; grind
    · rw [h1, h2 d 0 (by omega), h2 d 1 (by omega), h2 d 2 (by omega)]; grind
  · rw [if_neg e1]
    have k : ∀ e, G d e = F8 d e := fun e => h2 d e (fun q => e1 q.1)
    by_cases e2 : d = f
    · subst e2
      rw [if_pos rfl]
      simp only [k]
      rcases ct with rfl | rfl | rfl | rfl
      · rw [h1, h2 1 d (by omega), h2 2 d (by omega), h2 3 d (by omega)]; grind
      · rw [h1, h2 0 d (by omega), h2 2 d (by omega), h2 3 d (by omega)]; grind
      · rw [h1, h2 0 d (by omega), h2 1 d (by omega), h2 3 d (by omega)]; grind
      · rw [h1, h2 0 d (by omega), h2 1 d (by omega), h2 2 d (by omega)]; grind
    · rw [if_neg e2]
      have k2 : ∀ e, G e d = F8 e d := fun e => h2 e d (fun q => e2 q.2)
      simp only [k, k2]
      grind
/-- minutes go from f to t; w is what the debt (a, b) grows by: (t, f) by m, or (f, t) by - m -/
theorem trade {S : yS} {nm ns K : Nat} {mu : Nat → Nat} {f t a b : Nat} {m w : Int32} (hK : K ≤ 3000000) (h : IN S nm ns mu K) (hf : f < 4) (ht : t < 4) (hne : f ≠ t) (hm : 1 ≤ m.toInt ∧ m.toInt ≤ 5000) (hge : ¬ S 5 0 f < m) (hab : (a = t ∧ b = f ∧ w = m) ∨ (a = f ∧ b = t ∧ w = - m)) {T : yS}
    (hT5f : T 5 0 f = S 5 0 f - m) (hT5t : T 5 0 t = S 5 0 t + m) (hT5 : ∀ j, j ≠ f → j ≠ t → T 5 0 j = S 5 0 j) (hTf : T 49 0 f = S 49 0 f - m) (hTt : T 49 0 t = S 49 0 t + m) (hT49 : ∀ j, j ≠ f → j ≠ t → T 49 0 j = S 49 0 j)
    (hT8 : T 8 a b = S 8 a b + w) (hT8' : ∀ d e, ¬ (d = a ∧ e = b) → T 8 d e = S 8 d e) (hT50 : T 50 0 (4 * a + b) = S 50 0 (4 * a + b) + w) (hT50' : ∀ j, j ≠ 4 * a + b → T 50 0 j = S 50 0 j) (h6 : T 6 = S 6) (hr : IN T nm ns mu K ↔ IN T nm ns mu K)
    : cEq (T 5) (T 49) 4 ∧ cKb (T 5) (K + 5000) ∧ cO (T 8) (T 50) ∧ cB (T 5) (T 6) (T 8) (S 22) ns := by
  obtain ⟨n1, n2, n3, n4, n5, n6, n7, n8, n9, n10, n11, n12, n13, n14, n15, n16, n17, n18, n19, n20, n21⟩ := h
  have ha : a < 4 ∧ b < 4 := by rcases hab with ⟨q1, q2, -⟩ | ⟨q1, q2, -⟩ <;> omega
  have hge2 : m.toInt ≤ (S 5 0 f).toInt := by
    rw [Int32.lt_iff_toInt_lt] at hge
    omega
  have bf := n11 f hf
  have bt := n11 t ht
  refine ⟨fun j hj => ?_, fun j hj => ?_, fun d e hd he => ?_, fun d hd => ?_⟩
  · by_cases e1 : j = f
    · subst e1; rw [hT5f, hTf, n10 _ hf]
    · by_cases e2 : j = t
      · subst e2; rw [hT5t, hTt, n10 _ ht]
      · rw [hT5 j e1 e2, hT49 j e1 e2, n10 _ hj]
  · have bj := n11 j hj
    by_cases e1 : j = f
    · subst e1
      have e3 : (S 5 0 j - m).toInt = _ := sub_toInt (by omega) (by omega)
      rw [hT5f, e3]
      omega
    · by_cases e2 : j = t
      · subst e2
        have e3 : (S 5 0 j + m).toInt = _ := add_toInt (by omega) (by omega)
        rw [hT5t, e3]
        omega
      · rw [hT5 j e1 e2]
        omega
  · by_cases e1 : d = a ∧ e = b
    · obtain ⟨rfl, rfl⟩ := e1
      rw [hT8, hT50, n12 d e hd he]
    · rw [hT8' d e e1, hT50' _ (by omega), n12 d e hd he]
  · have hg := gBy_up (T 6) (S 8) (T 8) a b w ha.1 ha.2 (by rcases hab with ⟨q1, q2, -⟩ | ⟨q1, q2, -⟩ <;> omega) hT8 hT8' d hd
    rw [hg, h6, gSub_add, n13 d hd]
    rcases hab with ⟨q1, q2, q3⟩ | ⟨q1, q2, q3⟩
    · subst q1 q2 q3
      by_cases e1 : d = a
      · subst e1; rw [if_pos rfl, hT5t]
      · rw [if_neg e1]
        by_cases e2 : d = b
        · subst e2; rw [if_pos rfl, hT5f]; grind
        · rw [if_neg e2, hT5 d e2 e1]; grind
    · subst q1 q2 q3
      by_cases e1 : d = a
      · subst e1; rw [if_pos rfl, hT5f]; grind
      · rw [if_neg e1]
        by_cases e2 : d = b
        · subst e2; rw [if_pos rfl, hT5t]; grind
        · rw [if_neg e2, hT5 d e1 e2]; grind
theorem p_lend : ∀ (S : yS) (nm ns : Nat) (mu : Nat → Nat) (K : Nat) (a1 a2 a3 : Int32), K ≤ 3000000 → IN S nm ns mu K → P_lend S nm ns mu K a1 a2 a3 := by
  intro S nm ns mu K a1 a2 a3 hK h
  have hc : kc_lend S nm ns mu a1 a2 a3 = km_lend S nm ns mu a1 a2 a3 := kLend_c (fun q => h.2.2.2.2.2.2.2.2.2.1 _ (oR_lt rfl (by decide) q))
  refine ⟨hc, fun _ => p_zk _ _ _ _ _ _ h, fun hk => ?_⟩
  obtain ⟨h2, h3⟩ := kLend0' hk
  obtain ⟨hf, ht, hne, hm⟩ := two_0 h2
  generalize hT : sm_lend (sc_lend S nm ns mu a1 a2 a3) nm ns mu a1 a2 a3 = T
  have e49 : sc_lend S nm ns mu a1 a2 a3 49 = S 49 := by simp only [sc_lend]; rw [sup_k (by decide), fMove_k (by decide)]
  have e50 : sc_lend S nm ns mu a1 a2 a3 50 = S 50 := by simp only [sc_lend]; rw [sup_k (by decide), fMove_k (by decide)]
  have e8 : sc_lend S nm ns mu a1 a2 a3 8 = sup (fMove S a1.toNatClampNeg a2.toNatClampNeg a3) 8 a2.toNatClampNeg a1.toNatClampNeg (S 8 a2.toNatClampNeg a1.toNatClampNeg + a3) 8 := by simp only [sc_lend]; rw [fMove_k (S := S) (a := 8) (by decide)]
  have e5 : sc_lend S nm ns mu a1 a2 a3 5 = fMove S a1.toNatClampNeg a2.toNatClampNeg a3 5 := by simp only [sc_lend]; rw [sup_k (by decide)]
  have e6 : sc_lend S nm ns mu a1 a2 a3 6 = S 6 := by simp only [sc_lend]; rw [sup_k (by decide), fMove_k (by decide)]
  have u5 : T 5 = fMove S a1.toNatClampNeg a2.toNatClampNeg a3 5 := by rw [← hT]; simp only [sm_lend]; rw [sup_k (by decide), sup_k (by decide), sup_k (by decide), sup_k (by decide), e5]
  have u6 : T 6 = S 6 := by rw [← hT]; simp only [sm_lend]; rw [sup_k (by decide), sup_k (by decide), sup_k (by decide), sup_k (by decide), e6]
  have u8 : T 8 = sup (fMove S a1.toNatClampNeg a2.toNatClampNeg a3) 8 a2.toNatClampNeg a1.toNatClampNeg (S 8 a2.toNatClampNeg a1.toNatClampNeg + a3) 8 := by rw [← hT]; simp only [sm_lend]; rw [sup_k (by decide), sup_k (by decide), sup_k (by decide), sup_k (by decide), e8]
  have u49 : T 49 = sup (sup S 49 0 a1.toNatClampNeg (S 49 0 a1.toNatClampNeg - a3)) 49 0 a2.toNatClampNeg (S 49 0 a2.toNatClampNeg + a3) 49 := by
    rw [← hT]; simp only [sm_lend]
    rw [sup_k (by decide), e49, sup_ne _ _ (fun q => hne q.2.2.symm), sup_k (S := sc_lend S nm ns mu a1 a2 a3) (by decide), e49]
    funext b j
    simp only [sup, e49]
    simp
  have u50 : T 50 = sup S 50 0 (4 * a2.toNatClampNeg + a1.toNatClampNeg) (S 50 0 (4 * a2.toNatClampNeg + a1.toNatClampNeg) + a3) 50 := by
    rw [← hT]; simp only [sm_lend]
    rw [e50]
    funext b j
    simp only [sup, e50]
    simp
  have key := trade (T := T) (a := a2.toNatClampNeg) (b := a1.toNatClampNeg) (w := a3) hK h hf ht hne hm h3 (Or.inl ⟨rfl, rfl, rfl⟩) (by rw [u5]; exact fMove_f hne) (by rw [u5]; exact fMove_t hne) (fun j g1 g2 => by rw [u5]; exact fMove_o g1 g2)
    (by rw [u49, sup_ne _ _ (fun q => hne q.2.2), sup_self]) (by rw [u49, sup_self]) (fun j g1 g2 => by rw [u49, sup_ne _ _ (fun q => g2 q.2.2), sup_ne _ _ (fun q => g1 q.2.2)])
    (by rw [u8, sup_self]) (fun d e g => by rw [u8, sup_ne _ _ (fun q => g q.2), fMove_k (by decide)]) (by rw [u50, sup_self]) (fun j g => by rw [u50, sup_ne _ _ (fun q => g q.2.2)]) u6 Iff.rfl
  obtain ⟨n1, n2, n3, n4, n5, n6, n7, n8, n9, n10, n11, n12, n13, n14, n15, n16, n17, n18, n19, n20, n21⟩ := h
  have hx : XI (sc_lend S nm ns mu a1 a2 a3) nm ns := ((n1.s (by simp)).s (by simp)).s (by simp)
  refine ⟨hx, (by unfold km_lend; rw [e49]; exact hc.symm.trans hk), (by unfold rm_lend rc_lend; rw [e50, ← n12 _ _ ht hf]; rfl), by rw [← hT]; rfl, ?_⟩
  obtain ⟨k1, k2, k3, k4⟩ := key
  subst hT
  exact ⟨(((hx.s (by simp)).s (by simp)).s (by simp)).s (by simp), n2, n3, n4, n5, n6, n7, n8, n9, k1, k2, k3, k4, n14, n15, n16, n17, n18, n19, n20, n21⟩
theorem p_giveBack : ∀ (S : yS) (nm ns : Nat) (mu : Nat → Nat) (K : Nat) (a1 a2 a3 : Int32), K ≤ 3000000 → IN S nm ns mu K → P_giveBack S nm ns mu K a1 a2 a3 := by
  intro S nm ns mu K a1 a2 a3 hK h
  have hc : kc_giveBack S nm ns mu a1 a2 a3 = km_giveBack S nm ns mu a1 a2 a3 := kGive_c (fun q => h.2.2.2.2.2.2.2.2.2.1 _ (oR_lt rfl (by decide) q)) (fun q q2 => h.2.2.2.2.2.2.2.2.2.2.2.1 _ _ (oR_lt rfl (by decide) q) (oR_lt rfl (by decide) q2))
  refine ⟨hc, fun _ => p_zk _ _ _ _ _ _ h, fun hk => ?_⟩
  obtain ⟨h2, h3⟩ := kGive0' hk
  obtain ⟨hf, ht, hne, hm⟩ := two_0 h2
  generalize hT : sm_giveBack (sc_giveBack S nm ns mu a1 a2 a3) nm ns mu a1 a2 a3 = T
  have e49 : sc_giveBack S nm ns mu a1 a2 a3 49 = S 49 := by simp only [sc_giveBack]; rw [sup_k (by decide), fMove_k (by decide)]
  have e50 : sc_giveBack S nm ns mu a1 a2 a3 50 = S 50 := by simp only [sc_giveBack]; rw [sup_k (by decide), fMove_k (by decide)]
  have e8 : sc_giveBack S nm ns mu a1 a2 a3 8 = sup (fMove S a1.toNatClampNeg a2.toNatClampNeg a3) 8 a1.toNatClampNeg a2.toNatClampNeg (S 8 a1.toNatClampNeg a2.toNatClampNeg - a3) 8 := by simp only [sc_giveBack]; rw [fMove_k (S := S) (a := 8) (by decide)]
  have e5 : sc_giveBack S nm ns mu a1 a2 a3 5 = fMove S a1.toNatClampNeg a2.toNatClampNeg a3 5 := by simp only [sc_giveBack]; rw [sup_k (by decide)]
  have e6 : sc_giveBack S nm ns mu a1 a2 a3 6 = S 6 := by simp only [sc_giveBack]; rw [sup_k (by decide), fMove_k (by decide)]
  have u5 : T 5 = fMove S a1.toNatClampNeg a2.toNatClampNeg a3 5 := by rw [← hT]; simp only [sm_giveBack]; rw [sup_k (by decide), sup_k (by decide), sup_k (by decide), sup_k (by decide), e5]
  have u6 : T 6 = S 6 := by rw [← hT]; simp only [sm_giveBack]; rw [sup_k (by decide), sup_k (by decide), sup_k (by decide), sup_k (by decide), e6]
  have u8 : T 8 = sup (fMove S a1.toNatClampNeg a2.toNatClampNeg a3) 8 a1.toNatClampNeg a2.toNatClampNeg (S 8 a1.toNatClampNeg a2.toNatClampNeg - a3) 8 := by rw [← hT]; simp only [sm_giveBack]; rw [sup_k (by decide), sup_k (by decide), sup_k (by decide), sup_k (by decide), e8]
  have u49 : T 49 = sup (sup S 49 0 a1.toNatClampNeg (S 49 0 a1.toNatClampNeg - a3)) 49 0 a2.toNatClampNeg (S 49 0 a2.toNatClampNeg + a3) 49 := by
    rw [← hT]; simp only [sm_giveBack]
    rw [sup_k (by decide), e49, sup_ne _ _ (fun q => hne q.2.2.symm), sup_k (S := sc_giveBack S nm ns mu a1 a2 a3) (by decide), e49]
    funext b j
    simp only [sup, e49]
    simp
  have u50 : T 50 = sup S 50 0 (4 * a1.toNatClampNeg + a2.toNatClampNeg) (S 50 0 (4 * a1.toNatClampNeg + a2.toNatClampNeg) - a3) 50 := by
    rw [← hT]; simp only [sm_giveBack]
    rw [e50]
    funext b j
    simp only [sup, e50]
    simp
  have key := trade (T := T) (a := a1.toNatClampNeg) (b := a2.toNatClampNeg) (w := - a3) hK h hf ht hne hm h3 (Or.inr ⟨rfl, rfl, rfl⟩) (by rw [u5]; exact fMove_f hne) (by rw [u5]; exact fMove_t hne) (fun j g1 g2 => by rw [u5]; exact fMove_o g1 g2)
    (by rw [u49, sup_ne _ _ (fun q => hne q.2.2), sup_self]) (by rw [u49, sup_self]) (fun j g1 g2 => by rw [u49, sup_ne _ _ (fun q => g2 q.2.2), sup_ne _ _ (fun q => g1 q.2.2)])
    (by rw [u8, sup_self, ← Int32.sub_eq_add_neg]) (fun d e g => by rw [u8, sup_ne _ _ (fun q => g q.2), fMove_k (by decide)]) (by rw [u50, sup_self, ← Int32.sub_eq_add_neg]) (fun j g => by rw [u50, sup_ne _ _ (fun q => g q.2.2)]) u6 Iff.rfl
  obtain ⟨n1, n2, n3, n4, n5, n6, n7, n8, n9, n10, n11, n12, n13, n14, n15, n16, n17, n18, n19, n20, n21⟩ := h
  have hx : XI (sc_giveBack S nm ns mu a1 a2 a3) nm ns := ((n1.s (by simp)).s (by simp)).s (by simp)
  refine ⟨hx, (by unfold km_giveBack; rw [e49, e50]; exact hc.symm.trans hk), (by unfold rm_giveBack rc_giveBack; rw [e50, ← n12 _ _ hf ht]; rfl), by rw [← hT]; rfl, ?_⟩
  obtain ⟨k1, k2, k3, k4⟩ := key
  subst hT
  exact ⟨(((hx.s (by simp)).s (by simp)).s (by simp)).s (by simp), n2, n3, n4, n5, n6, n7, n8, n9, k1, k2, k3, k4, n14, n15, n16, n17, n18, n19, n20, n21⟩
