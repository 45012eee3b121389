/-! A NEW SESSION, and what the numbers say of free seats, owners, answers -/
theorem o_in {F0 F1 F2 F3 F4 F5 F6 F8 F9 F11 F20 F21 F22 G40 G41 G43 G44 G45 G46 G47 G48 G49 G51 X9 X11 X20 X21 X22 : nn} {ns : Nat} {mu : Nat → Nat} {M T m : Nat} {u : Int32} (h : INs F0 F1 F2 F3 F4 F5 F6 F8 F9 F11 F20 F21 F22 G40 G41 G43 G44 G45 G46 G47 G48 G49 G51 ns mu M T) (hns : ns < 40) (hm : m < 3) (hu : vp_in u 10) (hown : ∀ i, i < ns → F21 i 6 = 97 → F21 i 0 ≠ u)
    (h9 : X9 0 2 = F9 0 2) (h11 : X11 0 2 = nI (ns + 1)) (h20 : ∀ b j, ¬ (b = m ∧ j = 5) → X20 b j = F20 b j) (h20m : X20 m 5 = F20 m 5 + 1) (h21 : ∀ b j, b ≠ ns → X21 b j = F21 b j) (h21n : X21 ns 0 = u ∧ X21 ns 2 = F0 0 9 ∧ X21 ns 4 = u ∧ X21 ns 5 = F0 0 9 ∧ X21 ns 6 = 97) (h22 : ∀ b j, b ≠ ns → X22 b j = F22 b j) (h22n : ∀ j, X22 ns j = 0) :
    INs F0 F1 F2 F3 F4 F5 F6 F8 X9 X11 X20 X21 X22 (up1 G40 0 3 (nI ns + 1)) G41 G43 G44 (up1 G45 0 ns u) (up1 G46 0 ns u) (up1 G47 0 ns (G40 0 13)) (up1 G48 0 ns (G40 0 13)) G49 G51 (ns + 1) (fun i => if i = ns then m else mu i) M T := by
  obtain ⟨hA, hU, hD, hO, hS, hC, hE, hN, hL, hMm, hQ, hB, hT, hK, hH⟩ := h
  refine ⟨?_, hU, hD, hO, fun k hk => ?_, fun k d hk hd => ?_, ⟨fun k hk => hE.1 k (by omega), fun k d h1 h2 h3 => hE.2 k d (by omega) h2 h3⟩, ⟨h9.trans hN.1, h11, ?_, by omega⟩, hL, fun q hq => ?_, fun a b ha hb q1 q2 q3 => ?_, fun d hd => ?_, ?_, hK, hH⟩
  · unfold iA
    rw [up1_j (j' := 13) (by decide), up1_j (j' := 11) (by decide), up1_j (j' := 10) (by decide)]
    exact hA
  · by_cases q : k = ns
    · subst q
      dsimp only
      rw [up1_at, up1_at, up1_at, up1_at, if_pos rfl, h21n.1, h21n.2.1, h21n.2.2.1, h21n.2.2.2.1, h21n.2.2.2.2, ← hA.1]
      exact ⟨rfl, rfl, rfl, rfl, hm, hu, hu, Or.inl ⟨rfl, hE.1 k (Nat.le_refl _)⟩⟩
    · dsimp only
      rw [h21 k 0 q, h21 k 2 q, h21 k 4 q, h21 k 5 q, h21 k 6 q, if_neg q, up1_j (F := G45) q, up1_j (F := G46) q, up1_j (F := G47) q, up1_j (F := G48) q]
      exact hS k (by omega)
  · by_cases q : k = ns
    · subst q
      rw [h22n, hE.2 k d (Nat.le_refl _) hns hd]
    · rw [h22 k d q]
      exact hC k d (by omega) hd
  · rw [up1_at]
    exact nI_1 ns
  · obtain ⟨a1, a2, a3, a4, a5⟩ := hMm q hq
    rw [h20 q 1 (by omega), h20 q 2 (by omega), h20 q 3 (by omega), h20 q 4 (by omega)]
    refine ⟨a1, a2, a3, a4, ?_⟩
    have ec : cM9 X21 (fun i => if i = ns then m else mu i) q (ns + 1) = cM9 F21 mu q ns + if m = q then 1 else 0 := by
      show cnt (fun i => decide (X21 i 6 = 97) && (if i = ns then m else mu i) == q) ns + (if (decide (X21 ns 6 = 97) && (if ns = ns then m else mu ns) == q) = true then 1 else 0) = _
      rw [cnt_c (q := fun i => decide (F21 i 6 = 97) && mu i == q) ns (fun i hi => by rw [h21 i 6 (by omega), if_neg (show ¬ i = ns by omega)]), h21n.2.2.2.2, if_pos rfl]
      unfold cM9
      congr 1
      by_cases z : m = q
      · rw [if_pos z, if_pos (by simp [z])]
      · rw [if_neg z, if_neg (by simp [z])]
    rw [ec]
    by_cases z : m = q
    · subst z
      rw [h20m, a5, if_pos rfl]
      exact nI_1 _
    · rw [h20 q 5 (by omega), a5, if_neg z, Nat.add_zero]
  · by_cases z1 : a = ns <;> by_cases z2 : b = ns
    · exact z1.trans z2.symm
    · subst z1
      rw [h21 b 6 z2] at q2
      rw [h21n.1, h21 b 0 z2] at q3
      exact absurd q3.symm (hown b (by omega) q2)
    · subst z2
      rw [h21 a 6 z1] at q1
      rw [h21n.1, h21 a 0 z1] at q3
      exact absurd q3 (hown a (by omega) q1)
    · rw [h21 a 6 z1] at q1
      rw [h21 b 6 z2] at q2
      rw [h21 a 0 z1, h21 b 0 z2] at q3
      exact hQ a b (by omega) (by omega) q1 q2 q3
  · rw [gSub_last, gSub_c (F := F22) ns 0 _ (fun z _ hz => h22 z d (by omega)), hB d hd, Nat.zero_add, h22n]
    grind
  · show up1 G40 0 3 (nI ns + 1) 0 12 = gSum X22 0 0 (ns + 1)
    rw [up1_j (by decide), gSum_last, gSum_c (F := F22) ns 0 _ (fun z _ hz => by unfold gIn; rw [h22 z 0 (by omega), h22 z 1 (by omega), h22 z 2 (by omega), h22 z 3 (by omega)]), ← hT, Nat.zero_add]
    unfold gIn
    rw [h22n, h22n, h22n, h22n]
    grind
section FACTS
variable {Y B : yS} {ns : Nat} {mu : Nat → Nat} {M T : Nat}
theorem IN.ns40 (h : IN Y B ns mu M T) : ns ≤ 40 := h.2.2.2.2.2.2.2.1.2.2.2
theorem IN.s9 (h : IN Y B ns mu M T) : Y 9 0 2 = nI 3 := h.2.2.2.2.2.2.2.1.1
theorem IN.s11 (h : IN Y B ns mu M T) : Y 11 0 2 = nI ns := h.2.2.2.2.2.2.2.1.2.1
theorem IN.b3 (h : IN Y B ns mu M T) : B 40 0 3 = nI ns := h.2.2.2.2.2.2.2.1.2.2.1
theorem IN.hcs (h : IN Y B ns mu M T) : ∀ i, i < ns → vp_in (Y 21 i 4) 10 := fun i hi => (h.2.2.2.2.1 i hi).2.2.2.2.2.2.1
theorem IN.hds (h : IN Y B ns mu M T) : ∀ u, u < 10 → vp_in (Y 4 0 u) 4 := fun u hu => (h.2.1 u hu).2
theorem IN.mac (h : IN Y B ns mu M T) {m : Nat} (hm : m < 3) : Y 20 m 1 = 0 ∧ Y 20 m 2 = 1 ∧ Y 20 m 3 = 4 ∧ Y 20 m 4 = 117 ∧ Y 20 m 5 = nI (cM9 (Y 21) mu m ns) := h.2.2.2.2.2.2.2.2.2.1 m hm
theorem IN.hps (h : IN Y B ns mu M T) : ∀ i, i < 3 → vp_in (Y 20 i 1) 3 := fun i hi => by rw [(h.mac hi).1]; unfold vp_in; decide
theorem IN.hrs (h : IN Y B ns mu M T) : ∀ i, i < 3 → vp_in (Y 20 i 2) 3 := fun i hi => by rw [(h.mac hi).2.1]; unfold vp_in; decide
theorem IN.ci (h : IN Y B ns mu M T) : CI Y 3 ns := ⟨h.s9, h.s11, h.hcs, h.hds, h.hps⟩
theorem IN.bi (h : IN Y B ns mu M T) : BI B ns := ⟨h.b3, h.ns40, fun i hi => by rw [← (h.2.2.2.2.1 i hi).2.2.1]; exact h.hcs i hi, fun u hu => by rw [← (h.2.1 u hu).1]; exact h.hds u hu⟩
theorem IN.pos (h : IN Y B ns mu M T) {d : Nat} (hd : d < 4) : 0 ≤ (Y 5 0 d).toInt ∧ (Y 5 0 d).toInt ≤ M := by
  have hK := h.2.2.2.2.2.2.2.2.2.2.2.2.2.1
  have := s4_ge hK.1 hd
  exact ⟨hK.1 d hd, by have := hK.2; omega⟩
/-- sessions live at a time: at most as many as there are users -/
theorem IN.few (h : IN Y B ns mu M T) : cnt (fun i => decide (Y 21 i 6 = 97)) ns ≤ 10 := by
  rw [← sumF_cnt (fun i => decide (Y 21 i 6 = 97)) (fun i => (Y 21 i 0).toNatClampNeg) 10 ns (fun i hi => ix_of (h.2.2.2.2.1 i hi).2.2.2.2.2.1)]
  refine sumF_le 10 (fun u hu => cnt_1 ns (fun i j hi hj q1 q2 => ?_))
  simp only [Bool.and_eq_true, decide_eq_true_eq, beq_iff_eq] at q1 q2
  refine h.2.2.2.2.2.2.2.2.2.2.1 i j hi hj q1.1 q2.1 ?_
  rw [ix_nI (h.2.2.2.2.1 i hi).2.2.2.2.2.1 (by decide), ix_nI (h.2.2.2.2.1 j hj).2.2.2.2.2.1 (by decide), q1.2, q2.2]
theorem IN.seats (h : IN Y B ns mu M T) : cM9 (Y 21) mu 0 ns + cM9 (Y 21) mu 1 ns + cM9 (Y 21) mu 2 ns = cnt (fun i => decide (Y 21 i 6 = 97)) ns := by
  have e := sumF_cnt (fun i => decide (Y 21 i 6 = 97)) mu 3 ns (fun i hi => (h.2.2.2.2.1 i hi).2.2.2.2.1)
  rw [← e]
  show _ = 0 + cM9 (Y 21) mu 0 ns + cM9 (Y 21) mu 1 ns + cM9 (Y 21) mu 2 ns
  omega
theorem lBest_ne {S : yS} {x : Int32} : ∀ (k i : Nat) (b : Option Nat), (b ≠ none ∨ ∃ j, i ≤ j ∧ j < i + k ∧ S 20 j 4 = 117 ∧ S 20 j 1 = x ∧ ¬ S 20 j 3 - S 20 j 5 ≤ 0) → lBest S x i b k ≠ none
  | 0, i, b, h => by
    rcases h with h | ⟨j, h1, h2, -⟩
    · exact h
    · omega
  | k + 1, i, b, h => by
    refine lBest_ne k (i + 1) _ ?_
    rcases h with h | ⟨j, h1, h2, h3, h4, h5⟩
    · refine Or.inl ?_
      split
      · split
        · exact h
        · cases b with
          | none => exact fun q => by cases q
          | some c => dsimp only; split <;> exact fun q => by cases q
      · exact h
    · by_cases q : j = i
      · subst q
        refine Or.inl ?_
        rw [if_pos ⟨h3, h4⟩, if_neg h5]
        cases b with
        | none => exact fun q => by cases q
        | some c => dsimp only; split <;> exact fun q => by cases q
      · exact Or.inr ⟨j, by omega, by omega, h3, h4, h5⟩
theorem IN.best (h : IN Y B ns mu M T) : lBest Y 0 0 none 3 ≠ none := by
  have h1 := h.few
  have h2 := h.seats
  have hn := h.ns40
  have key : ∀ m, m < 3 → cM9 (Y 21) mu m ns ≤ 3 → lBest Y 0 0 none 3 ≠ none := fun m hm hc => by
    refine lBest_ne 3 0 none (Or.inr ⟨m, by omega, by omega, (h.mac hm).2.2.2.1, (h.mac hm).1, ?_⟩)
    rw [(h.mac hm).2.2.1, (h.mac hm).2.2.2.2, show (4 : Int32) = nI 4 by decide, nI_sub_le (by omega) (by omega)]
    omega
  by_cases c0 : cM9 (Y 21) mu 0 ns ≤ 3
  · exact key 0 (by omega) c0
  · by_cases c1 : cM9 (Y 21) mu 1 ns ≤ 3
    · exact key 1 (by omega) c1
    · exact key 2 (by omega) (by omega)
theorem bLiv_cnt {S : yS} : ∀ (k i : Nat), bLiv S i (nI (cnt (fun i => decide (S 49 0 i = 0)) i)) k = nI (cnt (fun i => decide (S 49 0 i = 0)) (i + k))
  | 0, _ => rfl
  | k + 1, i => by
    have e : (if S 49 0 i = 0 then nI (cnt (fun i => decide (S 49 0 i = 0)) i) + 1 else nI (cnt (fun i => decide (S 49 0 i = 0)) i) + 0) = nI (cnt (fun i => decide (S 49 0 i = 0)) (i + 1)) := by
      show _ = nI (cnt (fun i => decide (S 49 0 i = 0)) i + if decide (S 49 0 i = 0) = true then 1 else 0)
      by_cases q : S 49 0 i = 0
      · rw [if_pos q, if_pos (by simp [q])]; exact nI_1 _
      · rw [if_neg q, if_neg (by simp [q]), Nat.add_zero]; grind
    show bLiv S (i + 1) (if S 49 0 i = 0 then nI (cnt (fun i => decide (S 49 0 i = 0)) i) + 1 else nI (cnt (fun i => decide (S 49 0 i = 0)) i) + 0) k = _
    rw [e, bLiv_cnt k (i + 1), show i + 1 + k = i + (k + 1) by omega]
theorem IN.free (h : IN Y B ns mu M T) : lFree Y 0 0 0 3 = 12 - bLiv B 0 0 ns := by
  have e1 : bLiv B 0 0 ns = nI (cM9 (Y 21) mu 0 ns) + nI (cM9 (Y 21) mu 1 ns) + nI (cM9 (Y 21) mu 2 ns) := by
    have := bLiv_cnt (S := B) ns 0
    rw [show nI (cnt (fun i => decide (B 49 0 i = 0)) 0) = 0 from rfl, Nat.zero_add] at this
    rw [this, nI_add, nI_add, h.seats]
    refine congrArg nI (cnt_c ns (fun i hi => ?_))
    have := h.live hi
    by_cases q : B 49 0 i = 0
    · rw [decide_eq_true q, decide_eq_true (this.mpr q)]
    · rw [decide_eq_false q, decide_eq_false (fun z => q (this.mp z))]
  have a0 := h.mac (m := 0) (by omega)
  have a1 := h.mac (m := 1) (by omega)
  have a2 := h.mac (m := 2) (by omega)
  rw [e1]
  simp only [lFree, Nat.zero_add, Nat.reduceAdd, a0.1, a0.2.2.1, a0.2.2.2.1, a0.2.2.2.2, a1.1, a1.2.2.1, a1.2.2.2.1, a1.2.2.2.2, a2.1, a2.2.2.1, a2.2.2.2.1, a2.2.2.2.2, and_self, if_true]
  grind
/-- owners: as the class finds them, as the law finds them -/
theorem lOwns_iff {S : yS} {u : Int32} : ∀ k i : Nat, lOwns S u i k = true ↔ ∃ j, i ≤ j ∧ j < i + k ∧ S 21 j 0 = u ∧ S 21 j 6 = 97
  | 0, i => ⟨fun q => (by cases q), fun ⟨j, h1, h2, _⟩ => (by omega)⟩
  | k + 1, i => by
    show (if S 21 i 0 = u ∧ S 21 i 6 = 97 then true else lOwns S u (i + 1) k) = true ↔ _
    by_cases q : S 21 i 0 = u ∧ S 21 i 6 = 97
    · rw [if_pos q]
      exact ⟨fun _ => ⟨i, by omega, by omega, q.1, q.2⟩, fun _ => rfl⟩
    · rw [if_neg q, lOwns_iff k (i + 1)]
      constructor
      · rintro ⟨j, h1, h2, h3⟩
        exact ⟨j, by omega, by omega, h3⟩
      · rintro ⟨j, h1, h2, h3⟩
        have : j ≠ i := fun z => by subst z; exact q h3
        exact ⟨j, by omega, by omega, h3⟩
def bOwV (S : yS) (u : Int32) (i : Nat) (v : Int32) : Nat → Int32
  | 0 => v
  | k + 1 => bOwV S u (i + 1) (if v = 0 then (if S 49 0 i = 0 then (if S 45 0 i = u then 1 else 0) else 0) else 1) k
theorem bOwV_1 {S : yS} {u : Int32} : ∀ k i : Nat, bOwV S u i 1 k = 1
  | 0, _ => rfl
  | k + 1, i => bOwV_1 k (i + 1)
theorem bOwV_0 {S : yS} {u : Int32} : ∀ k i : Nat, bOwV S u i 0 k = bI (∃ j, j < i + k ∧ i ≤ j ∧ S 49 0 j = 0 ∧ S 45 0 j = u)
  | 0, i => (bI_f (fun ⟨j, h1, h2, _⟩ => by omega)).symm
  | k + 1, i => by
    show bOwV S u (i + 1) (if (0 : Int32) = 0 then (if S 49 0 i = 0 then (if S 45 0 i = u then 1 else 0) else 0) else 1) k = _
    rw [if_pos rfl]
    have go : (¬ (S 49 0 i = 0 ∧ S 45 0 i = u)) → bOwV S u (i + 1) 0 k = bI (∃ j, j < i + (k + 1) ∧ i ≤ j ∧ S 49 0 j = 0 ∧ S 45 0 j = u) := fun q => by
      rw [bOwV_0 k (i + 1)]
      refine bI_c ⟨fun ⟨j, h1, h2, h3⟩ => ⟨j, by omega, by omega, h3⟩, fun ⟨j, h1, h2, h3⟩ => ?_⟩
      have : j ≠ i := fun z => by subst z; exact q h3
      exact ⟨j, by omega, by omega, h3⟩
    by_cases q1 : S 49 0 i = 0
    · by_cases q2 : S 45 0 i = u
      · rw [if_pos q1, if_pos q2, bOwV_1, bI_t ⟨i, by omega, by omega, q1, q2⟩]
      · rw [if_pos q1, if_neg q2]; exact go (fun q => q2 q.2)
    · rw [if_neg q1]; exact go (fun q => q1 q.1)
theorem IN.owns (h : IN Y B ns mu M T) {u : Int32} (hn : ns ≠ 40) : bOwV B u 0 0 ns = bI (ns = 40 ∨ lOwns Y u 0 ns = true) := by
  rw [bOwV_0]
  refine bI_c ⟨fun ⟨j, h1, h2, h3, h4⟩ => Or.inr ((lOwns_iff ns 0).mpr ⟨j, by omega, by omega, ?_, ?_⟩), fun q => ?_⟩
  · rw [(h.2.2.2.2.1 j (by omega)).1]; exact h4
  · exact (h.live (by omega)).mpr h3
  · rcases q with q | q
    · exact absurd q hn
    · obtain ⟨j, h1, h2, h3, h4⟩ := (lOwns_iff ns 0).mp q
      exact ⟨j, by omega, by omega, (h.live (by omega)).mp h4, by rw [← (h.2.2.2.2.1 j (by omega)).1]; exact h3⟩
theorem IN.by (h : IN Y B ns mu M T) {d : Nat} (hd : d < 4) : mBy Y d ns = B 41 0 d := by
  rw [← h.2.2.1 d hd]
  unfold mBy
  rw [lSub_g]
  exact h.2.2.2.2.2.2.2.2.2.2.2.1 d hd
theorem lSum_g (S : yS) : ∀ (k i : Nat) (a : Int32), lSum S i a k = gSum (S 22) i a k
  | 0, _, _ => rfl
  | k + 1, i, a => lSum_g S k (i + 1) _
theorem IN.all (h : IN Y B ns mu M T) : lSum Y 0 0 ns = B 40 0 12 := by
  rw [lSum_g]
  exact h.2.2.2.2.2.2.2.2.2.2.2.2.1.symm
theorem IN.state (h : IN Y B ns mu M T) {i : Nat} (hi : i < ns) : qState Y i = if B 49 0 i = 0 then (if B 46 0 i = B 45 0 i then 97 else 116) else B 49 0 i := by
  obtain ⟨e1, e2, e3, e4, -, -, -, e6⟩ := h.2.2.2.2.1 i hi
  unfold qState
  rw [e3, e1]
  rcases e6 with ⟨q1, q2⟩ | ⟨q1, q2, q3, -⟩
  · rw [if_pos q2, q1]
    by_cases q : B 46 0 i = B 45 0 i
    · rw [if_pos q, if_neg (fun z => z.2 q)]
    · rw [if_neg q, if_pos ⟨rfl, q⟩]
  · rw [if_neg q2, if_neg (fun z => q3 (q1.symm.trans z.1)), q1]
theorem IN.hch (h : IN Y B ns mu M T) : ∀ i, i < ns → chO (Y 21 i 6) := fun i hi => by
  rcases (h.2.2.2.2.1 i hi).2.2.2.2.2.2.2 with ⟨q1, -⟩ | ⟨q1, -, -, q4⟩
  · rw [q1]; rfl
  · rw [q1]; exact q4
end FACTS
