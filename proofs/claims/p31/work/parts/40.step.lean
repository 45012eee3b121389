/-! A MINUTE, on both sides -/
theorem INs.weak {F0 F1 F2 F3 F4 F5 F6 F8 F9 F11 F20 F21 F22 G40 G41 G43 G44 G45 G46 G47 G48 G49 G51 : nn} {ns : Nat} {mu : Nat → Nat} {M T M' T' : Nat} (h : INs F0 F1 F2 F3 F4 F5 F6 F8 F9 F11 F20 F21 F22 G40 G41 G43 G44 G45 G46 G47 G48 G49 G51 ns mu M T) (hM : M ≤ M') (hT : T ≤ T') : INs F0 F1 F2 F3 F4 F5 F6 F8 F9 F11 F20 F21 F22 G40 G41 G43 G44 G45 G46 G47 G48 G49 G51 ns mu M' T' := by
  obtain ⟨a1, a2, a3, a4, a5, a6, a7, a8, a9, a10, a11, a12, a13, a14, a15⟩ := h
  exact ⟨a1, a2, a3, a4, a5, a6, a7, a8, a9, a10, a11, a12, a13, ⟨a14.1, by have := a14.2; omega⟩, ⟨a15.1, by have := a15.2; omega⟩⟩
theorem IN.weak {Y B : yS} {ns : Nat} {mu : Nat → Nat} {M T M' T' : Nat} (h : IN Y B ns mu M T) (hM : M ≤ M') (hT : T ≤ T') : IN Y B ns mu M' T' := INs.weak h hM hT
def mix (T U : yS) : yS := fun a => if a < 40 then T a else U a
theorem mix_lo {T U : yS} {a : Nat} (h : a < 40) : mix T U a = T a := if_pos h
theorem mix_hi {T U : yS} {a : Nat} (h : ¬ a < 40) : mix T U a = U a := if_neg h
theorem mix_self (T : yS) : mix T T = T := funext fun a => by unfold mix; split <;> rfl
theorem mix_mix (T U V W : yS) : mix (mix T U) (mix V W) = mix T W := funext fun a => by
  by_cases h : a < 40
  · rw [mix_lo h, mix_lo h, mix_lo h]
  · rw [mix_hi h, mix_hi h, mix_hi h]
theorem sup_lo {T U : yS} {a b j : Nat} {v : Int32} (h : a < 40) : sup (mix T U) a b j v = mix (sup T a b j v) U := funext fun a' => by
  by_cases e : a' = a
  · subst e
    rw [mix_lo h, sup_s, sup_s, mix_lo h]
  · rw [sup_k e]
    by_cases h' : a' < 40
    · rw [mix_lo h', mix_lo h', sup_k e]
    · rw [mix_hi h', mix_hi h']
theorem sup_hi {T U : yS} {a b j : Nat} {v : Int32} (h : ¬ a < 40) : sup (mix T U) a b j v = mix T (sup U a b j v) := funext fun a' => by
  by_cases e : a' = a
  · subst e
    rw [mix_hi h, sup_s, sup_s, mix_hi h]
  · rw [sup_k e]
    by_cases h' : a' < 40
    · rw [mix_lo h', mix_lo h']
    · rw [mix_hi h', mix_hi h', sup_k e]
theorem ite_lo {c : Prop} [Decidable c] {T T' U : yS} : mix (if c then T else T') U = if c then mix T U else mix T' U := by split <;> rfl
theorem ite_hi {c : Prop} [Decidable c] {T U U' : yS} : mix T (if c then U else U') = if c then mix T U else mix T U' := by split <;> rfl
theorem cDep_mix {T U : yS} {i : Nat} : cDep (mix T U) i = cDep T i := by
  unfold cDep
  rw [mix_lo (by decide), mix_lo (by decide)]
theorem fCharge_mix {T U : yS} {i : Nat} {m : Int32} : fCharge (mix T U) i m = mix (fCharge T i m) U := by
  unfold fCharge
  rw [cDep_mix, mix_lo (a := 5) (by decide), mix_lo (a := 22) (by decide), sup_lo (by decide), sup_lo (by decide)]
theorem fMin_mix {T U : yS} {i : Nat} : fMin (mix T U) i = mix (fMin T i) U := by
  unfold fMin
  rw [cDep_mix, mix_lo (a := 5) (by decide), fCharge_mix, ite_lo]
theorem hMin_mix {T U : yS} {mi i : Nat} : hMin (mix T U) mi i = hMin T mi i := by
  unfold hMin
  rw [cDep_mix, mix_lo (a := 5) (by decide), mix_lo (a := 0) (by decide), mix_lo (a := 1) (by decide), mix_lo (a := 2) (by decide), mix_lo (a := 20) (by decide), mix_lo (a := 21) (by decide)]
theorem fRep_mix {T U : yS} {i : Nat} : fRep (mix T U) i = mix (fRep T i) U := by
  unfold fRep
  rw [mix_lo (a := 20) (by decide), sup_lo (by decide), ite_lo]
theorem fEnd_mix {T U : yS} {mi i : Nat} {how : Int32} : fEnd (mix T U) mi i how = mix (fEnd T mi i how) U := by
  unfold fEnd
  rw [sup_lo (a := 21) (by decide), mix_lo (a := 20) (by decide), sup_lo (a := 20) (by decide), fRep_mix]
theorem sMin_mix {T U : yS} {mi i : Nat} : sMin (mix T U) mi i = mix (sMin T mi i) U := by
  unfold sMin
  rw [mix_lo (a := 21) (by decide), hMin_mix, fMin_mix, fEnd_mix, ite_lo, ite_lo]
theorem eMin_mix {T U : yS} {mi i : Nat} {a : Int32} : eMin (mix T U) mi i a = eMin T mi i a := by
  unfold eMin
  rw [mix_lo (a := 21) (by decide), hMin_mix]
theorem lMin_mix {mu : Nat → Nat} : ∀ (k i : Nat) (T U : yS), lMin mu (mix T U) i k = mix (lMin mu T i k) U
  | 0, _, _, _ => rfl
  | k + 1, i, T, U => by
    show lMin mu (sMin (mix T U) (mu i) i) (i + 1) k = mix (lMin mu (sMin T (mu i) i) (i + 1) k) U
    rw [sMin_mix]
    exact lMin_mix k (i + 1) _ _
theorem lCnt_mix {mu : Nat → Nat} : ∀ (k i : Nat) (a : Int32) (T U : yS), lCnt mu (mix T U) i a k = lCnt mu T i a k
  | 0, _, _, _, _ => rfl
  | k + 1, i, a, T, U => by
    show lCnt mu (sMin (mix T U) (mu i) i) (i + 1) (eMin (mix T U) (mu i) i a) k = lCnt mu (sMin T (mu i) i) (i + 1) (eMin T (mu i) i a) k
    rw [sMin_mix, eMin_mix]
    exact lCnt_mix k (i + 1) _ _ _
theorem fTick_mix {T U : yS} : fTick (mix T U) = mix (fTick T) U := by
  unfold fTick
  rw [mix_lo (a := 0) (by decide), sup_lo (by decide)]
theorem lPass_mix {mu : Nat → Nat} {ns : Nat} : ∀ (k : Nat) (T U : yS), lPass mu ns (mix T U) k = mix (lPass mu ns T k) U
  | 0, _, _ => rfl
  | k + 1, T, U => by
    show lPass mu ns (lMin mu (fTick (mix T U)) 0 ns) k = mix (lPass mu ns (lMin mu (fTick T) 0 ns) k) U
    rw [fTick_mix, lMin_mix]
    exact lPass_mix k _ _
theorem lEnd_mix {mu : Nat → Nat} {ns : Nat} : ∀ (k : Nat) (a : Int32) (T U : yS), lEnd mu ns (mix T U) a k = lEnd mu ns T a k
  | 0, _, _, _ => rfl
  | k + 1, a, T, U => by
    show lEnd mu ns (lMin mu (fTick (mix T U)) 0 ns) (a + lCnt mu (fTick (mix T U)) 0 0 ns) k = lEnd mu ns (lMin mu (fTick T) 0 ns) (a + lCnt mu (fTick T) 0 0 ns) k
    rw [fTick_mix, lMin_mix, lCnt_mix]
    exact lEnd_mix k _ _ _
theorem bDep_mix {T U : yS} {i : Nat} : bDep (mix T U) i = bDep U i := by
  unfold bDep
  rw [mix_hi (a := 44) (by decide), mix_hi (a := 46) (by decide)]
theorem bCharge_mix {T U : yS} {i : Nat} {m : Int32} : bCharge (mix T U) i m = mix T (bCharge U i m) := by
  unfold bCharge
  rw [bDep_mix, mix_hi (a := 41) (by decide), mix_hi (a := 51) (by decide), mix_hi (a := 40) (by decide), sup_hi (by decide), sup_hi (by decide), sup_hi (by decide)]
theorem bHow_mix {T U : yS} {i : Nat} : bHow (mix T U) i = bHow U i := by
  unfold bHow
  rw [mix_hi (a := 40) (by decide), mix_hi (a := 47) (by decide), mix_hi (a := 48) (by decide)]
theorem bSt_mix {T U : yS} {i : Nat} : bSt (mix T U) i = mix T (bSt U i) := by
  unfold bSt
  rw [mix_hi (a := 49) (by decide), mix_hi (a := 41) (by decide), bDep_mix, bHow_mix, bCharge_mix, sup_hi (by decide), sup_hi (by decide), ite_hi, ite_hi]
theorem bEn_mix {T U : yS} {i : Nat} {a : Int32} : bEn (mix T U) i a = bEn U i a := by
  unfold bEn
  rw [mix_hi (a := 49) (by decide), mix_hi (a := 41) (by decide), bDep_mix, bHow_mix]
theorem bPs_mix : ∀ (k i : Nat) (T U : yS), bPs (mix T U) i k = mix T (bPs U i k)
  | 0, _, _, _ => rfl
  | k + 1, i, T, U => by
    show bPs (bSt (mix T U) i) (i + 1) k = mix T (bPs (bSt U i) (i + 1) k)
    rw [bSt_mix]
    exact bPs_mix k (i + 1) _ _
theorem bPc_mix : ∀ (k i : Nat) (a : Int32) (T U : yS), bPc (mix T U) i a k = bPc U i a k
  | 0, _, _, _, _ => rfl
  | k + 1, i, a, T, U => by
    show bPc (bSt (mix T U) i) (i + 1) (bEn (mix T U) i a) k = bPc (bSt U i) (i + 1) (bEn U i a) k
    rw [bSt_mix, bEn_mix]
    exact bPc_mix k (i + 1) _ _ _
theorem bTick_mix {T U : yS} : bTick (mix T U) = mix T (bTick U) := by
  unfold bTick
  rw [mix_hi (a := 40) (by decide), sup_hi (by decide)]
/-- the Book's minutes -/
def bPass (ns : Nat) (T : yS) : Nat → yS
  | 0 => T
  | k + 1 => bPass ns (bPs (bTick T) 0 ns) k
def bEnd (ns : Nat) (T : yS) (a : Int32) : Nat → Int32
  | 0 => a
  | k + 1 => bEnd ns (bPs (bTick T) 0 ns) (a + bPc (bTick T) 0 0 ns) k
theorem bPass_mix {ns : Nat} : ∀ (k : Nat) (T U : yS), bPass ns (mix T U) k = mix T (bPass ns U k)
  | 0, _, _ => rfl
  | k + 1, T, U => by
    show bPass ns (bPs (bTick (mix T U)) 0 ns) k = mix T (bPass ns (bPs (bTick U) 0 ns) k)
    rw [bTick_mix, bPs_mix]
    exact bPass_mix k _ _
theorem bEnd_mix {ns : Nat} : ∀ (k : Nat) (a : Int32) (T U : yS), bEnd ns (mix T U) a k = bEnd ns U a k
  | 0, _, _, _ => rfl
  | k + 1, a, T, U => by
    show bEnd ns (bPs (bTick (mix T U)) 0 ns) (a + bPc (bTick (mix T U)) 0 0 ns) k = bEnd ns (bPs (bTick U) 0 ns) (a + bPc (bTick U) 0 0 ns) k
    rw [bTick_mix, bPs_mix, bPc_mix]
    exact bEnd_mix k _ _ _
theorem IN.mx {Y B : yS} {ns : Nat} {mu : Nat → Nat} {M T : Nat} (h : IN Y B ns mu M T) : IN (mix Y B) (mix Y B) ns mu M T := by
  unfold IN at h ⊢
  simp (disch := decide) only [mix_lo, mix_hi]
  exact h
theorem fEnd_117 {T : yS} {mi i : Nat} {how : Int32} (h : T 20 mi 4 = 117) : fEnd T mi i how = sup (sup T 21 i 6 how) 20 mi 5 (T 20 mi 5 - 1) := by
  unfold fEnd
  unfold fRep
  rw [if_neg]
  intro q
  have q1 := q.1
  rw [sup_ne _ _ (by omega), sup_k (a := 21) (a' := 20) (by decide), h] at q1
  revert q1
  decide
theorem up1_same {F : nn} {b j : Nat} {v : Int32} (h : F b j = v) : up1 F b j v = F := funext fun b' => funext fun j' => by
  by_cases q : b' = b ∧ j' = j
  · rw [q.1, q.2, up1_at, h]
  · unfold up1
    rw [if_neg q]
theorem IN.dep {Y B : yS} {ns : Nat} {mu : Nat → Nat} {M T i : Nat} (h : IN Y B ns mu M T) (hi : i < ns) : bDep B i = cDep Y i ∧ cDep Y i < 4 := by
  have hu := (h.2.2.2.2.1 i hi)
  have h4 := h.2.1 (Y 21 i 4).toNatClampNeg (ix_of hu.2.2.2.2.2.2.1)
  unfold bDep cDep
  rw [← hu.2.2.1, ← h4.1]
  exact ⟨rfl, ix_of h4.2⟩
theorem IN.live {Y B : yS} {ns : Nat} {mu : Nat → Nat} {M T i : Nat} (h : IN Y B ns mu M T) (hi : i < ns) : Y 21 i 6 = 97 ↔ B 49 0 i = 0 := by
  rcases (h.2.2.2.2.1 i hi).2.2.2.2.2.2.2 with ⟨q1, q2⟩ | ⟨q1, q2, q3, -⟩
  · exact iff_of_true q1 q2
  · exact iff_of_false (fun q => q3 (q1.symm.trans q)) q2
theorem i32_pos {x : Int32} (h : 0 ≤ x.toInt) : 1 ≤ x ↔ ¬ x = 0 := by
  rw [Int32.le_iff_toInt_le, show (1 : Int32).toInt = 1 by decide]
  constructor
  · intro q z
    rw [z, show (0 : Int32).toInt = 0 by decide] at q
    omega
  · intro q
    have : x.toInt ≠ 0 := fun z => q (Int32.toInt.inj (z.trans (by decide)))
    omega
theorem i32_lt15 {x : Int32} : x < 15 ↔ x ≤ 14 := by
  rw [Int32.lt_iff_toInt_lt, Int32.le_iff_toInt_le, show (15 : Int32).toInt = 15 by decide, show (14 : Int32).toInt = 14 by decide]
  omega
theorem i32_lt50 {x : Int32} : x < 50 ↔ x ≤ 49 := by
  rw [Int32.lt_iff_toInt_lt, Int32.le_iff_toInt_le, show (50 : Int32).toInt = 50 by decide, show (49 : Int32).toInt = 49 by decide]
  omega
/-- charge, on both sides -/
theorem IN.charge {Y B : yS} {ns : Nat} {mu : Nat → Nat} {M T i : Nat} {m : Int32} (h : IN Y B ns mu M T) (hi : i < ns) (hm : 0 ≤ m.toInt) (hge : m.toInt ≤ (Y 5 0 (cDep Y i)).toInt) : IN (fCharge Y i m) (bCharge B i m) ns mu M T := by
  have e := o_chg h hi (h.dep hi).2 hm hge
  unfold IN fCharge bCharge
  rw [(h.dep hi).1]
  simp (disch := decide) only [sup_s, sup_k]
  exact e
theorem IN.endm {Y B : yS} {ns : Nat} {mu : Nat → Nat} {M T i : Nat} {how : Int32} (h : IN Y B ns mu M T) (hi : i < ns) (hl : Y 21 i 6 = 97) (h0 : how ≠ 0) (h97 : how ≠ 97) (hc : chO how) : IN (fEnd Y (mu i) i how) (sup B 49 0 i how) ns mu M T := by
  have e := o_end h hi hl h0 h97 hc
  rw [fEnd_117 (h.2.2.2.2.2.2.2.2.2.1 _ (h.2.2.2.2.1 i hi).2.2.2.2.1).2.2.2.1]
  unfold IN
  simp (disch := decide) only [sup_s, sup_k]
  exact e
theorem IN.minute {Y B : yS} {ns : Nat} {mu : Nat → Nat} {M T i : Nat} (h : IN Y B ns mu M T) (hi : i < ns) : IN (sMin Y (mu i) i) (bSt B i) ns mu M T ∧ ∀ a, eMin Y (mu i) i a = bEn B i a := by
  have hl := h.live hi
  have hd := h.dep hi
  have hs := h.2.2.2.2.1 i hi
  have hm := h.2.2.2.2.2.2.2.2.2.1 _ hs.2.2.2.2.1
  have hK := h.2.2.2.2.2.2.2.2.2.2.2.2.2.1.1 _ hd.2
  have e5 : B 41 0 (bDep B i) = Y 5 0 (cDep Y i) := by rw [hd.1]; exact (h.2.2.1 _ hd.2).symm
  have hL := h.2.2.2.2.2.2.2.2.1
  have hA := h.1.1
  by_cases h1 : Y 21 i 6 = 97
  · have h1b := hl.mp h1
    by_cases h2 : Y 5 0 (cDep Y i) = 0
    · have n1 : ¬ 1 ≤ Y 5 0 (cDep Y i) := fun q => (i32_pos hK).mp q h2
      have eh : hMin Y (mu i) i = 111 := by unfold hMin; rw [if_neg n1]
      have ef : fMin Y i = Y := by unfold fMin; rw [if_neg n1]
      constructor
      · unfold sMin bSt
        rw [if_pos h1, if_pos h1b, eh, if_neg (by decide), ef, e5, if_pos h2]
        exact h.endm hi h1 (by decide) (by decide) rfl
      · intro a
        unfold eMin bEn
        rw [if_pos h1, if_pos h1b, eh, if_neg (by decide), e5, if_pos h2]
    · have n1 : 1 ≤ Y 5 0 (cDep Y i) := (i32_pos hK).mpr h2
      have ef : fMin Y i = fCharge Y i 1 := by unfold fMin; rw [if_pos n1]
      have n1' := n1
      rw [Int32.le_iff_toInt_le] at n1'
      have hch : IN (fCharge Y i 1) (bCharge B i 1) ns mu M T := h.charge hi (by decide) n1'
      have c1 : (Y 0 0 9 - Y 21 i 5 < Y 1 0 (Y 20 (mu i) 1).toNatClampNeg) ↔ (B 40 0 13 - B 48 0 i ≤ 14) := by
        rw [hm.1, show (0 : Int32).toNatClampNeg = 0 by decide, hL.1, hA, hs.2.2.2.1]; exact i32_lt15
      have c2 : (Y 0 0 9 - Y 21 i 2 < Y 2 0 (Y 20 (mu i) 1).toNatClampNeg) ↔ (B 40 0 13 - B 47 0 i ≤ 49) := by
        rw [hm.1, show (0 : Int32).toNatClampNeg = 0 by decide, hL.2, hA, hs.2.1]; exact i32_lt50
      have l1 : (fCharge Y i 1) 21 i 6 = 97 := (fCharge_o (by decide) (by decide)).trans h1
      by_cases h3 : B 40 0 13 - B 48 0 i ≤ 14
      · by_cases h4 : B 40 0 13 - B 47 0 i ≤ 49
        · have eh : hMin Y (mu i) i = 97 := by unfold hMin; rw [if_pos n1, if_pos (c1.mpr h3), if_pos (c2.mpr h4)]
          have eb : bHow B i = 0 := by unfold bHow; rw [if_pos h3, if_pos h4]
          constructor
          · unfold sMin bSt
            rw [if_pos h1, if_pos h1b, eh, if_pos rfl, ef, e5, if_neg h2, eb]
            have e9 : sup (bCharge B i 1) 49 0 i 0 = bCharge B i 1 := by
              funext a
              by_cases q : a = 49
              · subst q
                rw [sup_s]
                exact up1_same ((bCharge_o (by decide) (by decide) (by omega)).trans h1b)
              · rw [sup_k q]
            rw [e9]
            exact hch
          · intro a
            unfold eMin bEn
            rw [if_pos h1, if_pos h1b, eh, if_pos rfl, e5, if_neg h2, eb, if_pos rfl]
            grind
        · have eh : hMin Y (mu i) i = 120 := by unfold hMin; rw [if_pos n1, if_pos (c1.mpr h3), if_neg (fun q => h4 (c2.mp q))]
          have eb : bHow B i = 120 := by unfold bHow; rw [if_pos h3, if_neg h4]
          constructor
          · unfold sMin bSt
            rw [if_pos h1, if_pos h1b, eh, if_neg (by decide), ef, e5, if_neg h2, eb]
            exact hch.endm hi l1 (by decide) (by decide) rfl
          · intro a
            unfold eMin bEn
            rw [if_pos h1, if_pos h1b, eh, if_neg (by decide), e5, if_neg h2, eb, if_neg (by decide)]
      · have eh : hMin Y (mu i) i = 105 := by unfold hMin; rw [if_pos n1, if_neg (fun q => h3 (c1.mp q))]
        have eb : bHow B i = 105 := by unfold bHow; rw [if_neg h3]
        constructor
        · unfold sMin bSt
          rw [if_pos h1, if_pos h1b, eh, if_neg (by decide), ef, e5, if_neg h2, eb]
          exact hch.endm hi l1 (by decide) (by decide) rfl
        · intro a
          unfold eMin bEn
          rw [if_pos h1, if_pos h1b, eh, if_neg (by decide), e5, if_neg h2, eb, if_neg (by decide)]
  · have h1b : ¬ B 49 0 i = 0 := fun q => h1 (hl.mpr q)
    constructor
    · unfold sMin bSt
      rw [if_neg h1, if_neg h1b]
      exact h
    · intro a
      unfold eMin bEn
      rw [if_neg h1, if_neg h1b]
theorem IN.minutes {ns : Nat} {mu : Nat → Nat} {M T9 : Nat} : ∀ (k i : Nat) (Y B : yS), i + k = ns → IN Y B ns mu M T9 → IN (lMin mu Y i k) (bPs B i k) ns mu M T9 ∧ ∀ a, lCnt mu Y i a k = bPc B i a k
  | 0, _, _, _, _, h => ⟨h, fun _ => rfl⟩
  | k + 1, i, Y, B, hik, h => by
    obtain ⟨h1, h2⟩ := h.minute (i := i) (by omega)
    obtain ⟨h3, h4⟩ := IN.minutes k (i + 1) _ _ (by omega) h1
    refine ⟨h3, fun a => ?_⟩
    show lCnt mu (sMin Y (mu i) i) (i + 1) (eMin Y (mu i) i a) k = bPc (bSt B i) (i + 1) (bEn B i a) k
    rw [h2]
    exact h4 _
theorem IN.tick {Y B : yS} {ns : Nat} {mu : Nat → Nat} {M T : Nat} (h : IN Y B ns mu M T) (hT : T ≤ 100000) : IN (fTick Y) (bTick B) ns mu M (T + 1) := by
  have e := o_tick h hT
  unfold IN fTick bTick
  simp (disch := decide) only [sup_s, sup_k]
  exact e
theorem IN.pass {ns : Nat} {mu : Nat → Nat} {M : Nat} : ∀ (k T9 : Nat) (Y B : yS), T9 + k ≤ 100000 → IN Y B ns mu M T9 → IN (lPass mu ns Y k) (bPass ns B k) ns mu M (T9 + k) ∧ ∀ a, lEnd mu ns Y a k = bEnd ns B a k
  | 0, _, _, _, _, h => ⟨h, fun _ => rfl⟩
  | k + 1, T9, Y, B, hk, h => by
    obtain ⟨h1, h2⟩ := IN.minutes ns 0 _ _ (by omega) (h.tick (by omega))
    obtain ⟨h3, h4⟩ := IN.pass k (T9 + 1) _ _ (by omega) h1
    refine ⟨by rw [show T9 + (k + 1) = T9 + 1 + k by omega]; exact h3, fun a => ?_⟩
    show lEnd mu ns (lMin mu (fTick Y) 0 ns) (a + lCnt mu (fTick Y) 0 0 ns) k = bEnd ns (bPs (bTick B) 0 ns) (a + bPc (bTick B) 0 0 ns) k
    rw [h2]
    exact h4 _
/-- the Book's minutes first, then the yard's: as acts does it -/
theorem IN.passes {S : yS} {ns : Nat} {mu : Nat → Nat} {M T9 k : Nat} (hk : T9 + k ≤ 100000) (h : IN S S ns mu M T9) : IN (lPass mu ns (bPass ns S k) k) (lPass mu ns (bPass ns S k) k) ns mu M (T9 + k) ∧ ∀ a, lEnd mu ns (bPass ns S k) a k = bEnd ns S a k := by
  obtain ⟨h1, h2⟩ := IN.pass k T9 S S hk h
  have e : bPass ns S k = mix S (bPass ns S k) := by
    have e1 := bPass_mix (ns := ns) k S S
    rw [mix_self] at e1
    exact e1
  constructor
  · rw [e, lPass_mix]
    exact h1.mx
  · intro a
    rw [e, lEnd_mix]
    exact h2 a
