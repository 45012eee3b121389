set_option maxHeartbeats 4000000 in
set_option maxRecDepth 100000 in
theorem c_nl {l : Launch} {Z : yL} {al : yAl} {sh : ySh} {S : yS} {a b d : Int32} (h0 : 0 < a + ymax b d) (h1 : ¬ 2147483639 < a + ymax b d) : Ct l yJ8_newLength_cabcc wsJ8_newLength_cabcc ({ frames := 1, cells := 0, slots := 0, locals := 36 }) 0 0 Z [.int a, .int b, .int d] al sh S (yR al sh (some (.int (a + ymax b d))) S) := by
  refine Ct.of (lv := [(0, .int a), (1, .int b), (2, .int d)]) (by decide) rfl (Nat.le_of_ble_eq_true rfl) rfl ?_
  intro p_ e_ s_ m_ below_ meth_ c_ cx hlk hr hnm9
  refine j_iload_n (j := 0) cx dJ8_newLength_cabcc_0 rfl rfl (pc' := 1) rfl ?_
  refine j_iload_n (j := 1) cx dJ8_newLength_cabcc_1 rfl rfl (pc' := 2) rfl ?_
  refine j_iload_n (j := 2) cx dJ8_newLength_cabcc_2 rfl rfl (pc' := 3) rfl ?_
  refine j_mmax cx (by decide +kernel) (by decide +kernel) (by decide +kernel) (by decide +kernel) dJ8_newLength_cabcc_3 (Nat.le_of_ble_eq_true rfl) (Nat.le_of_ble_eq_true rfl) (Nat.le_of_ble_eq_true rfl) (Nat.le_of_ble_eq_true rfl) (pc' := 6) rfl ?_
  refine j_iadd cx dJ8_newLength_cabcc_6 (pc' := 7) rfl ?_
  refine j_istore_n (lv' := [(3, .int (a + (ymax b d))), (0, .int a), (1, .int b), (2, .int d)]) cx dJ8_newLength_cabcc_7 rfl (by decide) rfl (pc' := 8) rfl ?_
  refine j_iconst (v := 0) cx dJ8_newLength_cabcc_8 (by decide) (pc' := 9) rfl ?_
  refine j_iload_n (j := 0) cx dJ8_newLength_cabcc_9 rfl rfl (pc' := 10) rfl ?_
  refine j_icmp_ge (tgt := 21) cx dJ8_newLength_cabcc_10 (by decide) (pc' := 13) rfl (fun h => by first | exact absurd h (Int32.not_le.mpr h0) | exact absurd (Int32.not_le.mpr h0) h) (fun _ => ?_)
  refine j_iload_n (j := 0) cx dJ8_newLength_cabcc_13 rfl rfl (pc' := 14) rfl ?_
  refine j_ldc (v := 2147483639) cx (by decide +kernel) dJ8_newLength_cabcc_14 (pc' := 16) rfl ?_
  refine j_icmp_gt (tgt := 21) cx dJ8_newLength_cabcc_16 (by decide) (pc' := 19) rfl (fun h => by first | exact absurd h h1 | exact absurd h1 h) (fun _ => ?_)
  refine j_iload_n (j := 0) cx dJ8_newLength_cabcc_19 rfl rfl (pc' := 20) rfl ?_
  exact j_iret (ty := .int) cx hlk hr rfl (Nat.le_of_ble_eq_true rfl) (Nat.le_of_ble_eq_true rfl) dJ8_newLength_cabcc_20 ⟨rfl, rfl, rfl, rfl⟩
theorem nI_1' (n : Nat) : nI n + 1 = nI (n + 1) := nI_1 n
theorem yl_up {al : Nat → Nat} {f : Nat → Option Nat} {n : Nat} (hn : n < 2000) (h : ∀ i, i < n → f i = some (al i)) : ∀ i, i < n + 1 → va_up f (nI n).toNatClampNeg (some (al n)) i = some (al i) := by
  intro i hi
  rw [nI_clamp (by omega)]
  by_cases e : i = n
  · subst e
    exact va_up_self _ _ _
  · rw [va_up_ne _ _ e]
    exact h i (by omega)
set_option maxHeartbeats 4000000 in
set_option maxRecDepth 100000 in
theorem c_cp6_9 {l : Launch} {Z : yL} {al : yAl} {sh : ySh} {S : yS} {n c2 : Nat} {f : Nat → Option Nat} (hs0 : sh 10 n = some (yQ4 Z n f)) (hfr : sh 10 c2 = none) (hc2 : n ≤ c2) (hc3 : c2 ≤ 60) (hf : ∀ i, i < n → f i = some (al 20 i)) (hel : ∀ i, i < n → ∃ (tg : yTg) (r : vw_C), sh 20 i = some (.inl (3, tg)) ∧ vwCl[3]? = some r ∧ r.1 = "TerminalYard$Machine") : Ct l yJ7_copyOf_6403c wsJ7_copyOf_6403c ({ frames := 1, cells := 1, slots := 60, locals := 40 }) 1 60 Z [.ref (al 10 n), .int (nI c2), .ref Z.2.2.2.2] al sh S (fun v9 al9 sh9 S9 => ∃ q, v9 = some (.ref q) ∧ al9 = alp al 10 c2 q ∧ sh9 = shp sh 10 c2 (yQ4 Z c2 (va_cpy f (fun _ => none) 0 0 n)) ∧ S9 = szero S 10 c2) := by
  refine Ct.of (lv := [(0, .ref (al 10 n)), (1, .int (nI c2)), (2, .ref Z.2.2.2.2)]) (by decide) rfl (Nat.le_of_ble_eq_true rfl) rfl ?_
  intro p_ e_ s_ m_ below_ meth_ c_ cx hlk hr hnm9
  refine j_aload_n (j := 2) cx dJ7_copyOf_6403c_0 rfl rfl (pc' := 1) rfl ?_
  refine j_ldcM cx (by decide +kernel) dJ7_copyOf_6403c_1 (pc' := 3) rfl ?_
  refine j_acmp_ne (tgt := 13) cx dJ7_copyOf_6403c_3 (by decide) (pc' := 6) rfl (fun h => absurd rfl h) (fun _ => ?_)
  refine j_iload_n (j := 1) cx dJ7_copyOf_6403c_6 rfl rfl (pc' := 7) rfl ?_
  refine j_anew cx 10 c2 hfr (by decide) (by decide +kernel) (N := c2) (nI_pos (by omega)) (nI_clamp (by omega)) (by omega) (Nat.le_of_ble_eq_true rfl) (by show 0 + c2 ≤ 60; omega) dJ7_copyOf_6403c_7 (pc' := 10) rfl (fun q => J.widen (k := 1) (n := 60) (Nat.le_refl _) (by show 0 + c2 ≤ 60; omega) ?_)
  have hne : ¬ (10 = 10 ∧ n = c2) := fun q => by rw [q.2, hfr] at hs0; cases hs0
  have hs1 : shp sh 10 c2 (yQ4 Z c2 (fun _ => none)) 10 n = some (yQ4 Z n f) := (shp_ne _ _ hne).trans hs0
  have hq1 : al 10 n = alp al 10 c2 q 10 n := (alp_ne _ _ hne).symm
  have hmn : ymin (nI n) (nI c2) = nI n := by unfold ymin; rw [if_neg (fun q => by rw [Int32.lt_iff_toInt_lt, nI_toInt (by omega), nI_toInt (by omega)] at q; omega)]
  have hmin0 : ¬ ymin (nI n) (nI c2) < 0 := by rw [hmn]; exact nI_pos (by omega)
  have hminN : (ymin (nI n) (nI c2)).toNatClampNeg = n := by rw [hmn]; exact nI_clamp (by omega)
  have hel2 : ∀ i : Nat, i < n → ∃ (kd9 j9 ci9 : Nat) (tg : yTg) (r : vw_C), f i = some (alp al 10 c2 q kd9 j9) ∧ shp sh 10 c2 (yQ4 Z c2 (fun _ => none)) kd9 j9 = some (.inl (ci9, tg)) ∧ vwCl[ci9]? = some r ∧ r.1 = "TerminalYard$Machine" := by
    intro i hi
    obtain ⟨tg, r, e1, e2, e3⟩ := hel i hi
    exact ⟨20, i, 3, tg, r, (hf i hi).trans (congrArg some (alp_ne _ _ (by omega)).symm), (shp_ne _ _ (by omega)).trans e1, e2, e3⟩
  refine j_goto (tgt := 24) cx dJ7_copyOf_6403c_10 (by decide) ?_
  refine j_astore_n (lv' := [(3, .ref q), (0, .ref (al 10 n)), (1, .int (nI c2)), (2, .ref Z.2.2.2.2)]) cx dJ7_copyOf_6403c_24 rfl (by decide) rfl (pc' := 25) rfl ?_
  refine j_aload_n (j := 1) cx dJ7_copyOf_6403c_25 rfl rfl (pc' := 26) rfl ?_
  refine j_iconst (v := 0) cx dJ7_copyOf_6403c_26 (by decide) (pc' := 27) rfl ?_
  refine j_aload_n (j := 0) cx dJ7_copyOf_6403c_27 rfl rfl (pc' := 28) rfl ?_
  refine j_iconst (v := 0) cx dJ7_copyOf_6403c_28 (by decide) (pc' := 29) rfl ?_
  refine j_aload_n (j := 1) cx dJ7_copyOf_6403c_29 rfl rfl (pc' := 30) rfl ?_
  refine j_alen (a := 10) (b := n) (ti := 4) cx hs1 rfl hq1 dJ7_copyOf_6403c_30 (pc' := 31) rfl ?_
  refine j_iload_n (j := 2) cx dJ7_copyOf_6403c_31 rfl rfl (pc' := 32) rfl ?_
  refine j_mmin cx (by decide +kernel) (by decide +kernel) (by decide +kernel) (by decide +kernel) dJ7_copyOf_6403c_32 (Nat.le_of_ble_eq_true rfl) (Nat.le_of_ble_eq_true rfl) (Nat.le_of_ble_eq_true rfl) (Nat.le_of_ble_eq_true rfl) (pc' := 35) rfl ?_
  refine j_copy (a := 10) (b := n) (a' := 10) (b' := c2) (C := "TerminalYard$Machine") (N := n) cx (by decide +kernel) (by decide +kernel) (by decide +kernel) (by decide +kernel) (by decide) hs1 (shp_self _ _ _ _) hq1 (alp_self _ _ _ _).symm hmin0 hminN (Nat.le_refl _) hc2 hel2 (Nat.le_of_ble_eq_true rfl) (Nat.le_of_ble_eq_true rfl) dJ7_copyOf_6403c_35 (pc' := 38) rfl ?_
  refine j_aload_n (j := 0) cx dJ7_copyOf_6403c_38 rfl rfl (pc' := 39) rfl ?_
  exact j_aret cx hlk hr (Or.inr ⟨_, rfl⟩) (Nat.le_of_ble_eq_true rfl) (Nat.le_of_ble_eq_true rfl) dJ7_copyOf_6403c_39 ⟨q, rfl, rfl, shp_shp _ _ _ _ _, rfl⟩
set_option maxHeartbeats 4000000 in
set_option maxRecDepth 100000 in
theorem c_cp1_9 {l : Launch} {Z : yL} {al : yAl} {sh : ySh} {S : yS} {n c2 : Nat} {f : Nat → Option Nat} (hs0 : sh 10 n = some (yQ4 Z n f)) (hfr : sh 10 c2 = none) (hc2 : n ≤ c2) (hc3 : c2 ≤ 60) (hf : ∀ i, i < n → f i = some (al 20 i)) (hel : ∀ i, i < n → ∃ (tg : yTg) (r : vw_C), sh 20 i = some (.inl (3, tg)) ∧ vwCl[3]? = some r ∧ r.1 = "TerminalYard$Machine") : Ct l yJ7_copyOf_1904c wsJ7_copyOf_1904c ({ frames := 2, cells := 1, slots := 60, locals := 63 }) 1 60 Z [.ref (al 10 n), .int (nI c2)] al sh S (fun v9 al9 sh9 S9 => ∃ q, v9 = some (.ref q) ∧ al9 = alp al 10 c2 q ∧ sh9 = shp sh 10 c2 (yQ4 Z c2 (va_cpy f (fun _ => none) 0 0 n)) ∧ S9 = szero S 10 c2) := by
  refine Ct.of (lv := [(0, .ref (al 10 n)), (1, .int (nI c2))]) (by decide) rfl (Nat.le_of_ble_eq_true rfl) rfl ?_
  intro p_ e_ s_ m_ below_ meth_ c_ cx hlk hr hnm9
  refine j_aload_n (j := 0) cx dJ7_copyOf_1904c_0 rfl rfl (pc' := 1) rfl ?_
  refine j_iload_n (j := 1) cx dJ7_copyOf_1904c_1 rfl rfl (pc' := 2) rfl ?_
  refine j_aload_n (j := 0) cx dJ7_copyOf_1904c_2 rfl rfl (pc' := 3) rfl ?_
  refine j_getC cx (by decide +kernel) (by decide +kernel) (by decide +kernel) (by decide +kernel) hs0 rfl (Nat.le_of_ble_eq_true rfl) (Nat.le_of_ble_eq_true rfl) dJ7_copyOf_1904c_3 (pc' := 6) rfl ?_
  refine j_cSP (cells1 := 1) (slots1 := 60) (As := [.ref (al 10 n), .int (nI c2), .ref Z.2.2.2.2]) (rest := []) cx (c_cp6_9 hs0 hfr hc2 hc3 hf hel) gJ7_copyOf_1904c_J7_copyOf_6403c rfl rfl rfl 3 rfl (by decide +kernel) ⟨Nat.le_of_ble_eq_true rfl, Nat.le_of_ble_eq_true rfl⟩ rfl (Nat.le_of_ble_eq_true rfl) dJ7_copyOf_1904c_6 ⟨Nat.le_of_ble_eq_true rfl, Nat.le_of_ble_eq_true rfl⟩ (pc' := 9) rfl rfl rfl (fun v9 al9 sh9 S9 h9 => ?_)
  obtain ⟨q, e1, e2, e3, e4⟩ := h9
  subst v9 al9 sh9 S9
  refine J.stk (st2 := [.ref q]) rfl ?_
  exact j_aret cx hlk hr (Or.inr ⟨_, rfl⟩) (Nat.le_of_ble_eq_true rfl) (Nat.le_of_ble_eq_true rfl) dJ7_copyOf_1904c_9 ⟨q, rfl, rfl, rfl, rfl⟩
set_option maxHeartbeats 4000000 in
set_option maxRecDepth 100000 in
theorem c_gr_9 {l : Launch} {Z : yL} {al : yAl} {sh : ySh} {S : yS} {n : Nat} {tg : yTg} (hT : sh 9 0 = some (.inl (2, tg))) (ht0 : tg 0 = none) (ht2 : tg 2 = none) (hn : n < 41) (hE : al 99 0 = Z.2.2.2.1) (hel : ∀ i, i < n → ∃ (tg : yTg) (r : vw_C), sh 20 i = some (.inl (3, tg)) ∧ vwCl[3]? = some r ∧ r.1 = "TerminalYard$Machine") (hF : (n = 0 ∧ tg 1 = some (some (99, 0)) ∧ ∀ c', sh 10 c' = none) ∨ ∃ f : Nat → Option Nat, 10 ≤ n ∧ tg 1 = some (some (10, n)) ∧ sh 10 n = some (yQ4 Z n f) ∧ (∀ i, i < n → f i = some (al 20 i)) ∧ ∀ c', n < c' → sh 10 c' = none) : Ct l yJx4a65c_grow_92f84 wsJx4a65c_grow_92f84 ({ frames := 3, cells := 1, slots := 60, locals := 84 }) 1 60 Z [.ref (al 9 0), .int (nI n + 1)] al sh S (gP Z al sh S 9 20 n tg) := by
  refine Ct.of (lv := [(0, .ref (al 9 0)), (1, .int (nI n + 1))]) (by decide) rfl (Nat.le_of_ble_eq_true rfl) rfl ?_
  intro p_ e_ s_ m_ below_ meth_ c_ cx hlk hr hnm9
  rcases hF with ⟨rfl, ht1, hfr⟩ | ⟨f, h10, ht1, hs0, hf, hfr⟩
  · refine j_aload_n (j := 0) cx dJx4a65c_grow_92f84_0 rfl rfl (pc' := 1) rfl ?_
    refine j_get (fk := 1) (ref := "java/util/ArrayList") (v := .ref (al 99 0)) cx hT rfl (by decide +kernel) (by decide) (by decide +kernel) (fun _ h => h) (yV_r (k := (99, 0)) ht1) rfl dJx4a65c_grow_92f84_1 (pc' := 4) rfl ?_
    refine j_alenE cx hE dJx4a65c_grow_92f84_4 (pc' := 5) rfl ?_
    refine j_istore_n (lv' := [(2, .int 0), (0, .ref (al 9 0)), (1, .int (nI 0 + 1))]) cx dJx4a65c_grow_92f84_5 rfl (by decide) rfl (pc' := 6) rfl ?_
    refine j_iload_n (j := 0) cx dJx4a65c_grow_92f84_6 rfl rfl (pc' := 7) rfl ?_
    refine j_if_gt (tgt := 20) cx dJx4a65c_grow_92f84_7 (by decide) (pc' := 10) rfl (fun h => absurd h (by decide)) (fun _ => ?_)
    refine j_aload_n (j := 1) cx dJx4a65c_grow_92f84_10 rfl rfl (pc' := 11) rfl ?_
    refine j_get (fk := 1) (ref := "java/util/ArrayList") (v := .ref (al 99 0)) cx hT rfl (by decide +kernel) (by decide) (by decide +kernel) (fun _ h => h) (yV_r (k := (99, 0)) ht1) rfl dJx4a65c_grow_92f84_11 (pc' := 14) rfl ?_
    refine j_getE cx (by decide +kernel) dJx4a65c_grow_92f84_14 (pc' := 17) rfl ?_
    refine j_acmp_eq (tgt := 45) cx dJx4a65c_grow_92f84_17 (by decide) (pc' := 20) rfl (fun _ => ?_) (fun h => absurd hE h)
    refine j_aload_n (j := 1) cx dJx4a65c_grow_92f84_45 rfl rfl (pc' := 46) rfl ?_
    refine j_bipush (v := 10) cx dJx4a65c_grow_92f84_46 (by decide) (pc' := 48) rfl ?_
    refine j_iload_n (j := 2) cx dJx4a65c_grow_92f84_48 rfl rfl (pc' := 49) rfl ?_
    refine j_mmax cx (by decide +kernel) (by decide +kernel) (by decide +kernel) (by decide +kernel) dJx4a65c_grow_92f84_49 (Nat.le_of_ble_eq_true rfl) (Nat.le_of_ble_eq_true rfl) (Nat.le_of_ble_eq_true rfl) (Nat.le_of_ble_eq_true rfl) (pc' := 52) rfl ?_
    refine j_anew cx 10 10 (hfr 10) (by decide) (by decide +kernel) (N := 10) (by decide) (by decide) (by decide) (Nat.le_of_ble_eq_true rfl) (Nat.le_of_ble_eq_true rfl) dJx4a65c_grow_92f84_52 (pc' := 55) rfl (fun q => ?_)
    have hT2 : shp sh 10 10 (yQ4 Z 10 (fun _ => none)) 9 0 = some (.inl (2, tg)) := (shp_ne _ _ (by omega)).trans hT
    refine j_dup_x1 cx dJx4a65c_grow_92f84_55 rfl rfl (pc' := 56) rfl ?_
    refine j_putr (fk := 1) (ref := "java/util/ArrayList") (ty := .array (.object "java/lang/Object")) (kk := (10, 10)) cx (tg := tg) hT2 rfl (by decide +kernel) (by decide) (by decide +kernel) (fun _ h => h) tyJx4a65c tyJx4a65c_ok nmJx4a65c rfl (by decide +kernel) (alp_self _ _ _ _).symm (Or.inl (by rw [shp_self]; simp)) rfl rfl rfl dJx4a65c_grow_92f84_56 (pc' := 59) rfl ?_
    exact j_aret cx hlk hr (Or.inr ⟨_, rfl⟩) (Nat.le_of_ble_eq_true rfl) (Nat.le_of_ble_eq_true rfl) dJx4a65c_grow_92f84_59 ⟨q, 10, (fun _ => none), rfl, rfl, rfl, rfl, by decide, by decide, by decide, fun i hi => absurd hi (by omega), hfr 10, fun c' _ => hfr c'⟩
  obtain ⟨nl1, nl2, nl3⟩ := nl_of h10 hn
  refine j_aload_n (j := 0) cx dJx4a65c_grow_92f84_0 rfl rfl (pc' := 1) rfl ?_
  refine j_get (fk := 1) (ref := "java/util/ArrayList") (v := .ref (al 10 n)) cx hT rfl (by decide +kernel) (by decide) (by decide +kernel) (fun _ h => h) (yV_r (k := (10, n)) ht1) rfl dJx4a65c_grow_92f84_1 (pc' := 4) rfl ?_
  refine j_alen (ti := 4) cx hs0 rfl rfl dJx4a65c_grow_92f84_4 (pc' := 5) rfl ?_
  refine j_istore_n (lv' := [(2, .int (nI n)), (0, .ref (al 9 0)), (1, .int (nI n + 1))]) cx dJx4a65c_grow_92f84_5 rfl (by decide) rfl (pc' := 6) rfl ?_
  refine j_iload_n (j := 0) cx dJx4a65c_grow_92f84_6 rfl rfl (pc' := 7) rfl ?_
  refine j_if_gt (tgt := 20) cx dJx4a65c_grow_92f84_7 (by decide) (pc' := 10) rfl (fun _ => ?_) (fun h => by first | exact absurd h (nI_lt (a := 0) (by omega) (by omega) : (0 : Int32) < nI n) | exact absurd (nI_lt (a := 0) (by omega) (by omega) : (0 : Int32) < nI n) h)
  refine j_iload_n (j := 0) cx dJx4a65c_grow_92f84_20 rfl rfl (pc' := 21) rfl ?_
  refine j_iload_n (j := 2) cx dJx4a65c_grow_92f84_21 rfl rfl (pc' := 22) rfl ?_
  refine j_iload_n (j := 0) cx dJx4a65c_grow_92f84_22 rfl rfl (pc' := 23) rfl ?_
  refine j_isub cx dJx4a65c_grow_92f84_23 (pc' := 24) rfl ?_
  refine j_iload_n (j := 0) cx dJx4a65c_grow_92f84_24 rfl rfl (pc' := 25) rfl ?_
  refine j_iconst (v := 1) cx dJx4a65c_grow_92f84_25 (by decide) (pc' := 26) rfl ?_
  refine j_ishr cx dJx4a65c_grow_92f84_26 (pc' := 27) rfl ?_
  refine j_cSR (cells1 := 0) (slots1 := 0) (st1 := [.int ((nI n) + ymax ((nI n + 1) - (nI n)) ((nI n) >>> (1 &&& 31)))]) (As := [.int (nI n), .int ((nI n + 1) - (nI n)), .int ((nI n) >>> (1 &&& 31))]) (rest := []) cx (c_nl nl2 nl3) gJx4a65c_grow_92f84_J8_newLength_cabcc rfl rfl rfl 3 rfl (by decide +kernel) ⟨Nat.le_of_ble_eq_true rfl, Nat.le_of_ble_eq_true rfl⟩ rfl (Nat.le_of_ble_eq_true rfl) dJx4a65c_grow_92f84_27 ⟨Nat.le_of_ble_eq_true rfl, Nat.le_of_ble_eq_true rfl⟩ (pc' := 30) rfl rfl rfl rfl ?_
  refine J.stk (st2 := [.int (nI (n + n / 2))]) (by rw [nl1]) ?_
  refine j_istore_n (lv' := [(3, .int (nI (n + n / 2))), (2, .int (nI n)), (0, .ref (al 9 0)), (1, .int (nI n + 1))]) cx dJx4a65c_grow_92f84_30 rfl (by decide) rfl (pc' := 31) rfl ?_
  refine j_aload_n (j := 2) cx dJx4a65c_grow_92f84_31 rfl rfl (pc' := 32) rfl ?_
  refine j_aload_n (j := 2) cx dJx4a65c_grow_92f84_32 rfl rfl (pc' := 33) rfl ?_
  refine j_get (fk := 1) (ref := "java/util/ArrayList") (v := .ref (al 10 n)) cx hT rfl (by decide +kernel) (by decide) (by decide +kernel) (fun _ h => h) (yV_r (k := (10, n)) ht1) rfl dJx4a65c_grow_92f84_33 (pc' := 36) rfl ?_
  refine j_iload_n (j := 0) cx dJx4a65c_grow_92f84_36 rfl rfl (pc' := 37) rfl ?_
  refine j_cSP (cells1 := 1) (slots1 := 60) (As := [.ref (al 10 n), .int (nI (n + n / 2))]) (rest := [.ref (al 9 0)]) cx (c_cp1_9 hs0 (hfr _ (by omega)) (by omega) (by omega) hf hel) gJx4a65c_grow_92f84_J7_copyOf_1904c rfl rfl rfl 2 rfl (by decide +kernel) ⟨Nat.le_of_ble_eq_true rfl, Nat.le_of_ble_eq_true rfl⟩ rfl (Nat.le_of_ble_eq_true rfl) dJx4a65c_grow_92f84_37 ⟨Nat.le_of_ble_eq_true rfl, Nat.le_of_ble_eq_true rfl⟩ (pc' := 40) rfl rfl rfl (fun v9 al9 sh9 S9 h9 => ?_)
  obtain ⟨q, e1, e2, e3, e4⟩ := h9
  subst v9 al9 sh9 S9
  refine J.stk (st2 := [.ref q, .ref (al 9 0)]) rfl ?_
  have hT2 : shp sh 10 (n + n / 2) (yQ4 Z (n + n / 2) (va_cpy f (fun _ => none) 0 0 n)) 9 0 = some (.inl (2, tg)) := (shp_ne _ _ (by omega)).trans hT
  refine j_dup_x1 cx dJx4a65c_grow_92f84_40 rfl rfl (pc' := 41) rfl ?_
  refine j_putr (fk := 1) (ref := "java/util/ArrayList") (ty := .array (.object "java/lang/Object")) (kk := (10, n + n / 2)) cx (tg := tg) hT2 rfl (by decide +kernel) (by decide) (by decide +kernel) (fun _ h => h) tyJx4a65c tyJx4a65c_ok nmJx4a65c rfl (by decide +kernel) (alp_self _ _ _ _).symm (Or.inl (by rw [shp_self]; simp)) rfl rfl rfl dJx4a65c_grow_92f84_41 (pc' := 44) rfl ?_
  exact j_aret cx hlk hr (Or.inr ⟨_, rfl⟩) (Nat.le_of_ble_eq_true rfl) (Nat.le_of_ble_eq_true rfl) dJx4a65c_grow_92f84_44 ⟨q, n + n / 2, va_cpy f (fun _ => none) 0 0 n, rfl, rfl, rfl, rfl, by omega, by omega, by omega, fun i hi => by rw [← hf i hi]; simp [va_cpy, hi], hfr _ (by omega), fun c' hc => hfr c' (by omega)⟩
set_option maxHeartbeats 4000000 in
set_option maxRecDepth 100000 in
theorem c_gw_9 {l : Launch} {Z : yL} {al : yAl} {sh : ySh} {S : yS} {n : Nat} {tg : yTg} (hT : sh 9 0 = some (.inl (2, tg))) (ht0 : tg 0 = none) (ht2 : tg 2 = none) (hn : n < 41) (hE : al 99 0 = Z.2.2.2.1) (hel : ∀ i, i < n → ∃ (tg : yTg) (r : vw_C), sh 20 i = some (.inl (3, tg)) ∧ vwCl[3]? = some r ∧ r.1 = "TerminalYard$Machine") (hF : (n = 0 ∧ tg 1 = some (some (99, 0)) ∧ ∀ c', sh 10 c' = none) ∨ ∃ f : Nat → Option Nat, 10 ≤ n ∧ tg 1 = some (some (10, n)) ∧ sh 10 n = some (yQ4 Z n f) ∧ (∀ i, i < n → f i = some (al 20 i)) ∧ ∀ c', n < c' → sh 10 c' = none) (hs : S 9 0 2 = nI n) : Ct l yJx4a65c_grow_d5877 wsJx4a65c_grow_d5877 ({ frames := 4, cells := 1, slots := 60, locals := 107 }) 1 60 Z [.ref (al 9 0)] al sh S (gP Z al sh S 9 20 n tg) := by
  refine Ct.of (lv := [(0, .ref (al 9 0))]) (by decide) rfl (Nat.le_of_ble_eq_true rfl) rfl ?_
  intro p_ e_ s_ m_ below_ meth_ c_ cx hlk hr hnm9
  refine j_aload_n (j := 0) cx dJx4a65c_grow_d5877_0 rfl rfl (pc' := 1) rfl ?_
  refine j_aload_n (j := 0) cx dJx4a65c_grow_d5877_1 rfl rfl (pc' := 2) rfl ?_
  refine j_get (fk := 2) (ref := "java/util/ArrayList") (v := .int (nI n)) cx hT rfl (by decide +kernel) (by decide) (by decide +kernel) (fun _ h => h) ((yV_i ht2).trans (congrArg Value.int hs)) rfl dJx4a65c_grow_d5877_2 (pc' := 5) rfl ?_
  refine j_iconst (v := 1) cx dJx4a65c_grow_d5877_5 (by decide) (pc' := 6) rfl ?_
  refine j_iadd cx dJx4a65c_grow_d5877_6 (pc' := 7) rfl ?_
  refine j_cVP (cells1 := 1) (slots1 := 60) (As := [.int ((nI n) + 1)]) (rest := []) cx (c_gr_9 hT ht0 ht2 hn hE hel hF) gJx4a65c_grow_d5877_Jx4a65c_grow_92f84 rfl rfl rfl 1 rfl (by decide +kernel) ⟨Nat.le_of_ble_eq_true rfl, Nat.le_of_ble_eq_true rfl⟩ hT rfl rfl rfl rfl (Nat.le_of_ble_eq_true rfl) dJx4a65c_grow_d5877_7 ⟨Nat.le_of_ble_eq_true rfl, Nat.le_of_ble_eq_true rfl⟩ (pc' := 10) rfl rfl rfl (fun v9 al9 sh9 S9 h9 => ?_)
  obtain ⟨q, c2, g, e1, hrest⟩ := h9
  subst v9
  refine J.stk (st2 := [.ref q]) rfl ?_
  exact j_aret cx hlk hr (Or.inr ⟨_, rfl⟩) (Nat.le_of_ble_eq_true rfl) (Nat.le_of_ble_eq_true rfl) dJx4a65c_grow_d5877_10 ⟨q, c2, g, rfl, hrest⟩
set_option maxHeartbeats 4000000 in
set_option maxRecDepth 100000 in
theorem c_a3r_9 {l : Launch} {Z : yL} {al : yAl} {sh : ySh} {S : yS} {n c : Nat} {tg tg9 : yTg} {f : Nat → Option Nat} (hT : sh 9 0 = some (.inl (2, tg))) (ht0 : tg 0 = none) (ht2 : tg 2 = none) (hv : sh 20 n = some (.inl (3, tg9))) (hc1 : n < c) (hc2 : 10 ≤ c) (hc3 : c ≤ 60) (ht1 : tg 1 = some (some (10, c))) (hs0 : sh 10 c = some (yQ4 Z c f)) (hg : ∀ i, i < n → f i = some (al 20 i)) (hfr2 : ∀ c', c < c' → sh 10 c' = none) : Ct l yJx4a65c_add_72be8 wsJx4a65c_add_72be8 ({ frames := 5, cells := 0, slots := 0, locals := 127 }) 0 0 Z [.ref (al 9 0), .ref (al 20 n), .ref (al 10 c), .int (nI n)] al sh S (fun v9 al9 sh9 S9 => v9 = none ∧ YL Z al9 sh9 9 20 (n + 1) ∧ (∀ a b, a ≠ 9 → a ≠ 10 → al9 a b = al a b ∧ sh9 a b = sh a b) ∧ S9 9 0 2 = nI (n + 1) ∧ (∀ a b j, a ≠ 9 → a ≠ 10 → S9 a b j = S a b j) ∧ al9 9 0 = al 9 0 ∧ ∀ b, b ≠ 0 → sh9 9 b = sh 9 b) := by
  refine Ct.of (lv := [(0, .ref (al 9 0)), (1, .ref (al 20 n)), (2, .ref (al 10 c)), (3, .int (nI n))]) (by decide) rfl (Nat.le_of_ble_eq_true rfl) rfl ?_
  intro p_ e_ s_ m_ below_ meth_ c_ cx hlk hr hnm9
  refine j_iload_n (j := 3) cx dJx4a65c_add_72be8_0 rfl rfl (pc' := 1) rfl ?_
  refine j_aload_n (j := 2) cx dJx4a65c_add_72be8_1 rfl rfl (pc' := 2) rfl ?_
  refine j_alen (a := 10) (b := c) (ti := 4) cx hs0 rfl rfl dJx4a65c_add_72be8_2 (pc' := 3) rfl ?_
  refine j_icmp_ne (tgt := 11) cx dJx4a65c_add_72be8_3 (by decide) (pc' := 6) rfl (fun _ => ?_) (fun h => by first | exact absurd h (fun q : nI n = nI c => by have := (nI_6 (by omega) (by omega)).mp q; omega) | exact absurd (fun q : nI n = nI c => by have := (nI_6 (by omega) (by omega)).mp q; omega) h)
  refine j_aload_n (j := 2) cx dJx4a65c_add_72be8_11 rfl rfl (pc' := 12) rfl ?_
  refine j_iload_n (j := 3) cx dJx4a65c_add_72be8_12 rfl rfl (pc' := 13) rfl ?_
  refine j_aload_n (j := 1) cx dJx4a65c_add_72be8_13 rfl rfl (pc' := 14) rfl ?_
  refine j_aast (a := 10) (b := c) (kd := 20) (i := n) cx hs0 rfl hv rfl (by decide) (vp_in_nI (by omega) (by omega)) rfl rfl dJx4a65c_add_72be8_14 (pc' := 15) rfl ?_
  refine j_aload_n (j := 0) cx dJx4a65c_add_72be8_15 rfl rfl (pc' := 16) rfl ?_
  refine j_iload_n (j := 3) cx dJx4a65c_add_72be8_16 rfl rfl (pc' := 17) rfl ?_
  refine j_iconst (v := 1) cx dJx4a65c_add_72be8_17 (by decide) (pc' := 18) rfl ?_
  refine j_iadd cx dJx4a65c_add_72be8_18 (pc' := 19) rfl ?_
  refine j_puti (fk := 2) (ref := "java/util/ArrayList") (ty := .int) cx (tg := tg) ((shp_ne _ _ (by omega)).trans hT) rfl (by decide +kernel) (by decide) (by decide +kernel) (fun _ h => h) tyJx4a65c tyJx4a65c_ok nmJx4a65c rfl (by decide +kernel) ht2 rfl rfl rfl dJx4a65c_add_72be8_19 (pc' := 22) rfl ?_
  exact j_vret cx hlk hr (Nat.le_of_ble_eq_true rfl) (Nat.le_of_ble_eq_true rfl) dJx4a65c_add_72be8_22 ⟨rfl, ⟨tg, (shp_ne _ _ (by omega)).trans hT, ht0, ht2, Or.inr ⟨c, _, hc1, hc2, hc3, ht1, shp_self _ _ _ _, yl_up (by omega) hg, fun c' hc' => (shp_ne _ _ (by omega)).trans (hfr2 c' hc')⟩⟩, fun a b h1 h2 => ⟨rfl, shp_ne _ _ (fun q => h2 q.1)⟩, by rw [sup_self, nI_1'], fun a b j h1 h2 => sup_ne _ _ (fun q => h1 q.1), rfl, fun b hb => shp_ne _ _ (by omega)⟩
set_option maxHeartbeats 4000000 in
set_option maxRecDepth 100000 in
theorem c_a3f_9 {l : Launch} {Z : yL} {al : yAl} {sh : ySh} {S : yS} {n : Nat} {tg : yTg} {a0 : Nat} {tg9 : yTg} (hT : sh 9 0 = some (.inl (2, tg))) (ht0 : tg 0 = none) (ht2 : tg 2 = none) (hn : n < 41) (hE : al 99 0 = Z.2.2.2.1) (hel : ∀ i, i < n → ∃ (tg : yTg) (r : vw_C), sh 20 i = some (.inl (3, tg)) ∧ vwCl[3]? = some r ∧ r.1 = "TerminalYard$Machine") (hF : (n = 0 ∧ tg 1 = some (some (99, 0)) ∧ ∀ c', sh 10 c' = none) ∨ ∃ f : Nat → Option Nat, 10 ≤ n ∧ tg 1 = some (some (10, n)) ∧ sh 10 n = some (yQ4 Z n f) ∧ (∀ i, i < n → f i = some (al 20 i)) ∧ ∀ c', n < c' → sh 10 c' = none) (hs : S 9 0 2 = nI n) (hv : sh 20 n = some (.inl (3, tg9))) (ha0 : a0 = al 99 0 ∧ n = 0 ∨ a0 = al 10 n ∧ 10 ≤ n) : Ct l yJx4a65c_add_72be8 wsJx4a65c_add_72be8 ({ frames := 5, cells := 1, slots := 60, locals := 127 }) 1 60 Z [.ref (al 9 0), .ref (al 20 n), .ref a0, .int (nI n)] al sh S (fun v9 al9 sh9 S9 => v9 = none ∧ YL Z al9 sh9 9 20 (n + 1) ∧ (∀ a b, a ≠ 9 → a ≠ 10 → al9 a b = al a b ∧ sh9 a b = sh a b) ∧ S9 9 0 2 = nI (n + 1) ∧ (∀ a b j, a ≠ 9 → a ≠ 10 → S9 a b j = S a b j) ∧ al9 9 0 = al 9 0 ∧ ∀ b, b ≠ 0 → sh9 9 b = sh 9 b) := by
  refine Ct.of (lv := [(0, .ref (al 9 0)), (1, .ref (al 20 n)), (2, .ref a0), (3, .int (nI n))]) (by decide) rfl (Nat.le_of_ble_eq_true rfl) rfl ?_
  intro p_ e_ s_ m_ below_ meth_ c_ cx hlk hr hnm9
  have hF2 := hF
  rcases ha0 with ⟨rfl, hn0⟩ | ⟨rfl, h10⟩
  · refine j_iload_n (j := 3) cx dJx4a65c_add_72be8_0 rfl rfl (pc' := 1) rfl ?_
    refine j_aload_n (j := 2) cx dJx4a65c_add_72be8_1 rfl rfl (pc' := 2) rfl ?_
    refine j_alenE cx hE dJx4a65c_add_72be8_2 (pc' := 3) rfl ?_
    refine j_icmp_ne (tgt := 11) cx dJx4a65c_add_72be8_3 (by decide) (pc' := 6) rfl (fun h => by first | exact absurd h (show nI n = 0 by rw [hn0]; rfl) | exact absurd (show nI n = 0 by rw [hn0]; rfl) h) (fun _ => ?_)
    refine j_aload_n (j := 0) cx dJx4a65c_add_72be8_6 rfl rfl (pc' := 7) rfl ?_
    refine j_cVP (cells1 := 1) (slots1 := 60) (As := []) (rest := []) cx (c_gw_9 hT ht0 ht2 hn hE hel hF hs) gJx4a65c_add_72be8_Jx4a65c_grow_d5877 rfl rfl rfl 0 rfl (by decide +kernel) ⟨Nat.le_of_ble_eq_true rfl, Nat.le_of_ble_eq_true rfl⟩ hT rfl rfl rfl rfl (Nat.le_of_ble_eq_true rfl) dJx4a65c_add_72be8_7 ⟨Nat.le_of_ble_eq_true rfl, Nat.le_of_ble_eq_true rfl⟩ (pc' := 10) rfl rfl rfl (fun v9 al9 sh9 S9 h9 => ?_)
    obtain ⟨q, c2, g, e1, e2, e3, e4, hc1, hc2, hc3, hg, hfr, hfr2⟩ := h9
    subst v9 al9 sh9 S9
    refine J.stk (st2 := [.ref q]) rfl ?_
    have hv2 : shp (shp sh 10 c2 (yQ4 Z c2 g)) 9 0 (.inl (2, tgp tg 1 (some (10, c2)))) 20 n = some (.inl (3, tg9)) := (shp_ne _ _ (by omega)).trans ((shp_ne _ _ (by omega)).trans hv)
    have hs2 : shp (shp sh 10 c2 (yQ4 Z c2 g)) 9 0 (.inl (2, tgp tg 1 (some (10, c2)))) 10 c2 = some (yQ4 Z c2 g) := (shp_ne _ _ (by omega)).trans (shp_self _ _ _ _)
    have hT2 : shp (shp (shp sh 10 c2 (yQ4 Z c2 g)) 9 0 (.inl (2, tgp tg 1 (some (10, c2))))) 10 c2 (yQ4 Z c2 (va_up g (nI n).toNatClampNeg (some (alp al 10 c2 q 20 n)))) 9 0 = some (.inl (2, tgp tg 1 (some (10, c2)))) := (shp_ne _ _ (by omega)).trans (shp_self _ _ _ _)
    refine j_astore_n (lv' := [(2, .ref q), (0, .ref ((alp al 10 c2 q) 9 0)), (1, .ref ((alp al 10 c2 q) 20 n)), (3, .int (nI n))]) cx dJx4a65c_add_72be8_10 rfl (by decide) rfl (pc' := 11) rfl ?_
    refine j_aload_n (j := 0) cx dJx4a65c_add_72be8_11 rfl rfl (pc' := 12) rfl ?_
    refine j_iload_n (j := 3) cx dJx4a65c_add_72be8_12 rfl rfl (pc' := 13) rfl ?_
    refine j_aload_n (j := 2) cx dJx4a65c_add_72be8_13 rfl rfl (pc' := 14) rfl ?_
    refine j_aast (a := 10) (b := c2) (kd := 20) (i := n) cx hs2 rfl hv2 rfl (by decide) (vp_in_nI (by omega) (by omega)) (alp_self _ _ _ _).symm rfl dJx4a65c_add_72be8_14 (pc' := 15) rfl ?_
    refine j_aload_n (j := 1) cx dJx4a65c_add_72be8_15 rfl rfl (pc' := 16) rfl ?_
    refine j_iload_n (j := 3) cx dJx4a65c_add_72be8_16 rfl rfl (pc' := 17) rfl ?_
    refine j_iconst (v := 1) cx dJx4a65c_add_72be8_17 (by decide) (pc' := 18) rfl ?_
    refine j_iadd cx dJx4a65c_add_72be8_18 (pc' := 19) rfl ?_
    refine j_puti (fk := 2) (ref := "java/util/ArrayList") (ty := .int) cx (tg := (tgp tg 1 (some (10, c2)))) hT2 rfl (by decide +kernel) (by decide) (by decide +kernel) (fun _ h => h) tyJx4a65c tyJx4a65c_ok nmJx4a65c rfl (by decide +kernel) (by simp [tgp, ht2]) rfl rfl rfl dJx4a65c_add_72be8_19 (pc' := 22) rfl ?_
    exact j_vret cx hlk hr (Nat.le_of_ble_eq_true rfl) (Nat.le_of_ble_eq_true rfl) dJx4a65c_add_72be8_22 ⟨rfl, ⟨_, hT2, by simp [tgp, ht0], by simp [tgp, ht2], Or.inr ⟨c2, _, hc1, hc2, hc3, by simp [tgp], shp_self _ _ _ _, yl_up (by omega) (fun i hi => (hg i hi).trans (congrArg some (alp_ne _ _ (by omega)).symm)), fun c' hc' => (shp_ne _ _ (by omega)).trans ((shp_ne _ _ (by omega)).trans ((shp_ne _ _ (by omega)).trans (hfr2 c' hc')))⟩⟩, fun a b h1 h2 => ⟨alp_ne _ _ (fun q => h2 q.1), (shp_ne _ _ (fun q => h2 q.1)).trans ((shp_ne _ _ (fun q => h1 q.1)).trans (shp_ne _ _ (fun q => h2 q.1)))⟩, by rw [sup_self, nI_1'], fun a b j h1 h2 => (sup_ne _ _ (fun q => h1 q.1)).trans (by simp [szero, h2]), alp_ne _ _ (by omega), fun b hb => (shp_ne _ _ (by omega)).trans ((shp_ne _ _ (fun q => hb q.2)).trans (shp_ne _ _ (by omega)))⟩
  obtain ⟨f0, hs0⟩ : ∃ f0, sh 10 n = some (yQ4 Z n f0) := by
    rcases hF2 with ⟨h0, -⟩ | ⟨f, -, -, q, -⟩
    · omega
    · exact ⟨f, q⟩
  refine j_iload_n (j := 3) cx dJx4a65c_add_72be8_0 rfl rfl (pc' := 1) rfl ?_
  refine j_aload_n (j := 2) cx dJx4a65c_add_72be8_1 rfl rfl (pc' := 2) rfl ?_
  refine j_alen (a := 10) (b := n) (ti := 4) cx hs0 rfl rfl dJx4a65c_add_72be8_2 (pc' := 3) rfl ?_
  refine j_icmp_ne (tgt := 11) cx dJx4a65c_add_72be8_3 (by decide) (pc' := 6) rfl (fun h => by first | exact absurd h (rfl : nI n = nI n) | exact absurd (rfl : nI n = nI n) h) (fun _ => ?_)
  refine j_aload_n (j := 0) cx dJx4a65c_add_72be8_6 rfl rfl (pc' := 7) rfl ?_
  refine j_cVP (cells1 := 1) (slots1 := 60) (As := []) (rest := []) cx (c_gw_9 hT ht0 ht2 hn hE hel hF hs) gJx4a65c_add_72be8_Jx4a65c_grow_d5877 rfl rfl rfl 0 rfl (by decide +kernel) ⟨Nat.le_of_ble_eq_true rfl, Nat.le_of_ble_eq_true rfl⟩ hT rfl rfl rfl rfl (Nat.le_of_ble_eq_true rfl) dJx4a65c_add_72be8_7 ⟨Nat.le_of_ble_eq_true rfl, Nat.le_of_ble_eq_true rfl⟩ (pc' := 10) rfl rfl rfl (fun v9 al9 sh9 S9 h9 => ?_)
  obtain ⟨q, c2, g, e1, e2, e3, e4, hc1, hc2, hc3, hg, hfr, hfr2⟩ := h9
  subst v9 al9 sh9 S9
  refine J.stk (st2 := [.ref q]) rfl ?_
  have hv2 : shp (shp sh 10 c2 (yQ4 Z c2 g)) 9 0 (.inl (2, tgp tg 1 (some (10, c2)))) 20 n = some (.inl (3, tg9)) := (shp_ne _ _ (by omega)).trans ((shp_ne _ _ (by omega)).trans hv)
  have hs2 : shp (shp sh 10 c2 (yQ4 Z c2 g)) 9 0 (.inl (2, tgp tg 1 (some (10, c2)))) 10 c2 = some (yQ4 Z c2 g) := (shp_ne _ _ (by omega)).trans (shp_self _ _ _ _)
  have hT2 : shp (shp (shp sh 10 c2 (yQ4 Z c2 g)) 9 0 (.inl (2, tgp tg 1 (some (10, c2))))) 10 c2 (yQ4 Z c2 (va_up g (nI n).toNatClampNeg (some (alp al 10 c2 q 20 n)))) 9 0 = some (.inl (2, tgp tg 1 (some (10, c2)))) := (shp_ne _ _ (by omega)).trans (shp_self _ _ _ _)
  refine j_astore_n (lv' := [(2, .ref q), (0, .ref ((alp al 10 c2 q) 9 0)), (1, .ref ((alp al 10 c2 q) 20 n)), (3, .int (nI n))]) cx dJx4a65c_add_72be8_10 rfl (by decide) rfl (pc' := 11) rfl ?_
  refine j_aload_n (j := 0) cx dJx4a65c_add_72be8_11 rfl rfl (pc' := 12) rfl ?_
  refine j_iload_n (j := 3) cx dJx4a65c_add_72be8_12 rfl rfl (pc' := 13) rfl ?_
  refine j_aload_n (j := 2) cx dJx4a65c_add_72be8_13 rfl rfl (pc' := 14) rfl ?_
  refine j_aast (a := 10) (b := c2) (kd := 20) (i := n) cx hs2 rfl hv2 rfl (by decide) (vp_in_nI (by omega) (by omega)) (alp_self _ _ _ _).symm rfl dJx4a65c_add_72be8_14 (pc' := 15) rfl ?_
  refine j_aload_n (j := 1) cx dJx4a65c_add_72be8_15 rfl rfl (pc' := 16) rfl ?_
  refine j_iload_n (j := 3) cx dJx4a65c_add_72be8_16 rfl rfl (pc' := 17) rfl ?_
  refine j_iconst (v := 1) cx dJx4a65c_add_72be8_17 (by decide) (pc' := 18) rfl ?_
  refine j_iadd cx dJx4a65c_add_72be8_18 (pc' := 19) rfl ?_
  refine j_puti (fk := 2) (ref := "java/util/ArrayList") (ty := .int) cx (tg := (tgp tg 1 (some (10, c2)))) hT2 rfl (by decide +kernel) (by decide) (by decide +kernel) (fun _ h => h) tyJx4a65c tyJx4a65c_ok nmJx4a65c rfl (by decide +kernel) (by simp [tgp, ht2]) rfl rfl rfl dJx4a65c_add_72be8_19 (pc' := 22) rfl ?_
  exact j_vret cx hlk hr (Nat.le_of_ble_eq_true rfl) (Nat.le_of_ble_eq_true rfl) dJx4a65c_add_72be8_22 ⟨rfl, ⟨_, hT2, by simp [tgp, ht0], by simp [tgp, ht2], Or.inr ⟨c2, _, hc1, hc2, hc3, by simp [tgp], shp_self _ _ _ _, yl_up (by omega) (fun i hi => (hg i hi).trans (congrArg some (alp_ne _ _ (by omega)).symm)), fun c' hc' => (shp_ne _ _ (by omega)).trans ((shp_ne _ _ (by omega)).trans ((shp_ne _ _ (by omega)).trans (hfr2 c' hc')))⟩⟩, fun a b h1 h2 => ⟨alp_ne _ _ (fun q => h2 q.1), (shp_ne _ _ (fun q => h2 q.1)).trans ((shp_ne _ _ (fun q => h1 q.1)).trans (shp_ne _ _ (fun q => h2 q.1)))⟩, by rw [sup_self, nI_1'], fun a b j h1 h2 => (sup_ne _ _ (fun q => h1 q.1)).trans (by simp [szero, h2]), alp_ne _ _ (by omega), fun b hb => (shp_ne _ _ (by omega)).trans ((shp_ne _ _ (fun q => hb q.2)).trans (shp_ne _ _ (by omega)))⟩
set_option maxHeartbeats 4000000 in
set_option maxRecDepth 100000 in
theorem c_add_9 {l : Launch} {Z : yL} {al : yAl} {sh : ySh} {S : yS} {n b9 : Nat} {tg9 : yTg} (hL : YL Z al sh 9 20 n) (hs : S 9 0 2 = nI n) (hn : n < 41) (hE : al 99 0 = Z.2.2.2.1) (hel : ∀ i, i < n → ∃ (tg : yTg) (r : vw_C), sh 20 i = some (.inl (3, tg)) ∧ vwCl[3]? = some r ∧ r.1 = "TerminalYard$Machine") (hv : sh 20 n = some (.inl (3, tg9))) (hb : b9 = al 20 n) : Ct l yJx4a65c_add_9ea2d wsJx4a65c_add_9ea2d ({ frames := 6, cells := 1, slots := 60, locals := 150 }) 1 60 Z [.ref (al 9 0), .ref b9] al sh S (fun v9 al9 sh9 S9 => v9 = some (.int 1) ∧ YL Z al9 sh9 9 20 (n + 1) ∧ (∀ a b, a ≠ 9 → a ≠ 10 → al9 a b = al a b ∧ sh9 a b = sh a b) ∧ S9 9 0 2 = nI (n + 1) ∧ (∀ a b j, a ≠ 9 → a ≠ 10 → S9 a b j = S a b j) ∧ al9 9 0 = al 9 0 ∧ ∀ b, b ≠ 0 → sh9 9 b = sh 9 b) := by
  subst hb
  refine Ct.of (lv := [(0, .ref (al 9 0)), (1, .ref (al 20 n))]) (by decide) rfl (Nat.le_of_ble_eq_true rfl) rfl ?_
  intro p_ e_ s_ m_ below_ meth_ c_ cx hlk hr hnm9
  obtain ⟨tg, hT, ht0, ht2, hC⟩ := hL
  rcases hC with ⟨h0, ht1, hfr⟩ | ⟨c, f, hc1, hc2, hc3, ht1, hs0, hg, hfr2⟩
  · refine j_aload_n (j := 0) cx dJx4a65c_add_9ea2d_0 rfl rfl (pc' := 1) rfl ?_
    refine j_dup cx dJx4a65c_add_9ea2d_1 rfl (pc' := 2) rfl ?_
    refine j_get (fk := 0) (ref := "java/util/ArrayList") (v := .int (S 9 0 0)) cx hT rfl (by decide +kernel) (by decide) (by decide +kernel) (fun x9 h9 => u_same (cx.1.2.2.2.2 _ (show Cond.sameField "java/util/ArrayList" "java/util/AbstractList" "modCount" "I" ∈ wsJx4a65c_add_9ea2d by decide +kernel)) x9 h9) (yV_i ht0) rfl dJx4a65c_add_9ea2d_2 (pc' := 5) rfl ?_
    refine j_iconst (v := 1) cx dJx4a65c_add_9ea2d_5 (by decide) (pc' := 6) rfl ?_
    refine j_iadd cx dJx4a65c_add_9ea2d_6 (pc' := 7) rfl ?_
    refine j_puti (fk := 0) (ref := "java/util/ArrayList") (ty := .int) cx hT rfl (by decide +kernel) (by decide) (by decide +kernel) (fun x9 h9 => u_same (cx.1.2.2.2.2 _ (show Cond.sameField "java/util/ArrayList" "java/util/AbstractList" "modCount" "I" ∈ wsJx4a65c_add_9ea2d by decide +kernel)) x9 h9) tyJx4a65c tyJx4a65c_ok nmJx4a65c rfl (by decide +kernel) ht0 rfl rfl rfl dJx4a65c_add_9ea2d_7 (pc' := 10) rfl ?_
    refine j_aload_n (j := 0) cx dJx4a65c_add_9ea2d_10 rfl rfl (pc' := 11) rfl ?_
    refine j_aload_n (j := 1) cx dJx4a65c_add_9ea2d_11 rfl rfl (pc' := 12) rfl ?_
    refine j_aload_n (j := 0) cx dJx4a65c_add_9ea2d_12 rfl rfl (pc' := 13) rfl ?_
    refine j_get (fk := 1) (ref := "java/util/ArrayList") (v := .ref (al 99 0)) cx hT rfl (by decide +kernel) (by decide) (by decide +kernel) (fun _ h => h) (yV_r (k := (99, 0)) ht1) rfl dJx4a65c_add_9ea2d_13 (pc' := 16) rfl ?_
    refine j_aload_n (j := 0) cx dJx4a65c_add_9ea2d_16 rfl rfl (pc' := 17) rfl ?_
    refine j_get (fk := 2) (ref := "java/util/ArrayList") (v := .int (nI n)) cx hT rfl (by decide +kernel) (by decide) (by decide +kernel) (fun _ h => h) ((yV_i ht2).trans (congrArg Value.int (by simp [sup, szero, shp, alp, hs]))) rfl dJx4a65c_add_9ea2d_17 (pc' := 20) rfl ?_
    refine j_cVP (cells1 := 1) (slots1 := 60) (As := [.ref (al 20 n), .ref (al 99 0), .int (nI n)]) (rest := []) cx (c_a3f_9 hT ht0 ht2 hn hE hel (Or.inl ⟨h0, ht1, hfr⟩) ((sup_ne _ _ (by omega)).trans hs) hv (Or.inl ⟨rfl, h0⟩)) gJx4a65c_add_9ea2d_Jx4a65c_add_72be8 rfl rfl rfl 3 rfl (by decide +kernel) ⟨Nat.le_of_ble_eq_true rfl, Nat.le_of_ble_eq_true rfl⟩ hT rfl rfl rfl rfl (Nat.le_of_ble_eq_true rfl) dJx4a65c_add_9ea2d_20 ⟨Nat.le_of_ble_eq_true rfl, Nat.le_of_ble_eq_true rfl⟩ (pc' := 23) rfl rfl rfl (fun v9 al9 sh9 S9 h9 => ?_)
    obtain ⟨e1, hL9, hk1, hk2, hk3, hk4, hk5⟩ := h9
    subst v9
    refine J.stk (st2 := []) rfl ?_
    refine j_iconst (v := 1) cx dJx4a65c_add_9ea2d_23 (by decide) (pc' := 24) rfl ?_
    exact j_iret (ty := .boolean) cx hlk hr rfl (Nat.le_of_ble_eq_true rfl) (Nat.le_of_ble_eq_true rfl) dJx4a65c_add_9ea2d_24 ⟨rfl, hL9, hk1, hk2, fun a b j h1 h2 => (hk3 a b j h1 h2).trans (sup_ne _ _ (fun q => h1 q.1)), hk4, hk5⟩
  by_cases hcn : c = n
  · subst hcn
    refine j_aload_n (j := 0) cx dJx4a65c_add_9ea2d_0 rfl rfl (pc' := 1) rfl ?_
    refine j_dup cx dJx4a65c_add_9ea2d_1 rfl (pc' := 2) rfl ?_
    refine j_get (fk := 0) (ref := "java/util/ArrayList") (v := .int (S 9 0 0)) cx hT rfl (by decide +kernel) (by decide) (by decide +kernel) (fun x9 h9 => u_same (cx.1.2.2.2.2 _ (show Cond.sameField "java/util/ArrayList" "java/util/AbstractList" "modCount" "I" ∈ wsJx4a65c_add_9ea2d by decide +kernel)) x9 h9) (yV_i ht0) rfl dJx4a65c_add_9ea2d_2 (pc' := 5) rfl ?_
    refine j_iconst (v := 1) cx dJx4a65c_add_9ea2d_5 (by decide) (pc' := 6) rfl ?_
    refine j_iadd cx dJx4a65c_add_9ea2d_6 (pc' := 7) rfl ?_
    refine j_puti (fk := 0) (ref := "java/util/ArrayList") (ty := .int) cx hT rfl (by decide +kernel) (by decide) (by decide +kernel) (fun x9 h9 => u_same (cx.1.2.2.2.2 _ (show Cond.sameField "java/util/ArrayList" "java/util/AbstractList" "modCount" "I" ∈ wsJx4a65c_add_9ea2d by decide +kernel)) x9 h9) tyJx4a65c tyJx4a65c_ok nmJx4a65c rfl (by decide +kernel) ht0 rfl rfl rfl dJx4a65c_add_9ea2d_7 (pc' := 10) rfl ?_
    refine j_aload_n (j := 0) cx dJx4a65c_add_9ea2d_10 rfl rfl (pc' := 11) rfl ?_
    refine j_aload_n (j := 1) cx dJx4a65c_add_9ea2d_11 rfl rfl (pc' := 12) rfl ?_
    refine j_aload_n (j := 0) cx dJx4a65c_add_9ea2d_12 rfl rfl (pc' := 13) rfl ?_
    refine j_get (fk := 1) (ref := "java/util/ArrayList") (v := .ref (al 10 c)) cx hT rfl (by decide +kernel) (by decide) (by decide +kernel) (fun _ h => h) (yV_r (k := (10, c)) ht1) rfl dJx4a65c_add_9ea2d_13 (pc' := 16) rfl ?_
    refine j_aload_n (j := 0) cx dJx4a65c_add_9ea2d_16 rfl rfl (pc' := 17) rfl ?_
    refine j_get (fk := 2) (ref := "java/util/ArrayList") (v := .int (nI c)) cx hT rfl (by decide +kernel) (by decide) (by decide +kernel) (fun _ h => h) ((yV_i ht2).trans (congrArg Value.int (by simp [sup, szero, shp, alp, hs]))) rfl dJx4a65c_add_9ea2d_17 (pc' := 20) rfl ?_
    refine j_cVP (cells1 := 1) (slots1 := 60) (As := [.ref (al 20 c), .ref (al 10 c), .int (nI c)]) (rest := []) cx (c_a3f_9 hT ht0 ht2 hn hE hel (Or.inr ⟨f, hc2, ht1, hs0, hg, hfr2⟩) ((sup_ne _ _ (by omega)).trans hs) hv (Or.inr ⟨rfl, hc2⟩)) gJx4a65c_add_9ea2d_Jx4a65c_add_72be8 rfl rfl rfl 3 rfl (by decide +kernel) ⟨Nat.le_of_ble_eq_true rfl, Nat.le_of_ble_eq_true rfl⟩ hT rfl rfl rfl rfl (Nat.le_of_ble_eq_true rfl) dJx4a65c_add_9ea2d_20 ⟨Nat.le_of_ble_eq_true rfl, Nat.le_of_ble_eq_true rfl⟩ (pc' := 23) rfl rfl rfl (fun v9 al9 sh9 S9 h9 => ?_)
    obtain ⟨e1, hL9, hk1, hk2, hk3, hk4, hk5⟩ := h9
    subst v9
    refine J.stk (st2 := []) rfl ?_
    refine j_iconst (v := 1) cx dJx4a65c_add_9ea2d_23 (by decide) (pc' := 24) rfl ?_
    exact j_iret (ty := .boolean) cx hlk hr rfl (Nat.le_of_ble_eq_true rfl) (Nat.le_of_ble_eq_true rfl) dJx4a65c_add_9ea2d_24 ⟨rfl, hL9, hk1, hk2, fun a b j h1 h2 => (hk3 a b j h1 h2).trans (sup_ne _ _ (fun q => h1 q.1)), hk4, hk5⟩
  refine j_aload_n (j := 0) cx dJx4a65c_add_9ea2d_0 rfl rfl (pc' := 1) rfl ?_
  refine j_dup cx dJx4a65c_add_9ea2d_1 rfl (pc' := 2) rfl ?_
  refine j_get (fk := 0) (ref := "java/util/ArrayList") (v := .int (S 9 0 0)) cx hT rfl (by decide +kernel) (by decide) (by decide +kernel) (fun x9 h9 => u_same (cx.1.2.2.2.2 _ (show Cond.sameField "java/util/ArrayList" "java/util/AbstractList" "modCount" "I" ∈ wsJx4a65c_add_9ea2d by decide +kernel)) x9 h9) (yV_i ht0) rfl dJx4a65c_add_9ea2d_2 (pc' := 5) rfl ?_
  refine j_iconst (v := 1) cx dJx4a65c_add_9ea2d_5 (by decide) (pc' := 6) rfl ?_
  refine j_iadd cx dJx4a65c_add_9ea2d_6 (pc' := 7) rfl ?_
  refine j_puti (fk := 0) (ref := "java/util/ArrayList") (ty := .int) cx hT rfl (by decide +kernel) (by decide) (by decide +kernel) (fun x9 h9 => u_same (cx.1.2.2.2.2 _ (show Cond.sameField "java/util/ArrayList" "java/util/AbstractList" "modCount" "I" ∈ wsJx4a65c_add_9ea2d by decide +kernel)) x9 h9) tyJx4a65c tyJx4a65c_ok nmJx4a65c rfl (by decide +kernel) ht0 rfl rfl rfl dJx4a65c_add_9ea2d_7 (pc' := 10) rfl ?_
  refine j_aload_n (j := 0) cx dJx4a65c_add_9ea2d_10 rfl rfl (pc' := 11) rfl ?_
  refine j_aload_n (j := 1) cx dJx4a65c_add_9ea2d_11 rfl rfl (pc' := 12) rfl ?_
  refine j_aload_n (j := 0) cx dJx4a65c_add_9ea2d_12 rfl rfl (pc' := 13) rfl ?_
  refine j_get (fk := 1) (ref := "java/util/ArrayList") (v := .ref (al 10 c)) cx hT rfl (by decide +kernel) (by decide) (by decide +kernel) (fun _ h => h) (yV_r (k := (10, c)) ht1) rfl dJx4a65c_add_9ea2d_13 (pc' := 16) rfl ?_
  refine j_aload_n (j := 0) cx dJx4a65c_add_9ea2d_16 rfl rfl (pc' := 17) rfl ?_
  refine j_get (fk := 2) (ref := "java/util/ArrayList") (v := .int (nI n)) cx hT rfl (by decide +kernel) (by decide) (by decide +kernel) (fun _ h => h) ((yV_i ht2).trans (congrArg Value.int (by simp [sup, szero, shp, alp, hs]))) rfl dJx4a65c_add_9ea2d_17 (pc' := 20) rfl ?_
  refine j_cVP (cells1 := 0) (slots1 := 0) (As := [.ref (al 20 n), .ref (al 10 c), .int (nI n)]) (rest := []) cx (c_a3r_9 hT ht0 ht2 hv (by omega) hc2 hc3 ht1 hs0 hg hfr2) gJx4a65c_add_9ea2d_Jx4a65c_add_72be8 rfl rfl rfl 3 rfl (by decide +kernel) ⟨Nat.le_of_ble_eq_true rfl, Nat.le_of_ble_eq_true rfl⟩ hT rfl rfl rfl rfl (Nat.le_of_ble_eq_true rfl) dJx4a65c_add_9ea2d_20 ⟨Nat.le_of_ble_eq_true rfl, Nat.le_of_ble_eq_true rfl⟩ (pc' := 23) rfl rfl rfl (fun v9 al9 sh9 S9 h9 => ?_)
  obtain ⟨e1, hL9, hk1, hk2, hk3, hk4, hk5⟩ := h9
  subst v9
  refine J.stk (st2 := []) rfl ?_
  refine j_iconst (v := 1) cx dJx4a65c_add_9ea2d_23 (by decide) (pc' := 24) rfl ?_
  exact j_iret (ty := .boolean) cx hlk hr rfl (Nat.le_of_ble_eq_true rfl) (Nat.le_of_ble_eq_true rfl) dJx4a65c_add_9ea2d_24 ⟨rfl, hL9, hk1, hk2, fun a b j h1 h2 => (hk3 a b j h1 h2).trans (sup_ne _ _ (fun q => h1 q.1)), hk4, hk5⟩
set_option maxHeartbeats 4000000 in
set_option maxRecDepth 100000 in
theorem c_cp6_11 {l : Launch} {Z : yL} {al : yAl} {sh : ySh} {S : yS} {n c2 : Nat} {f : Nat → Option Nat} (hs0 : sh 12 n = some (yQ4 Z n f)) (hfr : sh 12 c2 = none) (hc2 : n ≤ c2) (hc3 : c2 ≤ 60) (hf : ∀ i, i < n → f i = some (al 21 i)) (hel : ∀ i, i < n → ∃ (tg : yTg) (r : vw_C), sh 21 i = some (.inl (4, tg)) ∧ vwCl[4]? = some r ∧ r.1 = "TerminalYard$Session") : Ct l yJ7_copyOf_6403c wsJ7_copyOf_6403c ({ frames := 1, cells := 1, slots := 60, locals := 40 }) 1 60 Z [.ref (al 12 n), .int (nI c2), .ref Z.2.2.2.2] al sh S (fun v9 al9 sh9 S9 => ∃ q, v9 = some (.ref q) ∧ al9 = alp al 12 c2 q ∧ sh9 = shp sh 12 c2 (yQ4 Z c2 (va_cpy f (fun _ => none) 0 0 n)) ∧ S9 = szero S 12 c2) := by
  refine Ct.of (lv := [(0, .ref (al 12 n)), (1, .int (nI c2)), (2, .ref Z.2.2.2.2)]) (by decide) rfl (Nat.le_of_ble_eq_true rfl) rfl ?_
  intro p_ e_ s_ m_ below_ meth_ c_ cx hlk hr hnm9
  refine j_aload_n (j := 2) cx dJ7_copyOf_6403c_0 rfl rfl (pc' := 1) rfl ?_
  refine j_ldcM cx (by decide +kernel) dJ7_copyOf_6403c_1 (pc' := 3) rfl ?_
  refine j_acmp_ne (tgt := 13) cx dJ7_copyOf_6403c_3 (by decide) (pc' := 6) rfl (fun h => absurd rfl h) (fun _ => ?_)
  refine j_iload_n (j := 1) cx dJ7_copyOf_6403c_6 rfl rfl (pc' := 7) rfl ?_
  refine j_anew cx 12 c2 hfr (by decide) (by decide +kernel) (N := c2) (nI_pos (by omega)) (nI_clamp (by omega)) (by omega) (Nat.le_of_ble_eq_true rfl) (by show 0 + c2 ≤ 60; omega) dJ7_copyOf_6403c_7 (pc' := 10) rfl (fun q => J.widen (k := 1) (n := 60) (Nat.le_refl _) (by show 0 + c2 ≤ 60; omega) ?_)
  have hne : ¬ (12 = 12 ∧ n = c2) := fun q => by rw [q.2, hfr] at hs0; cases hs0
  have hs1 : shp sh 12 c2 (yQ4 Z c2 (fun _ => none)) 12 n = some (yQ4 Z n f) := (shp_ne _ _ hne).trans hs0
  have hq1 : al 12 n = alp al 12 c2 q 12 n := (alp_ne _ _ hne).symm
  have hmn : ymin (nI n) (nI c2) = nI n := by unfold ymin; rw [if_neg (fun q => by rw [Int32.lt_iff_toInt_lt, nI_toInt (by omega), nI_toInt (by omega)] at q; omega)]
  have hmin0 : ¬ ymin (nI n) (nI c2) < 0 := by rw [hmn]; exact nI_pos (by omega)
  have hminN : (ymin (nI n) (nI c2)).toNatClampNeg = n := by rw [hmn]; exact nI_clamp (by omega)
  have hel2 : ∀ i : Nat, i < n → ∃ (kd9 j9 ci9 : Nat) (tg : yTg) (r : vw_C), f i = some (alp al 12 c2 q kd9 j9) ∧ shp sh 12 c2 (yQ4 Z c2 (fun _ => none)) kd9 j9 = some (.inl (ci9, tg)) ∧ vwCl[ci9]? = some r ∧ r.1 = "TerminalYard$Session" := by
    intro i hi
    obtain ⟨tg, r, e1, e2, e3⟩ := hel i hi
    exact ⟨21, i, 4, tg, r, (hf i hi).trans (congrArg some (alp_ne _ _ (by omega)).symm), (shp_ne _ _ (by omega)).trans e1, e2, e3⟩
  refine j_goto (tgt := 24) cx dJ7_copyOf_6403c_10 (by decide) ?_
  refine j_astore_n (lv' := [(3, .ref q), (0, .ref (al 12 n)), (1, .int (nI c2)), (2, .ref Z.2.2.2.2)]) cx dJ7_copyOf_6403c_24 rfl (by decide) rfl (pc' := 25) rfl ?_
  refine j_aload_n (j := 1) cx dJ7_copyOf_6403c_25 rfl rfl (pc' := 26) rfl ?_
  refine j_iconst (v := 0) cx dJ7_copyOf_6403c_26 (by decide) (pc' := 27) rfl ?_
  refine j_aload_n (j := 0) cx dJ7_copyOf_6403c_27 rfl rfl (pc' := 28) rfl ?_
  refine j_iconst (v := 0) cx dJ7_copyOf_6403c_28 (by decide) (pc' := 29) rfl ?_
  refine j_aload_n (j := 1) cx dJ7_copyOf_6403c_29 rfl rfl (pc' := 30) rfl ?_
  refine j_alen (a := 12) (b := n) (ti := 4) cx hs1 rfl hq1 dJ7_copyOf_6403c_30 (pc' := 31) rfl ?_
  refine j_iload_n (j := 2) cx dJ7_copyOf_6403c_31 rfl rfl (pc' := 32) rfl ?_
  refine j_mmin cx (by decide +kernel) (by decide +kernel) (by decide +kernel) (by decide +kernel) dJ7_copyOf_6403c_32 (Nat.le_of_ble_eq_true rfl) (Nat.le_of_ble_eq_true rfl) (Nat.le_of_ble_eq_true rfl) (Nat.le_of_ble_eq_true rfl) (pc' := 35) rfl ?_
  refine j_copy (a := 12) (b := n) (a' := 12) (b' := c2) (C := "TerminalYard$Session") (N := n) cx (by decide +kernel) (by decide +kernel) (by decide +kernel) (by decide +kernel) (by decide) hs1 (shp_self _ _ _ _) hq1 (alp_self _ _ _ _).symm hmin0 hminN (Nat.le_refl _) hc2 hel2 (Nat.le_of_ble_eq_true rfl) (Nat.le_of_ble_eq_true rfl) dJ7_copyOf_6403c_35 (pc' := 38) rfl ?_
  refine j_aload_n (j := 0) cx dJ7_copyOf_6403c_38 rfl rfl (pc' := 39) rfl ?_
  exact j_aret cx hlk hr (Or.inr ⟨_, rfl⟩) (Nat.le_of_ble_eq_true rfl) (Nat.le_of_ble_eq_true rfl) dJ7_copyOf_6403c_39 ⟨q, rfl, rfl, shp_shp _ _ _ _ _, rfl⟩
set_option maxHeartbeats 4000000 in
set_option maxRecDepth 100000 in
theorem c_cp1_11 {l : Launch} {Z : yL} {al : yAl} {sh : ySh} {S : yS} {n c2 : Nat} {f : Nat → Option Nat} (hs0 : sh 12 n = some (yQ4 Z n f)) (hfr : sh 12 c2 = none) (hc2 : n ≤ c2) (hc3 : c2 ≤ 60) (hf : ∀ i, i < n → f i = some (al 21 i)) (hel : ∀ i, i < n → ∃ (tg : yTg) (r : vw_C), sh 21 i = some (.inl (4, tg)) ∧ vwCl[4]? = some r ∧ r.1 = "TerminalYard$Session") : Ct l yJ7_copyOf_1904c wsJ7_copyOf_1904c ({ frames := 2, cells := 1, slots := 60, locals := 63 }) 1 60 Z [.ref (al 12 n), .int (nI c2)] al sh S (fun v9 al9 sh9 S9 => ∃ q, v9 = some (.ref q) ∧ al9 = alp al 12 c2 q ∧ sh9 = shp sh 12 c2 (yQ4 Z c2 (va_cpy f (fun _ => none) 0 0 n)) ∧ S9 = szero S 12 c2) := by
  refine Ct.of (lv := [(0, .ref (al 12 n)), (1, .int (nI c2))]) (by decide) rfl (Nat.le_of_ble_eq_true rfl) rfl ?_
  intro p_ e_ s_ m_ below_ meth_ c_ cx hlk hr hnm9
  refine j_aload_n (j := 0) cx dJ7_copyOf_1904c_0 rfl rfl (pc' := 1) rfl ?_
  refine j_iload_n (j := 1) cx dJ7_copyOf_1904c_1 rfl rfl (pc' := 2) rfl ?_
  refine j_aload_n (j := 0) cx dJ7_copyOf_1904c_2 rfl rfl (pc' := 3) rfl ?_
  refine j_getC cx (by decide +kernel) (by decide +kernel) (by decide +kernel) (by decide +kernel) hs0 rfl (Nat.le_of_ble_eq_true rfl) (Nat.le_of_ble_eq_true rfl) dJ7_copyOf_1904c_3 (pc' := 6) rfl ?_
  refine j_cSP (cells1 := 1) (slots1 := 60) (As := [.ref (al 12 n), .int (nI c2), .ref Z.2.2.2.2]) (rest := []) cx (c_cp6_11 hs0 hfr hc2 hc3 hf hel) gJ7_copyOf_1904c_J7_copyOf_6403c rfl rfl rfl 3 rfl (by decide +kernel) ⟨Nat.le_of_ble_eq_true rfl, Nat.le_of_ble_eq_true rfl⟩ rfl (Nat.le_of_ble_eq_true rfl) dJ7_copyOf_1904c_6 ⟨Nat.le_of_ble_eq_true rfl, Nat.le_of_ble_eq_true rfl⟩ (pc' := 9) rfl rfl rfl (fun v9 al9 sh9 S9 h9 => ?_)
  obtain ⟨q, e1, e2, e3, e4⟩ := h9
  subst v9 al9 sh9 S9
  refine J.stk (st2 := [.ref q]) rfl ?_
  exact j_aret cx hlk hr (Or.inr ⟨_, rfl⟩) (Nat.le_of_ble_eq_true rfl) (Nat.le_of_ble_eq_true rfl) dJ7_copyOf_1904c_9 ⟨q, rfl, rfl, rfl, rfl⟩
set_option maxHeartbeats 4000000 in
set_option maxRecDepth 100000 in
theorem c_gr_11 {l : Launch} {Z : yL} {al : yAl} {sh : ySh} {S : yS} {n : Nat} {tg : yTg} (hT : sh 11 0 = some (.inl (2, tg))) (ht0 : tg 0 = none) (ht2 : tg 2 = none) (hn : n < 41) (hE : al 99 0 = Z.2.2.2.1) (hel : ∀ i, i < n → ∃ (tg : yTg) (r : vw_C), sh 21 i = some (.inl (4, tg)) ∧ vwCl[4]? = some r ∧ r.1 = "TerminalYard$Session") (hF : (n = 0 ∧ tg 1 = some (some (99, 0)) ∧ ∀ c', sh 12 c' = none) ∨ ∃ f : Nat → Option Nat, 10 ≤ n ∧ tg 1 = some (some (12, n)) ∧ sh 12 n = some (yQ4 Z n f) ∧ (∀ i, i < n → f i = some (al 21 i)) ∧ ∀ c', n < c' → sh 12 c' = none) : Ct l yJx4a65c_grow_92f84 wsJx4a65c_grow_92f84 ({ frames := 3, cells := 1, slots := 60, locals := 84 }) 1 60 Z [.ref (al 11 0), .int (nI n + 1)] al sh S (gP Z al sh S 11 21 n tg) := by
  refine Ct.of (lv := [(0, .ref (al 11 0)), (1, .int (nI n + 1))]) (by decide) rfl (Nat.le_of_ble_eq_true rfl) rfl ?_
  intro p_ e_ s_ m_ below_ meth_ c_ cx hlk hr hnm9
  rcases hF with ⟨rfl, ht1, hfr⟩ | ⟨f, h10, ht1, hs0, hf, hfr⟩
  · refine j_aload_n (j := 0) cx dJx4a65c_grow_92f84_0 rfl rfl (pc' := 1) rfl ?_
    refine j_get (fk := 1) (ref := "java/util/ArrayList") (v := .ref (al 99 0)) cx hT rfl (by decide +kernel) (by decide) (by decide +kernel) (fun _ h => h) (yV_r (k := (99, 0)) ht1) rfl dJx4a65c_grow_92f84_1 (pc' := 4) rfl ?_
    refine j_alenE cx hE dJx4a65c_grow_92f84_4 (pc' := 5) rfl ?_
    refine j_istore_n (lv' := [(2, .int 0), (0, .ref (al 11 0)), (1, .int (nI 0 + 1))]) cx dJx4a65c_grow_92f84_5 rfl (by decide) rfl (pc' := 6) rfl ?_
    refine j_iload_n (j := 0) cx dJx4a65c_grow_92f84_6 rfl rfl (pc' := 7) rfl ?_
    refine j_if_gt (tgt := 20) cx dJx4a65c_grow_92f84_7 (by decide) (pc' := 10) rfl (fun h => absurd h (by decide)) (fun _ => ?_)
    refine j_aload_n (j := 1) cx dJx4a65c_grow_92f84_10 rfl rfl (pc' := 11) rfl ?_
    refine j_get (fk := 1) (ref := "java/util/ArrayList") (v := .ref (al 99 0)) cx hT rfl (by decide +kernel) (by decide) (by decide +kernel) (fun _ h => h) (yV_r (k := (99, 0)) ht1) rfl dJx4a65c_grow_92f84_11 (pc' := 14) rfl ?_
    refine j_getE cx (by decide +kernel) dJx4a65c_grow_92f84_14 (pc' := 17) rfl ?_
    refine j_acmp_eq (tgt := 45) cx dJx4a65c_grow_92f84_17 (by decide) (pc' := 20) rfl (fun _ => ?_) (fun h => absurd hE h)
    refine j_aload_n (j := 1) cx dJx4a65c_grow_92f84_45 rfl rfl (pc' := 46) rfl ?_
    refine j_bipush (v := 10) cx dJx4a65c_grow_92f84_46 (by decide) (pc' := 48) rfl ?_
    refine j_iload_n (j := 2) cx dJx4a65c_grow_92f84_48 rfl rfl (pc' := 49) rfl ?_
    refine j_mmax cx (by decide +kernel) (by decide +kernel) (by decide +kernel) (by decide +kernel) dJx4a65c_grow_92f84_49 (Nat.le_of_ble_eq_true rfl) (Nat.le_of_ble_eq_true rfl) (Nat.le_of_ble_eq_true rfl) (Nat.le_of_ble_eq_true rfl) (pc' := 52) rfl ?_
    refine j_anew cx 12 10 (hfr 10) (by decide) (by decide +kernel) (N := 10) (by decide) (by decide) (by decide) (Nat.le_of_ble_eq_true rfl) (Nat.le_of_ble_eq_true rfl) dJx4a65c_grow_92f84_52 (pc' := 55) rfl (fun q => ?_)
    have hT2 : shp sh 12 10 (yQ4 Z 10 (fun _ => none)) 11 0 = some (.inl (2, tg)) := (shp_ne _ _ (by omega)).trans hT
    refine j_dup_x1 cx dJx4a65c_grow_92f84_55 rfl rfl (pc' := 56) rfl ?_
    refine j_putr (fk := 1) (ref := "java/util/ArrayList") (ty := .array (.object "java/lang/Object")) (kk := (12, 10)) cx (tg := tg) hT2 rfl (by decide +kernel) (by decide) (by decide +kernel) (fun _ h => h) tyJx4a65c tyJx4a65c_ok nmJx4a65c rfl (by decide +kernel) (alp_self _ _ _ _).symm (Or.inl (by rw [shp_self]; simp)) rfl rfl rfl dJx4a65c_grow_92f84_56 (pc' := 59) rfl ?_
    exact j_aret cx hlk hr (Or.inr ⟨_, rfl⟩) (Nat.le_of_ble_eq_true rfl) (Nat.le_of_ble_eq_true rfl) dJx4a65c_grow_92f84_59 ⟨q, 10, (fun _ => none), rfl, rfl, rfl, rfl, by decide, by decide, by decide, fun i hi => absurd hi (by omega), hfr 10, fun c' _ => hfr c'⟩
  obtain ⟨nl1, nl2, nl3⟩ := nl_of h10 hn
  refine j_aload_n (j := 0) cx dJx4a65c_grow_92f84_0 rfl rfl (pc' := 1) rfl ?_
  refine j_get (fk := 1) (ref := "java/util/ArrayList") (v := .ref (al 12 n)) cx hT rfl (by decide +kernel) (by decide) (by decide +kernel) (fun _ h => h) (yV_r (k := (12, n)) ht1) rfl dJx4a65c_grow_92f84_1 (pc' := 4) rfl ?_
  refine j_alen (ti := 4) cx hs0 rfl rfl dJx4a65c_grow_92f84_4 (pc' := 5) rfl ?_
  refine j_istore_n (lv' := [(2, .int (nI n)), (0, .ref (al 11 0)), (1, .int (nI n + 1))]) cx dJx4a65c_grow_92f84_5 rfl (by decide) rfl (pc' := 6) rfl ?_
  refine j_iload_n (j := 0) cx dJx4a65c_grow_92f84_6 rfl rfl (pc' := 7) rfl ?_
  refine j_if_gt (tgt := 20) cx dJx4a65c_grow_92f84_7 (by decide) (pc' := 10) rfl (fun _ => ?_) (fun h => by first | exact absurd h (nI_lt (a := 0) (by omega) (by omega) : (0 : Int32) < nI n) | exact absurd (nI_lt (a := 0) (by omega) (by omega) : (0 : Int32) < nI n) h)
  refine j_iload_n (j := 0) cx dJx4a65c_grow_92f84_20 rfl rfl (pc' := 21) rfl ?_
  refine j_iload_n (j := 2) cx dJx4a65c_grow_92f84_21 rfl rfl (pc' := 22) rfl ?_
  refine j_iload_n (j := 0) cx dJx4a65c_grow_92f84_22 rfl rfl (pc' := 23) rfl ?_
  refine j_isub cx dJx4a65c_grow_92f84_23 (pc' := 24) rfl ?_
  refine j_iload_n (j := 0) cx dJx4a65c_grow_92f84_24 rfl rfl (pc' := 25) rfl ?_
  refine j_iconst (v := 1) cx dJx4a65c_grow_92f84_25 (by decide) (pc' := 26) rfl ?_
  refine j_ishr cx dJx4a65c_grow_92f84_26 (pc' := 27) rfl ?_
  refine j_cSR (cells1 := 0) (slots1 := 0) (st1 := [.int ((nI n) + ymax ((nI n + 1) - (nI n)) ((nI n) >>> (1 &&& 31)))]) (As := [.int (nI n), .int ((nI n + 1) - (nI n)), .int ((nI n) >>> (1 &&& 31))]) (rest := []) cx (c_nl nl2 nl3) gJx4a65c_grow_92f84_J8_newLength_cabcc rfl rfl rfl 3 rfl (by decide +kernel) ⟨Nat.le_of_ble_eq_true rfl, Nat.le_of_ble_eq_true rfl⟩ rfl (Nat.le_of_ble_eq_true rfl) dJx4a65c_grow_92f84_27 ⟨Nat.le_of_ble_eq_true rfl, Nat.le_of_ble_eq_true rfl⟩ (pc' := 30) rfl rfl rfl rfl ?_
  refine J.stk (st2 := [.int (nI (n + n / 2))]) (by rw [nl1]) ?_
  refine j_istore_n (lv' := [(3, .int (nI (n + n / 2))), (2, .int (nI n)), (0, .ref (al 11 0)), (1, .int (nI n + 1))]) cx dJx4a65c_grow_92f84_30 rfl (by decide) rfl (pc' := 31) rfl ?_
  refine j_aload_n (j := 2) cx dJx4a65c_grow_92f84_31 rfl rfl (pc' := 32) rfl ?_
  refine j_aload_n (j := 2) cx dJx4a65c_grow_92f84_32 rfl rfl (pc' := 33) rfl ?_
  refine j_get (fk := 1) (ref := "java/util/ArrayList") (v := .ref (al 12 n)) cx hT rfl (by decide +kernel) (by decide) (by decide +kernel) (fun _ h => h) (yV_r (k := (12, n)) ht1) rfl dJx4a65c_grow_92f84_33 (pc' := 36) rfl ?_
  refine j_iload_n (j := 0) cx dJx4a65c_grow_92f84_36 rfl rfl (pc' := 37) rfl ?_
  refine j_cSP (cells1 := 1) (slots1 := 60) (As := [.ref (al 12 n), .int (nI (n + n / 2))]) (rest := [.ref (al 11 0)]) cx (c_cp1_11 hs0 (hfr _ (by omega)) (by omega) (by omega) hf hel) gJx4a65c_grow_92f84_J7_copyOf_1904c rfl rfl rfl 2 rfl (by decide +kernel) ⟨Nat.le_of_ble_eq_true rfl, Nat.le_of_ble_eq_true rfl⟩ rfl (Nat.le_of_ble_eq_true rfl) dJx4a65c_grow_92f84_37 ⟨Nat.le_of_ble_eq_true rfl, Nat.le_of_ble_eq_true rfl⟩ (pc' := 40) rfl rfl rfl (fun v9 al9 sh9 S9 h9 => ?_)
  obtain ⟨q, e1, e2, e3, e4⟩ := h9
  subst v9 al9 sh9 S9
  refine J.stk (st2 := [.ref q, .ref (al 11 0)]) rfl ?_
  have hT2 : shp sh 12 (n + n / 2) (yQ4 Z (n + n / 2) (va_cpy f (fun _ => none) 0 0 n)) 11 0 = some (.inl (2, tg)) := (shp_ne _ _ (by omega)).trans hT
  refine j_dup_x1 cx dJx4a65c_grow_92f84_40 rfl rfl (pc' := 41) rfl ?_
  refine j_putr (fk := 1) (ref := "java/util/ArrayList") (ty := .array (.object "java/lang/Object")) (kk := (12, n + n / 2)) cx (tg := tg) hT2 rfl (by decide +kernel) (by decide) (by decide +kernel) (fun _ h => h) tyJx4a65c tyJx4a65c_ok nmJx4a65c rfl (by decide +kernel) (alp_self _ _ _ _).symm (Or.inl (by rw [shp_self]; simp)) rfl rfl rfl dJx4a65c_grow_92f84_41 (pc' := 44) rfl ?_
  exact j_aret cx hlk hr (Or.inr ⟨_, rfl⟩) (Nat.le_of_ble_eq_true rfl) (Nat.le_of_ble_eq_true rfl) dJx4a65c_grow_92f84_44 ⟨q, n + n / 2, va_cpy f (fun _ => none) 0 0 n, rfl, rfl, rfl, rfl, by omega, by omega, by omega, fun i hi => by rw [← hf i hi]; simp [va_cpy, hi], hfr _ (by omega), fun c' hc => hfr c' (by omega)⟩
set_option maxHeartbeats 4000000 in
set_option maxRecDepth 100000 in
theorem c_gw_11 {l : Launch} {Z : yL} {al : yAl} {sh : ySh} {S : yS} {n : Nat} {tg : yTg} (hT : sh 11 0 = some (.inl (2, tg))) (ht0 : tg 0 = none) (ht2 : tg 2 = none) (hn : n < 41) (hE : al 99 0 = Z.2.2.2.1) (hel : ∀ i, i < n → ∃ (tg : yTg) (r : vw_C), sh 21 i = some (.inl (4, tg)) ∧ vwCl[4]? = some r ∧ r.1 = "TerminalYard$Session") (hF : (n = 0 ∧ tg 1 = some (some (99, 0)) ∧ ∀ c', sh 12 c' = none) ∨ ∃ f : Nat → Option Nat, 10 ≤ n ∧ tg 1 = some (some (12, n)) ∧ sh 12 n = some (yQ4 Z n f) ∧ (∀ i, i < n → f i = some (al 21 i)) ∧ ∀ c', n < c' → sh 12 c' = none) (hs : S 11 0 2 = nI n) : Ct l yJx4a65c_grow_d5877 wsJx4a65c_grow_d5877 ({ frames := 4, cells := 1, slots := 60, locals := 107 }) 1 60 Z [.ref (al 11 0)] al sh S (gP Z al sh S 11 21 n tg) := by
  refine Ct.of (lv := [(0, .ref (al 11 0))]) (by decide) rfl (Nat.le_of_ble_eq_true rfl) rfl ?_
  intro p_ e_ s_ m_ below_ meth_ c_ cx hlk hr hnm9
  refine j_aload_n (j := 0) cx dJx4a65c_grow_d5877_0 rfl rfl (pc' := 1) rfl ?_
  refine j_aload_n (j := 0) cx dJx4a65c_grow_d5877_1 rfl rfl (pc' := 2) rfl ?_
  refine j_get (fk := 2) (ref := "java/util/ArrayList") (v := .int (nI n)) cx hT rfl (by decide +kernel) (by decide) (by decide +kernel) (fun _ h => h) ((yV_i ht2).trans (congrArg Value.int hs)) rfl dJx4a65c_grow_d5877_2 (pc' := 5) rfl ?_
  refine j_iconst (v := 1) cx dJx4a65c_grow_d5877_5 (by decide) (pc' := 6) rfl ?_
  refine j_iadd cx dJx4a65c_grow_d5877_6 (pc' := 7) rfl ?_
  refine j_cVP (cells1 := 1) (slots1 := 60) (As := [.int ((nI n) + 1)]) (rest := []) cx (c_gr_11 hT ht0 ht2 hn hE hel hF) gJx4a65c_grow_d5877_Jx4a65c_grow_92f84 rfl rfl rfl 1 rfl (by decide +kernel) ⟨Nat.le_of_ble_eq_true rfl, Nat.le_of_ble_eq_true rfl⟩ hT rfl rfl rfl rfl (Nat.le_of_ble_eq_true rfl) dJx4a65c_grow_d5877_7 ⟨Nat.le_of_ble_eq_true rfl, Nat.le_of_ble_eq_true rfl⟩ (pc' := 10) rfl rfl rfl (fun v9 al9 sh9 S9 h9 => ?_)
  obtain ⟨q, c2, g, e1, hrest⟩ := h9
  subst v9
  refine J.stk (st2 := [.ref q]) rfl ?_
  exact j_aret cx hlk hr (Or.inr ⟨_, rfl⟩) (Nat.le_of_ble_eq_true rfl) (Nat.le_of_ble_eq_true rfl) dJx4a65c_grow_d5877_10 ⟨q, c2, g, rfl, hrest⟩
set_option maxHeartbeats 4000000 in
set_option maxRecDepth 100000 in
theorem c_a3r_11 {l : Launch} {Z : yL} {al : yAl} {sh : ySh} {S : yS} {n c : Nat} {tg tg9 : yTg} {f : Nat → Option Nat} (hT : sh 11 0 = some (.inl (2, tg))) (ht0 : tg 0 = none) (ht2 : tg 2 = none) (hv : sh 21 n = some (.inl (4, tg9))) (hc1 : n < c) (hc2 : 10 ≤ c) (hc3 : c ≤ 60) (ht1 : tg 1 = some (some (12, c))) (hs0 : sh 12 c = some (yQ4 Z c f)) (hg : ∀ i, i < n → f i = some (al 21 i)) (hfr2 : ∀ c', c < c' → sh 12 c' = none) : Ct l yJx4a65c_add_72be8 wsJx4a65c_add_72be8 ({ frames := 5, cells := 0, slots := 0, locals := 127 }) 0 0 Z [.ref (al 11 0), .ref (al 21 n), .ref (al 12 c), .int (nI n)] al sh S (fun v9 al9 sh9 S9 => v9 = none ∧ YL Z al9 sh9 11 21 (n + 1) ∧ (∀ a b, a ≠ 11 → a ≠ 12 → al9 a b = al a b ∧ sh9 a b = sh a b) ∧ S9 11 0 2 = nI (n + 1) ∧ (∀ a b j, a ≠ 11 → a ≠ 12 → S9 a b j = S a b j) ∧ al9 11 0 = al 11 0 ∧ ∀ b, b ≠ 0 → sh9 11 b = sh 11 b) := by
  refine Ct.of (lv := [(0, .ref (al 11 0)), (1, .ref (al 21 n)), (2, .ref (al 12 c)), (3, .int (nI n))]) (by decide) rfl (Nat.le_of_ble_eq_true rfl) rfl ?_
  intro p_ e_ s_ m_ below_ meth_ c_ cx hlk hr hnm9
  refine j_iload_n (j := 3) cx dJx4a65c_add_72be8_0 rfl rfl (pc' := 1) rfl ?_
  refine j_aload_n (j := 2) cx dJx4a65c_add_72be8_1 rfl rfl (pc' := 2) rfl ?_
  refine j_alen (a := 12) (b := c) (ti := 4) cx hs0 rfl rfl dJx4a65c_add_72be8_2 (pc' := 3) rfl ?_
  refine j_icmp_ne (tgt := 11) cx dJx4a65c_add_72be8_3 (by decide) (pc' := 6) rfl (fun _ => ?_) (fun h => by first | exact absurd h (fun q : nI n = nI c => by have := (nI_6 (by omega) (by omega)).mp q; omega) | exact absurd (fun q : nI n = nI c => by have := (nI_6 (by omega) (by omega)).mp q; omega) h)
  refine j_aload_n (j := 2) cx dJx4a65c_add_72be8_11 rfl rfl (pc' := 12) rfl ?_
  refine j_iload_n (j := 3) cx dJx4a65c_add_72be8_12 rfl rfl (pc' := 13) rfl ?_
  refine j_aload_n (j := 1) cx dJx4a65c_add_72be8_13 rfl rfl (pc' := 14) rfl ?_
  refine j_aast (a := 12) (b := c) (kd := 21) (i := n) cx hs0 rfl hv rfl (by decide) (vp_in_nI (by omega) (by omega)) rfl rfl dJx4a65c_add_72be8_14 (pc' := 15) rfl ?_
  refine j_aload_n (j := 0) cx dJx4a65c_add_72be8_15 rfl rfl (pc' := 16) rfl ?_
  refine j_iload_n (j := 3) cx dJx4a65c_add_72be8_16 rfl rfl (pc' := 17) rfl ?_
  refine j_iconst (v := 1) cx dJx4a65c_add_72be8_17 (by decide) (pc' := 18) rfl ?_
  refine j_iadd cx dJx4a65c_add_72be8_18 (pc' := 19) rfl ?_
  refine j_puti (fk := 2) (ref := "java/util/ArrayList") (ty := .int) cx (tg := tg) ((shp_ne _ _ (by omega)).trans hT) rfl (by decide +kernel) (by decide) (by decide +kernel) (fun _ h => h) tyJx4a65c tyJx4a65c_ok nmJx4a65c rfl (by decide +kernel) ht2 rfl rfl rfl dJx4a65c_add_72be8_19 (pc' := 22) rfl ?_
  exact j_vret cx hlk hr (Nat.le_of_ble_eq_true rfl) (Nat.le_of_ble_eq_true rfl) dJx4a65c_add_72be8_22 ⟨rfl, ⟨tg, (shp_ne _ _ (by omega)).trans hT, ht0, ht2, Or.inr ⟨c, _, hc1, hc2, hc3, ht1, shp_self _ _ _ _, yl_up (by omega) hg, fun c' hc' => (shp_ne _ _ (by omega)).trans (hfr2 c' hc')⟩⟩, fun a b h1 h2 => ⟨rfl, shp_ne _ _ (fun q => h2 q.1)⟩, by rw [sup_self, nI_1'], fun a b j h1 h2 => sup_ne _ _ (fun q => h1 q.1), rfl, fun b hb => shp_ne _ _ (by omega)⟩
set_option maxHeartbeats 4000000 in
set_option maxRecDepth 100000 in
theorem c_a3f_11 {l : Launch} {Z : yL} {al : yAl} {sh : ySh} {S : yS} {n : Nat} {tg : yTg} {a0 : Nat} {tg9 : yTg} (hT : sh 11 0 = some (.inl (2, tg))) (ht0 : tg 0 = none) (ht2 : tg 2 = none) (hn : n < 41) (hE : al 99 0 = Z.2.2.2.1) (hel : ∀ i, i < n → ∃ (tg : yTg) (r : vw_C), sh 21 i = some (.inl (4, tg)) ∧ vwCl[4]? = some r ∧ r.1 = "TerminalYard$Session") (hF : (n = 0 ∧ tg 1 = some (some (99, 0)) ∧ ∀ c', sh 12 c' = none) ∨ ∃ f : Nat → Option Nat, 10 ≤ n ∧ tg 1 = some (some (12, n)) ∧ sh 12 n = some (yQ4 Z n f) ∧ (∀ i, i < n → f i = some (al 21 i)) ∧ ∀ c', n < c' → sh 12 c' = none) (hs : S 11 0 2 = nI n) (hv : sh 21 n = some (.inl (4, tg9))) (ha0 : a0 = al 99 0 ∧ n = 0 ∨ a0 = al 12 n ∧ 10 ≤ n) : Ct l yJx4a65c_add_72be8 wsJx4a65c_add_72be8 ({ frames := 5, cells := 1, slots := 60, locals := 127 }) 1 60 Z [.ref (al 11 0), .ref (al 21 n), .ref a0, .int (nI n)] al sh S (fun v9 al9 sh9 S9 => v9 = none ∧ YL Z al9 sh9 11 21 (n + 1) ∧ (∀ a b, a ≠ 11 → a ≠ 12 → al9 a b = al a b ∧ sh9 a b = sh a b) ∧ S9 11 0 2 = nI (n + 1) ∧ (∀ a b j, a ≠ 11 → a ≠ 12 → S9 a b j = S a b j) ∧ al9 11 0 = al 11 0 ∧ ∀ b, b ≠ 0 → sh9 11 b = sh 11 b) := by
  refine Ct.of (lv := [(0, .ref (al 11 0)), (1, .ref (al 21 n)), (2, .ref a0), (3, .int (nI n))]) (by decide) rfl (Nat.le_of_ble_eq_true rfl) rfl ?_
  intro p_ e_ s_ m_ below_ meth_ c_ cx hlk hr hnm9
  have hF2 := hF
  rcases ha0 with ⟨rfl, hn0⟩ | ⟨rfl, h10⟩
  · refine j_iload_n (j := 3) cx dJx4a65c_add_72be8_0 rfl rfl (pc' := 1) rfl ?_
    refine j_aload_n (j := 2) cx dJx4a65c_add_72be8_1 rfl rfl (pc' := 2) rfl ?_
    refine j_alenE cx hE dJx4a65c_add_72be8_2 (pc' := 3) rfl ?_
    refine j_icmp_ne (tgt := 11) cx dJx4a65c_add_72be8_3 (by decide) (pc' := 6) rfl (fun h => by first | exact absurd h (show nI n = 0 by rw [hn0]; rfl) | exact absurd (show nI n = 0 by rw [hn0]; rfl) h) (fun _ => ?_)
    refine j_aload_n (j := 0) cx dJx4a65c_add_72be8_6 rfl rfl (pc' := 7) rfl ?_
    refine j_cVP (cells1 := 1) (slots1 := 60) (As := []) (rest := []) cx (c_gw_11 hT ht0 ht2 hn hE hel hF hs) gJx4a65c_add_72be8_Jx4a65c_grow_d5877 rfl rfl rfl 0 rfl (by decide +kernel) ⟨Nat.le_of_ble_eq_true rfl, Nat.le_of_ble_eq_true rfl⟩ hT rfl rfl rfl rfl (Nat.le_of_ble_eq_true rfl) dJx4a65c_add_72be8_7 ⟨Nat.le_of_ble_eq_true rfl, Nat.le_of_ble_eq_true rfl⟩ (pc' := 10) rfl rfl rfl (fun v9 al9 sh9 S9 h9 => ?_)
    obtain ⟨q, c2, g, e1, e2, e3, e4, hc1, hc2, hc3, hg, hfr, hfr2⟩ := h9
    subst v9 al9 sh9 S9
    refine J.stk (st2 := [.ref q]) rfl ?_
    have hv2 : shp (shp sh 12 c2 (yQ4 Z c2 g)) 11 0 (.inl (2, tgp tg 1 (some (12, c2)))) 21 n = some (.inl (4, tg9)) := (shp_ne _ _ (by omega)).trans ((shp_ne _ _ (by omega)).trans hv)
    have hs2 : shp (shp sh 12 c2 (yQ4 Z c2 g)) 11 0 (.inl (2, tgp tg 1 (some (12, c2)))) 12 c2 = some (yQ4 Z c2 g) := (shp_ne _ _ (by omega)).trans (shp_self _ _ _ _)
    have hT2 : shp (shp (shp sh 12 c2 (yQ4 Z c2 g)) 11 0 (.inl (2, tgp tg 1 (some (12, c2))))) 12 c2 (yQ4 Z c2 (va_up g (nI n).toNatClampNeg (some (alp al 12 c2 q 21 n)))) 11 0 = some (.inl (2, tgp tg 1 (some (12, c2)))) := (shp_ne _ _ (by omega)).trans (shp_self _ _ _ _)
    refine j_astore_n (lv' := [(2, .ref q), (0, .ref ((alp al 12 c2 q) 11 0)), (1, .ref ((alp al 12 c2 q) 21 n)), (3, .int (nI n))]) cx dJx4a65c_add_72be8_10 rfl (by decide) rfl (pc' := 11) rfl ?_
    refine j_aload_n (j := 0) cx dJx4a65c_add_72be8_11 rfl rfl (pc' := 12) rfl ?_
    refine j_iload_n (j := 3) cx dJx4a65c_add_72be8_12 rfl rfl (pc' := 13) rfl ?_
    refine j_aload_n (j := 2) cx dJx4a65c_add_72be8_13 rfl rfl (pc' := 14) rfl ?_
    refine j_aast (a := 12) (b := c2) (kd := 21) (i := n) cx hs2 rfl hv2 rfl (by decide) (vp_in_nI (by omega) (by omega)) (alp_self _ _ _ _).symm rfl dJx4a65c_add_72be8_14 (pc' := 15) rfl ?_
    refine j_aload_n (j := 1) cx dJx4a65c_add_72be8_15 rfl rfl (pc' := 16) rfl ?_
    refine j_iload_n (j := 3) cx dJx4a65c_add_72be8_16 rfl rfl (pc' := 17) rfl ?_
    refine j_iconst (v := 1) cx dJx4a65c_add_72be8_17 (by decide) (pc' := 18) rfl ?_
    refine j_iadd cx dJx4a65c_add_72be8_18 (pc' := 19) rfl ?_
    refine j_puti (fk := 2) (ref := "java/util/ArrayList") (ty := .int) cx (tg := (tgp tg 1 (some (12, c2)))) hT2 rfl (by decide +kernel) (by decide) (by decide +kernel) (fun _ h => h) tyJx4a65c tyJx4a65c_ok nmJx4a65c rfl (by decide +kernel) (by simp [tgp, ht2]) rfl rfl rfl dJx4a65c_add_72be8_19 (pc' := 22) rfl ?_
    exact j_vret cx hlk hr (Nat.le_of_ble_eq_true rfl) (Nat.le_of_ble_eq_true rfl) dJx4a65c_add_72be8_22 ⟨rfl, ⟨_, hT2, by simp [tgp, ht0], by simp [tgp, ht2], Or.inr ⟨c2, _, hc1, hc2, hc3, by simp [tgp], shp_self _ _ _ _, yl_up (by omega) (fun i hi => (hg i hi).trans (congrArg some (alp_ne _ _ (by omega)).symm)), fun c' hc' => (shp_ne _ _ (by omega)).trans ((shp_ne _ _ (by omega)).trans ((shp_ne _ _ (by omega)).trans (hfr2 c' hc')))⟩⟩, fun a b h1 h2 => ⟨alp_ne _ _ (fun q => h2 q.1), (shp_ne _ _ (fun q => h2 q.1)).trans ((shp_ne _ _ (fun q => h1 q.1)).trans (shp_ne _ _ (fun q => h2 q.1)))⟩, by rw [sup_self, nI_1'], fun a b j h1 h2 => (sup_ne _ _ (fun q => h1 q.1)).trans (by simp [szero, h2]), alp_ne _ _ (by omega), fun b hb => (shp_ne _ _ (by omega)).trans ((shp_ne _ _ (fun q => hb q.2)).trans (shp_ne _ _ (by omega)))⟩
  obtain ⟨f0, hs0⟩ : ∃ f0, sh 12 n = some (yQ4 Z n f0) := by
    rcases hF2 with ⟨h0, -⟩ | ⟨f, -, -, q, -⟩
    · omega
    · exact ⟨f, q⟩
  refine j_iload_n (j := 3) cx dJx4a65c_add_72be8_0 rfl rfl (pc' := 1) rfl ?_
  refine j_aload_n (j := 2) cx dJx4a65c_add_72be8_1 rfl rfl (pc' := 2) rfl ?_
  refine j_alen (a := 12) (b := n) (ti := 4) cx hs0 rfl rfl dJx4a65c_add_72be8_2 (pc' := 3) rfl ?_
  refine j_icmp_ne (tgt := 11) cx dJx4a65c_add_72be8_3 (by decide) (pc' := 6) rfl (fun h => by first | exact absurd h (rfl : nI n = nI n) | exact absurd (rfl : nI n = nI n) h) (fun _ => ?_)
  refine j_aload_n (j := 0) cx dJx4a65c_add_72be8_6 rfl rfl (pc' := 7) rfl ?_
  refine j_cVP (cells1 := 1) (slots1 := 60) (As := []) (rest := []) cx (c_gw_11 hT ht0 ht2 hn hE hel hF hs) gJx4a65c_add_72be8_Jx4a65c_grow_d5877 rfl rfl rfl 0 rfl (by decide +kernel) ⟨Nat.le_of_ble_eq_true rfl, Nat.le_of_ble_eq_true rfl⟩ hT rfl rfl rfl rfl (Nat.le_of_ble_eq_true rfl) dJx4a65c_add_72be8_7 ⟨Nat.le_of_ble_eq_true rfl, Nat.le_of_ble_eq_true rfl⟩ (pc' := 10) rfl rfl rfl (fun v9 al9 sh9 S9 h9 => ?_)
  obtain ⟨q, c2, g, e1, e2, e3, e4, hc1, hc2, hc3, hg, hfr, hfr2⟩ := h9
  subst v9 al9 sh9 S9
  refine J.stk (st2 := [.ref q]) rfl ?_
  have hv2 : shp (shp sh 12 c2 (yQ4 Z c2 g)) 11 0 (.inl (2, tgp tg 1 (some (12, c2)))) 21 n = some (.inl (4, tg9)) := (shp_ne _ _ (by omega)).trans ((shp_ne _ _ (by omega)).trans hv)
  have hs2 : shp (shp sh 12 c2 (yQ4 Z c2 g)) 11 0 (.inl (2, tgp tg 1 (some (12, c2)))) 12 c2 = some (yQ4 Z c2 g) := (shp_ne _ _ (by omega)).trans (shp_self _ _ _ _)
  have hT2 : shp (shp (shp sh 12 c2 (yQ4 Z c2 g)) 11 0 (.inl (2, tgp tg 1 (some (12, c2))))) 12 c2 (yQ4 Z c2 (va_up g (nI n).toNatClampNeg (some (alp al 12 c2 q 21 n)))) 11 0 = some (.inl (2, tgp tg 1 (some (12, c2)))) := (shp_ne _ _ (by omega)).trans (shp_self _ _ _ _)
  refine j_astore_n (lv' := [(2, .ref q), (0, .ref ((alp al 12 c2 q) 11 0)), (1, .ref ((alp al 12 c2 q) 21 n)), (3, .int (nI n))]) cx dJx4a65c_add_72be8_10 rfl (by decide) rfl (pc' := 11) rfl ?_
  refine j_aload_n (j := 0) cx dJx4a65c_add_72be8_11 rfl rfl (pc' := 12) rfl ?_
  refine j_iload_n (j := 3) cx dJx4a65c_add_72be8_12 rfl rfl (pc' := 13) rfl ?_
  refine j_aload_n (j := 2) cx dJx4a65c_add_72be8_13 rfl rfl (pc' := 14) rfl ?_
  refine j_aast (a := 12) (b := c2) (kd := 21) (i := n) cx hs2 rfl hv2 rfl (by decide) (vp_in_nI (by omega) (by omega)) (alp_self _ _ _ _).symm rfl dJx4a65c_add_72be8_14 (pc' := 15) rfl ?_
  refine j_aload_n (j := 1) cx dJx4a65c_add_72be8_15 rfl rfl (pc' := 16) rfl ?_
  refine j_iload_n (j := 3) cx dJx4a65c_add_72be8_16 rfl rfl (pc' := 17) rfl ?_
  refine j_iconst (v := 1) cx dJx4a65c_add_72be8_17 (by decide) (pc' := 18) rfl ?_
  refine j_iadd cx dJx4a65c_add_72be8_18 (pc' := 19) rfl ?_
  refine j_puti (fk := 2) (ref := "java/util/ArrayList") (ty := .int) cx (tg := (tgp tg 1 (some (12, c2)))) hT2 rfl (by decide +kernel) (by decide) (by decide +kernel) (fun _ h => h) tyJx4a65c tyJx4a65c_ok nmJx4a65c rfl (by decide +kernel) (by simp [tgp, ht2]) rfl rfl rfl dJx4a65c_add_72be8_19 (pc' := 22) rfl ?_
  exact j_vret cx hlk hr (Nat.le_of_ble_eq_true rfl) (Nat.le_of_ble_eq_true rfl) dJx4a65c_add_72be8_22 ⟨rfl, ⟨_, hT2, by simp [tgp, ht0], by simp [tgp, ht2], Or.inr ⟨c2, _, hc1, hc2, hc3, by simp [tgp], shp_self _ _ _ _, yl_up (by omega) (fun i hi => (hg i hi).trans (congrArg some (alp_ne _ _ (by omega)).symm)), fun c' hc' => (shp_ne _ _ (by omega)).trans ((shp_ne _ _ (by omega)).trans ((shp_ne _ _ (by omega)).trans (hfr2 c' hc')))⟩⟩, fun a b h1 h2 => ⟨alp_ne _ _ (fun q => h2 q.1), (shp_ne _ _ (fun q => h2 q.1)).trans ((shp_ne _ _ (fun q => h1 q.1)).trans (shp_ne _ _ (fun q => h2 q.1)))⟩, by rw [sup_self, nI_1'], fun a b j h1 h2 => (sup_ne _ _ (fun q => h1 q.1)).trans (by simp [szero, h2]), alp_ne _ _ (by omega), fun b hb => (shp_ne _ _ (by omega)).trans ((shp_ne _ _ (fun q => hb q.2)).trans (shp_ne _ _ (by omega)))⟩
set_option maxHeartbeats 4000000 in
set_option maxRecDepth 100000 in
theorem c_add_11 {l : Launch} {Z : yL} {al : yAl} {sh : ySh} {S : yS} {n b9 : Nat} {tg9 : yTg} (hL : YL Z al sh 11 21 n) (hs : S 11 0 2 = nI n) (hn : n < 41) (hE : al 99 0 = Z.2.2.2.1) (hel : ∀ i, i < n → ∃ (tg : yTg) (r : vw_C), sh 21 i = some (.inl (4, tg)) ∧ vwCl[4]? = some r ∧ r.1 = "TerminalYard$Session") (hv : sh 21 n = some (.inl (4, tg9))) (hb : b9 = al 21 n) : Ct l yJx4a65c_add_9ea2d wsJx4a65c_add_9ea2d ({ frames := 6, cells := 1, slots := 60, locals := 150 }) 1 60 Z [.ref (al 11 0), .ref b9] al sh S (fun v9 al9 sh9 S9 => v9 = some (.int 1) ∧ YL Z al9 sh9 11 21 (n + 1) ∧ (∀ a b, a ≠ 11 → a ≠ 12 → al9 a b = al a b ∧ sh9 a b = sh a b) ∧ S9 11 0 2 = nI (n + 1) ∧ (∀ a b j, a ≠ 11 → a ≠ 12 → S9 a b j = S a b j) ∧ al9 11 0 = al 11 0 ∧ ∀ b, b ≠ 0 → sh9 11 b = sh 11 b) := by
  subst hb
  refine Ct.of (lv := [(0, .ref (al 11 0)), (1, .ref (al 21 n))]) (by decide) rfl (Nat.le_of_ble_eq_true rfl) rfl ?_
  intro p_ e_ s_ m_ below_ meth_ c_ cx hlk hr hnm9
  obtain ⟨tg, hT, ht0, ht2, hC⟩ := hL
  rcases hC with ⟨h0, ht1, hfr⟩ | ⟨c, f, hc1, hc2, hc3, ht1, hs0, hg, hfr2⟩
  · refine j_aload_n (j := 0) cx dJx4a65c_add_9ea2d_0 rfl rfl (pc' := 1) rfl ?_
    refine j_dup cx dJx4a65c_add_9ea2d_1 rfl (pc' := 2) rfl ?_
    refine j_get (fk := 0) (ref := "java/util/ArrayList") (v := .int (S 11 0 0)) cx hT rfl (by decide +kernel) (by decide) (by decide +kernel) (fun x9 h9 => u_same (cx.1.2.2.2.2 _ (show Cond.sameField "java/util/ArrayList" "java/util/AbstractList" "modCount" "I" ∈ wsJx4a65c_add_9ea2d by decide +kernel)) x9 h9) (yV_i ht0) rfl dJx4a65c_add_9ea2d_2 (pc' := 5) rfl ?_
    refine j_iconst (v := 1) cx dJx4a65c_add_9ea2d_5 (by decide) (pc' := 6) rfl ?_
    refine j_iadd cx dJx4a65c_add_9ea2d_6 (pc' := 7) rfl ?_
    refine j_puti (fk := 0) (ref := "java/util/ArrayList") (ty := .int) cx hT rfl (by decide +kernel) (by decide) (by decide +kernel) (fun x9 h9 => u_same (cx.1.2.2.2.2 _ (show Cond.sameField "java/util/ArrayList" "java/util/AbstractList" "modCount" "I" ∈ wsJx4a65c_add_9ea2d by decide +kernel)) x9 h9) tyJx4a65c tyJx4a65c_ok nmJx4a65c rfl (by decide +kernel) ht0 rfl rfl rfl dJx4a65c_add_9ea2d_7 (pc' := 10) rfl ?_
    refine j_aload_n (j := 0) cx dJx4a65c_add_9ea2d_10 rfl rfl (pc' := 11) rfl ?_
    refine j_aload_n (j := 1) cx dJx4a65c_add_9ea2d_11 rfl rfl (pc' := 12) rfl ?_
    refine j_aload_n (j := 0) cx dJx4a65c_add_9ea2d_12 rfl rfl (pc' := 13) rfl ?_
    refine j_get (fk := 1) (ref := "java/util/ArrayList") (v := .ref (al 99 0)) cx hT rfl (by decide +kernel) (by decide) (by decide +kernel) (fun _ h => h) (yV_r (k := (99, 0)) ht1) rfl dJx4a65c_add_9ea2d_13 (pc' := 16) rfl ?_
    refine j_aload_n (j := 0) cx dJx4a65c_add_9ea2d_16 rfl rfl (pc' := 17) rfl ?_
    refine j_get (fk := 2) (ref := "java/util/ArrayList") (v := .int (nI n)) cx hT rfl (by decide +kernel) (by decide) (by decide +kernel) (fun _ h => h) ((yV_i ht2).trans (congrArg Value.int (by simp [sup, szero, shp, alp, hs]))) rfl dJx4a65c_add_9ea2d_17 (pc' := 20) rfl ?_
    refine j_cVP (cells1 := 1) (slots1 := 60) (As := [.ref (al 21 n), .ref (al 99 0), .int (nI n)]) (rest := []) cx (c_a3f_11 hT ht0 ht2 hn hE hel (Or.inl ⟨h0, ht1, hfr⟩) ((sup_ne _ _ (by omega)).trans hs) hv (Or.inl ⟨rfl, h0⟩)) gJx4a65c_add_9ea2d_Jx4a65c_add_72be8 rfl rfl rfl 3 rfl (by decide +kernel) ⟨Nat.le_of_ble_eq_true rfl, Nat.le_of_ble_eq_true rfl⟩ hT rfl rfl rfl rfl (Nat.le_of_ble_eq_true rfl) dJx4a65c_add_9ea2d_20 ⟨Nat.le_of_ble_eq_true rfl, Nat.le_of_ble_eq_true rfl⟩ (pc' := 23) rfl rfl rfl (fun v9 al9 sh9 S9 h9 => ?_)
    obtain ⟨e1, hL9, hk1, hk2, hk3, hk4, hk5⟩ := h9
    subst v9
    refine J.stk (st2 := []) rfl ?_
    refine j_iconst (v := 1) cx dJx4a65c_add_9ea2d_23 (by decide) (pc' := 24) rfl ?_
    exact j_iret (ty := .boolean) cx hlk hr rfl (Nat.le_of_ble_eq_true rfl) (Nat.le_of_ble_eq_true rfl) dJx4a65c_add_9ea2d_24 ⟨rfl, hL9, hk1, hk2, fun a b j h1 h2 => (hk3 a b j h1 h2).trans (sup_ne _ _ (fun q => h1 q.1)), hk4, hk5⟩
  by_cases hcn : c = n
  · subst hcn
    refine j_aload_n (j := 0) cx dJx4a65c_add_9ea2d_0 rfl rfl (pc' := 1) rfl ?_
    refine j_dup cx dJx4a65c_add_9ea2d_1 rfl (pc' := 2) rfl ?_
    refine j_get (fk := 0) (ref := "java/util/ArrayList") (v := .int (S 11 0 0)) cx hT rfl (by decide +kernel) (by decide) (by decide +kernel) (fun x9 h9 => u_same (cx.1.2.2.2.2 _ (show Cond.sameField "java/util/ArrayList" "java/util/AbstractList" "modCount" "I" ∈ wsJx4a65c_add_9ea2d by decide +kernel)) x9 h9) (yV_i ht0) rfl dJx4a65c_add_9ea2d_2 (pc' := 5) rfl ?_
    refine j_iconst (v := 1) cx dJx4a65c_add_9ea2d_5 (by decide) (pc' := 6) rfl ?_
    refine j_iadd cx dJx4a65c_add_9ea2d_6 (pc' := 7) rfl ?_
    refine j_puti (fk := 0) (ref := "java/util/ArrayList") (ty := .int) cx hT rfl (by decide +kernel) (by decide) (by decide +kernel) (fun x9 h9 => u_same (cx.1.2.2.2.2 _ (show Cond.sameField "java/util/ArrayList" "java/util/AbstractList" "modCount" "I" ∈ wsJx4a65c_add_9ea2d by decide +kernel)) x9 h9) tyJx4a65c tyJx4a65c_ok nmJx4a65c rfl (by decide +kernel) ht0 rfl rfl rfl dJx4a65c_add_9ea2d_7 (pc' := 10) rfl ?_
    refine j_aload_n (j := 0) cx dJx4a65c_add_9ea2d_10 rfl rfl (pc' := 11) rfl ?_
    refine j_aload_n (j := 1) cx dJx4a65c_add_9ea2d_11 rfl rfl (pc' := 12) rfl ?_
    refine j_aload_n (j := 0) cx dJx4a65c_add_9ea2d_12 rfl rfl (pc' := 13) rfl ?_
    refine j_get (fk := 1) (ref := "java/util/ArrayList") (v := .ref (al 12 c)) cx hT rfl (by decide +kernel) (by decide) (by decide +kernel) (fun _ h => h) (yV_r (k := (12, c)) ht1) rfl dJx4a65c_add_9ea2d_13 (pc' := 16) rfl ?_
    refine j_aload_n (j := 0) cx dJx4a65c_add_9ea2d_16 rfl rfl (pc' := 17) rfl ?_
    refine j_get (fk := 2) (ref := "java/util/ArrayList") (v := .int (nI c)) cx hT rfl (by decide +kernel) (by decide) (by decide +kernel) (fun _ h => h) ((yV_i ht2).trans (congrArg Value.int (by simp [sup, szero, shp, alp, hs]))) rfl dJx4a65c_add_9ea2d_17 (pc' := 20) rfl ?_
    refine j_cVP (cells1 := 1) (slots1 := 60) (As := [.ref (al 21 c), .ref (al 12 c), .int (nI c)]) (rest := []) cx (c_a3f_11 hT ht0 ht2 hn hE hel (Or.inr ⟨f, hc2, ht1, hs0, hg, hfr2⟩) ((sup_ne _ _ (by omega)).trans hs) hv (Or.inr ⟨rfl, hc2⟩)) gJx4a65c_add_9ea2d_Jx4a65c_add_72be8 rfl rfl rfl 3 rfl (by decide +kernel) ⟨Nat.le_of_ble_eq_true rfl, Nat.le_of_ble_eq_true rfl⟩ hT rfl rfl rfl rfl (Nat.le_of_ble_eq_true rfl) dJx4a65c_add_9ea2d_20 ⟨Nat.le_of_ble_eq_true rfl, Nat.le_of_ble_eq_true rfl⟩ (pc' := 23) rfl rfl rfl (fun v9 al9 sh9 S9 h9 => ?_)
    obtain ⟨e1, hL9, hk1, hk2, hk3, hk4, hk5⟩ := h9
    subst v9
    refine J.stk (st2 := []) rfl ?_
    refine j_iconst (v := 1) cx dJx4a65c_add_9ea2d_23 (by decide) (pc' := 24) rfl ?_
    exact j_iret (ty := .boolean) cx hlk hr rfl (Nat.le_of_ble_eq_true rfl) (Nat.le_of_ble_eq_true rfl) dJx4a65c_add_9ea2d_24 ⟨rfl, hL9, hk1, hk2, fun a b j h1 h2 => (hk3 a b j h1 h2).trans (sup_ne _ _ (fun q => h1 q.1)), hk4, hk5⟩
  refine j_aload_n (j := 0) cx dJx4a65c_add_9ea2d_0 rfl rfl (pc' := 1) rfl ?_
  refine j_dup cx dJx4a65c_add_9ea2d_1 rfl (pc' := 2) rfl ?_
  refine j_get (fk := 0) (ref := "java/util/ArrayList") (v := .int (S 11 0 0)) cx hT rfl (by decide +kernel) (by decide) (by decide +kernel) (fun x9 h9 => u_same (cx.1.2.2.2.2 _ (show Cond.sameField "java/util/ArrayList" "java/util/AbstractList" "modCount" "I" ∈ wsJx4a65c_add_9ea2d by decide +kernel)) x9 h9) (yV_i ht0) rfl dJx4a65c_add_9ea2d_2 (pc' := 5) rfl ?_
  refine j_iconst (v := 1) cx dJx4a65c_add_9ea2d_5 (by decide) (pc' := 6) rfl ?_
  refine j_iadd cx dJx4a65c_add_9ea2d_6 (pc' := 7) rfl ?_
  refine j_puti (fk := 0) (ref := "java/util/ArrayList") (ty := .int) cx hT rfl (by decide +kernel) (by decide) (by decide +kernel) (fun x9 h9 => u_same (cx.1.2.2.2.2 _ (show Cond.sameField "java/util/ArrayList" "java/util/AbstractList" "modCount" "I" ∈ wsJx4a65c_add_9ea2d by decide +kernel)) x9 h9) tyJx4a65c tyJx4a65c_ok nmJx4a65c rfl (by decide +kernel) ht0 rfl rfl rfl dJx4a65c_add_9ea2d_7 (pc' := 10) rfl ?_
  refine j_aload_n (j := 0) cx dJx4a65c_add_9ea2d_10 rfl rfl (pc' := 11) rfl ?_
  refine j_aload_n (j := 1) cx dJx4a65c_add_9ea2d_11 rfl rfl (pc' := 12) rfl ?_
  refine j_aload_n (j := 0) cx dJx4a65c_add_9ea2d_12 rfl rfl (pc' := 13) rfl ?_
  refine j_get (fk := 1) (ref := "java/util/ArrayList") (v := .ref (al 12 c)) cx hT rfl (by decide +kernel) (by decide) (by decide +kernel) (fun _ h => h) (yV_r (k := (12, c)) ht1) rfl dJx4a65c_add_9ea2d_13 (pc' := 16) rfl ?_
  refine j_aload_n (j := 0) cx dJx4a65c_add_9ea2d_16 rfl rfl (pc' := 17) rfl ?_
  refine j_get (fk := 2) (ref := "java/util/ArrayList") (v := .int (nI n)) cx hT rfl (by decide +kernel) (by decide) (by decide +kernel) (fun _ h => h) ((yV_i ht2).trans (congrArg Value.int (by simp [sup, szero, shp, alp, hs]))) rfl dJx4a65c_add_9ea2d_17 (pc' := 20) rfl ?_
  refine j_cVP (cells1 := 0) (slots1 := 0) (As := [.ref (al 21 n), .ref (al 12 c), .int (nI n)]) (rest := []) cx (c_a3r_11 hT ht0 ht2 hv (by omega) hc2 hc3 ht1 hs0 hg hfr2) gJx4a65c_add_9ea2d_Jx4a65c_add_72be8 rfl rfl rfl 3 rfl (by decide +kernel) ⟨Nat.le_of_ble_eq_true rfl, Nat.le_of_ble_eq_true rfl⟩ hT rfl rfl rfl rfl (Nat.le_of_ble_eq_true rfl) dJx4a65c_add_9ea2d_20 ⟨Nat.le_of_ble_eq_true rfl, Nat.le_of_ble_eq_true rfl⟩ (pc' := 23) rfl rfl rfl (fun v9 al9 sh9 S9 h9 => ?_)
  obtain ⟨e1, hL9, hk1, hk2, hk3, hk4, hk5⟩ := h9
  subst v9
  refine J.stk (st2 := []) rfl ?_
  refine j_iconst (v := 1) cx dJx4a65c_add_9ea2d_23 (by decide) (pc' := 24) rfl ?_
  exact j_iret (ty := .boolean) cx hlk hr rfl (Nat.le_of_ble_eq_true rfl) (Nat.le_of_ble_eq_true rfl) dJx4a65c_add_9ea2d_24 ⟨rfl, hL9, hk1, hk2, fun a b j h1 h2 => (hk3 a b j h1 h2).trans (sup_ne _ _ (fun q => h1 q.1)), hk4, hk5⟩
