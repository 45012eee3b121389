def tgS0 : yTg := fun j => match j with
  | 1 => some none
  | 3 => some none
  | _ => none
def tgL0 : yTg := fun j => match j with
  | 1 => some none
  | _ => none
theorem tgS_mk (mi i : Nat) : tgp (tgp tgS0 3 (some (22, i))) 1 (some (20, mi)) = tgS mi i := by
  funext j
  unfold tgp tgS
  by_cases h1 : j = 1
  · subst h1; rfl
  · by_cases h3 : j = 3
    · subst h3; rfl
    · rw [if_neg h1, if_neg h3]
      unfold tgS0
      split
      · omega
      · omega
      · split
        · omega
        · omega
        · rfl
def fMac (S : yS) (i : Nat) (n p r s : Int32) : yS := sup (sup (sup (sup (sup (sup S 20 i 4 117) 20 i 5 0) 20 i 0 n) 20 i 1 p) 20 i 2 r) 20 i 3 s
def fSes (S : yS) (i : Nat) (o t : Int32) : yS := sup (sup (sup (sup (sup S 21 i 6 97) 21 i 0 o) 21 i 2 t) 21 i 4 o) 21 i 5 t
set_option maxHeartbeats 4000000 in
set_option maxRecDepth 100000 in
theorem c_X0_init {l : Launch} {Z : yL} {al : yAl} {sh : ySh} {S : yS} {i b9 : Nat} {n p r s : Int32} (hM : sh 20 i = some (.inl (3, tgM))) (hb : b9 = al 20 i) : Ct l yX0_init wsX0_init ({ frames := 1, cells := 0, slots := 0, locals := 36 }) 0 0 Z [.ref b9, .int n, .int p, .int r, .int s] al sh S (yR al sh none (fMac S i n p r s)) := by
  subst hb
  refine Ct.of (lv := [(0, .ref (al 20 i)), (1, .int n), (2, .int p), (3, .int r), (4, .int s)]) (by decide) rfl (Nat.le_of_ble_eq_true rfl) rfl ?_
  intro p_ e_ s_ m_ below_ meth_ c_ cx hlk hr hnm9
  refine j_aload_n (j := 0) cx dX0_init_0 rfl rfl (pc' := 1) rfl ?_
  refine j_objInit cx (by decide +kernel) (by decide +kernel) (by decide +kernel) dX0_init_1 (Nat.le_of_ble_eq_true rfl) (Nat.le_of_ble_eq_true rfl) (pc' := 4) rfl ?_
  refine j_aload_n (j := 0) cx dX0_init_4 rfl rfl (pc' := 5) rfl ?_
  refine j_bipush (v := 117) cx dX0_init_5 (by decide) (pc' := 7) rfl ?_
  refine j_puti (fk := 4) (ref := "TerminalYard$Machine") (ty := .char) cx hM rfl (by decide +kernel) (by decide) (by decide +kernel) (fun _ h => h) tyX0 tyX0_ok nmX0 rfl (by decide +kernel) rfl rfl rfl rfl dX0_init_7 (pc' := 10) rfl ?_
  refine j_aload_n (j := 0) cx dX0_init_10 rfl rfl (pc' := 11) rfl ?_
  refine j_iconst (v := 0) cx dX0_init_11 (by decide) (pc' := 12) rfl ?_
  refine j_puti (fk := 5) (ref := "TerminalYard$Machine") (ty := .int) cx hM rfl (by decide +kernel) (by decide) (by decide +kernel) (fun _ h => h) tyX0 tyX0_ok nmX0 rfl (by decide +kernel) rfl rfl rfl rfl dX0_init_12 (pc' := 15) rfl ?_
  refine j_aload_n (j := 0) cx dX0_init_15 rfl rfl (pc' := 16) rfl ?_
  refine j_iload_n (j := 1) cx dX0_init_16 rfl rfl (pc' := 17) rfl ?_
  refine j_putiF (fk := 0) (ref := "TerminalYard$Machine") (ty := .int) cx hM rfl (by decide +kernel) (by decide) (by decide +kernel) (fun _ h => h) tyX0 tyX0_ok nmX0 rfl hnm9 rfl (by decide +kernel) rfl rfl rfl rfl dX0_init_17 (pc' := 20) rfl ?_
  refine j_aload_n (j := 0) cx dX0_init_20 rfl rfl (pc' := 21) rfl ?_
  refine j_iload_n (j := 2) cx dX0_init_21 rfl rfl (pc' := 22) rfl ?_
  refine j_putiF (fk := 1) (ref := "TerminalYard$Machine") (ty := .int) cx hM rfl (by decide +kernel) (by decide) (by decide +kernel) (fun _ h => h) tyX0 tyX0_ok nmX0 rfl hnm9 rfl (by decide +kernel) rfl rfl rfl rfl dX0_init_22 (pc' := 25) rfl ?_
  refine j_aload_n (j := 0) cx dX0_init_25 rfl rfl (pc' := 26) rfl ?_
  refine j_iload_n (j := 3) cx dX0_init_26 rfl rfl (pc' := 27) rfl ?_
  refine j_putiF (fk := 2) (ref := "TerminalYard$Machine") (ty := .int) cx hM rfl (by decide +kernel) (by decide) (by decide +kernel) (fun _ h => h) tyX0 tyX0_ok nmX0 rfl hnm9 rfl (by decide +kernel) rfl rfl rfl rfl dX0_init_27 (pc' := 30) rfl ?_
  refine j_aload_n (j := 0) cx dX0_init_30 rfl rfl (pc' := 31) rfl ?_
  refine j_iload (j := 4) cx dX0_init_31 rfl (pc' := 33) rfl ?_
  refine j_putiF (fk := 3) (ref := "TerminalYard$Machine") (ty := .int) cx hM rfl (by decide +kernel) (by decide) (by decide +kernel) (fun _ h => h) tyX0 tyX0_ok nmX0 rfl hnm9 rfl (by decide +kernel) rfl rfl rfl rfl dX0_init_33 (pc' := 36) rfl ?_
  exact j_vret cx hlk hr (Nat.le_of_ble_eq_true rfl) (Nat.le_of_ble_eq_true rfl) dX0_init_36 ⟨rfl, rfl, rfl, rfl⟩
set_option maxHeartbeats 4000000 in
set_option maxRecDepth 100000 in
theorem c_X1_init {l : Launch} {Z : yL} {al : yAl} {sh : ySh} {S : yS} {i mi b9 : Nat} {o t : Int32} {tgm : yTg} (hM : sh 21 i = some (.inl (4, tgS0))) (hfr : sh 22 i = none) (hH : sh 20 mi = some (.inl (3, tgm))) (hb : b9 = al 21 i) : Ct l yX1_init wsX1_init ({ frames := 1, cells := 1, slots := 4, locals := 36 }) 1 4 Z [.ref b9, .int o, .ref (al 20 mi), .int t] al sh S (fun v9 al9 sh9 S9 => ∃ q, v9 = none ∧ al9 = alp al 22 i q ∧ sh9 = shp (shp sh 22 i (.inr (.inl (Z.2.1 0, 4)))) 21 i (.inl (4, tgS mi i)) ∧ S9 = fSes (szero S 22 i) i o t) := by
  subst hb
  refine Ct.of (lv := [(0, .ref (al 21 i)), (1, .int o), (2, .ref (al 20 mi)), (3, .int t)]) (by decide) rfl (Nat.le_of_ble_eq_true rfl) rfl ?_
  intro p_ e_ s_ m_ below_ meth_ c_ cx hlk hr hnm9
  refine j_aload_n (j := 0) cx dX1_init_0 rfl rfl (pc' := 1) rfl ?_
  refine j_objInit cx (by decide +kernel) (by decide +kernel) (by decide +kernel) dX1_init_1 (Nat.le_of_ble_eq_true rfl) (Nat.le_of_ble_eq_true rfl) (pc' := 4) rfl ?_
  refine j_aload_n (j := 0) cx dX1_init_4 rfl rfl (pc' := 5) rfl ?_
  refine j_iconst (v := 4) cx dX1_init_5 (by decide) (pc' := 6) rfl ?_
  refine j_newi cx 22 i hfr (by decide) (by decide +kernel) (N := 4) (by decide) (by decide) (by decide) (Nat.le_of_ble_eq_true rfl) (Nat.le_of_ble_eq_true rfl) dX1_init_6 (pc' := 8) rfl (fun q => ?_)
  have hM1 : shp sh 22 i (.inr (.inl (Z.2.1 0, 4))) 21 i = some (.inl (4, tgS0)) := (shp_ne _ _ (by omega)).trans hM
  have hM2 : shp (shp sh 22 i (.inr (.inl (Z.2.1 0, 4)))) 21 i (.inl (4, tgp tgS0 3 (some (22, i)))) 21 i = some (.inl (4, tgp tgS0 3 (some (22, i)))) := shp_self _ _ _ _
  have hM3 : shp (shp (shp sh 22 i (.inr (.inl (Z.2.1 0, 4)))) 21 i (.inl (4, tgp tgS0 3 (some (22, i))))) 21 i (.inl (4, tgp (tgp tgS0 3 (some (22, i))) 1 (some (20, mi)))) 21 i = some (.inl (4, tgp (tgp tgS0 3 (some (22, i))) 1 (some (20, mi)))) := shp_self _ _ _ _
  refine j_putrF (fk := 3) (ref := "TerminalYard$Session") (ty := (.array .int)) (kk := (22, i)) cx (tg := tgS0) hM1 rfl (by decide +kernel) (by decide) (by decide +kernel) (fun _ h => h) tyX1 tyX1_ok nmX1 rfl hnm9 rfl (by decide +kernel) (alp_self _ _ _ _).symm (Or.inl (by rw [shp_self]; simp)) rfl rfl rfl dX1_init_8 (pc' := 11) rfl ?_
  refine j_aload_n (j := 0) cx dX1_init_11 rfl rfl (pc' := 12) rfl ?_
  refine j_bipush (v := 97) cx dX1_init_12 (by decide) (pc' := 14) rfl ?_
  refine j_puti (fk := 6) (ref := "TerminalYard$Session") (ty := .char) cx hM2 rfl (by decide +kernel) (by decide) (by decide +kernel) (fun _ h => h) tyX1 tyX1_ok nmX1 rfl (by decide +kernel) rfl rfl rfl rfl dX1_init_14 (pc' := 17) rfl ?_
  refine j_aload_n (j := 0) cx dX1_init_17 rfl rfl (pc' := 18) rfl ?_
  refine j_iload_n (j := 1) cx dX1_init_18 rfl rfl (pc' := 19) rfl ?_
  refine j_putiF (fk := 0) (ref := "TerminalYard$Session") (ty := .int) cx hM2 rfl (by decide +kernel) (by decide) (by decide +kernel) (fun _ h => h) tyX1 tyX1_ok nmX1 rfl hnm9 rfl (by decide +kernel) rfl rfl rfl rfl dX1_init_19 (pc' := 22) rfl ?_
  refine j_aload_n (j := 0) cx dX1_init_22 rfl rfl (pc' := 23) rfl ?_
  refine j_aload_n (j := 2) cx dX1_init_23 rfl rfl (pc' := 24) rfl ?_
  refine j_putrF (fk := 1) (ref := "TerminalYard$Session") (ty := (.object "TerminalYard$Machine")) (kk := (20, mi)) cx (tg := (tgp tgS0 3 (some (22, i)))) hM2 rfl (by decide +kernel) (by decide) (by decide +kernel) (fun _ h => h) tyX1 tyX1_ok nmX1 rfl hnm9 rfl (by decide +kernel) rfl (Or.inl (by rw [shp_ne _ _ (by omega), shp_ne _ _ (by omega), hH]; simp)) rfl rfl rfl dX1_init_24 (pc' := 27) rfl ?_
  refine j_aload_n (j := 0) cx dX1_init_27 rfl rfl (pc' := 28) rfl ?_
  refine j_iload_n (j := 3) cx dX1_init_28 rfl rfl (pc' := 29) rfl ?_
  refine j_putiF (fk := 2) (ref := "TerminalYard$Session") (ty := .int) cx hM3 rfl (by decide +kernel) (by decide) (by decide +kernel) (fun _ h => h) tyX1 tyX1_ok nmX1 rfl hnm9 rfl (by decide +kernel) rfl rfl rfl rfl dX1_init_29 (pc' := 32) rfl ?_
  refine j_aload_n (j := 0) cx dX1_init_32 rfl rfl (pc' := 33) rfl ?_
  refine j_iload_n (j := 1) cx dX1_init_33 rfl rfl (pc' := 34) rfl ?_
  refine j_puti (fk := 4) (ref := "TerminalYard$Session") (ty := .int) cx hM3 rfl (by decide +kernel) (by decide) (by decide +kernel) (fun _ h => h) tyX1 tyX1_ok nmX1 rfl (by decide +kernel) rfl rfl rfl rfl dX1_init_34 (pc' := 37) rfl ?_
  refine j_aload_n (j := 0) cx dX1_init_37 rfl rfl (pc' := 38) rfl ?_
  refine j_iload_n (j := 3) cx dX1_init_38 rfl rfl (pc' := 39) rfl ?_
  refine j_puti (fk := 5) (ref := "TerminalYard$Session") (ty := .int) cx hM3 rfl (by decide +kernel) (by decide) (by decide +kernel) (fun _ h => h) tyX1 tyX1_ok nmX1 rfl (by decide +kernel) rfl rfl rfl rfl dX1_init_39 (pc' := 42) rfl ?_
  exact j_vret cx hlk hr (Nat.le_of_ble_eq_true rfl) (Nat.le_of_ble_eq_true rfl) dX1_init_42 ⟨q, rfl, rfl, by rw [shp_shp, tgS_mk], rfl⟩
set_option maxHeartbeats 4000000 in
set_option maxRecDepth 100000 in
theorem c_Jxa1e45_init_da8c8 {l : Launch} {Z : yL} {al : yAl} {sh : ySh} {S : yS} {k : Nat} {tg : yTg} (hT : sh k 0 = some (.inl (2, tg))) (ht0 : tg 0 = none) : Ct l yJxa1e45_init_da8c8 wsJxa1e45_init_da8c8 ({ frames := 1, cells := 0, slots := 0, locals := 36 }) 0 0 Z [.ref (al k 0)] al sh S (yR al sh none S) := by
  refine Ct.of (lv := [(0, .ref (al k 0))]) (by decide) rfl (Nat.le_of_ble_eq_true rfl) rfl ?_
  intro p_ e_ s_ m_ below_ meth_ c_ cx hlk hr hnm9
  refine j_aload_n (j := 0) cx dJxa1e45_init_da8c8_0 rfl rfl (pc' := 1) rfl ?_
  refine j_objInit cx (by decide +kernel) (by decide +kernel) (by decide +kernel) dJxa1e45_init_da8c8_1 (Nat.le_of_ble_eq_true rfl) (Nat.le_of_ble_eq_true rfl) (pc' := 4) rfl ?_
  exact j_vret cx hlk hr (Nat.le_of_ble_eq_true rfl) (Nat.le_of_ble_eq_true rfl) dJxa1e45_init_da8c8_4 ⟨rfl, rfl, rfl, rfl⟩
set_option maxHeartbeats 4000000 in
set_option maxRecDepth 100000 in
theorem c_Jxc12de_init_da8c8 {l : Launch} {Z : yL} {al : yAl} {sh : ySh} {S : yS} {k : Nat} {tg : yTg} (hT : sh k 0 = some (.inl (2, tg))) (ht0 : tg 0 = none) : Ct l yJxc12de_init_da8c8 wsJxc12de_init_da8c8 ({ frames := 2, cells := 0, slots := 0, locals := 56 }) 0 0 Z [.ref (al k 0)] al sh S (yR al sh none (sup S k 0 0 0)) := by
  refine Ct.of (lv := [(0, .ref (al k 0))]) (by decide) rfl (Nat.le_of_ble_eq_true rfl) rfl ?_
  intro p_ e_ s_ m_ below_ meth_ c_ cx hlk hr hnm9
  refine j_aload_n (j := 0) cx dJxc12de_init_da8c8_0 rfl rfl (pc' := 1) rfl ?_
  refine j_cIP (cells1 := 0) (slots1 := 0) (As := []) (rest := []) cx (c_Jxa1e45_init_da8c8 hT ht0) gJxc12de_init_da8c8_Jxa1e45_init_da8c8 rfl rfl rfl 0 rfl (by decide +kernel) (by decide +kernel) (by decide +kernel) rfl (by decide +kernel) ⟨(Nat.le_of_ble_eq_true rfl), (Nat.le_of_ble_eq_true rfl)⟩ rfl (Nat.le_of_ble_eq_true rfl) dJxc12de_init_da8c8_1 ⟨(Nat.le_of_ble_eq_true rfl), (Nat.le_of_ble_eq_true rfl)⟩ (pc' := 4) rfl rfl rfl (fun v9 al9 sh9 S9 h9 => ?_)
  obtain ⟨e1, e2, e3, e4⟩ := h9
  subst v9 al9 sh9 S9
  refine J.stk (st2 := []) rfl ?_
  refine j_aload_n (j := 0) cx dJxc12de_init_da8c8_4 rfl rfl (pc' := 5) rfl ?_
  refine j_iconst (v := 0) cx dJxc12de_init_da8c8_5 (by decide) (pc' := 6) rfl ?_
  refine j_puti (fk := 0) (ref := "java/util/AbstractList") (ty := .int) cx hT rfl (by decide +kernel) (by decide) (by decide +kernel) (fun _ h => h) tyJx4a65c tyJx4a65c_ok nmJx4a65c rfl (by decide +kernel) ht0 rfl rfl rfl dJxc12de_init_da8c8_6 (pc' := 9) rfl ?_
  exact j_vret cx hlk hr (Nat.le_of_ble_eq_true rfl) (Nat.le_of_ble_eq_true rfl) dJxc12de_init_da8c8_9 ⟨rfl, rfl, rfl, rfl⟩
set_option maxHeartbeats 4000000 in
set_option maxRecDepth 100000 in
theorem c_Jx4a65c_init_da8c8 {l : Launch} {Z : yL} {al : yAl} {sh : ySh} {S : yS} {k : Nat} {tg : yTg} {b9 : Nat} (hT : sh k 0 = some (.inl (2, tg))) (ht0 : tg 0 = none) (hE : al 99 0 = Z.2.2.2.1) (hb : b9 = al k 0) : Ct l yJx4a65c_init_da8c8 wsJx4a65c_init_da8c8 ({ frames := 3, cells := 0, slots := 0, locals := 76 }) 0 0 Z [.ref b9] al sh S (yR al (shp sh k 0 (.inl (2, tgp tg 1 (some (99, 0))))) none (sup S k 0 0 0)) := by
  subst hb
  refine Ct.of (lv := [(0, .ref (al k 0))]) (by decide) rfl (Nat.le_of_ble_eq_true rfl) rfl ?_
  intro p_ e_ s_ m_ below_ meth_ c_ cx hlk hr hnm9
  refine j_aload_n (j := 0) cx dJx4a65c_init_da8c8_0 rfl rfl (pc' := 1) rfl ?_
  refine j_cIP (cells1 := 0) (slots1 := 0) (As := []) (rest := []) cx (c_Jxc12de_init_da8c8 hT ht0) gJx4a65c_init_da8c8_Jxc12de_init_da8c8 rfl rfl rfl 0 rfl (by decide +kernel) (by decide +kernel) (by decide +kernel) rfl (by decide +kernel) ⟨(Nat.le_of_ble_eq_true rfl), (Nat.le_of_ble_eq_true rfl)⟩ rfl (Nat.le_of_ble_eq_true rfl) dJx4a65c_init_da8c8_1 ⟨(Nat.le_of_ble_eq_true rfl), (Nat.le_of_ble_eq_true rfl)⟩ (pc' := 4) rfl rfl rfl (fun v9 al9 sh9 S9 h9 => ?_)
  obtain ⟨e1, e2, e3, e4⟩ := h9
  subst v9 al9 sh9 S9
  refine J.stk (st2 := []) rfl ?_
  refine j_aload_n (j := 0) cx dJx4a65c_init_da8c8_4 rfl rfl (pc' := 5) rfl ?_
  refine j_getE cx (by decide +kernel) dJx4a65c_init_da8c8_5 (pc' := 8) rfl ?_
  refine j_putr (fk := 1) (ref := "java/util/ArrayList") (ty := .array (.object "java/lang/Object")) (kk := (99, 0)) cx hT rfl (by decide +kernel) (by decide) (by decide +kernel) (fun _ h => h) tyJx4a65c tyJx4a65c_ok nmJx4a65c rfl (by decide +kernel) hE.symm (Or.inr rfl) rfl rfl rfl dJx4a65c_init_da8c8_8 (pc' := 11) rfl ?_
  exact j_vret cx hlk hr (Nat.le_of_ble_eq_true rfl) (Nat.le_of_ble_eq_true rfl) dJx4a65c_init_da8c8_11 ⟨rfl, rfl, rfl, rfl⟩
