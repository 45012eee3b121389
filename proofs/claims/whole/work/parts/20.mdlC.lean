set_option maxHeartbeats 4000000 in
set_option maxRecDepth 100000 in
theorem c_X3_empties {l : Launch} {Z : yL} {al : yAl} {sh : ySh} {S : yS} {nm ns : Nat}  (hX : YM Z sh) (hI : XI S nm ns) : Ct l yX3_empties wsX3_empties ({ frames := 2, cells := 0, slots := 0, locals := 44 }) 0 0 Z [.ref (al 40 0)] al sh S (yR al sh none (lEmp ns S 0 nm)) := by
  obtain ⟨hm, hs, hnm, hns, hus, hde, hmo, hpo, hro, hho, hen⟩ := id hI
  refine Ct.of (lv := [(0, .ref (al 40 0))]) (by decide) rfl (Nat.le_of_ble_eq_true rfl) rfl ?_
  intro p_ e_ s_ m_ below_ meth_ c_ cx hlk hr hnm9
  have loop : ∀ (k i : Nat) (T : yS), i + k = nm → XI T nm ns → lEmp ns T i k = lEmp ns S 0 nm → J p_ l e_ ({ frames := 2, cells := 0, slots := 0, locals := 44 }) s_ m_ (([.ref (al 40 0)] : List Value).toArray) below_ meth_ c_ 2 Z 0 0 (MQ below_ (Qn Z (yR al sh none (lEmp ns S 0 nm))) (([.ref (al 40 0)] : List Value).toArray) s_ 0 0 (yF Z)) al sh T 2 [(0, .ref (al 40 0)), (1, .int (nI i))] [] := by
    intro k
    induction k with
    | zero =>
      intro i T hik hI hq
      have hik2 : i = nm := by omega
      subst hik2
      obtain ⟨hm, hs, hnm, hns, hus, hde, hmo, hpo, hro, hho, hen⟩ := id hI
      refine j_iload_n (j := 1) cx dX3_empties_2 rfl rfl (pc' := 3) rfl ?_
      refine j_aload_n (j := 0) cx dX3_empties_3 rfl rfl (pc' := 4) rfl ?_
      refine j_get (fk := 4) (ref := "TerminalYardModel") (v := .int (nI i)) cx hX.1 rfl (by decide +kernel) (by decide) (by decide +kernel) (fun _ h => h) ((yV_i rfl).trans (congrArg Value.int hm)) rfl dX3_empties_4 (pc' := 7) rfl ?_
      refine j_icmp_ge (tgt := 52) cx dX3_empties_7 (by decide) (pc' := 10) rfl (fun _ => ?_) (fun h => by first | exact absurd h nI_gg | exact absurd nI_gg h)
      exact j_vret cx hlk hr (Nat.le_of_ble_eq_true rfl) (Nat.le_of_ble_eq_true rfl) dX3_empties_52 ⟨rfl, rfl, rfl, hq⟩
    | succ k ih =>
      intro i T hik hI hq
      have hi : i < nm := by omega
      obtain ⟨hm, hs, hnm, hns, hus, hde, hmo, hpo, hro, hho, hen⟩ := id hI
      refine j_iload_n (j := 1) cx dX3_empties_2 rfl rfl (pc' := 3) rfl ?_
      refine j_aload_n (j := 0) cx dX3_empties_3 rfl rfl (pc' := 4) rfl ?_
      refine j_get (fk := 4) (ref := "TerminalYardModel") (v := .int (nI nm)) cx hX.1 rfl (by decide +kernel) (by decide) (by decide +kernel) (fun _ h => h) ((yV_i rfl).trans (congrArg Value.int hm)) rfl dX3_empties_4 (pc' := 7) rfl ?_
      refine j_icmp_ge (tgt := 52) cx dX3_empties_7 (by decide) (pc' := 10) rfl (fun h => by first | exact absurd h (nI_ge hi (by omega)) | exact absurd (nI_ge hi (by omega)) h) (fun _ => ?_)
      refine j_aload_n (j := 0) cx dX3_empties_10 rfl rfl (pc' := 11) rfl ?_
      refine j_get (fk := 8) (ref := "TerminalYardModel") (v := .ref (al 48 0)) cx hX.1 rfl (by decide +kernel) (by decide) (by decide +kernel) (fun _ h => h) (yV_r (k := (48, 0)) rfl) rfl dX3_empties_11 (pc' := 14) rfl ?_
      refine j_iload_n (j := 1) cx dX3_empties_14 rfl rfl (pc' := 15) rfl ?_
      refine j_aload_n (j := 0) cx dX3_empties_15 rfl rfl (pc' := 16) rfl ?_
      refine j_get (fk := 8) (ref := "TerminalYardModel") (v := .ref (al 48 0)) cx hX.1 rfl (by decide +kernel) (by decide) (by decide +kernel) (fun _ h => h) (yV_r (k := (48, 0)) rfl) rfl dX3_empties_16 (pc' := 19) rfl ?_
      refine j_iload_n (j := 1) cx dX3_empties_19 rfl rfl (pc' := 20) rfl ?_
      refine j_cald (v := T 48 0 i) cx hX.2.2.2.2.2.2.1 rfl (vp_in_nI (by omega) (by omega)) (by rw [(nI_clamp (by omega))]) rfl dX3_empties_20 (pc' := 21) rfl ?_
      refine j_bipush (v := 103) cx dX3_empties_21 (by decide) (pc' := 23) rfl ?_
      refine j_icmp_ne (tgt := 39) cx dX3_empties_23 (by decide) (pc' := 26) rfl (fun h2 => ?_) (fun h2 => ?_)
      · refine j_aload_n (j := 0) cx dX3_empties_39 rfl rfl (pc' := 40) rfl ?_
        refine j_get (fk := 8) (ref := "TerminalYardModel") (v := .ref (al 48 0)) cx hX.1 rfl (by decide +kernel) (by decide) (by decide +kernel) (fun _ h => h) (yV_r (k := (48, 0)) rfl) rfl dX3_empties_40 (pc' := 43) rfl ?_
        refine j_iload_n (j := 1) cx dX3_empties_43 rfl rfl (pc' := 44) rfl ?_
        refine j_cald (v := T 48 0 i) cx hX.2.2.2.2.2.2.1 rfl (vp_in_nI (by omega) (by omega)) (by rw [(nI_clamp (by omega))]) rfl dX3_empties_44 (pc' := 45) rfl ?_
        refine j_cast (jn := i) cx hX.2.2.2.2.2.2.1 rfl (vp_in_nI (by omega) (by omega)) (by first | rfl | exact hho _ | exact hen _) (nI_clamp (by omega)) rfl dX3_empties_45 (pc' := 46) rfl ?_
        refine j_iinc (j := 1) (v := nI (i + 1)) (lv' := [(1, .int (nI (i + 1))), (0, .ref (al 40 0))]) cx dX3_empties_46 rfl (nI_1 i) (by decide) rfl (pc' := 49) rfl ?_
        refine j_goto (tgt := 2) cx dX3_empties_49 (by decide) ?_
        exact J.sub [1, 0] rfl (ih (i + 1) _ (by omega) (by rw [show (sup T 48 0 i (T 48 0 i)) = fEmp1 T ns i by simp [fEmp1, h2]]; exact hI.s48 (by split <;> first | rfl | exact hho _)) (by rw [← hq]; simp [lEmp, fEmp1, h2]))
      · refine j_aload_n (j := 0) cx dX3_empties_26 rfl rfl (pc' := 27) rfl ?_
        refine j_iload_n (j := 1) cx dX3_empties_27 rfl rfl (pc' := 28) rfl ?_
        refine j_cVR (cells1 := 0) (slots1 := 0) (st1 := [.int (mOn (T 59 0) (T 55 0) (nI i) 0 0 ns), .int (nI i), .ref (al 48 0)]) (As := [.int (nI i)]) (rest := [.int (nI i), .ref (al 48 0)]) cx (c_X3_liveOn (e := T 59 0) (mo := T 55 0) hX hI rfl rfl) gX3_empties_X3_liveOn rfl rfl rfl 1 rfl (by decide +kernel) ⟨Nat.le_of_ble_eq_true rfl, Nat.le_of_ble_eq_true rfl⟩ hX.1 rfl rfl rfl rfl (Nat.le_of_ble_eq_true rfl) dX3_empties_28 ⟨Nat.le_of_ble_eq_true rfl, Nat.le_of_ble_eq_true rfl⟩ (pc' := 31) rfl rfl rfl rfl ?_
        refine j_if_ne (tgt := 39) cx dX3_empties_31 (by decide) (pc' := 34) rfl (fun h4 => ?_) (fun h4 => ?_)
        · refine j_aload_n (j := 0) cx dX3_empties_39 rfl rfl (pc' := 40) rfl ?_
          refine j_get (fk := 8) (ref := "TerminalYardModel") (v := .ref (al 48 0)) cx hX.1 rfl (by decide +kernel) (by decide) (by decide +kernel) (fun _ h => h) (yV_r (k := (48, 0)) rfl) rfl dX3_empties_40 (pc' := 43) rfl ?_
          refine j_iload_n (j := 1) cx dX3_empties_43 rfl rfl (pc' := 44) rfl ?_
          refine j_cald (v := T 48 0 i) cx hX.2.2.2.2.2.2.1 rfl (vp_in_nI (by omega) (by omega)) (by rw [(nI_clamp (by omega))]) rfl dX3_empties_44 (pc' := 45) rfl ?_
          refine j_cast (jn := i) cx hX.2.2.2.2.2.2.1 rfl (vp_in_nI (by omega) (by omega)) (by first | rfl | exact hho _ | exact hen _) (nI_clamp (by omega)) rfl dX3_empties_45 (pc' := 46) rfl ?_
          refine j_iinc (j := 1) (v := nI (i + 1)) (lv' := [(1, .int (nI (i + 1))), (0, .ref (al 40 0))]) cx dX3_empties_46 rfl (nI_1 i) (by decide) rfl (pc' := 49) rfl ?_
          refine j_goto (tgt := 2) cx dX3_empties_49 (by decide) ?_
          exact J.sub [1, 0] rfl (ih (i + 1) _ (by omega) (by rw [show (sup T 48 0 i (T 48 0 i)) = fEmp1 T ns i by simp [fEmp1, h2, h4]]; exact hI.s48 (by split <;> first | rfl | exact hho _)) (by rw [← hq]; simp [lEmp, fEmp1, h2, h4]))
        · refine j_bipush (v := 109) cx dX3_empties_34 (by decide) (pc' := 36) rfl ?_
          refine j_goto (tgt := 45) cx dX3_empties_36 (by decide) ?_
          refine j_cast (jn := i) cx hX.2.2.2.2.2.2.1 rfl (vp_in_nI (by omega) (by omega)) (by first | rfl | exact hho _ | exact hen _) (nI_clamp (by omega)) rfl dX3_empties_45 (pc' := 46) rfl ?_
          refine j_iinc (j := 1) (v := nI (i + 1)) (lv' := [(1, .int (nI (i + 1))), (0, .ref (al 40 0))]) cx dX3_empties_46 rfl (nI_1 i) (by decide) rfl (pc' := 49) rfl ?_
          refine j_goto (tgt := 2) cx dX3_empties_49 (by decide) ?_
          exact J.sub [1, 0] rfl (ih (i + 1) _ (by omega) (by rw [show (sup T 48 0 i 109) = fEmp1 T ns i by simp [fEmp1, h2, h4]]; exact hI.s48 (by split <;> first | rfl | exact hho _)) (by rw [← hq]; simp [lEmp, fEmp1, h2, h4]))
  refine j_iconst (v := 0) cx dX3_empties_0 (by decide) (pc' := 1) rfl ?_
  refine j_istore_n (lv' := [(1, .int 0), (0, .ref (al 40 0))]) cx dX3_empties_1 rfl (by decide) rfl (pc' := 2) rfl ?_
  exact J.sub [1, 0] rfl (loop nm 0 S (by omega) hI rfl)
set_option maxHeartbeats 4000000 in
set_option maxRecDepth 100000 in
theorem c_X3_drain {l : Launch} {Z : yL} {al : yAl} {sh : ySh} {S : yS} {nm ns : Nat} {x : Int32} (hX : YM Z sh) (hI : XI S nm ns) : Ct l yX3_drain wsX3_drain ({ frames := 3, cells := 0, slots := 0, locals := 65 }) 0 0 Z [.ref (al 40 0), .int x] al sh S (yM (kDrain nm x (S 48 0 x.toNatClampNeg)) al sh (mOn (S 59 0) (S 55 0) x 0 0 ns) (lEmp ns (sup (sup S 40 0 0 0) 48 0 x.toNatClampNeg 103) 0 nm) S) := by
  obtain ⟨hm, hs, hnm, hns, hus, hde, hmo, hpo, hro, hho, hen⟩ := id hI
  refine Ct.of (lv := [(0, .ref (al 40 0)), (1, .int x)]) (by decide) rfl (Nat.le_of_ble_eq_true rfl) rfl ?_
  intro p_ e_ s_ m_ below_ meth_ c_ cx hlk hr hnm9
  by_cases hx : oN nm x
  · refine j_aload_n (j := 0) cx dX3_drain_0 rfl rfl (pc' := 1) rfl ?_
    refine j_aload_n (j := 0) cx dX3_drain_1 rfl rfl (pc' := 2) rfl ?_
    refine j_iload_n (j := 1) cx dX3_drain_2 rfl rfl (pc' := 3) rfl ?_
    refine j_cVR (cells1 := 0) (slots1 := 0) (st1 := [.int (bI (¬ oN nm x)), .ref (al 40 0)]) (As := [.int x]) (rest := [.ref (al 40 0)]) cx (c_X3_isMachine hX hI) gX3_drain_X3_isMachine rfl rfl rfl 1 rfl (by decide +kernel) ⟨Nat.le_of_ble_eq_true rfl, Nat.le_of_ble_eq_true rfl⟩ hX.1 rfl rfl rfl rfl (Nat.le_of_ble_eq_true rfl) dX3_drain_3 ⟨Nat.le_of_ble_eq_true rfl, Nat.le_of_ble_eq_true rfl⟩ (pc' := 6) rfl rfl rfl rfl ?_
    refine j_ifb_ne (tgt := 13) cx dX3_drain_6 (by decide) (pc' := 9) rfl (fun h => by first | exact absurd h hx | exact absurd hx h) (fun _ => ?_)
    refine j_iconst (v := 1) cx dX3_drain_9 (by decide) (pc' := 10) rfl ?_
    refine j_goto (tgt := 29) cx dX3_drain_10 (by decide) ?_
    refine j_cVR (cells1 := 0) (slots1 := 0) (st1 := [.int (bI (1 = 0))]) (As := [.int 1]) (rest := []) cx (c_X3_goesOn hX) gX3_drain_X3_goesOn rfl rfl rfl 1 rfl (by decide +kernel) ⟨Nat.le_of_ble_eq_true rfl, Nat.le_of_ble_eq_true rfl⟩ hX.1 rfl rfl rfl rfl (Nat.le_of_ble_eq_true rfl) dX3_drain_29 ⟨Nat.le_of_ble_eq_true rfl, Nat.le_of_ble_eq_true rfl⟩ (pc' := 32) rfl rfl rfl rfl ?_
    refine j_ifb_ne (tgt := 37) cx dX3_drain_32 (by decide) (pc' := 35) rfl (fun h => by first | exact absurd h (by decide) | exact absurd (by decide) h) (fun _ => ?_)
    refine j_iconst (v := 0) cx dX3_drain_35 (by decide) (pc' := 36) rfl ?_
    exact j_iret (ty := .int) cx hlk hr rfl (Nat.le_of_ble_eq_true rfl) (Nat.le_of_ble_eq_true rfl) dX3_drain_36 (yM_n (by first | (simp [kDrain, hx]; done) | (exfalso; contradiction)) (by decide))
  obtain ⟨i, hi, rfl⟩ : ∃ i, i < nm ∧ x = nI i := vp_in_of (vinm hx) (by omega)
  have hcl : (nI i).toNatClampNeg = i := nI_clamp (by omega)
  simp only [hcl]
  refine j_aload_n (j := 0) cx dX3_drain_0 rfl rfl (pc' := 1) rfl ?_
  refine j_aload_n (j := 0) cx dX3_drain_1 rfl rfl (pc' := 2) rfl ?_
  refine j_iload_n (j := 1) cx dX3_drain_2 rfl rfl (pc' := 3) rfl ?_
  refine j_cVR (cells1 := 0) (slots1 := 0) (st1 := [.int (bI (¬ oN nm (nI i))), .ref (al 40 0)]) (As := [.int (nI i)]) (rest := [.ref (al 40 0)]) cx (c_X3_isMachine hX hI) gX3_drain_X3_isMachine rfl rfl rfl 1 rfl (by decide +kernel) ⟨Nat.le_of_ble_eq_true rfl, Nat.le_of_ble_eq_true rfl⟩ hX.1 rfl rfl rfl rfl (Nat.le_of_ble_eq_true rfl) dX3_drain_3 ⟨Nat.le_of_ble_eq_true rfl, Nat.le_of_ble_eq_true rfl⟩ (pc' := 6) rfl rfl rfl rfl ?_
  refine j_ifb_ne (tgt := 13) cx dX3_drain_6 (by decide) (pc' := 9) rfl (fun _ => ?_) (fun h => by first | exact absurd h hx | exact absurd hx h)
  refine j_aload_n (j := 0) cx dX3_drain_13 rfl rfl (pc' := 14) rfl ?_
  refine j_get (fk := 8) (ref := "TerminalYardModel") (v := .ref (al 48 0)) cx hX.1 rfl (by decide +kernel) (by decide) (by decide +kernel) (fun _ h => h) (yV_r (k := (48, 0)) rfl) rfl dX3_drain_14 (pc' := 17) rfl ?_
  refine j_iload_n (j := 1) cx dX3_drain_17 rfl rfl (pc' := 18) rfl ?_
  refine j_cald (v := S 48 0 i) cx hX.2.2.2.2.2.2.1 rfl (vp_in_nI (by omega) (by omega)) (by rw [(nI_clamp (by omega))]) rfl dX3_drain_18 (pc' := 19) rfl ?_
  refine j_bipush (v := 117) cx dX3_drain_19 (by decide) (pc' := 21) rfl ?_
  refine j_icmp_eq (tgt := 28) cx dX3_drain_21 (by decide) (pc' := 24) rfl (fun h3 => ?_) (fun h3 => ?_)
  · refine j_iconst (v := 0) cx dX3_drain_28 (by decide) (pc' := 29) rfl ?_
    refine j_cVR (cells1 := 0) (slots1 := 0) (st1 := [.int (bI (0 = 0))]) (As := [.int 0]) (rest := []) cx (c_X3_goesOn hX) gX3_drain_X3_goesOn rfl rfl rfl 1 rfl (by decide +kernel) ⟨Nat.le_of_ble_eq_true rfl, Nat.le_of_ble_eq_true rfl⟩ hX.1 rfl rfl rfl rfl (Nat.le_of_ble_eq_true rfl) dX3_drain_29 ⟨Nat.le_of_ble_eq_true rfl, Nat.le_of_ble_eq_true rfl⟩ (pc' := 32) rfl rfl rfl rfl ?_
    refine j_ifb_ne (tgt := 37) cx dX3_drain_32 (by decide) (pc' := 35) rfl (fun _ => ?_) (fun h => by first | exact absurd h (by decide) | exact absurd (by decide) h)
    refine j_aload_n (j := 0) cx dX3_drain_37 rfl rfl (pc' := 38) rfl ?_
    refine j_get (fk := 8) (ref := "TerminalYardModel") (v := .ref (al 48 0)) cx hX.1 rfl (by decide +kernel) (by decide) (by decide +kernel) (fun _ h => h) (yV_r (k := (48, 0)) rfl) rfl dX3_drain_38 (pc' := 41) rfl ?_
    refine j_iload_n (j := 1) cx dX3_drain_41 rfl rfl (pc' := 42) rfl ?_
    refine j_bipush (v := 103) cx dX3_drain_42 (by decide) (pc' := 44) rfl ?_
    refine j_cast (jn := i) cx hX.2.2.2.2.2.2.1 rfl (vp_in_nI (by omega) (by omega)) (by first | rfl | exact hho _ | exact hen _) (nI_clamp (by omega)) rfl dX3_drain_44 (pc' := 45) rfl ?_
    refine j_aload_n (j := 0) cx dX3_drain_45 rfl rfl (pc' := 46) rfl ?_
    refine j_cVR (cells1 := 0) (slots1 := 0) (st1 := []) (As := []) (rest := []) cx (c_X3_empties hX (XI.s48 (XI.s hI (by simp)) rfl)) gX3_drain_X3_empties rfl rfl rfl 0 rfl (by decide +kernel) ⟨Nat.le_of_ble_eq_true rfl, Nat.le_of_ble_eq_true rfl⟩ hX.1 rfl rfl rfl rfl (Nat.le_of_ble_eq_true rfl) dX3_drain_46 ⟨Nat.le_of_ble_eq_true rfl, Nat.le_of_ble_eq_true rfl⟩ (pc' := 49) rfl rfl rfl rfl ?_
    refine j_aload_n (j := 0) cx dX3_drain_49 rfl rfl (pc' := 50) rfl ?_
    refine j_iload_n (j := 1) cx dX3_drain_50 rfl rfl (pc' := 51) rfl ?_
    refine j_cVR (cells1 := 0) (slots1 := 0) (st1 := [.int (mOn (S 59 0) (S 55 0) (nI i) 0 0 ns)]) (As := [.int (nI i)]) (rest := []) cx (c_X3_liveOn (e := S 59 0) (mo := S 55 0) hX (XI.emp (S := S) _ _ _ (XI.s48 (XI.s hI (by simp)) rfl)) (by funext j9; simp [sup, lEmp_o, mChg_o]) (by funext j9; simp [sup, lEmp_o, mChg_o])) gX3_drain_X3_liveOn rfl rfl rfl 1 rfl (by decide +kernel) ⟨Nat.le_of_ble_eq_true rfl, Nat.le_of_ble_eq_true rfl⟩ hX.1 rfl rfl rfl rfl (Nat.le_of_ble_eq_true rfl) dX3_drain_51 ⟨Nat.le_of_ble_eq_true rfl, Nat.le_of_ble_eq_true rfl⟩ (pc' := 54) rfl rfl rfl rfl ?_
    exact j_iret (ty := .int) cx hlk hr rfl (Nat.le_of_ble_eq_true rfl) (Nat.le_of_ble_eq_true rfl) dX3_drain_54 (yM_0 (by simp [kDrain, hx, h3]) (rfl) (rfl))
  · refine j_iconst (v := 2) cx dX3_drain_24 (by decide) (pc' := 25) rfl ?_
    refine j_goto (tgt := 29) cx dX3_drain_25 (by decide) ?_
    refine j_cVR (cells1 := 0) (slots1 := 0) (st1 := [.int (bI (2 = 0))]) (As := [.int 2]) (rest := []) cx (c_X3_goesOn hX) gX3_drain_X3_goesOn rfl rfl rfl 1 rfl (by decide +kernel) ⟨Nat.le_of_ble_eq_true rfl, Nat.le_of_ble_eq_true rfl⟩ hX.1 rfl rfl rfl rfl (Nat.le_of_ble_eq_true rfl) dX3_drain_29 ⟨Nat.le_of_ble_eq_true rfl, Nat.le_of_ble_eq_true rfl⟩ (pc' := 32) rfl rfl rfl rfl ?_
    refine j_ifb_ne (tgt := 37) cx dX3_drain_32 (by decide) (pc' := 35) rfl (fun h => by first | exact absurd h (by decide) | exact absurd (by decide) h) (fun _ => ?_)
    refine j_iconst (v := 0) cx dX3_drain_35 (by decide) (pc' := 36) rfl ?_
    exact j_iret (ty := .int) cx hlk hr rfl (Nat.le_of_ble_eq_true rfl) (Nat.le_of_ble_eq_true rfl) dX3_drain_36 (yM_n (by first | (simp [kDrain, hx, h3]; done) | (exfalso; contradiction)) (by decide))
set_option maxHeartbeats 4000000 in
set_option maxRecDepth 100000 in
theorem c_X3_putUp {l : Launch} {Z : yL} {al : yAl} {sh : ySh} {S : yS} {nm ns : Nat} {x : Int32} (hX : YM Z sh) (hI : XI S nm ns) : Ct l yX3_putUp wsX3_putUp ({ frames := 2, cells := 0, slots := 0, locals := 44 }) 0 0 Z [.ref (al 40 0), .int x] al sh S (yM (kPut nm x (S 48 0 x.toNatClampNeg)) al sh (S 47 0 x.toNatClampNeg - mOn (S 59 0) (S 55 0) x 0 0 ns) (sup (sup S 40 0 0 0) 48 0 x.toNatClampNeg 117) S) := by
  obtain ⟨hm, hs, hnm, hns, hus, hde, hmo, hpo, hro, hho, hen⟩ := id hI
  refine Ct.of (lv := [(0, .ref (al 40 0)), (1, .int x)]) (by decide) rfl (Nat.le_of_ble_eq_true rfl) rfl ?_
  intro p_ e_ s_ m_ below_ meth_ c_ cx hlk hr hnm9
  by_cases hx : oN nm x
  · refine j_aload_n (j := 0) cx dX3_putUp_0 rfl rfl (pc' := 1) rfl ?_
    refine j_aload_n (j := 0) cx dX3_putUp_1 rfl rfl (pc' := 2) rfl ?_
    refine j_iload_n (j := 1) cx dX3_putUp_2 rfl rfl (pc' := 3) rfl ?_
    refine j_cVR (cells1 := 0) (slots1 := 0) (st1 := [.int (bI (¬ oN nm x)), .ref (al 40 0)]) (As := [.int x]) (rest := [.ref (al 40 0)]) cx (c_X3_isMachine hX hI) gX3_putUp_X3_isMachine rfl rfl rfl 1 rfl (by decide +kernel) ⟨Nat.le_of_ble_eq_true rfl, Nat.le_of_ble_eq_true rfl⟩ hX.1 rfl rfl rfl rfl (Nat.le_of_ble_eq_true rfl) dX3_putUp_3 ⟨Nat.le_of_ble_eq_true rfl, Nat.le_of_ble_eq_true rfl⟩ (pc' := 6) rfl rfl rfl rfl ?_
    refine j_ifb_ne (tgt := 13) cx dX3_putUp_6 (by decide) (pc' := 9) rfl (fun h => by first | exact absurd h hx | exact absurd hx h) (fun _ => ?_)
    refine j_iconst (v := 1) cx dX3_putUp_9 (by decide) (pc' := 10) rfl ?_
    refine j_goto (tgt := 29) cx dX3_putUp_10 (by decide) ?_
    refine j_cVR (cells1 := 0) (slots1 := 0) (st1 := [.int (bI (1 = 0))]) (As := [.int 1]) (rest := []) cx (c_X3_goesOn hX) gX3_putUp_X3_goesOn rfl rfl rfl 1 rfl (by decide +kernel) ⟨Nat.le_of_ble_eq_true rfl, Nat.le_of_ble_eq_true rfl⟩ hX.1 rfl rfl rfl rfl (Nat.le_of_ble_eq_true rfl) dX3_putUp_29 ⟨Nat.le_of_ble_eq_true rfl, Nat.le_of_ble_eq_true rfl⟩ (pc' := 32) rfl rfl rfl rfl ?_
    refine j_ifb_ne (tgt := 37) cx dX3_putUp_32 (by decide) (pc' := 35) rfl (fun h => by first | exact absurd h (by decide) | exact absurd (by decide) h) (fun _ => ?_)
    refine j_iconst (v := 0) cx dX3_putUp_35 (by decide) (pc' := 36) rfl ?_
    exact j_iret (ty := .int) cx hlk hr rfl (Nat.le_of_ble_eq_true rfl) (Nat.le_of_ble_eq_true rfl) dX3_putUp_36 (yM_n (by first | (simp [kPut, hx]; done) | (exfalso; contradiction)) (by decide))
  obtain ⟨i, hi, rfl⟩ : ∃ i, i < nm ∧ x = nI i := vp_in_of (vinm hx) (by omega)
  have hcl : (nI i).toNatClampNeg = i := nI_clamp (by omega)
  simp only [hcl]
  refine j_aload_n (j := 0) cx dX3_putUp_0 rfl rfl (pc' := 1) rfl ?_
  refine j_aload_n (j := 0) cx dX3_putUp_1 rfl rfl (pc' := 2) rfl ?_
  refine j_iload_n (j := 1) cx dX3_putUp_2 rfl rfl (pc' := 3) rfl ?_
  refine j_cVR (cells1 := 0) (slots1 := 0) (st1 := [.int (bI (¬ oN nm (nI i))), .ref (al 40 0)]) (As := [.int (nI i)]) (rest := [.ref (al 40 0)]) cx (c_X3_isMachine hX hI) gX3_putUp_X3_isMachine rfl rfl rfl 1 rfl (by decide +kernel) ⟨Nat.le_of_ble_eq_true rfl, Nat.le_of_ble_eq_true rfl⟩ hX.1 rfl rfl rfl rfl (Nat.le_of_ble_eq_true rfl) dX3_putUp_3 ⟨Nat.le_of_ble_eq_true rfl, Nat.le_of_ble_eq_true rfl⟩ (pc' := 6) rfl rfl rfl rfl ?_
  refine j_ifb_ne (tgt := 13) cx dX3_putUp_6 (by decide) (pc' := 9) rfl (fun _ => ?_) (fun h => by first | exact absurd h hx | exact absurd hx h)
  refine j_aload_n (j := 0) cx dX3_putUp_13 rfl rfl (pc' := 14) rfl ?_
  refine j_get (fk := 8) (ref := "TerminalYardModel") (v := .ref (al 48 0)) cx hX.1 rfl (by decide +kernel) (by decide) (by decide +kernel) (fun _ h => h) (yV_r (k := (48, 0)) rfl) rfl dX3_putUp_14 (pc' := 17) rfl ?_
  refine j_iload_n (j := 1) cx dX3_putUp_17 rfl rfl (pc' := 18) rfl ?_
  refine j_cald (v := S 48 0 i) cx hX.2.2.2.2.2.2.1 rfl (vp_in_nI (by omega) (by omega)) (by rw [(nI_clamp (by omega))]) rfl dX3_putUp_18 (pc' := 19) rfl ?_
  refine j_bipush (v := 117) cx dX3_putUp_19 (by decide) (pc' := 21) rfl ?_
  refine j_icmp_ne (tgt := 28) cx dX3_putUp_21 (by decide) (pc' := 24) rfl (fun h3 => ?_) (fun h3 => ?_)
  · refine j_iconst (v := 0) cx dX3_putUp_28 (by decide) (pc' := 29) rfl ?_
    refine j_cVR (cells1 := 0) (slots1 := 0) (st1 := [.int (bI (0 = 0))]) (As := [.int 0]) (rest := []) cx (c_X3_goesOn hX) gX3_putUp_X3_goesOn rfl rfl rfl 1 rfl (by decide +kernel) ⟨Nat.le_of_ble_eq_true rfl, Nat.le_of_ble_eq_true rfl⟩ hX.1 rfl rfl rfl rfl (Nat.le_of_ble_eq_true rfl) dX3_putUp_29 ⟨Nat.le_of_ble_eq_true rfl, Nat.le_of_ble_eq_true rfl⟩ (pc' := 32) rfl rfl rfl rfl ?_
    refine j_ifb_ne (tgt := 37) cx dX3_putUp_32 (by decide) (pc' := 35) rfl (fun _ => ?_) (fun h => by first | exact absurd h (by decide) | exact absurd (by decide) h)
    refine j_aload_n (j := 0) cx dX3_putUp_37 rfl rfl (pc' := 38) rfl ?_
    refine j_get (fk := 8) (ref := "TerminalYardModel") (v := .ref (al 48 0)) cx hX.1 rfl (by decide +kernel) (by decide) (by decide +kernel) (fun _ h => h) (yV_r (k := (48, 0)) rfl) rfl dX3_putUp_38 (pc' := 41) rfl ?_
    refine j_iload_n (j := 1) cx dX3_putUp_41 rfl rfl (pc' := 42) rfl ?_
    refine j_bipush (v := 117) cx dX3_putUp_42 (by decide) (pc' := 44) rfl ?_
    refine j_cast (jn := i) cx hX.2.2.2.2.2.2.1 rfl (vp_in_nI (by omega) (by omega)) (by first | rfl | exact hho _ | exact hen _) (nI_clamp (by omega)) rfl dX3_putUp_44 (pc' := 45) rfl ?_
    refine j_aload_n (j := 0) cx dX3_putUp_45 rfl rfl (pc' := 46) rfl ?_
    refine j_get (fk := 7) (ref := "TerminalYardModel") (v := .ref (al 47 0)) cx hX.1 rfl (by decide +kernel) (by decide) (by decide +kernel) (fun _ h => h) (yV_r (k := (47, 0)) rfl) rfl dX3_putUp_46 (pc' := 49) rfl ?_
    refine j_iload_n (j := 1) cx dX3_putUp_49 rfl rfl (pc' := 50) rfl ?_
    refine j_iald (v := S 47 0 i) cx hX.2.2.2.2.2.1 rfl (vp_in_nI (by omega) (by omega)) (by rw [(nI_clamp (by omega))]; simp [sup, mChg_o, lEmp_o]) rfl dX3_putUp_50 (pc' := 51) rfl ?_
    refine j_aload_n (j := 0) cx dX3_putUp_51 rfl rfl (pc' := 52) rfl ?_
    refine j_iload_n (j := 1) cx dX3_putUp_52 rfl rfl (pc' := 53) rfl ?_
    refine j_cVR (cells1 := 0) (slots1 := 0) (st1 := [.int (mOn (S 59 0) (S 55 0) (nI i) 0 0 ns), .int (S 47 0 i)]) (As := [.int (nI i)]) (rest := [.int (S 47 0 i)]) cx (c_X3_liveOn (e := S 59 0) (mo := S 55 0) hX (XI.s48 (XI.s hI (by simp)) rfl) (by funext j9; simp [sup, lEmp_o, mChg_o]) (by funext j9; simp [sup, lEmp_o, mChg_o])) gX3_putUp_X3_liveOn rfl rfl rfl 1 rfl (by decide +kernel) ⟨Nat.le_of_ble_eq_true rfl, Nat.le_of_ble_eq_true rfl⟩ hX.1 rfl rfl rfl rfl (Nat.le_of_ble_eq_true rfl) dX3_putUp_53 ⟨Nat.le_of_ble_eq_true rfl, Nat.le_of_ble_eq_true rfl⟩ (pc' := 56) rfl rfl rfl rfl ?_
    refine j_isub cx dX3_putUp_56 (pc' := 57) rfl ?_
    exact j_iret (ty := .int) cx hlk hr rfl (Nat.le_of_ble_eq_true rfl) (Nat.le_of_ble_eq_true rfl) dX3_putUp_57 (yM_0 (by simp [kPut, hx, h3]) (rfl) (rfl))
  · refine j_iconst (v := 2) cx dX3_putUp_24 (by decide) (pc' := 25) rfl ?_
    refine j_goto (tgt := 29) cx dX3_putUp_25 (by decide) ?_
    refine j_cVR (cells1 := 0) (slots1 := 0) (st1 := [.int (bI (2 = 0))]) (As := [.int 2]) (rest := []) cx (c_X3_goesOn hX) gX3_putUp_X3_goesOn rfl rfl rfl 1 rfl (by decide +kernel) ⟨Nat.le_of_ble_eq_true rfl, Nat.le_of_ble_eq_true rfl⟩ hX.1 rfl rfl rfl rfl (Nat.le_of_ble_eq_true rfl) dX3_putUp_29 ⟨Nat.le_of_ble_eq_true rfl, Nat.le_of_ble_eq_true rfl⟩ (pc' := 32) rfl rfl rfl rfl ?_
    refine j_ifb_ne (tgt := 37) cx dX3_putUp_32 (by decide) (pc' := 35) rfl (fun h => by first | exact absurd h (by decide) | exact absurd (by decide) h) (fun _ => ?_)
    refine j_iconst (v := 0) cx dX3_putUp_35 (by decide) (pc' := 36) rfl ?_
    exact j_iret (ty := .int) cx hlk hr rfl (Nat.le_of_ble_eq_true rfl) (Nat.le_of_ble_eq_true rfl) dX3_putUp_36 (yM_n (by first | (simp [kPut, hx, h3]; done) | (exfalso; contradiction)) (by decide))
set_option maxHeartbeats 4000000 in
set_option maxRecDepth 100000 in
theorem c_X3_machine {l : Launch} {Z : yL} {al : yAl} {sh : ySh} {S : yS} {nm ns : Nat} {x : Int32} (hX : YM Z sh) (hI : XI S nm ns) : Ct l yX3_machine wsX3_machine ({ frames := 2, cells := 0, slots := 0, locals := 43 }) 0 0 Z [.ref (al 40 0), .int x] al sh S (yM (kIdx nm x) al sh (S 48 0 x.toNatClampNeg) (sup S 40 0 0 0) S) := by
  obtain ⟨hm, hs, hnm, hns, hus, hde, hmo, hpo, hro, hho, hen⟩ := id hI
  refine Ct.of (lv := [(0, .ref (al 40 0)), (1, .int x)]) (by decide) rfl (Nat.le_of_ble_eq_true rfl) rfl ?_
  intro p_ e_ s_ m_ below_ meth_ c_ cx hlk hr hnm9
  by_cases hx : oN nm x
  · refine j_aload_n (j := 0) cx dX3_machine_0 rfl rfl (pc' := 1) rfl ?_
    refine j_aload_n (j := 0) cx dX3_machine_1 rfl rfl (pc' := 2) rfl ?_
    refine j_iload_n (j := 1) cx dX3_machine_2 rfl rfl (pc' := 3) rfl ?_
    refine j_cVR (cells1 := 0) (slots1 := 0) (st1 := [.int (bI (¬ oN nm x)), .ref (al 40 0)]) (As := [.int x]) (rest := [.ref (al 40 0)]) cx (c_X3_isMachine hX hI) gX3_machine_X3_isMachine rfl rfl rfl 1 rfl (by decide +kernel) ⟨Nat.le_of_ble_eq_true rfl, Nat.le_of_ble_eq_true rfl⟩ hX.1 rfl rfl rfl rfl (Nat.le_of_ble_eq_true rfl) dX3_machine_3 ⟨Nat.le_of_ble_eq_true rfl, Nat.le_of_ble_eq_true rfl⟩ (pc' := 6) rfl rfl rfl rfl ?_
    refine j_ifb_eq (tgt := 13) cx dX3_machine_6 (by decide) (pc' := 9) rfl (fun _ => ?_) (fun h => by first | exact absurd h hx | exact absurd hx h)
    refine j_iconst (v := 1) cx dX3_machine_13 (by decide) (pc' := 14) rfl ?_
    refine j_cVR (cells1 := 0) (slots1 := 0) (st1 := [.int (bI (1 = 0))]) (As := [.int 1]) (rest := []) cx (c_X3_goesOn hX) gX3_machine_X3_goesOn rfl rfl rfl 1 rfl (by decide +kernel) ⟨Nat.le_of_ble_eq_true rfl, Nat.le_of_ble_eq_true rfl⟩ hX.1 rfl rfl rfl rfl (Nat.le_of_ble_eq_true rfl) dX3_machine_14 ⟨Nat.le_of_ble_eq_true rfl, Nat.le_of_ble_eq_true rfl⟩ (pc' := 17) rfl rfl rfl rfl ?_
    refine j_ifb_eq (tgt := 29) cx dX3_machine_17 (by decide) (pc' := 20) rfl (fun _ => ?_) (fun h => by first | exact absurd h (by decide) | exact absurd (by decide) h)
    refine j_iconst (v := 0) cx dX3_machine_29 (by decide) (pc' := 30) rfl ?_
    exact j_iret (ty := .char) cx hlk hr rfl (Nat.le_of_ble_eq_true rfl) (Nat.le_of_ble_eq_true rfl) dX3_machine_30 (yM_n (by first | (simp [kIdx, hx]; done) | (exfalso; contradiction)) (by decide))
  obtain ⟨i, hi, rfl⟩ : ∃ i, i < nm ∧ x = nI i := vp_in_of (vinm hx) (by omega)
  have hcl : (nI i).toNatClampNeg = i := nI_clamp (by omega)
  simp only [hcl]
  refine j_aload_n (j := 0) cx dX3_machine_0 rfl rfl (pc' := 1) rfl ?_
  refine j_aload_n (j := 0) cx dX3_machine_1 rfl rfl (pc' := 2) rfl ?_
  refine j_iload_n (j := 1) cx dX3_machine_2 rfl rfl (pc' := 3) rfl ?_
  refine j_cVR (cells1 := 0) (slots1 := 0) (st1 := [.int (bI (¬ oN nm (nI i))), .ref (al 40 0)]) (As := [.int (nI i)]) (rest := [.ref (al 40 0)]) cx (c_X3_isMachine hX hI) gX3_machine_X3_isMachine rfl rfl rfl 1 rfl (by decide +kernel) ⟨Nat.le_of_ble_eq_true rfl, Nat.le_of_ble_eq_true rfl⟩ hX.1 rfl rfl rfl rfl (Nat.le_of_ble_eq_true rfl) dX3_machine_3 ⟨Nat.le_of_ble_eq_true rfl, Nat.le_of_ble_eq_true rfl⟩ (pc' := 6) rfl rfl rfl rfl ?_
  refine j_ifb_eq (tgt := 13) cx dX3_machine_6 (by decide) (pc' := 9) rfl (fun h => by first | exact absurd h hx | exact absurd hx h) (fun _ => ?_)
  refine j_iconst (v := 0) cx dX3_machine_9 (by decide) (pc' := 10) rfl ?_
  refine j_goto (tgt := 14) cx dX3_machine_10 (by decide) ?_
  refine j_cVR (cells1 := 0) (slots1 := 0) (st1 := [.int (bI (0 = 0))]) (As := [.int 0]) (rest := []) cx (c_X3_goesOn hX) gX3_machine_X3_goesOn rfl rfl rfl 1 rfl (by decide +kernel) ⟨Nat.le_of_ble_eq_true rfl, Nat.le_of_ble_eq_true rfl⟩ hX.1 rfl rfl rfl rfl (Nat.le_of_ble_eq_true rfl) dX3_machine_14 ⟨Nat.le_of_ble_eq_true rfl, Nat.le_of_ble_eq_true rfl⟩ (pc' := 17) rfl rfl rfl rfl ?_
  refine j_ifb_eq (tgt := 29) cx dX3_machine_17 (by decide) (pc' := 20) rfl (fun h => by first | exact absurd h (by decide) | exact absurd (by decide) h) (fun _ => ?_)
  refine j_aload_n (j := 0) cx dX3_machine_20 rfl rfl (pc' := 21) rfl ?_
  refine j_get (fk := 8) (ref := "TerminalYardModel") (v := .ref (al 48 0)) cx hX.1 rfl (by decide +kernel) (by decide) (by decide +kernel) (fun _ h => h) (yV_r (k := (48, 0)) rfl) rfl dX3_machine_21 (pc' := 24) rfl ?_
  refine j_iload_n (j := 1) cx dX3_machine_24 rfl rfl (pc' := 25) rfl ?_
  refine j_cald (v := S 48 0 i) cx hX.2.2.2.2.2.2.1 rfl (vp_in_nI (by omega) (by omega)) (by rw [(nI_clamp (by omega))]; simp [sup, mChg_o, lEmp_o]) rfl dX3_machine_25 (pc' := 26) rfl ?_
  refine j_goto (tgt := 30) cx dX3_machine_26 (by decide) ?_
  exact j_iret (ty := .char) cx hlk hr (by first | rfl | exact hho _ | exact hen _) (Nat.le_of_ble_eq_true rfl) (Nat.le_of_ble_eq_true rfl) dX3_machine_30 (yM_0 (by simp [kIdx, hx]) (by simp [sup]) (rfl))
set_option maxHeartbeats 4000000 in
set_option maxRecDepth 100000 in
theorem c_X3_nextIn {l : Launch} {Z : yL} {al : yAl} {sh : ySh} {S : yS} {nm ns : Nat} {x : Int32} {e mo po ho se : Nat → Int32} (hX : YM Z sh) (hI : XI S nm ns) (hE : e = S 59 0) (hM : mo = S 55 0) (hP : po = S 45 0) (hH : ho = S 48 0) (hS : se = S 47 0) : Ct l yX3_nextIn wsX3_nextIn ({ frames := 2, cells := 0, slots := 0, locals := 44 }) 0 0 Z [.ref (al 40 0), .int x] al sh S (yR al sh (some (.int (mNx e mo po ho se x ns 0 (-1) nm))) S) := by
  obtain ⟨hm, hs, hnm, hns, hus, hde, hmo, hpo, hro, hho, hen⟩ := id hI
  refine Ct.of (lv := [(0, .ref (al 40 0)), (1, .int x)]) (by decide) rfl (Nat.le_of_ble_eq_true rfl) rfl ?_
  intro p_ e_ s_ m_ below_ meth_ c_ cx hlk hr hnm9
  have loop : ∀ (k i : Nat) (b : Int32), i + k = nm → mNx e mo po ho se x ns i b k = mNx e mo po ho se x ns 0 (-1) nm → J p_ l e_ ({ frames := 2, cells := 0, slots := 0, locals := 44 }) s_ m_ (([.ref (al 40 0), .int x] : List Value).toArray) below_ meth_ c_ 5 Z 0 0 (MQ below_ (Qn Z (yR al sh (some (.int (mNx e mo po ho se x ns 0 (-1) nm))) S)) (([.ref (al 40 0), .int x] : List Value).toArray) s_ 0 0 (yF Z)) al sh S 4 [(0, .ref (al 40 0)), (1, .int x), (2, .int b), (3, .int (nI i))] [] := by
    intro k
    induction k with
    | zero =>
      intro i b hik hq
      have hik2 : i = nm := by omega
      subst hik2
      refine j_iload_n (j := 3) cx dX3_nextIn_4 rfl rfl (pc' := 5) rfl ?_
      refine j_aload_n (j := 0) cx dX3_nextIn_5 rfl rfl (pc' := 6) rfl ?_
      refine j_get (fk := 4) (ref := "TerminalYardModel") (v := .int (nI i)) cx hX.1 rfl (by decide +kernel) (by decide) (by decide +kernel) (fun _ h => h) ((yV_i rfl).trans (congrArg Value.int hm)) rfl dX3_nextIn_6 (pc' := 9) rfl ?_
      refine j_icmp_ge (tgt := 89) cx dX3_nextIn_9 (by decide) (pc' := 12) rfl (fun _ => ?_) (fun h => by first | exact absurd h nI_gg | exact absurd nI_gg h)
      refine j_iload_n (j := 2) cx dX3_nextIn_89 rfl rfl (pc' := 90) rfl ?_
      exact j_iret (ty := .int) cx hlk hr rfl (Nat.le_of_ble_eq_true rfl) (Nat.le_of_ble_eq_true rfl) dX3_nextIn_90 ⟨congrArg (fun z => some (Value.int z)) hq, rfl, rfl, rfl⟩
    | succ k ih =>
      intro i b hik hq
      have hi : i < nm := by omega
      refine j_iload_n (j := 3) cx dX3_nextIn_4 rfl rfl (pc' := 5) rfl ?_
      refine j_aload_n (j := 0) cx dX3_nextIn_5 rfl rfl (pc' := 6) rfl ?_
      refine j_get (fk := 4) (ref := "TerminalYardModel") (v := .int (nI nm)) cx hX.1 rfl (by decide +kernel) (by decide) (by decide +kernel) (fun _ h => h) ((yV_i rfl).trans (congrArg Value.int hm)) rfl dX3_nextIn_6 (pc' := 9) rfl ?_
      refine j_icmp_ge (tgt := 89) cx dX3_nextIn_9 (by decide) (pc' := 12) rfl (fun h => by first | exact absurd h (nI_ge hi (by omega)) | exact absurd (nI_ge hi (by omega)) h) (fun _ => ?_)
      refine j_aload_n (j := 0) cx dX3_nextIn_12 rfl rfl (pc' := 13) rfl ?_
      refine j_get (fk := 5) (ref := "TerminalYardModel") (v := .ref (al 45 0)) cx hX.1 rfl (by decide +kernel) (by decide) (by decide +kernel) (fun _ h => h) (yV_r (k := (45, 0)) rfl) rfl dX3_nextIn_13 (pc' := 16) rfl ?_
      refine j_iload_n (j := 3) cx dX3_nextIn_16 rfl rfl (pc' := 17) rfl ?_
      refine j_iald (v := S 45 0 i) cx hX.2.2.2.1 rfl (vp_in_nI (by omega) (by omega)) (by rw [(nI_clamp (by omega))]) rfl dX3_nextIn_17 (pc' := 18) rfl ?_
      refine j_iload_n (j := 1) cx dX3_nextIn_18 rfl rfl (pc' := 19) rfl ?_
      refine j_icmp_ne (tgt := 51) cx dX3_nextIn_19 (by decide) (pc' := 22) rfl (fun h2 => ?_) (fun h2 => ?_)
      · refine j_iconst (v := 0) cx dX3_nextIn_51 (by decide) (pc' := 52) rfl ?_
        refine j_istore (lv' := [(4, .int 0), (0, .ref (al 40 0)), (1, .int x), (2, .int b), (3, .int (nI i))]) cx dX3_nextIn_52 (by decide) rfl (pc' := 54) rfl ?_
        refine j_iload (j := 0) cx dX3_nextIn_54 rfl (pc' := 56) rfl ?_
        refine j_if_eq (tgt := 81) cx dX3_nextIn_56 (by decide) (pc' := 59) rfl (fun _ => ?_) (fun h => absurd h (by decide))
        refine j_iload_n (j := 3) cx dX3_nextIn_81 rfl rfl (pc' := 82) rfl ?_
        refine j_istore_n (lv' := [(2, .int b), (4, .int 0), (0, .ref (al 40 0)), (1, .int x), (3, .int (nI i))]) cx dX3_nextIn_82 rfl (by decide) rfl (pc' := 83) rfl ?_
        refine j_iinc (j := 4) (v := nI (i + 1)) (lv' := [(3, .int (nI (i + 1))), (2, .int b), (4, .int 0), (0, .ref (al 40 0)), (1, .int x)]) cx dX3_nextIn_83 rfl (nI_1 i) (by decide) rfl (pc' := 86) rfl ?_
        refine j_goto (tgt := 4) cx dX3_nextIn_86 (by decide) ?_
        exact J.sub [3, 4, 1, 0] rfl (ih (i + 1) _ (by omega) (by rw [← hq]; simp [mNx, hE, hM, hP, hH, hS, h2]))
      · refine j_aload_n (j := 0) cx dX3_nextIn_22 rfl rfl (pc' := 23) rfl ?_
        refine j_get (fk := 8) (ref := "TerminalYardModel") (v := .ref (al 48 0)) cx hX.1 rfl (by decide +kernel) (by decide) (by decide +kernel) (fun _ h => h) (yV_r (k := (48, 0)) rfl) rfl dX3_nextIn_23 (pc' := 26) rfl ?_
        refine j_iload_n (j := 3) cx dX3_nextIn_26 rfl rfl (pc' := 27) rfl ?_
        refine j_cald (v := S 48 0 i) cx hX.2.2.2.2.2.2.1 rfl (vp_in_nI (by omega) (by omega)) (by rw [(nI_clamp (by omega))]) rfl dX3_nextIn_27 (pc' := 28) rfl ?_
        refine j_bipush (v := 117) cx dX3_nextIn_28 (by decide) (pc' := 30) rfl ?_
        refine j_icmp_ne (tgt := 51) cx dX3_nextIn_30 (by decide) (pc' := 33) rfl (fun h3 => ?_) (fun h3 => ?_)
        · refine j_iconst (v := 0) cx dX3_nextIn_51 (by decide) (pc' := 52) rfl ?_
          refine j_istore (lv' := [(4, .int 0), (0, .ref (al 40 0)), (1, .int x), (2, .int b), (3, .int (nI i))]) cx dX3_nextIn_52 (by decide) rfl (pc' := 54) rfl ?_
          refine j_iload (j := 0) cx dX3_nextIn_54 rfl (pc' := 56) rfl ?_
          refine j_if_eq (tgt := 81) cx dX3_nextIn_56 (by decide) (pc' := 59) rfl (fun _ => ?_) (fun h => absurd h (by decide))
          refine j_iload_n (j := 3) cx dX3_nextIn_81 rfl rfl (pc' := 82) rfl ?_
          refine j_istore_n (lv' := [(2, .int b), (4, .int 0), (0, .ref (al 40 0)), (1, .int x), (3, .int (nI i))]) cx dX3_nextIn_82 rfl (by decide) rfl (pc' := 83) rfl ?_
          refine j_iinc (j := 4) (v := nI (i + 1)) (lv' := [(3, .int (nI (i + 1))), (2, .int b), (4, .int 0), (0, .ref (al 40 0)), (1, .int x)]) cx dX3_nextIn_83 rfl (nI_1 i) (by decide) rfl (pc' := 86) rfl ?_
          refine j_goto (tgt := 4) cx dX3_nextIn_86 (by decide) ?_
          exact J.sub [3, 4, 1, 0] rfl (ih (i + 1) _ (by omega) (by rw [← hq]; simp [mNx, hE, hM, hP, hH, hS, h2, h3]))
        · refine j_aload_n (j := 0) cx dX3_nextIn_33 rfl rfl (pc' := 34) rfl ?_
          refine j_iload_n (j := 3) cx dX3_nextIn_34 rfl rfl (pc' := 35) rfl ?_
          refine j_cVR (cells1 := 0) (slots1 := 0) (st1 := [.int (mOn (S 59 0) (S 55 0) (nI i) 0 0 ns)]) (As := [.int (nI i)]) (rest := []) cx (c_X3_liveOn (e := S 59 0) (mo := S 55 0) hX hI rfl rfl) gX3_nextIn_X3_liveOn rfl rfl rfl 1 rfl (by decide +kernel) ⟨Nat.le_of_ble_eq_true rfl, Nat.le_of_ble_eq_true rfl⟩ hX.1 rfl rfl rfl rfl (Nat.le_of_ble_eq_true rfl) dX3_nextIn_35 ⟨Nat.le_of_ble_eq_true rfl, Nat.le_of_ble_eq_true rfl⟩ (pc' := 38) rfl rfl rfl rfl ?_
          refine j_aload_n (j := 0) cx dX3_nextIn_38 rfl rfl (pc' := 39) rfl ?_
          refine j_get (fk := 7) (ref := "TerminalYardModel") (v := .ref (al 47 0)) cx hX.1 rfl (by decide +kernel) (by decide) (by decide +kernel) (fun _ h => h) (yV_r (k := (47, 0)) rfl) rfl dX3_nextIn_39 (pc' := 42) rfl ?_
          refine j_iload_n (j := 3) cx dX3_nextIn_42 rfl rfl (pc' := 43) rfl ?_
          refine j_iald (v := S 47 0 i) cx hX.2.2.2.2.2.1 rfl (vp_in_nI (by omega) (by omega)) (by rw [(nI_clamp (by omega))]) rfl dX3_nextIn_43 (pc' := 44) rfl ?_
          refine j_icmp_ge (tgt := 51) cx dX3_nextIn_44 (by decide) (pc' := 47) rfl (fun h5 => ?_) (fun h5 => ?_)
          · refine j_iconst (v := 0) cx dX3_nextIn_51 (by decide) (pc' := 52) rfl ?_
            refine j_istore (lv' := [(4, .int 0), (0, .ref (al 40 0)), (1, .int x), (2, .int b), (3, .int (nI i))]) cx dX3_nextIn_52 (by decide) rfl (pc' := 54) rfl ?_
            refine j_iload (j := 0) cx dX3_nextIn_54 rfl (pc' := 56) rfl ?_
            refine j_if_eq (tgt := 81) cx dX3_nextIn_56 (by decide) (pc' := 59) rfl (fun _ => ?_) (fun h => absurd h (by decide))
            refine j_iload_n (j := 3) cx dX3_nextIn_81 rfl rfl (pc' := 82) rfl ?_
            refine j_istore_n (lv' := [(2, .int b), (4, .int 0), (0, .ref (al 40 0)), (1, .int x), (3, .int (nI i))]) cx dX3_nextIn_82 rfl (by decide) rfl (pc' := 83) rfl ?_
            refine j_iinc (j := 4) (v := nI (i + 1)) (lv' := [(3, .int (nI (i + 1))), (2, .int b), (4, .int 0), (0, .ref (al 40 0)), (1, .int x)]) cx dX3_nextIn_83 rfl (nI_1 i) (by decide) rfl (pc' := 86) rfl ?_
            refine j_goto (tgt := 4) cx dX3_nextIn_86 (by decide) ?_
            exact J.sub [3, 4, 1, 0] rfl (ih (i + 1) _ (by omega) (by rw [← hq]; simp [mNx, hE, hM, hP, hH, hS, h2, h3, h5, Int32.not_lt.mpr h5]))
          · refine j_iconst (v := 1) cx dX3_nextIn_47 (by decide) (pc' := 48) rfl ?_
            refine j_goto (tgt := 52) cx dX3_nextIn_48 (by decide) ?_
            refine j_istore (lv' := [(4, .int 1), (0, .ref (al 40 0)), (1, .int x), (2, .int b), (3, .int (nI i))]) cx dX3_nextIn_52 (by decide) rfl (pc' := 54) rfl ?_
            refine j_iload (j := 0) cx dX3_nextIn_54 rfl (pc' := 56) rfl ?_
            refine j_if_eq (tgt := 81) cx dX3_nextIn_56 (by decide) (pc' := 59) rfl (fun h => absurd h (by decide)) (fun _ => ?_)
            refine j_iload_n (j := 3) cx dX3_nextIn_59 rfl rfl (pc' := 60) rfl ?_
            refine j_iconst (v := (-1)) cx dX3_nextIn_60 (by decide) (pc' := 61) rfl ?_
            refine j_icmp_eq (tgt := 77) cx dX3_nextIn_61 (by decide) (pc' := 64) rfl (fun h6 => ?_) (fun h6 => ?_)
            · refine j_iload_n (j := 4) cx dX3_nextIn_77 rfl rfl (pc' := 78) rfl ?_
              refine j_goto (tgt := 82) cx dX3_nextIn_78 (by decide) ?_
              refine j_istore_n (lv' := [(2, .int (nI i)), (4, .int 1), (0, .ref (al 40 0)), (1, .int x), (3, .int (nI i))]) cx dX3_nextIn_82 rfl (by decide) rfl (pc' := 83) rfl ?_
              refine j_iinc (j := 4) (v := nI (i + 1)) (lv' := [(3, .int (nI (i + 1))), (2, .int (nI i)), (4, .int 1), (0, .ref (al 40 0)), (1, .int x)]) cx dX3_nextIn_83 rfl (nI_1 i) (by decide) rfl (pc' := 86) rfl ?_
              refine j_goto (tgt := 4) cx dX3_nextIn_86 (by decide) ?_
              exact J.sub [3, 4, 1, 0] rfl (ih (i + 1) _ (by omega) (by rw [← hq]; simp [mNx, hE, hM, hP, hH, hS, h2, h3, h5, Int32.not_le.mp h5, h6]))
            · refine j_aload_n (j := 1) cx dX3_nextIn_64 rfl rfl (pc' := 65) rfl ?_
              refine j_iload_n (j := 4) cx dX3_nextIn_65 rfl rfl (pc' := 66) rfl ?_
              refine j_cVR (cells1 := 0) (slots1 := 0) (st1 := [.int (mOn (S 59 0) (S 55 0) (nI i) 0 0 ns)]) (As := [.int (nI i)]) (rest := []) cx (c_X3_liveOn (e := S 59 0) (mo := S 55 0) hX hI rfl rfl) gX3_nextIn_X3_liveOn rfl rfl rfl 1 rfl (by decide +kernel) ⟨Nat.le_of_ble_eq_true rfl, Nat.le_of_ble_eq_true rfl⟩ hX.1 rfl rfl rfl rfl (Nat.le_of_ble_eq_true rfl) dX3_nextIn_66 ⟨Nat.le_of_ble_eq_true rfl, Nat.le_of_ble_eq_true rfl⟩ (pc' := 69) rfl rfl rfl rfl ?_
              refine j_aload_n (j := 1) cx dX3_nextIn_69 rfl rfl (pc' := 70) rfl ?_
              refine j_iload_n (j := 3) cx dX3_nextIn_70 rfl rfl (pc' := 71) rfl ?_
              refine j_cVR (cells1 := 0) (slots1 := 0) (st1 := [.int (mOn (S 59 0) (S 55 0) b 0 0 ns), .int (mOn (S 59 0) (S 55 0) (nI i) 0 0 ns)]) (As := [.int b]) (rest := [.int (mOn (S 59 0) (S 55 0) (nI i) 0 0 ns)]) cx (c_X3_liveOn (e := S 59 0) (mo := S 55 0) hX hI rfl rfl) gX3_nextIn_X3_liveOn rfl rfl rfl 1 rfl (by decide +kernel) ⟨Nat.le_of_ble_eq_true rfl, Nat.le_of_ble_eq_true rfl⟩ hX.1 rfl rfl rfl rfl (Nat.le_of_ble_eq_true rfl) dX3_nextIn_71 ⟨Nat.le_of_ble_eq_true rfl, Nat.le_of_ble_eq_true rfl⟩ (pc' := 74) rfl rfl rfl rfl ?_
              refine j_icmp_ge (tgt := 81) cx dX3_nextIn_74 (by decide) (pc' := 77) rfl (fun h9 => ?_) (fun h9 => ?_)
              · refine j_iload_n (j := 3) cx dX3_nextIn_81 rfl rfl (pc' := 82) rfl ?_
                refine j_istore_n (lv' := [(2, .int b), (4, .int 1), (0, .ref (al 40 0)), (1, .int x), (3, .int (nI i))]) cx dX3_nextIn_82 rfl (by decide) rfl (pc' := 83) rfl ?_
                refine j_iinc (j := 4) (v := nI (i + 1)) (lv' := [(3, .int (nI (i + 1))), (2, .int b), (4, .int 1), (0, .ref (al 40 0)), (1, .int x)]) cx dX3_nextIn_83 rfl (nI_1 i) (by decide) rfl (pc' := 86) rfl ?_
                refine j_goto (tgt := 4) cx dX3_nextIn_86 (by decide) ?_
                exact J.sub [3, 4, 1, 0] rfl (ih (i + 1) _ (by omega) (by rw [← hq]; simp [mNx, hE, hM, hP, hH, hS, h2, h3, h5, Int32.not_le.mp h5, h6, h9, Int32.not_lt.mpr h9]))
              · refine j_iload_n (j := 4) cx dX3_nextIn_77 rfl rfl (pc' := 78) rfl ?_
                refine j_goto (tgt := 82) cx dX3_nextIn_78 (by decide) ?_
                refine j_istore_n (lv' := [(2, .int (nI i)), (4, .int 1), (0, .ref (al 40 0)), (1, .int x), (3, .int (nI i))]) cx dX3_nextIn_82 rfl (by decide) rfl (pc' := 83) rfl ?_
                refine j_iinc (j := 4) (v := nI (i + 1)) (lv' := [(3, .int (nI (i + 1))), (2, .int (nI i)), (4, .int 1), (0, .ref (al 40 0)), (1, .int x)]) cx dX3_nextIn_83 rfl (nI_1 i) (by decide) rfl (pc' := 86) rfl ?_
                refine j_goto (tgt := 4) cx dX3_nextIn_86 (by decide) ?_
                exact J.sub [3, 4, 1, 0] rfl (ih (i + 1) _ (by omega) (by rw [← hq]; simp [mNx, hE, hM, hP, hH, hS, h2, h3, h5, Int32.not_le.mp h5, h6, h9, Int32.not_le.mp h9]))
  refine j_iconst (v := (-1)) cx dX3_nextIn_0 (by decide) (pc' := 1) rfl ?_
  refine j_istore_n (lv' := [(2, .int (-1)), (0, .ref (al 40 0)), (1, .int x)]) cx dX3_nextIn_1 rfl (by decide) rfl (pc' := 2) rfl ?_
  refine j_iconst (v := 0) cx dX3_nextIn_2 (by decide) (pc' := 3) rfl ?_
  refine j_istore_n (lv' := [(3, .int 0), (2, .int (-1)), (0, .ref (al 40 0)), (1, .int x)]) cx dX3_nextIn_3 rfl (by decide) rfl (pc' := 4) rfl ?_
  exact J.sub [2, 3, 1, 0] rfl (loop nm 0 _ (by omega) rfl)
set_option maxHeartbeats 4000000 in
set_option maxRecDepth 100000 in
theorem c_X3_next {l : Launch} {Z : yL} {al : yAl} {sh : ySh} {S : yS} {nm ns : Nat} {x : Int32} (hX : YM Z sh) (hI : XI S nm ns) : Ct l yX3_next wsX3_next ({ frames := 3, cells := 0, slots := 0, locals := 68 }) 0 0 Z [.ref (al 40 0), .int x] al sh S (yM (xNext x (mNx (S 59 0) (S 55 0) (S 45 0) (S 48 0) (S 47 0) x ns 0 (-1) nm)) al sh (mNx (S 59 0) (S 55 0) (S 45 0) (S 48 0) (S 47 0) x ns 0 (-1) nm) (sup S 40 0 0 0) S) := by
  obtain ⟨hm, hs, hnm, hns, hus, hde, hmo, hpo, hro, hho, hen⟩ := id hI
  refine Ct.of (lv := [(0, .ref (al 40 0)), (1, .int x)]) (by decide) rfl (Nat.le_of_ble_eq_true rfl) rfl ?_
  intro p_ e_ s_ m_ below_ meth_ c_ cx hlk hr hnm9
  refine j_iload_n (j := 1) cx dX3_next_0 rfl rfl (pc' := 1) rfl ?_
  refine j_cSR (cells1 := 0) (slots1 := 0) (st1 := [.int (bI (¬ oR 0 2 x))]) (As := [.int x]) (rest := []) cx (c_X3_isPool) gX3_next_X3_isPool rfl rfl rfl 1 rfl (by decide +kernel) ⟨Nat.le_of_ble_eq_true rfl, Nat.le_of_ble_eq_true rfl⟩ rfl (Nat.le_of_ble_eq_true rfl) dX3_next_1 ⟨Nat.le_of_ble_eq_true rfl, Nat.le_of_ble_eq_true rfl⟩ (pc' := 4) rfl rfl rfl rfl ?_
  refine j_ifb_eq (tgt := 15) cx dX3_next_4 (by decide) (pc' := 7) rfl (fun h2 => ?_) (fun h2 => ?_)
  · refine j_iconst (v := (-1)) cx dX3_next_15 (by decide) (pc' := 16) rfl ?_
    refine j_istore_n (lv' := [(2, .int (-1)), (0, .ref (al 40 0)), (1, .int x)]) cx dX3_next_16 rfl (by decide) rfl (pc' := 17) rfl ?_
    refine j_aload_n (j := 1) cx dX3_next_17 rfl rfl (pc' := 18) rfl ?_
    refine j_iload_n (j := 2) cx dX3_next_18 rfl rfl (pc' := 19) rfl ?_
    refine j_cSR (cells1 := 0) (slots1 := 0) (st1 := [.int (bI (¬ oR 0 2 x)), .ref (al 40 0)]) (As := [.int x]) (rest := [.ref (al 40 0)]) cx (c_X3_isPool) gX3_next_X3_isPool rfl rfl rfl 1 rfl (by decide +kernel) ⟨Nat.le_of_ble_eq_true rfl, Nat.le_of_ble_eq_true rfl⟩ rfl (Nat.le_of_ble_eq_true rfl) dX3_next_19 ⟨Nat.le_of_ble_eq_true rfl, Nat.le_of_ble_eq_true rfl⟩ (pc' := 22) rfl rfl rfl rfl ?_
    refine j_ifb_ne (tgt := 29) cx dX3_next_22 (by decide) (pc' := 25) rfl (fun h4 => ?_) (fun h4 => ?_)
    · refine j_iload_n (j := 0) cx dX3_next_29 rfl rfl (pc' := 30) rfl ?_
      refine j_iconst (v := (-1)) cx dX3_next_30 (by decide) (pc' := 31) rfl ?_
      refine j_icmp_ne (tgt := 38) cx dX3_next_31 (by decide) (pc' := 34) rfl (fun h => absurd h (by decide)) (fun _ => ?_)
      refine j_iconst (v := 2) cx dX3_next_34 (by decide) (pc' := 35) rfl ?_
      refine j_goto (tgt := 39) cx dX3_next_35 (by decide) ?_
      refine j_cVR (cells1 := 0) (slots1 := 0) (st1 := [.int (bI (2 = 0))]) (As := [.int 2]) (rest := []) cx (c_X3_goesOn hX) gX3_next_X3_goesOn rfl rfl rfl 1 rfl (by decide +kernel) ⟨Nat.le_of_ble_eq_true rfl, Nat.le_of_ble_eq_true rfl⟩ hX.1 rfl rfl rfl rfl (Nat.le_of_ble_eq_true rfl) dX3_next_39 ⟨Nat.le_of_ble_eq_true rfl, Nat.le_of_ble_eq_true rfl⟩ (pc' := 42) rfl rfl rfl rfl ?_
      refine j_ifb_eq (tgt := 49) cx dX3_next_42 (by decide) (pc' := 45) rfl (fun _ => ?_) (fun h => by first | exact absurd h (by decide) | exact absurd (by decide) h)
      refine j_iconst (v := 0) cx dX3_next_49 (by decide) (pc' := 50) rfl ?_
      exact j_iret (ty := .int) cx hlk hr rfl (Nat.le_of_ble_eq_true rfl) (Nat.le_of_ble_eq_true rfl) dX3_next_50 (yM_n (by first | (simp [xNext, h2, h4]; done) | (exfalso; contradiction)) (by decide))
    · refine j_iconst (v := 1) cx dX3_next_25 (by decide) (pc' := 26) rfl ?_
      refine j_goto (tgt := 39) cx dX3_next_26 (by decide) ?_
      refine j_cVR (cells1 := 0) (slots1 := 0) (st1 := [.int (bI (1 = 0))]) (As := [.int 1]) (rest := []) cx (c_X3_goesOn hX) gX3_next_X3_goesOn rfl rfl rfl 1 rfl (by decide +kernel) ⟨Nat.le_of_ble_eq_true rfl, Nat.le_of_ble_eq_true rfl⟩ hX.1 rfl rfl rfl rfl (Nat.le_of_ble_eq_true rfl) dX3_next_39 ⟨Nat.le_of_ble_eq_true rfl, Nat.le_of_ble_eq_true rfl⟩ (pc' := 42) rfl rfl rfl rfl ?_
      refine j_ifb_eq (tgt := 49) cx dX3_next_42 (by decide) (pc' := 45) rfl (fun _ => ?_) (fun h => by first | exact absurd h (by decide) | exact absurd (by decide) h)
      refine j_iconst (v := 0) cx dX3_next_49 (by decide) (pc' := 50) rfl ?_
      exact j_iret (ty := .int) cx hlk hr rfl (Nat.le_of_ble_eq_true rfl) (Nat.le_of_ble_eq_true rfl) dX3_next_50 (yM_n (by first | (simp [xNext, h2, h4]; done) | (exfalso; contradiction)) (by decide))
  · refine j_aload_n (j := 0) cx dX3_next_7 rfl rfl (pc' := 8) rfl ?_
    refine j_iload_n (j := 1) cx dX3_next_8 rfl rfl (pc' := 9) rfl ?_
    refine j_cVR (cells1 := 0) (slots1 := 0) (st1 := [.int (mNx (S 59 0) (S 55 0) (S 45 0) (S 48 0) (S 47 0) x ns 0 (-1) nm)]) (As := [.int x]) (rest := []) cx (c_X3_nextIn (e := S 59 0) (mo := S 55 0) (po := S 45 0) (ho := S 48 0) (se := S 47 0) hX hI rfl rfl rfl rfl rfl) gX3_next_X3_nextIn rfl rfl rfl 1 rfl (by decide +kernel) ⟨Nat.le_of_ble_eq_true rfl, Nat.le_of_ble_eq_true rfl⟩ hX.1 rfl rfl rfl rfl (Nat.le_of_ble_eq_true rfl) dX3_next_9 ⟨Nat.le_of_ble_eq_true rfl, Nat.le_of_ble_eq_true rfl⟩ (pc' := 12) rfl rfl rfl rfl ?_
    refine j_goto (tgt := 16) cx dX3_next_12 (by decide) ?_
    refine j_istore_n (lv' := [(2, .int (mNx (S 59 0) (S 55 0) (S 45 0) (S 48 0) (S 47 0) x ns 0 (-1) nm)), (0, .ref (al 40 0)), (1, .int x)]) cx dX3_next_16 rfl (by decide) rfl (pc' := 17) rfl ?_
    refine j_aload_n (j := 1) cx dX3_next_17 rfl rfl (pc' := 18) rfl ?_
    refine j_iload_n (j := 2) cx dX3_next_18 rfl rfl (pc' := 19) rfl ?_
    refine j_cSR (cells1 := 0) (slots1 := 0) (st1 := [.int (bI (¬ oR 0 2 x)), .ref (al 40 0)]) (As := [.int x]) (rest := [.ref (al 40 0)]) cx (c_X3_isPool) gX3_next_X3_isPool rfl rfl rfl 1 rfl (by decide +kernel) ⟨Nat.le_of_ble_eq_true rfl, Nat.le_of_ble_eq_true rfl⟩ rfl (Nat.le_of_ble_eq_true rfl) dX3_next_19 ⟨Nat.le_of_ble_eq_true rfl, Nat.le_of_ble_eq_true rfl⟩ (pc' := 22) rfl rfl rfl rfl ?_
    refine j_ifb_ne (tgt := 29) cx dX3_next_22 (by decide) (pc' := 25) rfl (fun h11 => ?_) (fun h11 => ?_)
    · refine j_iload_n (j := 0) cx dX3_next_29 rfl rfl (pc' := 30) rfl ?_
      refine j_iconst (v := (-1)) cx dX3_next_30 (by decide) (pc' := 31) rfl ?_
      refine j_icmp_ne (tgt := 38) cx dX3_next_31 (by decide) (pc' := 34) rfl (fun h12 => ?_) (fun h12 => ?_)
      · refine j_iconst (v := 0) cx dX3_next_38 (by decide) (pc' := 39) rfl ?_
        refine j_cVR (cells1 := 0) (slots1 := 0) (st1 := [.int (bI (0 = 0))]) (As := [.int 0]) (rest := []) cx (c_X3_goesOn hX) gX3_next_X3_goesOn rfl rfl rfl 1 rfl (by decide +kernel) ⟨Nat.le_of_ble_eq_true rfl, Nat.le_of_ble_eq_true rfl⟩ hX.1 rfl rfl rfl rfl (Nat.le_of_ble_eq_true rfl) dX3_next_39 ⟨Nat.le_of_ble_eq_true rfl, Nat.le_of_ble_eq_true rfl⟩ (pc' := 42) rfl rfl rfl rfl ?_
        refine j_ifb_eq (tgt := 49) cx dX3_next_42 (by decide) (pc' := 45) rfl (fun h => by first | exact absurd h (by decide) | exact absurd (by decide) h) (fun _ => ?_)
        refine j_iload_n (j := 0) cx dX3_next_45 rfl rfl (pc' := 46) rfl ?_
        refine j_goto (tgt := 50) cx dX3_next_46 (by decide) ?_
        exact j_iret (ty := .int) cx hlk hr rfl (Nat.le_of_ble_eq_true rfl) (Nat.le_of_ble_eq_true rfl) dX3_next_50 (yM_0 (by simp [xNext, h2, h11, h12]) (rfl) (rfl))
      · refine j_iconst (v := 2) cx dX3_next_34 (by decide) (pc' := 35) rfl ?_
        refine j_goto (tgt := 39) cx dX3_next_35 (by decide) ?_
        refine j_cVR (cells1 := 0) (slots1 := 0) (st1 := [.int (bI (2 = 0))]) (As := [.int 2]) (rest := []) cx (c_X3_goesOn hX) gX3_next_X3_goesOn rfl rfl rfl 1 rfl (by decide +kernel) ⟨Nat.le_of_ble_eq_true rfl, Nat.le_of_ble_eq_true rfl⟩ hX.1 rfl rfl rfl rfl (Nat.le_of_ble_eq_true rfl) dX3_next_39 ⟨Nat.le_of_ble_eq_true rfl, Nat.le_of_ble_eq_true rfl⟩ (pc' := 42) rfl rfl rfl rfl ?_
        refine j_ifb_eq (tgt := 49) cx dX3_next_42 (by decide) (pc' := 45) rfl (fun _ => ?_) (fun h => by first | exact absurd h (by decide) | exact absurd (by decide) h)
        refine j_iconst (v := 0) cx dX3_next_49 (by decide) (pc' := 50) rfl ?_
        exact j_iret (ty := .int) cx hlk hr rfl (Nat.le_of_ble_eq_true rfl) (Nat.le_of_ble_eq_true rfl) dX3_next_50 (yM_n (by first | (simp [xNext, h2, h11, h12]; done) | (exfalso; contradiction)) (by decide))
    · refine j_iconst (v := 1) cx dX3_next_25 (by decide) (pc' := 26) rfl ?_
      refine j_goto (tgt := 39) cx dX3_next_26 (by decide) ?_
      refine j_cVR (cells1 := 0) (slots1 := 0) (st1 := [.int (bI (1 = 0))]) (As := [.int 1]) (rest := []) cx (c_X3_goesOn hX) gX3_next_X3_goesOn rfl rfl rfl 1 rfl (by decide +kernel) ⟨Nat.le_of_ble_eq_true rfl, Nat.le_of_ble_eq_true rfl⟩ hX.1 rfl rfl rfl rfl (Nat.le_of_ble_eq_true rfl) dX3_next_39 ⟨Nat.le_of_ble_eq_true rfl, Nat.le_of_ble_eq_true rfl⟩ (pc' := 42) rfl rfl rfl rfl ?_
      refine j_ifb_eq (tgt := 49) cx dX3_next_42 (by decide) (pc' := 45) rfl (fun _ => ?_) (fun h => by first | exact absurd h (by decide) | exact absurd (by decide) h)
      refine j_iconst (v := 0) cx dX3_next_49 (by decide) (pc' := 50) rfl ?_
      exact j_iret (ty := .int) cx hlk hr rfl (Nat.le_of_ble_eq_true rfl) (Nat.le_of_ble_eq_true rfl) dX3_next_50 (yM_n (by first | (simp [xNext, h2, h11]; done) | (exfalso; contradiction)) (by decide))
set_option maxHeartbeats 4000000 in
set_option maxRecDepth 100000 in
theorem c_X3_free {l : Launch} {Z : yL} {al : yAl} {sh : ySh} {S : yS} {nm ns : Nat} {x : Int32} (hX : YM Z sh) (hI : XI S nm ns) : Ct l yX3_free wsX3_free ({ frames := 2, cells := 0, slots := 0, locals := 44 }) 0 0 Z [.ref (al 40 0), .int x] al sh S (yM (kPool x) al sh (mFree (S 59 0) (S 55 0) (S 45 0) (S 48 0) (S 47 0) x ns 0 0 nm) (sup S 40 0 0 0) S) := by
  obtain ⟨hm, hs, hnm, hns, hus, hde, hmo, hpo, hro, hho, hen⟩ := id hI
  refine Ct.of (lv := [(0, .ref (al 40 0)), (1, .int x)]) (by decide) rfl (Nat.le_of_ble_eq_true rfl) rfl ?_
  intro p_ e_ s_ m_ below_ meth_ c_ cx hlk hr hnm9
  have loop : ∀ (hp9 : kPool x = 0) (k i : Nat) (a : Int32), i + k = nm → mFree (S 59 0) (S 55 0) (S 45 0) (S 48 0) (S 47 0) x ns i a k = mFree (S 59 0) (S 55 0) (S 45 0) (S 48 0) (S 47 0) x ns 0 0 nm → J p_ l e_ ({ frames := 2, cells := 0, slots := 0, locals := 44 }) s_ m_ (([.ref (al 40 0), .int x] : List Value).toArray) below_ meth_ c_ 4 Z 0 0 (MQ below_ (Qn Z (yM (kPool x) al sh (mFree (S 59 0) (S 55 0) (S 45 0) (S 48 0) (S 47 0) x ns 0 0 nm) (sup S 40 0 0 0) S)) (([.ref (al 40 0), .int x] : List Value).toArray) s_ 0 0 (yF Z)) al sh (sup S 40 0 0 0) 25 [(0, .ref (al 40 0)), (1, .int x), (2, .int a), (3, .int (nI i))] [] := by
    intro hp9 k
    induction k with
    | zero =>
      intro i a hik hq
      have hik2 : i = nm := by omega
      subst hik2
      refine j_iload_n (j := 3) cx dX3_free_25 rfl rfl (pc' := 26) rfl ?_
      refine j_aload_n (j := 0) cx dX3_free_26 rfl rfl (pc' := 27) rfl ?_
      refine j_get (fk := 4) (ref := "TerminalYardModel") (v := .int (nI i)) cx hX.1 rfl (by decide +kernel) (by decide) (by decide +kernel) (fun _ h => h) ((yV_i rfl).trans (congrArg Value.int (by simp [sup, gO, mChg_o, lEmp_o, hm]))) rfl dX3_free_27 (pc' := 30) rfl ?_
      refine j_icmp_ge (tgt := 79) cx dX3_free_30 (by decide) (pc' := 33) rfl (fun _ => ?_) (fun h => by first | exact absurd h nI_gg | exact absurd nI_gg h)
      refine j_iload_n (j := 2) cx dX3_free_79 rfl rfl (pc' := 80) rfl ?_
      exact j_iret (ty := .int) cx hlk hr rfl (Nat.le_of_ble_eq_true rfl) (Nat.le_of_ble_eq_true rfl) dX3_free_80 (yM_0 hp9 hq rfl)
    | succ k ih =>
      intro i a hik hq
      have hi : i < nm := by omega
      refine j_iload_n (j := 3) cx dX3_free_25 rfl rfl (pc' := 26) rfl ?_
      refine j_aload_n (j := 0) cx dX3_free_26 rfl rfl (pc' := 27) rfl ?_
      refine j_get (fk := 4) (ref := "TerminalYardModel") (v := .int (nI nm)) cx hX.1 rfl (by decide +kernel) (by decide) (by decide +kernel) (fun _ h => h) ((yV_i rfl).trans (congrArg Value.int (by simp [sup, gO, mChg_o, lEmp_o, hm]))) rfl dX3_free_27 (pc' := 30) rfl ?_
      refine j_icmp_ge (tgt := 79) cx dX3_free_30 (by decide) (pc' := 33) rfl (fun h => by first | exact absurd h (nI_ge hi (by omega)) | exact absurd (nI_ge hi (by omega)) h) (fun _ => ?_)
      refine j_iload_n (j := 2) cx dX3_free_33 rfl rfl (pc' := 34) rfl ?_
      refine j_aload_n (j := 0) cx dX3_free_34 rfl rfl (pc' := 35) rfl ?_
      refine j_get (fk := 5) (ref := "TerminalYardModel") (v := .ref (al 45 0)) cx hX.1 rfl (by decide +kernel) (by decide) (by decide +kernel) (fun _ h => h) (yV_r (k := (45, 0)) rfl) rfl dX3_free_35 (pc' := 38) rfl ?_
      refine j_iload_n (j := 3) cx dX3_free_38 rfl rfl (pc' := 39) rfl ?_
      refine j_iald (v := S 45 0 i) cx hX.2.2.2.1 rfl (vp_in_nI (by omega) (by omega)) (by rw [(nI_clamp (by omega))]; simp [sup, mChg_o, lEmp_o]) rfl dX3_free_39 (pc' := 40) rfl ?_
      refine j_iload_n (j := 1) cx dX3_free_40 rfl rfl (pc' := 41) rfl ?_
      refine j_icmp_ne (tgt := 70) cx dX3_free_41 (by decide) (pc' := 44) rfl (fun h2 => ?_) (fun h2 => ?_)
      · refine j_iconst (v := 0) cx dX3_free_70 (by decide) (pc' := 71) rfl ?_
        refine j_iadd cx dX3_free_71 (pc' := 72) rfl ?_
        refine j_istore_n (lv' := [(2, .int (a + 0)), (0, .ref (al 40 0)), (1, .int x), (3, .int (nI i))]) cx dX3_free_72 rfl (by decide) rfl (pc' := 73) rfl ?_
        refine j_iinc (j := 3) (v := nI (i + 1)) (lv' := [(3, .int (nI (i + 1))), (2, .int (a + 0)), (0, .ref (al 40 0)), (1, .int x)]) cx dX3_free_73 rfl (nI_1 i) (by decide) rfl (pc' := 76) rfl ?_
        refine j_goto (tgt := 25) cx dX3_free_76 (by decide) ?_
        exact J.sub [2, 3, 1, 0] rfl (ih (i + 1) _ (by omega) (by rw [← hq]; simp [mFree, h2]))
      · refine j_aload_n (j := 0) cx dX3_free_44 rfl rfl (pc' := 45) rfl ?_
        refine j_get (fk := 8) (ref := "TerminalYardModel") (v := .ref (al 48 0)) cx hX.1 rfl (by decide +kernel) (by decide) (by decide +kernel) (fun _ h => h) (yV_r (k := (48, 0)) rfl) rfl dX3_free_45 (pc' := 48) rfl ?_
        refine j_iload_n (j := 3) cx dX3_free_48 rfl rfl (pc' := 49) rfl ?_
        refine j_cald (v := S 48 0 i) cx hX.2.2.2.2.2.2.1 rfl (vp_in_nI (by omega) (by omega)) (by rw [(nI_clamp (by omega))]; simp [sup, mChg_o, lEmp_o]) rfl dX3_free_49 (pc' := 50) rfl ?_
        refine j_bipush (v := 117) cx dX3_free_50 (by decide) (pc' := 52) rfl ?_
        refine j_icmp_ne (tgt := 70) cx dX3_free_52 (by decide) (pc' := 55) rfl (fun h3 => ?_) (fun h3 => ?_)
        · refine j_iconst (v := 0) cx dX3_free_70 (by decide) (pc' := 71) rfl ?_
          refine j_iadd cx dX3_free_71 (pc' := 72) rfl ?_
          refine j_istore_n (lv' := [(2, .int (a + 0)), (0, .ref (al 40 0)), (1, .int x), (3, .int (nI i))]) cx dX3_free_72 rfl (by decide) rfl (pc' := 73) rfl ?_
          refine j_iinc (j := 3) (v := nI (i + 1)) (lv' := [(3, .int (nI (i + 1))), (2, .int (a + 0)), (0, .ref (al 40 0)), (1, .int x)]) cx dX3_free_73 rfl (nI_1 i) (by decide) rfl (pc' := 76) rfl ?_
          refine j_goto (tgt := 25) cx dX3_free_76 (by decide) ?_
          exact J.sub [2, 3, 1, 0] rfl (ih (i + 1) _ (by omega) (by rw [← hq]; simp [mFree, h2, h3]))
        · refine j_aload_n (j := 0) cx dX3_free_55 rfl rfl (pc' := 56) rfl ?_
          refine j_get (fk := 7) (ref := "TerminalYardModel") (v := .ref (al 47 0)) cx hX.1 rfl (by decide +kernel) (by decide) (by decide +kernel) (fun _ h => h) (yV_r (k := (47, 0)) rfl) rfl dX3_free_56 (pc' := 59) rfl ?_
          refine j_iload_n (j := 3) cx dX3_free_59 rfl rfl (pc' := 60) rfl ?_
          refine j_iald (v := S 47 0 i) cx hX.2.2.2.2.2.1 rfl (vp_in_nI (by omega) (by omega)) (by rw [(nI_clamp (by omega))]; simp [sup, mChg_o, lEmp_o]) rfl dX3_free_60 (pc' := 61) rfl ?_
          refine j_aload_n (j := 0) cx dX3_free_61 rfl rfl (pc' := 62) rfl ?_
          refine j_iload_n (j := 3) cx dX3_free_62 rfl rfl (pc' := 63) rfl ?_
          refine j_cVR (cells1 := 0) (slots1 := 0) (st1 := [.int (mOn (S 59 0) (S 55 0) (nI i) 0 0 ns), .int (S 47 0 i), .int a]) (As := [.int (nI i)]) (rest := [.int (S 47 0 i), .int a]) cx (c_X3_liveOn (e := S 59 0) (mo := S 55 0) hX (XI.s hI (by simp)) (by funext j9; simp [sup, lEmp_o, mChg_o]) (by funext j9; simp [sup, lEmp_o, mChg_o])) gX3_free_X3_liveOn rfl rfl rfl 1 rfl (by decide +kernel) ⟨Nat.le_of_ble_eq_true rfl, Nat.le_of_ble_eq_true rfl⟩ hX.1 rfl rfl rfl rfl (Nat.le_of_ble_eq_true rfl) dX3_free_63 ⟨Nat.le_of_ble_eq_true rfl, Nat.le_of_ble_eq_true rfl⟩ (pc' := 66) rfl rfl rfl rfl ?_
          refine j_isub cx dX3_free_66 (pc' := 67) rfl ?_
          refine j_goto (tgt := 71) cx dX3_free_67 (by decide) ?_
          refine j_iadd cx dX3_free_71 (pc' := 72) rfl ?_
          refine j_istore_n (lv' := [(2, .int (a + ((S 47 0 i) - (mOn (S 59 0) (S 55 0) (nI i) 0 0 ns)))), (0, .ref (al 40 0)), (1, .int x), (3, .int (nI i))]) cx dX3_free_72 rfl (by decide) rfl (pc' := 73) rfl ?_
          refine j_iinc (j := 3) (v := nI (i + 1)) (lv' := [(3, .int (nI (i + 1))), (2, .int (a + ((S 47 0 i) - (mOn (S 59 0) (S 55 0) (nI i) 0 0 ns)))), (0, .ref (al 40 0)), (1, .int x)]) cx dX3_free_73 rfl (nI_1 i) (by decide) rfl (pc' := 76) rfl ?_
          refine j_goto (tgt := 25) cx dX3_free_76 (by decide) ?_
          exact J.sub [2, 3, 1, 0] rfl (ih (i + 1) _ (by omega) (by rw [← hq]; simp [mFree, h2, h3]))
  refine j_aload_n (j := 0) cx dX3_free_0 rfl rfl (pc' := 1) rfl ?_
  refine j_iload_n (j := 1) cx dX3_free_1 rfl rfl (pc' := 2) rfl ?_
  refine j_cSR (cells1 := 0) (slots1 := 0) (st1 := [.int (bI (¬ oR 0 2 x)), .ref (al 40 0)]) (As := [.int x]) (rest := [.ref (al 40 0)]) cx (c_X3_isPool) gX3_free_X3_isPool rfl rfl rfl 1 rfl (by decide +kernel) ⟨Nat.le_of_ble_eq_true rfl, Nat.le_of_ble_eq_true rfl⟩ rfl (Nat.le_of_ble_eq_true rfl) dX3_free_2 ⟨Nat.le_of_ble_eq_true rfl, Nat.le_of_ble_eq_true rfl⟩ (pc' := 5) rfl rfl rfl rfl ?_
  refine j_ifb_eq (tgt := 12) cx dX3_free_5 (by decide) (pc' := 8) rfl (fun h2 => ?_) (fun h2 => ?_)
  · refine j_iconst (v := 1) cx dX3_free_12 (by decide) (pc' := 13) rfl ?_
    refine j_cVR (cells1 := 0) (slots1 := 0) (st1 := [.int (bI (1 = 0))]) (As := [.int 1]) (rest := []) cx (c_X3_goesOn hX) gX3_free_X3_goesOn rfl rfl rfl 1 rfl (by decide +kernel) ⟨Nat.le_of_ble_eq_true rfl, Nat.le_of_ble_eq_true rfl⟩ hX.1 rfl rfl rfl rfl (Nat.le_of_ble_eq_true rfl) dX3_free_13 ⟨Nat.le_of_ble_eq_true rfl, Nat.le_of_ble_eq_true rfl⟩ (pc' := 16) rfl rfl rfl rfl ?_
    refine j_ifb_ne (tgt := 21) cx dX3_free_16 (by decide) (pc' := 19) rfl (fun h => by first | exact absurd h (by decide) | exact absurd (by decide) h) (fun _ => ?_)
    refine j_iconst (v := 0) cx dX3_free_19 (by decide) (pc' := 20) rfl ?_
    exact j_iret (ty := .int) cx hlk hr rfl (Nat.le_of_ble_eq_true rfl) (Nat.le_of_ble_eq_true rfl) dX3_free_20 (yM_n (by first | (simp [kPool, h2]; done) | (exfalso; contradiction)) (by decide))
  · refine j_iconst (v := 0) cx dX3_free_8 (by decide) (pc' := 9) rfl ?_
    refine j_goto (tgt := 13) cx dX3_free_9 (by decide) ?_
    refine j_cVR (cells1 := 0) (slots1 := 0) (st1 := [.int (bI (0 = 0))]) (As := [.int 0]) (rest := []) cx (c_X3_goesOn hX) gX3_free_X3_goesOn rfl rfl rfl 1 rfl (by decide +kernel) ⟨Nat.le_of_ble_eq_true rfl, Nat.le_of_ble_eq_true rfl⟩ hX.1 rfl rfl rfl rfl (Nat.le_of_ble_eq_true rfl) dX3_free_13 ⟨Nat.le_of_ble_eq_true rfl, Nat.le_of_ble_eq_true rfl⟩ (pc' := 16) rfl rfl rfl rfl ?_
    refine j_ifb_ne (tgt := 21) cx dX3_free_16 (by decide) (pc' := 19) rfl (fun _ => ?_) (fun h => by first | exact absurd h (by decide) | exact absurd (by decide) h)
    refine j_iconst (v := 0) cx dX3_free_21 (by decide) (pc' := 22) rfl ?_
    refine j_istore_n (lv' := [(2, .int 0), (0, .ref (al 40 0)), (1, .int x)]) cx dX3_free_22 rfl (by decide) rfl (pc' := 23) rfl ?_
    refine j_iconst (v := 0) cx dX3_free_23 (by decide) (pc' := 24) rfl ?_
    refine j_istore_n (lv' := [(3, .int 0), (2, .int 0), (0, .ref (al 40 0)), (1, .int x)]) cx dX3_free_24 rfl (by decide) rfl (pc' := 25) rfl ?_
    exact J.sub [2, 3, 1, 0] rfl (loop (by simp [kPool, h2]) nm 0 0 (by omega) rfl)
theorem bool9 {a : Int32} (h : a = 0 ∨ a = 1) : narrow .boolean (.int a) = .int a := by
  rcases h with rfl | rfl <;> rfl
set_option maxHeartbeats 4000000 in
set_option maxRecDepth 100000 in
theorem c_X3_owns {l : Launch} {Z : yL} {al : yAl} {sh : ySh} {S : yS} {nm ns : Nat} {u : Int32} {e ow : Nat → Int32} (hX : YM Z sh) (hI : XI S nm ns) (hE : e = S 59 0) (hW : ow = S 53 0) : Ct l yX3_owns wsX3_owns ({ frames := 1, cells := 0, slots := 0, locals := 21 }) 0 0 Z [.ref (al 40 0), .int u] al sh S (yR al sh (some (.int (mOwns e ow u 0 0 ns))) S) := by
  obtain ⟨hm, hs, hnm, hns, hus, hde, hmo, hpo, hro, hho, hen⟩ := id hI
  refine Ct.of (lv := [(0, .ref (al 40 0)), (1, .int u)]) (by decide) rfl (Nat.le_of_ble_eq_true rfl) rfl ?_
  intro p_ e_ s_ m_ below_ meth_ c_ cx hlk hr hnm9
  have loop : ∀ (k i : Nat) (a : Int32), i + k = ns → (a = 0 ∨ a = 1) → mOwns e ow u i a k = mOwns e ow u 0 0 ns → J p_ l e_ ({ frames := 1, cells := 0, slots := 0, locals := 21 }) s_ m_ (([.ref (al 40 0), .int u] : List Value).toArray) below_ meth_ c_ 4 Z 0 0 (MQ below_ (Qn Z (yR al sh (some (.int (mOwns e ow u 0 0 ns))) S)) (([.ref (al 40 0), .int u] : List Value).toArray) s_ 0 0 (yF Z)) al sh S 4 [(0, .ref (al 40 0)), (1, .int u), (2, .int a), (3, .int (nI i))] [] := by
    intro k
    induction k with
    | zero =>
      intro i a hik ha hq
      have hik2 : i = ns := by omega
      subst hik2
      refine j_iload_n (j := 3) cx dX3_owns_4 rfl rfl (pc' := 5) rfl ?_
      refine j_aload_n (j := 0) cx dX3_owns_5 rfl rfl (pc' := 6) rfl ?_
      refine j_get (fk := 12) (ref := "TerminalYardModel") (v := .int (nI i)) cx hX.1 rfl (by decide +kernel) (by decide) (by decide +kernel) (fun _ h => h) ((yV_i rfl).trans (congrArg Value.int hs)) rfl dX3_owns_6 (pc' := 9) rfl ?_
      refine j_icmp_ge (tgt := 46) cx dX3_owns_9 (by decide) (pc' := 12) rfl (fun _ => ?_) (fun h => by first | exact absurd h nI_gg | exact absurd nI_gg h)
      refine j_iload_n (j := 2) cx dX3_owns_46 rfl rfl (pc' := 47) rfl ?_
      exact j_iret (ty := .boolean) cx hlk hr (bool9 ha) (Nat.le_of_ble_eq_true rfl) (Nat.le_of_ble_eq_true rfl) dX3_owns_47 ⟨congrArg (fun z => some (Value.int z)) hq, rfl, rfl, rfl⟩
    | succ k ih =>
      intro i a hik ha hq
      have hi : i < ns := by omega
      refine j_iload_n (j := 3) cx dX3_owns_4 rfl rfl (pc' := 5) rfl ?_
      refine j_aload_n (j := 0) cx dX3_owns_5 rfl rfl (pc' := 6) rfl ?_
      refine j_get (fk := 12) (ref := "TerminalYardModel") (v := .int (nI ns)) cx hX.1 rfl (by decide +kernel) (by decide) (by decide +kernel) (fun _ h => h) ((yV_i rfl).trans (congrArg Value.int hs)) rfl dX3_owns_6 (pc' := 9) rfl ?_
      refine j_icmp_ge (tgt := 46) cx dX3_owns_9 (by decide) (pc' := 12) rfl (fun h => by first | exact absurd h (nI_ge hi (by omega)) | exact absurd (nI_ge hi (by omega)) h) (fun _ => ?_)
      refine j_iload_n (j := 2) cx dX3_owns_12 rfl rfl (pc' := 13) rfl ?_
      refine j_if_ne (tgt := 34) cx dX3_owns_13 (by decide) (pc' := 16) rfl (fun h2 => ?_) (fun h2 => ?_)
      · refine j_iconst (v := 1) cx dX3_owns_34 (by decide) (pc' := 35) rfl ?_
        refine j_goto (tgt := 39) cx dX3_owns_35 (by decide) ?_
        refine j_istore_n (lv' := [(2, .int 1), (0, .ref (al 40 0)), (1, .int u), (3, .int (nI i))]) cx dX3_owns_39 rfl (by decide) rfl (pc' := 40) rfl ?_
        refine j_iinc (j := 3) (v := nI (i + 1)) (lv' := [(3, .int (nI (i + 1))), (2, .int 1), (0, .ref (al 40 0)), (1, .int u)]) cx dX3_owns_40 rfl (nI_1 i) (by decide) rfl (pc' := 43) rfl ?_
        refine j_goto (tgt := 4) cx dX3_owns_43 (by decide) ?_
        exact J.sub [2, 3, 1, 0] rfl (ih (i + 1) _ (by omega) (by simp) (by rw [← hq]; simp [mOwns, hE, hW, h2]))
      · refine j_aload_n (j := 0) cx dX3_owns_16 rfl rfl (pc' := 17) rfl ?_
        refine j_iload_n (j := 3) cx dX3_owns_17 rfl rfl (pc' := 18) rfl ?_
        refine j_cVR (cells1 := 0) (slots1 := 0) (st1 := [.int (bI (S 59 0 i = 0))]) (As := [.int (nI i)]) (rest := []) cx (c_X3_isLive (S := S) (i := i) (e := S 59 0 i) hX (by omega) rfl) gX3_owns_X3_isLive rfl rfl rfl 1 rfl (by decide +kernel) ⟨Nat.le_of_ble_eq_true rfl, Nat.le_of_ble_eq_true rfl⟩ hX.1 rfl rfl rfl rfl (Nat.le_of_ble_eq_true rfl) dX3_owns_18 ⟨Nat.le_of_ble_eq_true rfl, Nat.le_of_ble_eq_true rfl⟩ (pc' := 21) rfl rfl rfl rfl ?_
        refine j_ifb_eq (tgt := 38) cx dX3_owns_21 (by decide) (pc' := 24) rfl (fun h4 => ?_) (fun h4 => ?_)
        · refine j_iconst (v := 0) cx dX3_owns_38 (by decide) (pc' := 39) rfl ?_
          refine j_istore_n (lv' := [(2, .int 0), (0, .ref (al 40 0)), (1, .int u), (3, .int (nI i))]) cx dX3_owns_39 rfl (by decide) rfl (pc' := 40) rfl ?_
          refine j_iinc (j := 3) (v := nI (i + 1)) (lv' := [(3, .int (nI (i + 1))), (2, .int 0), (0, .ref (al 40 0)), (1, .int u)]) cx dX3_owns_40 rfl (nI_1 i) (by decide) rfl (pc' := 43) rfl ?_
          refine j_goto (tgt := 4) cx dX3_owns_43 (by decide) ?_
          exact J.sub [2, 3, 1, 0] rfl (ih (i + 1) _ (by omega) (by simp) (by rw [← hq]; simp [mOwns, hE, hW, h2, h4]))
        · refine j_aload_n (j := 0) cx dX3_owns_24 rfl rfl (pc' := 25) rfl ?_
          refine j_get (fk := 13) (ref := "TerminalYardModel") (v := .ref (al 53 0)) cx hX.1 rfl (by decide +kernel) (by decide) (by decide +kernel) (fun _ h => h) (yV_r (k := (53, 0)) rfl) rfl dX3_owns_25 (pc' := 28) rfl ?_
          refine j_iload_n (j := 3) cx dX3_owns_28 rfl rfl (pc' := 29) rfl ?_
          refine j_iald (v := S 53 0 i) cx hX.2.2.2.2.2.2.2.2.2.2.1 rfl (vp_in_nI (by omega) (by omega)) (by rw [(nI_clamp (by omega))]) rfl dX3_owns_29 (pc' := 30) rfl ?_
          refine j_iload_n (j := 1) cx dX3_owns_30 rfl rfl (pc' := 31) rfl ?_
          refine j_icmp_ne (tgt := 38) cx dX3_owns_31 (by decide) (pc' := 34) rfl (fun h5 => ?_) (fun h5 => ?_)
          · refine j_iconst (v := 0) cx dX3_owns_38 (by decide) (pc' := 39) rfl ?_
            refine j_istore_n (lv' := [(2, .int 0), (0, .ref (al 40 0)), (1, .int u), (3, .int (nI i))]) cx dX3_owns_39 rfl (by decide) rfl (pc' := 40) rfl ?_
            refine j_iinc (j := 3) (v := nI (i + 1)) (lv' := [(3, .int (nI (i + 1))), (2, .int 0), (0, .ref (al 40 0)), (1, .int u)]) cx dX3_owns_40 rfl (nI_1 i) (by decide) rfl (pc' := 43) rfl ?_
            refine j_goto (tgt := 4) cx dX3_owns_43 (by decide) ?_
            exact J.sub [2, 3, 1, 0] rfl (ih (i + 1) _ (by omega) (by simp) (by rw [← hq]; simp [mOwns, hE, hW, h2, h4, h5]))
          · refine j_iconst (v := 1) cx dX3_owns_34 (by decide) (pc' := 35) rfl ?_
            refine j_goto (tgt := 39) cx dX3_owns_35 (by decide) ?_
            refine j_istore_n (lv' := [(2, .int 1), (0, .ref (al 40 0)), (1, .int u), (3, .int (nI i))]) cx dX3_owns_39 rfl (by decide) rfl (pc' := 40) rfl ?_
            refine j_iinc (j := 3) (v := nI (i + 1)) (lv' := [(3, .int (nI (i + 1))), (2, .int 1), (0, .ref (al 40 0)), (1, .int u)]) cx dX3_owns_40 rfl (nI_1 i) (by decide) rfl (pc' := 43) rfl ?_
            refine j_goto (tgt := 4) cx dX3_owns_43 (by decide) ?_
            exact J.sub [2, 3, 1, 0] rfl (ih (i + 1) _ (by omega) (by simp) (by rw [← hq]; simp [mOwns, hE, hW, h2, h4, h5]))
  refine j_iconst (v := 0) cx dX3_owns_0 (by decide) (pc' := 1) rfl ?_
  refine j_istore_n (lv' := [(2, .int 0), (0, .ref (al 40 0)), (1, .int u)]) cx dX3_owns_1 rfl (by decide) rfl (pc' := 2) rfl ?_
  refine j_iconst (v := 0) cx dX3_owns_2 (by decide) (pc' := 3) rfl ?_
  refine j_istore_n (lv' := [(3, .int 0), (2, .int 0), (0, .ref (al 40 0)), (1, .int u)]) cx dX3_owns_3 rfl (by decide) rfl (pc' := 4) rfl ?_
  exact J.sub [2, 3, 1, 0] rfl (loop ns 0 0 (by omega) (Or.inl rfl) rfl)
