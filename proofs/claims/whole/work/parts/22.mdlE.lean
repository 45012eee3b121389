set_option maxHeartbeats 4000000 in
set_option maxRecDepth 100000 in
theorem c_X3_takeOver {l : Launch} {Z : yL} {al : yAl} {sh : ySh} {S : yS} {nm ns : Nat} {x u : Int32} (hX : YM Z sh) (hI : XI S nm ns) : Ct l yX3_takeOver wsX3_takeOver ({ frames := 2, cells := 0, slots := 0, locals := 43 }) 0 0 Z [.ref (al 40 0), .int x, .int u] al sh S (yM (xTake ns x u (S 54 0 x.toNatClampNeg) (S 59 0 x.toNatClampNeg = 0) (S 49 0 (S 51 0 u.toNatClampNeg).toNatClampNeg)) al sh (S 54 0 x.toNatClampNeg) (sup (sup (sup S 40 0 0 0) 54 0 x.toNatClampNeg u) 57 0 x.toNatClampNeg (S 40 0 1)) S) := by
  obtain ⟨hm, hs, hnm, hns, hus, hde, hmo, hpo, hro, hho, hen⟩ := id hI
  refine Ct.of (lv := [(0, .ref (al 40 0)), (1, .int x), (2, .int u)]) (by decide) rfl (Nat.le_of_ble_eq_true rfl) rfl ?_
  intro p_ e_ s_ m_ below_ meth_ c_ cx hlk hr hnm9
  by_cases hx : oN ns x
  · refine j_aload_n (j := 0) cx dX3_takeOver_0 rfl rfl (pc' := 1) rfl ?_
    refine j_iload_n (j := 1) cx dX3_takeOver_1 rfl rfl (pc' := 2) rfl ?_
    refine j_cVR (cells1 := 0) (slots1 := 0) (st1 := [.int (bI (¬ oN ns x))]) (As := [.int x]) (rest := []) cx (c_X3_isSession hX hI) gX3_takeOver_X3_isSession rfl rfl rfl 1 rfl (by decide +kernel) ⟨Nat.le_of_ble_eq_true rfl, Nat.le_of_ble_eq_true rfl⟩ hX.1 rfl rfl rfl rfl (Nat.le_of_ble_eq_true rfl) dX3_takeOver_2 ⟨Nat.le_of_ble_eq_true rfl, Nat.le_of_ble_eq_true rfl⟩ (pc' := 5) rfl rfl rfl rfl ?_
    refine j_ifb_ne (tgt := 12) cx dX3_takeOver_5 (by decide) (pc' := 8) rfl (fun h => by first | exact absurd h hx | exact absurd hx h) (fun _ => ?_)
    refine j_iconst (v := 1) cx dX3_takeOver_8 (by decide) (pc' := 9) rfl ?_
    refine j_goto (tgt := 64) cx dX3_takeOver_9 (by decide) ?_
    refine j_istore_n (lv' := [(3, .int 1), (0, .ref (al 40 0)), (1, .int x), (2, .int u)]) cx dX3_takeOver_64 rfl (by decide) rfl (pc' := 65) rfl ?_
    refine j_aload_n (j := 1) cx dX3_takeOver_65 rfl rfl (pc' := 66) rfl ?_
    refine j_iload_n (j := 0) cx dX3_takeOver_66 rfl rfl (pc' := 67) rfl ?_
    refine j_cVR (cells1 := 0) (slots1 := 0) (st1 := [.int (bI (1 = 0))]) (As := [.int 1]) (rest := []) cx (c_X3_goesOn hX) gX3_takeOver_X3_goesOn rfl rfl rfl 1 rfl (by decide +kernel) ⟨Nat.le_of_ble_eq_true rfl, Nat.le_of_ble_eq_true rfl⟩ hX.1 rfl rfl rfl rfl (Nat.le_of_ble_eq_true rfl) dX3_takeOver_67 ⟨Nat.le_of_ble_eq_true rfl, Nat.le_of_ble_eq_true rfl⟩ (pc' := 70) rfl rfl rfl rfl ?_
    refine j_ifb_ne (tgt := 75) cx dX3_takeOver_70 (by decide) (pc' := 73) rfl (fun h => by first | exact absurd h (by decide) | exact absurd (by decide) h) (fun _ => ?_)
    refine j_iconst (v := 0) cx dX3_takeOver_73 (by decide) (pc' := 74) rfl ?_
    exact j_iret (ty := .int) cx hlk hr rfl (Nat.le_of_ble_eq_true rfl) (Nat.le_of_ble_eq_true rfl) dX3_takeOver_74 (yM_n (by first | (simp [xTake, hx]; done) | (exfalso; contradiction)) (by decide))
  obtain ⟨i, hi, rfl⟩ : ∃ i, i < ns ∧ x = nI i := vp_in_of (vinm hx) (by omega)
  have hcl : (nI i).toNatClampNeg = i := nI_clamp (by omega)
  simp only [hcl]
  refine j_aload_n (j := 0) cx dX3_takeOver_0 rfl rfl (pc' := 1) rfl ?_
  refine j_iload_n (j := 1) cx dX3_takeOver_1 rfl rfl (pc' := 2) rfl ?_
  refine j_cVR (cells1 := 0) (slots1 := 0) (st1 := [.int (bI (¬ oN ns (nI i)))]) (As := [.int (nI i)]) (rest := []) cx (c_X3_isSession hX hI) gX3_takeOver_X3_isSession rfl rfl rfl 1 rfl (by decide +kernel) ⟨Nat.le_of_ble_eq_true rfl, Nat.le_of_ble_eq_true rfl⟩ hX.1 rfl rfl rfl rfl (Nat.le_of_ble_eq_true rfl) dX3_takeOver_2 ⟨Nat.le_of_ble_eq_true rfl, Nat.le_of_ble_eq_true rfl⟩ (pc' := 5) rfl rfl rfl rfl ?_
  refine j_ifb_ne (tgt := 12) cx dX3_takeOver_5 (by decide) (pc' := 8) rfl (fun _ => ?_) (fun h => by first | exact absurd h hx | exact absurd hx h)
  refine j_iload_n (j := 2) cx dX3_takeOver_12 rfl rfl (pc' := 13) rfl ?_
  refine j_cSR (cells1 := 0) (slots1 := 0) (st1 := [.int (bI (¬ oR 0 9 u))]) (As := [.int u]) (rest := []) cx (c_X3_isUser) gX3_takeOver_X3_isUser rfl rfl rfl 1 rfl (by decide +kernel) ⟨Nat.le_of_ble_eq_true rfl, Nat.le_of_ble_eq_true rfl⟩ rfl (Nat.le_of_ble_eq_true rfl) dX3_takeOver_13 ⟨Nat.le_of_ble_eq_true rfl, Nat.le_of_ble_eq_true rfl⟩ (pc' := 16) rfl rfl rfl rfl ?_
  refine j_ifb_eq (tgt := 29) cx dX3_takeOver_16 (by decide) (pc' := 19) rfl (fun h4 => ?_) (fun h4 => ?_)
  · refine j_iconst (v := 2) cx dX3_takeOver_29 (by decide) (pc' := 30) rfl ?_
    refine j_goto (tgt := 64) cx dX3_takeOver_30 (by decide) ?_
    refine j_istore_n (lv' := [(3, .int 2), (0, .ref (al 40 0)), (1, .int (nI i)), (2, .int u)]) cx dX3_takeOver_64 rfl (by decide) rfl (pc' := 65) rfl ?_
    refine j_aload_n (j := 1) cx dX3_takeOver_65 rfl rfl (pc' := 66) rfl ?_
    refine j_iload_n (j := 0) cx dX3_takeOver_66 rfl rfl (pc' := 67) rfl ?_
    refine j_cVR (cells1 := 0) (slots1 := 0) (st1 := [.int (bI (2 = 0))]) (As := [.int 2]) (rest := []) cx (c_X3_goesOn hX) gX3_takeOver_X3_goesOn rfl rfl rfl 1 rfl (by decide +kernel) ⟨Nat.le_of_ble_eq_true rfl, Nat.le_of_ble_eq_true rfl⟩ hX.1 rfl rfl rfl rfl (Nat.le_of_ble_eq_true rfl) dX3_takeOver_67 ⟨Nat.le_of_ble_eq_true rfl, Nat.le_of_ble_eq_true rfl⟩ (pc' := 70) rfl rfl rfl rfl ?_
    refine j_ifb_ne (tgt := 75) cx dX3_takeOver_70 (by decide) (pc' := 73) rfl (fun h => by first | exact absurd h (by decide) | exact absurd (by decide) h) (fun _ => ?_)
    refine j_iconst (v := 0) cx dX3_takeOver_73 (by decide) (pc' := 74) rfl ?_
    exact j_iret (ty := .int) cx hlk hr rfl (Nat.le_of_ble_eq_true rfl) (Nat.le_of_ble_eq_true rfl) dX3_takeOver_74 (yM_n (by first | (simp [xTake, hx, h4]; done) | (exfalso; contradiction)) (by decide))
  · refine j_aload_n (j := 0) cx dX3_takeOver_19 rfl rfl (pc' := 20) rfl ?_
    refine j_get (fk := 14) (ref := "TerminalYardModel") (v := .ref (al 54 0)) cx hX.1 rfl (by decide +kernel) (by decide) (by decide +kernel) (fun _ h => h) (yV_r (k := (54, 0)) rfl) rfl dX3_takeOver_20 (pc' := 23) rfl ?_
    refine j_iload_n (j := 1) cx dX3_takeOver_23 rfl rfl (pc' := 24) rfl ?_
    refine j_iald (v := S 54 0 i) cx hX.2.2.2.2.2.2.2.2.2.2.2.1 rfl (vp_in_nI (by omega) (by omega)) (by rw [(nI_clamp (by omega))]) rfl dX3_takeOver_24 (pc' := 25) rfl ?_
    refine j_iload_n (j := 2) cx dX3_takeOver_25 rfl rfl (pc' := 26) rfl ?_
    refine j_icmp_ne (tgt := 33) cx dX3_takeOver_26 (by decide) (pc' := 29) rfl (fun h7 => ?_) (fun h7 => ?_)
    · refine j_aload_n (j := 0) cx dX3_takeOver_33 rfl rfl (pc' := 34) rfl ?_
      refine j_iload_n (j := 1) cx dX3_takeOver_34 rfl rfl (pc' := 35) rfl ?_
      refine j_cVR (cells1 := 0) (slots1 := 0) (st1 := [.int (bI (S 59 0 i = 0))]) (As := [.int (nI i)]) (rest := []) cx (c_X3_isLive (S := S) (i := i) (e := S 59 0 i) hX (by omega) rfl) gX3_takeOver_X3_isLive rfl rfl rfl 1 rfl (by decide +kernel) ⟨Nat.le_of_ble_eq_true rfl, Nat.le_of_ble_eq_true rfl⟩ hX.1 rfl rfl rfl rfl (Nat.le_of_ble_eq_true rfl) dX3_takeOver_35 ⟨Nat.le_of_ble_eq_true rfl, Nat.le_of_ble_eq_true rfl⟩ (pc' := 38) rfl rfl rfl rfl ?_
      refine j_ifb_ne (tgt := 45) cx dX3_takeOver_38 (by decide) (pc' := 41) rfl (fun h9 => ?_) (fun h9 => ?_)
      · refine j_aload_n (j := 0) cx dX3_takeOver_45 rfl rfl (pc' := 46) rfl ?_
        refine j_get (fk := 9) (ref := "TerminalYardModel") (v := .ref (al 49 0)) cx hX.1 rfl (by decide +kernel) (by decide) (by decide +kernel) (fun _ h => h) (yV_r (k := (49, 0)) rfl) rfl dX3_takeOver_46 (pc' := 49) rfl ?_
        refine j_aload_n (j := 0) cx dX3_takeOver_49 rfl rfl (pc' := 50) rfl ?_
        refine j_get (fk := 11) (ref := "TerminalYardModel") (v := .ref (al 51 0)) cx hX.1 rfl (by decide +kernel) (by decide) (by decide +kernel) (fun _ h => h) (yV_r (k := (51, 0)) rfl) rfl dX3_takeOver_50 (pc' := 53) rfl ?_
        refine j_iload_n (j := 2) cx dX3_takeOver_53 rfl rfl (pc' := 54) rfl ?_
        refine j_iald (v := S 51 0 u.toNatClampNeg) cx hX.2.2.2.2.2.2.2.2.2.1 rfl (vp_in_out (b := 9) (by decide) h4) rfl rfl dX3_takeOver_54 (pc' := 55) rfl ?_
        refine j_iald (v := S 49 0 ((S 51 0 u.toNatClampNeg).toNatClampNeg)) cx hX.2.2.2.2.2.2.2.1 rfl (hde _ (ix_of (vp_in_out (b := 9) (by decide) h4))) rfl rfl dX3_takeOver_55 (pc' := 56) rfl ?_
        refine j_if_ne (tgt := 63) cx dX3_takeOver_56 (by decide) (pc' := 59) rfl (fun h10 => ?_) (fun h10 => ?_)
        · refine j_iconst (v := 0) cx dX3_takeOver_63 (by decide) (pc' := 64) rfl ?_
          refine j_istore_n (lv' := [(3, .int 0), (0, .ref (al 40 0)), (1, .int (nI i)), (2, .int u)]) cx dX3_takeOver_64 rfl (by decide) rfl (pc' := 65) rfl ?_
          refine j_aload_n (j := 1) cx dX3_takeOver_65 rfl rfl (pc' := 66) rfl ?_
          refine j_iload_n (j := 0) cx dX3_takeOver_66 rfl rfl (pc' := 67) rfl ?_
          refine j_cVR (cells1 := 0) (slots1 := 0) (st1 := [.int (bI (0 = 0))]) (As := [.int 0]) (rest := []) cx (c_X3_goesOn hX) gX3_takeOver_X3_goesOn rfl rfl rfl 1 rfl (by decide +kernel) ⟨Nat.le_of_ble_eq_true rfl, Nat.le_of_ble_eq_true rfl⟩ hX.1 rfl rfl rfl rfl (Nat.le_of_ble_eq_true rfl) dX3_takeOver_67 ⟨Nat.le_of_ble_eq_true rfl, Nat.le_of_ble_eq_true rfl⟩ (pc' := 70) rfl rfl rfl rfl ?_
          refine j_ifb_ne (tgt := 75) cx dX3_takeOver_70 (by decide) (pc' := 73) rfl (fun _ => ?_) (fun h => by first | exact absurd h (by decide) | exact absurd (by decide) h)
          refine j_aload_n (j := 1) cx dX3_takeOver_75 rfl rfl (pc' := 76) rfl ?_
          refine j_get (fk := 14) (ref := "TerminalYardModel") (v := .ref (al 54 0)) cx hX.1 rfl (by decide +kernel) (by decide) (by decide +kernel) (fun _ h => h) (yV_r (k := (54, 0)) rfl) rfl dX3_takeOver_76 (pc' := 79) rfl ?_
          refine j_iload_n (j := 2) cx dX3_takeOver_79 rfl rfl (pc' := 80) rfl ?_
          refine j_iald (v := S 54 0 i) cx hX.2.2.2.2.2.2.2.2.2.2.2.1 rfl (vp_in_nI (by omega) (by omega)) (by rw [(nI_clamp (by omega))]; simp [sup, mChg_o, lEmp_o]) rfl dX3_takeOver_80 (pc' := 81) rfl ?_
          refine j_istore (lv' := [(4, .int (S 54 0 i)), (3, .int 0), (0, .ref (al 40 0)), (1, .int (nI i)), (2, .int u)]) cx dX3_takeOver_81 (by decide) rfl (pc' := 83) rfl ?_
          refine j_aload_n (j := 2) cx dX3_takeOver_83 rfl rfl (pc' := 84) rfl ?_
          refine j_get (fk := 14) (ref := "TerminalYardModel") (v := .ref (al 54 0)) cx hX.1 rfl (by decide +kernel) (by decide) (by decide +kernel) (fun _ h => h) (yV_r (k := (54, 0)) rfl) rfl dX3_takeOver_84 (pc' := 87) rfl ?_
          refine j_iload_n (j := 3) cx dX3_takeOver_87 rfl rfl (pc' := 88) rfl ?_
          refine j_iload_n (j := 4) cx dX3_takeOver_88 rfl rfl (pc' := 89) rfl ?_
          refine j_iast (jn := i) cx hX.2.2.2.2.2.2.2.2.2.2.2.1 rfl (vp_in_nI (by omega) (by omega)) (nI_clamp (by omega)) rfl dX3_takeOver_89 (pc' := 90) rfl ?_
          refine j_aload_n (j := 2) cx dX3_takeOver_90 rfl rfl (pc' := 91) rfl ?_
          refine j_get (fk := 17) (ref := "TerminalYardModel") (v := .ref (al 57 0)) cx hX.1 rfl (by decide +kernel) (by decide) (by decide +kernel) (fun _ h => h) (yV_r (k := (57, 0)) rfl) rfl dX3_takeOver_91 (pc' := 94) rfl ?_
          refine j_iload_n (j := 3) cx dX3_takeOver_94 rfl rfl (pc' := 95) rfl ?_
          refine j_aload_n (j := 2) cx dX3_takeOver_95 rfl rfl (pc' := 96) rfl ?_
          refine j_get (fk := 1) (ref := "TerminalYardModel") (v := .int (S 40 0 1)) cx hX.1 rfl (by decide +kernel) (by decide) (by decide +kernel) (fun _ h => h) ((yV_i rfl).trans (congrArg Value.int (by simp [sup, gO, mChg_o, lEmp_o]))) rfl dX3_takeOver_96 (pc' := 99) rfl ?_
          refine j_iast (jn := i) cx hX.2.2.2.2.2.2.2.2.2.2.2.2.2.2.1 rfl (vp_in_nI (by omega) (by omega)) (nI_clamp (by omega)) rfl dX3_takeOver_99 (pc' := 100) rfl ?_
          refine j_iload (j := 0) cx dX3_takeOver_100 rfl (pc' := 102) rfl ?_
          exact j_iret (ty := .int) cx hlk hr rfl (Nat.le_of_ble_eq_true rfl) (Nat.le_of_ble_eq_true rfl) dX3_takeOver_102 (yM_0 (by simp [xTake, hx, h4, h7, h9, h10]) (by simp [sup]) (by simp [sup]))
        · refine j_iconst (v := 4) cx dX3_takeOver_59 (by decide) (pc' := 60) rfl ?_
          refine j_goto (tgt := 64) cx dX3_takeOver_60 (by decide) ?_
          refine j_istore_n (lv' := [(3, .int 4), (0, .ref (al 40 0)), (1, .int (nI i)), (2, .int u)]) cx dX3_takeOver_64 rfl (by decide) rfl (pc' := 65) rfl ?_
          refine j_aload_n (j := 1) cx dX3_takeOver_65 rfl rfl (pc' := 66) rfl ?_
          refine j_iload_n (j := 0) cx dX3_takeOver_66 rfl rfl (pc' := 67) rfl ?_
          refine j_cVR (cells1 := 0) (slots1 := 0) (st1 := [.int (bI (4 = 0))]) (As := [.int 4]) (rest := []) cx (c_X3_goesOn hX) gX3_takeOver_X3_goesOn rfl rfl rfl 1 rfl (by decide +kernel) ⟨Nat.le_of_ble_eq_true rfl, Nat.le_of_ble_eq_true rfl⟩ hX.1 rfl rfl rfl rfl (Nat.le_of_ble_eq_true rfl) dX3_takeOver_67 ⟨Nat.le_of_ble_eq_true rfl, Nat.le_of_ble_eq_true rfl⟩ (pc' := 70) rfl rfl rfl rfl ?_
          refine j_ifb_ne (tgt := 75) cx dX3_takeOver_70 (by decide) (pc' := 73) rfl (fun h => by first | exact absurd h (by decide) | exact absurd (by decide) h) (fun _ => ?_)
          refine j_iconst (v := 0) cx dX3_takeOver_73 (by decide) (pc' := 74) rfl ?_
          exact j_iret (ty := .int) cx hlk hr rfl (Nat.le_of_ble_eq_true rfl) (Nat.le_of_ble_eq_true rfl) dX3_takeOver_74 (yM_n (by first | (simp [xTake, hx, h4, h7, h9, h10]; done) | (exfalso; contradiction)) (by decide))
      · refine j_iconst (v := 3) cx dX3_takeOver_41 (by decide) (pc' := 42) rfl ?_
        refine j_goto (tgt := 64) cx dX3_takeOver_42 (by decide) ?_
        refine j_istore_n (lv' := [(3, .int 3), (0, .ref (al 40 0)), (1, .int (nI i)), (2, .int u)]) cx dX3_takeOver_64 rfl (by decide) rfl (pc' := 65) rfl ?_
        refine j_aload_n (j := 1) cx dX3_takeOver_65 rfl rfl (pc' := 66) rfl ?_
        refine j_iload_n (j := 0) cx dX3_takeOver_66 rfl rfl (pc' := 67) rfl ?_
        refine j_cVR (cells1 := 0) (slots1 := 0) (st1 := [.int (bI (3 = 0))]) (As := [.int 3]) (rest := []) cx (c_X3_goesOn hX) gX3_takeOver_X3_goesOn rfl rfl rfl 1 rfl (by decide +kernel) ⟨Nat.le_of_ble_eq_true rfl, Nat.le_of_ble_eq_true rfl⟩ hX.1 rfl rfl rfl rfl (Nat.le_of_ble_eq_true rfl) dX3_takeOver_67 ⟨Nat.le_of_ble_eq_true rfl, Nat.le_of_ble_eq_true rfl⟩ (pc' := 70) rfl rfl rfl rfl ?_
        refine j_ifb_ne (tgt := 75) cx dX3_takeOver_70 (by decide) (pc' := 73) rfl (fun h => by first | exact absurd h (by decide) | exact absurd (by decide) h) (fun _ => ?_)
        refine j_iconst (v := 0) cx dX3_takeOver_73 (by decide) (pc' := 74) rfl ?_
        exact j_iret (ty := .int) cx hlk hr rfl (Nat.le_of_ble_eq_true rfl) (Nat.le_of_ble_eq_true rfl) dX3_takeOver_74 (yM_n (by first | (simp [xTake, hx, h4, h7, h9]; done) | (exfalso; contradiction)) (by decide))
    · refine j_iconst (v := 2) cx dX3_takeOver_29 (by decide) (pc' := 30) rfl ?_
      refine j_goto (tgt := 64) cx dX3_takeOver_30 (by decide) ?_
      refine j_istore_n (lv' := [(3, .int 2), (0, .ref (al 40 0)), (1, .int (nI i)), (2, .int u)]) cx dX3_takeOver_64 rfl (by decide) rfl (pc' := 65) rfl ?_
      refine j_aload_n (j := 1) cx dX3_takeOver_65 rfl rfl (pc' := 66) rfl ?_
      refine j_iload_n (j := 0) cx dX3_takeOver_66 rfl rfl (pc' := 67) rfl ?_
      refine j_cVR (cells1 := 0) (slots1 := 0) (st1 := [.int (bI (2 = 0))]) (As := [.int 2]) (rest := []) cx (c_X3_goesOn hX) gX3_takeOver_X3_goesOn rfl rfl rfl 1 rfl (by decide +kernel) ⟨Nat.le_of_ble_eq_true rfl, Nat.le_of_ble_eq_true rfl⟩ hX.1 rfl rfl rfl rfl (Nat.le_of_ble_eq_true rfl) dX3_takeOver_67 ⟨Nat.le_of_ble_eq_true rfl, Nat.le_of_ble_eq_true rfl⟩ (pc' := 70) rfl rfl rfl rfl ?_
      refine j_ifb_ne (tgt := 75) cx dX3_takeOver_70 (by decide) (pc' := 73) rfl (fun h => by first | exact absurd h (by decide) | exact absurd (by decide) h) (fun _ => ?_)
      refine j_iconst (v := 0) cx dX3_takeOver_73 (by decide) (pc' := 74) rfl ?_
      exact j_iret (ty := .int) cx hlk hr rfl (Nat.le_of_ble_eq_true rfl) (Nat.le_of_ble_eq_true rfl) dX3_takeOver_74 (yM_n (by first | (simp [xTake, hx, h4, h7]; done) | (exfalso; contradiction)) (by decide))
set_option maxHeartbeats 4000000 in
set_option maxRecDepth 100000 in
theorem c_X3_charges {l : Launch} {Z : yL} {al : yAl} {sh : ySh} {S : yS} {nm ns : Nat} {i : Nat} {x : Int32} (hX : YM Z sh) (hI : XI S nm ns) (hi : i < ns) : Ct l yX3_charges wsX3_charges ({ frames := 0, cells := 0, slots := 0, locals := 0 }) 0 0 Z [.ref (al 40 0), .int (nI i), .int x] al sh S (yR al sh none (mChg S i x)) := by
  obtain ⟨hm, hs, hnm, hns, hus, hde, hmo, hpo, hro, hho, hen⟩ := id hI
  refine Ct.of (lv := [(0, .ref (al 40 0)), (1, .int (nI i)), (2, .int x)]) (by decide) rfl (Nat.le_of_ble_eq_true rfl) rfl ?_
  intro p_ e_ s_ m_ below_ meth_ c_ cx hlk hr hnm9
  refine j_aload_n (j := 0) cx dX3_charges_0 rfl rfl (pc' := 1) rfl ?_
  refine j_get (fk := 11) (ref := "TerminalYardModel") (v := .ref (al 51 0)) cx hX.1 rfl (by decide +kernel) (by decide) (by decide +kernel) (fun _ h => h) (yV_r (k := (51, 0)) rfl) rfl dX3_charges_1 (pc' := 4) rfl ?_
  refine j_aload_n (j := 0) cx dX3_charges_4 rfl rfl (pc' := 5) rfl ?_
  refine j_get (fk := 14) (ref := "TerminalYardModel") (v := .ref (al 54 0)) cx hX.1 rfl (by decide +kernel) (by decide) (by decide +kernel) (fun _ h => h) (yV_r (k := (54, 0)) rfl) rfl dX3_charges_5 (pc' := 8) rfl ?_
  refine j_iload_n (j := 1) cx dX3_charges_8 rfl rfl (pc' := 9) rfl ?_
  refine j_iald (v := S 54 0 i) cx hX.2.2.2.2.2.2.2.2.2.2.2.1 rfl (vp_in_nI (by omega) (by omega)) (by rw [(nI_clamp (by omega))]) rfl dX3_charges_9 (pc' := 10) rfl ?_
  refine j_iald (v := S 51 0 ((S 54 0 i).toNatClampNeg)) cx hX.2.2.2.2.2.2.2.2.2.1 rfl (hus _ hi) rfl rfl dX3_charges_10 (pc' := 11) rfl ?_
  refine j_istore_n (lv' := [(3, .int (S 51 0 ((S 54 0 i).toNatClampNeg))), (0, .ref (al 40 0)), (1, .int (nI i)), (2, .int x)]) cx dX3_charges_11 rfl (by decide) rfl (pc' := 12) rfl ?_
  refine j_aload_n (j := 1) cx dX3_charges_12 rfl rfl (pc' := 13) rfl ?_
  refine j_get (fk := 9) (ref := "TerminalYardModel") (v := .ref (al 49 0)) cx hX.1 rfl (by decide +kernel) (by decide) (by decide +kernel) (fun _ h => h) (yV_r (k := (49, 0)) rfl) rfl dX3_charges_13 (pc' := 16) rfl ?_
  refine j_iload_n (j := 0) cx dX3_charges_16 rfl rfl (pc' := 17) rfl ?_
  refine j_dup2 cx dX3_charges_17 rfl rfl (pc' := 18) rfl ?_
  refine j_iald (v := S 49 0 ((S 51 0 ((S 54 0 i).toNatClampNeg)).toNatClampNeg)) cx hX.2.2.2.2.2.2.2.1 rfl (hde _ (ix_of (hus _ hi))) rfl rfl dX3_charges_18 (pc' := 19) rfl ?_
  refine j_iload_n (j := 3) cx dX3_charges_19 rfl rfl (pc' := 20) rfl ?_
  refine j_isub cx dX3_charges_20 (pc' := 21) rfl ?_
  refine j_iast (jn := (S 51 0 ((S 54 0 i).toNatClampNeg)).toNatClampNeg) cx hX.2.2.2.2.2.2.2.1 rfl (hde _ (ix_of (hus _ hi))) rfl rfl dX3_charges_21 (pc' := 22) rfl ?_
  refine j_aload_n (j := 1) cx dX3_charges_22 rfl rfl (pc' := 23) rfl ?_
  refine j_get (fk := 18) (ref := "TerminalYardModel") (v := .ref (al 58 0)) cx hX.1 rfl (by decide +kernel) (by decide) (by decide +kernel) (fun _ h => h) (yV_r (k := (58, 0)) rfl) rfl dX3_charges_23 (pc' := 26) rfl ?_
  refine j_iconst (v := 4) cx dX3_charges_26 (by decide) (pc' := 27) rfl ?_
  refine j_iload_n (j := 2) cx dX3_charges_27 rfl rfl (pc' := 28) rfl ?_
  refine j_imul cx dX3_charges_28 (pc' := 29) rfl ?_
  refine j_iload_n (j := 0) cx dX3_charges_29 rfl rfl (pc' := 30) rfl ?_
  refine j_iadd cx dX3_charges_30 (pc' := 31) rfl ?_
  refine j_dup2 cx dX3_charges_31 rfl rfl (pc' := 32) rfl ?_
  refine j_iald (v := S 58 0 (4 * i + (S 51 0 ((S 54 0 i).toNatClampNeg)).toNatClampNeg)) cx hX.2.2.2.2.2.2.2.2.2.2.2.2.2.2.2.1 rfl (ix4i (by omega) (hde _ (ix_of (hus _ hi)))) (by rw [(ix4 (by omega) (hde _ (ix_of (hus _ hi))))]; simp [sup, mChg_o, lEmp_o]) rfl dX3_charges_32 (pc' := 33) rfl ?_
  refine j_iload_n (j := 3) cx dX3_charges_33 rfl rfl (pc' := 34) rfl ?_
  refine j_iadd cx dX3_charges_34 (pc' := 35) rfl ?_
  refine j_iast (jn := 4 * i + (S 51 0 ((S 54 0 i).toNatClampNeg)).toNatClampNeg) cx hX.2.2.2.2.2.2.2.2.2.2.2.2.2.2.2.1 rfl (ix4i (by omega) (hde _ (ix_of (hus _ hi)))) (ix4 (by omega) (hde _ (ix_of (hus _ hi)))) rfl dX3_charges_35 (pc' := 36) rfl ?_
  refine j_aload_n (j := 1) cx dX3_charges_36 rfl rfl (pc' := 37) rfl ?_
  refine j_dup cx dX3_charges_37 rfl (pc' := 38) rfl ?_
  refine j_get (fk := 22) (ref := "TerminalYardModel") (v := .int (S 40 0 22)) cx hX.1 rfl (by decide +kernel) (by decide) (by decide +kernel) (fun _ h => h) ((yV_i rfl).trans (congrArg Value.int (by simp [sup, gO, mChg_o, lEmp_o]))) rfl dX3_charges_38 (pc' := 41) rfl ?_
  refine j_iload_n (j := 3) cx dX3_charges_41 rfl rfl (pc' := 42) rfl ?_
  refine j_iadd cx dX3_charges_42 (pc' := 43) rfl ?_
  refine j_puti (fk := 22) (ref := "TerminalYardModel") (ty := .int) cx hX.1 rfl (by decide +kernel) (by decide) (by decide +kernel) (fun _ h => h) tyX3 tyX3_ok nmX3 rfl (by decide +kernel) rfl rfl rfl rfl dX3_charges_43 (pc' := 46) rfl ?_
  exact j_vret cx hlk hr (Nat.le_of_ble_eq_true rfl) (Nat.le_of_ble_eq_true rfl) dX3_charges_46 ⟨rfl, rfl, rfl, rfl⟩
set_option maxHeartbeats 4000000 in
set_option maxRecDepth 100000 in
theorem c_X3_print {l : Launch} {Z : yL} {al : yAl} {sh : ySh} {S : yS} {nm ns : Nat} {x g : Int32} (hX : YM Z sh) (hI : XI S nm ns) : Ct l yX3_print wsX3_print ({ frames := 2, cells := 0, slots := 0, locals := 43 }) 0 0 Z [.ref (al 40 0), .int x, .int g] al sh S (yM (xPrint ns x g (S 59 0 x.toNatClampNeg = 0) (S 49 0 (S 51 0 (S 54 0 x.toNatClampNeg).toNatClampNeg).toNatClampNeg)) al sh (S 60 0 (S 46 0 (S 55 0 x.toNatClampNeg).toNatClampNeg).toNatClampNeg + g) (sup (sup (sup (mChg (sup S 40 0 0 0) x.toNatClampNeg (2 * g)) 40 0 21 (S 40 0 21 + 2 * g)) 57 0 x.toNatClampNeg (S 40 0 1)) 60 0 (S 46 0 (S 55 0 x.toNatClampNeg).toNatClampNeg).toNatClampNeg (S 60 0 (S 46 0 (S 55 0 x.toNatClampNeg).toNatClampNeg).toNatClampNeg + g)) S) := by
  obtain ⟨hm, hs, hnm, hns, hus, hde, hmo, hpo, hro, hho, hen⟩ := id hI
  refine Ct.of (lv := [(0, .ref (al 40 0)), (1, .int x), (2, .int g)]) (by decide) rfl (Nat.le_of_ble_eq_true rfl) rfl ?_
  intro p_ e_ s_ m_ below_ meth_ c_ cx hlk hr hnm9
  by_cases hx : oN ns x
  · refine j_aload_n (j := 0) cx dX3_print_0 rfl rfl (pc' := 1) rfl ?_
    refine j_iload_n (j := 1) cx dX3_print_1 rfl rfl (pc' := 2) rfl ?_
    refine j_cVR (cells1 := 0) (slots1 := 0) (st1 := [.int (bI (¬ oN ns x))]) (As := [.int x]) (rest := []) cx (c_X3_isSession hX hI) gX3_print_X3_isSession rfl rfl rfl 1 rfl (by decide +kernel) ⟨Nat.le_of_ble_eq_true rfl, Nat.le_of_ble_eq_true rfl⟩ hX.1 rfl rfl rfl rfl (Nat.le_of_ble_eq_true rfl) dX3_print_2 ⟨Nat.le_of_ble_eq_true rfl, Nat.le_of_ble_eq_true rfl⟩ (pc' := 5) rfl rfl rfl rfl ?_
    refine j_ifb_ne (tgt := 12) cx dX3_print_5 (by decide) (pc' := 8) rfl (fun h => by first | exact absurd h hx | exact absurd hx h) (fun _ => ?_)
    refine j_iconst (v := 1) cx dX3_print_8 (by decide) (pc' := 9) rfl ?_
    refine j_goto (tgt := 65) cx dX3_print_9 (by decide) ?_
    refine j_istore_n (lv' := [(3, .int 1), (0, .ref (al 40 0)), (1, .int x), (2, .int g)]) cx dX3_print_65 rfl (by decide) rfl (pc' := 66) rfl ?_
    refine j_aload_n (j := 1) cx dX3_print_66 rfl rfl (pc' := 67) rfl ?_
    refine j_iload_n (j := 0) cx dX3_print_67 rfl rfl (pc' := 68) rfl ?_
    refine j_cVR (cells1 := 0) (slots1 := 0) (st1 := [.int (bI (1 = 0))]) (As := [.int 1]) (rest := []) cx (c_X3_goesOn hX) gX3_print_X3_goesOn rfl rfl rfl 1 rfl (by decide +kernel) ⟨Nat.le_of_ble_eq_true rfl, Nat.le_of_ble_eq_true rfl⟩ hX.1 rfl rfl rfl rfl (Nat.le_of_ble_eq_true rfl) dX3_print_68 ⟨Nat.le_of_ble_eq_true rfl, Nat.le_of_ble_eq_true rfl⟩ (pc' := 71) rfl rfl rfl rfl ?_
    refine j_ifb_ne (tgt := 76) cx dX3_print_71 (by decide) (pc' := 74) rfl (fun h => by first | exact absurd h (by decide) | exact absurd (by decide) h) (fun _ => ?_)
    refine j_iconst (v := 0) cx dX3_print_74 (by decide) (pc' := 75) rfl ?_
    exact j_iret (ty := .int) cx hlk hr rfl (Nat.le_of_ble_eq_true rfl) (Nat.le_of_ble_eq_true rfl) dX3_print_75 (yM_n (by first | (simp [xPrint, hx]; done) | (exfalso; contradiction)) (by decide))
  obtain ⟨i, hi, rfl⟩ : ∃ i, i < ns ∧ x = nI i := vp_in_of (vinm hx) (by omega)
  have hcl : (nI i).toNatClampNeg = i := nI_clamp (by omega)
  simp only [hcl]
  refine j_aload_n (j := 0) cx dX3_print_0 rfl rfl (pc' := 1) rfl ?_
  refine j_iload_n (j := 1) cx dX3_print_1 rfl rfl (pc' := 2) rfl ?_
  refine j_cVR (cells1 := 0) (slots1 := 0) (st1 := [.int (bI (¬ oN ns (nI i)))]) (As := [.int (nI i)]) (rest := []) cx (c_X3_isSession hX hI) gX3_print_X3_isSession rfl rfl rfl 1 rfl (by decide +kernel) ⟨Nat.le_of_ble_eq_true rfl, Nat.le_of_ble_eq_true rfl⟩ hX.1 rfl rfl rfl rfl (Nat.le_of_ble_eq_true rfl) dX3_print_2 ⟨Nat.le_of_ble_eq_true rfl, Nat.le_of_ble_eq_true rfl⟩ (pc' := 5) rfl rfl rfl rfl ?_
  refine j_ifb_ne (tgt := 12) cx dX3_print_5 (by decide) (pc' := 8) rfl (fun _ => ?_) (fun h => by first | exact absurd h hx | exact absurd hx h)
  refine j_iload_n (j := 2) cx dX3_print_12 rfl rfl (pc' := 13) rfl ?_
  refine j_iconst (v := 1) cx dX3_print_13 (by decide) (pc' := 14) rfl ?_
  refine j_bipush (v := 99) cx dX3_print_14 (by decide) (pc' := 16) rfl ?_
  refine j_cSR (cells1 := 0) (slots1 := 0) (st1 := [.int (bI (¬ oR 1 99 g))]) (As := [.int g, .int 1, .int 99]) (rest := []) cx (c_X3_in) gX3_print_X3_in rfl rfl rfl 3 rfl (by decide +kernel) ⟨Nat.le_of_ble_eq_true rfl, Nat.le_of_ble_eq_true rfl⟩ rfl (Nat.le_of_ble_eq_true rfl) dX3_print_16 ⟨Nat.le_of_ble_eq_true rfl, Nat.le_of_ble_eq_true rfl⟩ (pc' := 19) rfl rfl rfl rfl ?_
  refine j_ifb_ne (tgt := 26) cx dX3_print_19 (by decide) (pc' := 22) rfl (fun h4 => ?_) (fun h4 => ?_)
  · refine j_aload_n (j := 0) cx dX3_print_26 rfl rfl (pc' := 27) rfl ?_
    refine j_iload_n (j := 1) cx dX3_print_27 rfl rfl (pc' := 28) rfl ?_
    refine j_cVR (cells1 := 0) (slots1 := 0) (st1 := [.int (bI (S 59 0 i = 0))]) (As := [.int (nI i)]) (rest := []) cx (c_X3_isLive (S := S) (i := i) (e := S 59 0 i) hX (by omega) rfl) gX3_print_X3_isLive rfl rfl rfl 1 rfl (by decide +kernel) ⟨Nat.le_of_ble_eq_true rfl, Nat.le_of_ble_eq_true rfl⟩ hX.1 rfl rfl rfl rfl (Nat.le_of_ble_eq_true rfl) dX3_print_28 ⟨Nat.le_of_ble_eq_true rfl, Nat.le_of_ble_eq_true rfl⟩ (pc' := 31) rfl rfl rfl rfl ?_
    refine j_ifb_ne (tgt := 38) cx dX3_print_31 (by decide) (pc' := 34) rfl (fun h6 => ?_) (fun h6 => ?_)
    · refine j_aload_n (j := 0) cx dX3_print_38 rfl rfl (pc' := 39) rfl ?_
      refine j_get (fk := 9) (ref := "TerminalYardModel") (v := .ref (al 49 0)) cx hX.1 rfl (by decide +kernel) (by decide) (by decide +kernel) (fun _ h => h) (yV_r (k := (49, 0)) rfl) rfl dX3_print_39 (pc' := 42) rfl ?_
      refine j_aload_n (j := 0) cx dX3_print_42 rfl rfl (pc' := 43) rfl ?_
      refine j_get (fk := 11) (ref := "TerminalYardModel") (v := .ref (al 51 0)) cx hX.1 rfl (by decide +kernel) (by decide) (by decide +kernel) (fun _ h => h) (yV_r (k := (51, 0)) rfl) rfl dX3_print_43 (pc' := 46) rfl ?_
      refine j_aload_n (j := 0) cx dX3_print_46 rfl rfl (pc' := 47) rfl ?_
      refine j_get (fk := 14) (ref := "TerminalYardModel") (v := .ref (al 54 0)) cx hX.1 rfl (by decide +kernel) (by decide) (by decide +kernel) (fun _ h => h) (yV_r (k := (54, 0)) rfl) rfl dX3_print_47 (pc' := 50) rfl ?_
      refine j_iload_n (j := 1) cx dX3_print_50 rfl rfl (pc' := 51) rfl ?_
      refine j_iald (v := S 54 0 i) cx hX.2.2.2.2.2.2.2.2.2.2.2.1 rfl (vp_in_nI (by omega) (by omega)) (by rw [(nI_clamp (by omega))]) rfl dX3_print_51 (pc' := 52) rfl ?_
      refine j_iald (v := S 51 0 ((S 54 0 i).toNatClampNeg)) cx hX.2.2.2.2.2.2.2.2.2.1 rfl (hus _ hi) rfl rfl dX3_print_52 (pc' := 53) rfl ?_
      refine j_iald (v := S 49 0 ((S 51 0 ((S 54 0 i).toNatClampNeg)).toNatClampNeg)) cx hX.2.2.2.2.2.2.2.1 rfl (hde _ (ix_of (hus _ hi))) rfl rfl dX3_print_53 (pc' := 54) rfl ?_
      refine j_iconst (v := 2) cx dX3_print_54 (by decide) (pc' := 55) rfl ?_
      refine j_iload_n (j := 2) cx dX3_print_55 rfl rfl (pc' := 56) rfl ?_
      refine j_imul cx dX3_print_56 (pc' := 57) rfl ?_
      refine j_icmp_ge (tgt := 64) cx dX3_print_57 (by decide) (pc' := 60) rfl (fun h7 => ?_) (fun h7 => ?_)
      · refine j_iconst (v := 0) cx dX3_print_64 (by decide) (pc' := 65) rfl ?_
        refine j_istore_n (lv' := [(3, .int 0), (0, .ref (al 40 0)), (1, .int (nI i)), (2, .int g)]) cx dX3_print_65 rfl (by decide) rfl (pc' := 66) rfl ?_
        refine j_aload_n (j := 1) cx dX3_print_66 rfl rfl (pc' := 67) rfl ?_
        refine j_iload_n (j := 0) cx dX3_print_67 rfl rfl (pc' := 68) rfl ?_
        refine j_cVR (cells1 := 0) (slots1 := 0) (st1 := [.int (bI (0 = 0))]) (As := [.int 0]) (rest := []) cx (c_X3_goesOn hX) gX3_print_X3_goesOn rfl rfl rfl 1 rfl (by decide +kernel) ⟨Nat.le_of_ble_eq_true rfl, Nat.le_of_ble_eq_true rfl⟩ hX.1 rfl rfl rfl rfl (Nat.le_of_ble_eq_true rfl) dX3_print_68 ⟨Nat.le_of_ble_eq_true rfl, Nat.le_of_ble_eq_true rfl⟩ (pc' := 71) rfl rfl rfl rfl ?_
        refine j_ifb_ne (tgt := 76) cx dX3_print_71 (by decide) (pc' := 74) rfl (fun _ => ?_) (fun h => by first | exact absurd h (by decide) | exact absurd (by decide) h)
        refine j_aload_n (j := 1) cx dX3_print_76 rfl rfl (pc' := 77) rfl ?_
        refine j_iload_n (j := 2) cx dX3_print_77 rfl rfl (pc' := 78) rfl ?_
        refine j_iconst (v := 2) cx dX3_print_78 (by decide) (pc' := 79) rfl ?_
        refine j_iload_n (j := 3) cx dX3_print_79 rfl rfl (pc' := 80) rfl ?_
        refine j_imul cx dX3_print_80 (pc' := 81) rfl ?_
        refine j_cVR (cells1 := 0) (slots1 := 0) (st1 := []) (As := [.int (nI i), .int (2 * g)]) (rest := []) cx (c_X3_charges hX (XI.s hI (by simp)) hi) gX3_print_X3_charges rfl rfl rfl 2 rfl (by decide +kernel) ⟨Nat.le_of_ble_eq_true rfl, Nat.le_of_ble_eq_true rfl⟩ hX.1 rfl rfl rfl rfl (Nat.le_of_ble_eq_true rfl) dX3_print_81 ⟨Nat.le_of_ble_eq_true rfl, Nat.le_of_ble_eq_true rfl⟩ (pc' := 84) rfl rfl rfl rfl ?_
        refine j_aload_n (j := 1) cx dX3_print_84 rfl rfl (pc' := 85) rfl ?_
        refine j_dup cx dX3_print_85 rfl (pc' := 86) rfl ?_
        refine j_get (fk := 21) (ref := "TerminalYardModel") (v := .int (S 40 0 21)) cx hX.1 rfl (by decide +kernel) (by decide) (by decide +kernel) (fun _ h => h) ((yV_i rfl).trans (congrArg Value.int (by simp [sup, gO, mChg_o, lEmp_o]))) rfl dX3_print_86 (pc' := 89) rfl ?_
        refine j_iconst (v := 2) cx dX3_print_89 (by decide) (pc' := 90) rfl ?_
        refine j_iload_n (j := 3) cx dX3_print_90 rfl rfl (pc' := 91) rfl ?_
        refine j_imul cx dX3_print_91 (pc' := 92) rfl ?_
        refine j_iadd cx dX3_print_92 (pc' := 93) rfl ?_
        refine j_puti (fk := 21) (ref := "TerminalYardModel") (ty := .int) cx hX.1 rfl (by decide +kernel) (by decide) (by decide +kernel) (fun _ h => h) tyX3 tyX3_ok nmX3 rfl (by decide +kernel) rfl rfl rfl rfl dX3_print_93 (pc' := 96) rfl ?_
        refine j_aload_n (j := 1) cx dX3_print_96 rfl rfl (pc' := 97) rfl ?_
        refine j_get (fk := 17) (ref := "TerminalYardModel") (v := .ref (al 57 0)) cx hX.1 rfl (by decide +kernel) (by decide) (by decide +kernel) (fun _ h => h) (yV_r (k := (57, 0)) rfl) rfl dX3_print_97 (pc' := 100) rfl ?_
        refine j_iload_n (j := 2) cx dX3_print_100 rfl rfl (pc' := 101) rfl ?_
        refine j_aload_n (j := 1) cx dX3_print_101 rfl rfl (pc' := 102) rfl ?_
        refine j_get (fk := 1) (ref := "TerminalYardModel") (v := .int (S 40 0 1)) cx hX.1 rfl (by decide +kernel) (by decide) (by decide +kernel) (fun _ h => h) ((yV_i rfl).trans (congrArg Value.int (by simp [sup, gO, mChg_o, lEmp_o]))) rfl dX3_print_102 (pc' := 105) rfl ?_
        refine j_iast (jn := i) cx hX.2.2.2.2.2.2.2.2.2.2.2.2.2.2.1 rfl (vp_in_nI (by omega) (by omega)) (nI_clamp (by omega)) rfl dX3_print_105 (pc' := 106) rfl ?_
        refine j_aload_n (j := 1) cx dX3_print_106 rfl rfl (pc' := 107) rfl ?_
        refine j_get (fk := 20) (ref := "TerminalYardModel") (v := .ref (al 60 0)) cx hX.1 rfl (by decide +kernel) (by decide) (by decide +kernel) (fun _ h => h) (yV_r (k := (60, 0)) rfl) rfl dX3_print_107 (pc' := 110) rfl ?_
        refine j_aload_n (j := 1) cx dX3_print_110 rfl rfl (pc' := 111) rfl ?_
        refine j_get (fk := 6) (ref := "TerminalYardModel") (v := .ref (al 46 0)) cx hX.1 rfl (by decide +kernel) (by decide) (by decide +kernel) (fun _ h => h) (yV_r (k := (46, 0)) rfl) rfl dX3_print_111 (pc' := 114) rfl ?_
        refine j_aload_n (j := 1) cx dX3_print_114 rfl rfl (pc' := 115) rfl ?_
        refine j_get (fk := 15) (ref := "TerminalYardModel") (v := .ref (al 55 0)) cx hX.1 rfl (by decide +kernel) (by decide) (by decide +kernel) (fun _ h => h) (yV_r (k := (55, 0)) rfl) rfl dX3_print_115 (pc' := 118) rfl ?_
        refine j_iload_n (j := 2) cx dX3_print_118 rfl rfl (pc' := 119) rfl ?_
        refine j_iald (v := S 55 0 i) cx hX.2.2.2.2.2.2.2.2.2.2.2.2.1 rfl (vp_in_nI (by omega) (by omega)) (by rw [(nI_clamp (by omega))]; simp [sup, mChg_o, lEmp_o]) rfl dX3_print_119 (pc' := 120) rfl ?_
        refine j_iald (v := S 46 0 ((S 55 0 i).toNatClampNeg)) cx hX.2.2.2.2.1 rfl (hmo _ hi) (by simp [sup, gO, mChg_o, lEmp_o]) rfl dX3_print_120 (pc' := 121) rfl ?_
        refine j_dup2 cx dX3_print_121 rfl rfl (pc' := 122) rfl ?_
        refine j_iald (v := S 60 0 ((S 46 0 ((S 55 0 i).toNatClampNeg)).toNatClampNeg)) cx hX.2.2.2.2.2.2.2.2.2.2.2.2.2.2.2.2.2 rfl (hro _ (ix_of (hmo _ hi))) (by simp [sup, gO, mChg_o, lEmp_o]) rfl dX3_print_122 (pc' := 123) rfl ?_
        refine j_iload_n (j := 3) cx dX3_print_123 rfl rfl (pc' := 124) rfl ?_
        refine j_iadd cx dX3_print_124 (pc' := 125) rfl ?_
        refine j_iast (jn := (S 46 0 ((S 55 0 i).toNatClampNeg)).toNatClampNeg) cx hX.2.2.2.2.2.2.2.2.2.2.2.2.2.2.2.2.2 rfl (hro _ (ix_of (hmo _ hi))) rfl rfl dX3_print_125 (pc' := 126) rfl ?_
        refine j_aload_n (j := 1) cx dX3_print_126 rfl rfl (pc' := 127) rfl ?_
        refine j_get (fk := 20) (ref := "TerminalYardModel") (v := .ref (al 60 0)) cx hX.1 rfl (by decide +kernel) (by decide) (by decide +kernel) (fun _ h => h) (yV_r (k := (60, 0)) rfl) rfl dX3_print_127 (pc' := 130) rfl ?_
        refine j_aload_n (j := 1) cx dX3_print_130 rfl rfl (pc' := 131) rfl ?_
        refine j_get (fk := 6) (ref := "TerminalYardModel") (v := .ref (al 46 0)) cx hX.1 rfl (by decide +kernel) (by decide) (by decide +kernel) (fun _ h => h) (yV_r (k := (46, 0)) rfl) rfl dX3_print_131 (pc' := 134) rfl ?_
        refine j_aload_n (j := 1) cx dX3_print_134 rfl rfl (pc' := 135) rfl ?_
        refine j_get (fk := 15) (ref := "TerminalYardModel") (v := .ref (al 55 0)) cx hX.1 rfl (by decide +kernel) (by decide) (by decide +kernel) (fun _ h => h) (yV_r (k := (55, 0)) rfl) rfl dX3_print_135 (pc' := 138) rfl ?_
        refine j_iload_n (j := 2) cx dX3_print_138 rfl rfl (pc' := 139) rfl ?_
        refine j_iald (v := S 55 0 i) cx hX.2.2.2.2.2.2.2.2.2.2.2.2.1 rfl (vp_in_nI (by omega) (by omega)) (by rw [(nI_clamp (by omega))]; simp [sup, mChg_o, lEmp_o]) rfl dX3_print_139 (pc' := 140) rfl ?_
        refine j_iald (v := S 46 0 ((S 55 0 i).toNatClampNeg)) cx hX.2.2.2.2.1 rfl (hmo _ hi) (by simp [sup, gO, mChg_o, lEmp_o]) rfl dX3_print_140 (pc' := 141) rfl ?_
        refine j_iald (v := (S 60 0 ((S 46 0 ((S 55 0 i).toNatClampNeg)).toNatClampNeg)) + g) cx hX.2.2.2.2.2.2.2.2.2.2.2.2.2.2.2.2.2 rfl (hro _ (ix_of (hmo _ hi))) (by simp [sup, gO, mChg_o, lEmp_o]) rfl dX3_print_141 (pc' := 142) rfl ?_
        exact j_iret (ty := .int) cx hlk hr rfl (Nat.le_of_ble_eq_true rfl) (Nat.le_of_ble_eq_true rfl) dX3_print_142 (yM_0 (by simp [xPrint, hx, h4, h6, h7, Int32.not_lt.mpr h7]) (by simp [sup, mChg_o]) (by simp [sup, mChg_o]))
      · refine j_iconst (v := 4) cx dX3_print_60 (by decide) (pc' := 61) rfl ?_
        refine j_goto (tgt := 65) cx dX3_print_61 (by decide) ?_
        refine j_istore_n (lv' := [(3, .int 4), (0, .ref (al 40 0)), (1, .int (nI i)), (2, .int g)]) cx dX3_print_65 rfl (by decide) rfl (pc' := 66) rfl ?_
        refine j_aload_n (j := 1) cx dX3_print_66 rfl rfl (pc' := 67) rfl ?_
        refine j_iload_n (j := 0) cx dX3_print_67 rfl rfl (pc' := 68) rfl ?_
        refine j_cVR (cells1 := 0) (slots1 := 0) (st1 := [.int (bI (4 = 0))]) (As := [.int 4]) (rest := []) cx (c_X3_goesOn hX) gX3_print_X3_goesOn rfl rfl rfl 1 rfl (by decide +kernel) ⟨Nat.le_of_ble_eq_true rfl, Nat.le_of_ble_eq_true rfl⟩ hX.1 rfl rfl rfl rfl (Nat.le_of_ble_eq_true rfl) dX3_print_68 ⟨Nat.le_of_ble_eq_true rfl, Nat.le_of_ble_eq_true rfl⟩ (pc' := 71) rfl rfl rfl rfl ?_
        refine j_ifb_ne (tgt := 76) cx dX3_print_71 (by decide) (pc' := 74) rfl (fun h => by first | exact absurd h (by decide) | exact absurd (by decide) h) (fun _ => ?_)
        refine j_iconst (v := 0) cx dX3_print_74 (by decide) (pc' := 75) rfl ?_
        exact j_iret (ty := .int) cx hlk hr rfl (Nat.le_of_ble_eq_true rfl) (Nat.le_of_ble_eq_true rfl) dX3_print_75 (yM_n (by first | (simp [xPrint, hx, h4, h6, h7, Int32.not_le.mp h7]; done) | (exfalso; contradiction)) (by decide))
    · refine j_iconst (v := 3) cx dX3_print_34 (by decide) (pc' := 35) rfl ?_
      refine j_goto (tgt := 65) cx dX3_print_35 (by decide) ?_
      refine j_istore_n (lv' := [(3, .int 3), (0, .ref (al 40 0)), (1, .int (nI i)), (2, .int g)]) cx dX3_print_65 rfl (by decide) rfl (pc' := 66) rfl ?_
      refine j_aload_n (j := 1) cx dX3_print_66 rfl rfl (pc' := 67) rfl ?_
      refine j_iload_n (j := 0) cx dX3_print_67 rfl rfl (pc' := 68) rfl ?_
      refine j_cVR (cells1 := 0) (slots1 := 0) (st1 := [.int (bI (3 = 0))]) (As := [.int 3]) (rest := []) cx (c_X3_goesOn hX) gX3_print_X3_goesOn rfl rfl rfl 1 rfl (by decide +kernel) ⟨Nat.le_of_ble_eq_true rfl, Nat.le_of_ble_eq_true rfl⟩ hX.1 rfl rfl rfl rfl (Nat.le_of_ble_eq_true rfl) dX3_print_68 ⟨Nat.le_of_ble_eq_true rfl, Nat.le_of_ble_eq_true rfl⟩ (pc' := 71) rfl rfl rfl rfl ?_
      refine j_ifb_ne (tgt := 76) cx dX3_print_71 (by decide) (pc' := 74) rfl (fun h => by first | exact absurd h (by decide) | exact absurd (by decide) h) (fun _ => ?_)
      refine j_iconst (v := 0) cx dX3_print_74 (by decide) (pc' := 75) rfl ?_
      exact j_iret (ty := .int) cx hlk hr rfl (Nat.le_of_ble_eq_true rfl) (Nat.le_of_ble_eq_true rfl) dX3_print_75 (yM_n (by first | (simp [xPrint, hx, h4, h6]; done) | (exfalso; contradiction)) (by decide))
  · refine j_iconst (v := 2) cx dX3_print_22 (by decide) (pc' := 23) rfl ?_
    refine j_goto (tgt := 65) cx dX3_print_23 (by decide) ?_
    refine j_istore_n (lv' := [(3, .int 2), (0, .ref (al 40 0)), (1, .int (nI i)), (2, .int g)]) cx dX3_print_65 rfl (by decide) rfl (pc' := 66) rfl ?_
    refine j_aload_n (j := 1) cx dX3_print_66 rfl rfl (pc' := 67) rfl ?_
    refine j_iload_n (j := 0) cx dX3_print_67 rfl rfl (pc' := 68) rfl ?_
    refine j_cVR (cells1 := 0) (slots1 := 0) (st1 := [.int (bI (2 = 0))]) (As := [.int 2]) (rest := []) cx (c_X3_goesOn hX) gX3_print_X3_goesOn rfl rfl rfl 1 rfl (by decide +kernel) ⟨Nat.le_of_ble_eq_true rfl, Nat.le_of_ble_eq_true rfl⟩ hX.1 rfl rfl rfl rfl (Nat.le_of_ble_eq_true rfl) dX3_print_68 ⟨Nat.le_of_ble_eq_true rfl, Nat.le_of_ble_eq_true rfl⟩ (pc' := 71) rfl rfl rfl rfl ?_
    refine j_ifb_ne (tgt := 76) cx dX3_print_71 (by decide) (pc' := 74) rfl (fun h => by first | exact absurd h (by decide) | exact absurd (by decide) h) (fun _ => ?_)
    refine j_iconst (v := 0) cx dX3_print_74 (by decide) (pc' := 75) rfl ?_
    exact j_iret (ty := .int) cx hlk hr rfl (Nat.le_of_ble_eq_true rfl) (Nat.le_of_ble_eq_true rfl) dX3_print_75 (yM_n (by first | (simp [xPrint, hx, h4]; done) | (exfalso; contradiction)) (by decide))
set_option maxHeartbeats 4000000 in
set_option maxRecDepth 100000 in
theorem c_X3_addMachine {l : Launch} {Z : yL} {al : yAl} {sh : ySh} {S : yS} {nm ns : Nat} {p r s : Int32} (hX : YM Z sh) (hI : XI S nm ns) : Ct l yX3_addMachine wsX3_addMachine ({ frames := 2, cells := 0, slots := 0, locals := 42 }) 0 0 Z [.ref (al 40 0), .int p, .int r, .int s] al sh S (yM (kAdd p r s nm) al sh (nI nm) (sup (sup (sup (sup (sup (sup S 40 0 0 0) 45 0 nm p) 46 0 nm r) 47 0 nm s) 48 0 nm 117) 40 0 4 (nI nm + 1)) S) := by
  obtain ⟨hm, hs, hnm, hns, hus, hde, hmo, hpo, hro, hho, hen⟩ := id hI
  refine Ct.of (lv := [(0, .ref (al 40 0)), (1, .int p), (2, .int r), (3, .int s)]) (by decide) rfl (Nat.le_of_ble_eq_true rfl) rfl ?_
  intro p_ e_ s_ m_ below_ meth_ c_ cx hlk hr hnm9
  by_cases hc6 : nm = 6
  · refine j_aload_n (j := 0) cx dX3_addMachine_0 rfl rfl (pc' := 1) rfl ?_
    refine j_iload_n (j := 1) cx dX3_addMachine_1 rfl rfl (pc' := 2) rfl ?_
    refine j_cSR (cells1 := 0) (slots1 := 0) (st1 := [.int (bI (¬ oR 0 2 p)), .ref (al 40 0)]) (As := [.int p]) (rest := [.ref (al 40 0)]) cx (c_X3_isPool) gX3_addMachine_X3_isPool rfl rfl rfl 1 rfl (by decide +kernel) ⟨Nat.le_of_ble_eq_true rfl, Nat.le_of_ble_eq_true rfl⟩ rfl (Nat.le_of_ble_eq_true rfl) dX3_addMachine_2 ⟨Nat.le_of_ble_eq_true rfl, Nat.le_of_ble_eq_true rfl⟩ (pc' := 5) rfl rfl rfl rfl ?_
    refine j_ifb_eq (tgt := 26) cx dX3_addMachine_5 (by decide) (pc' := 8) rfl (fun h2 => ?_) (fun h2 => ?_)
    · refine j_iconst (v := 1) cx dX3_addMachine_26 (by decide) (pc' := 27) rfl ?_
      refine j_goto (tgt := 44) cx dX3_addMachine_27 (by decide) ?_
      refine j_cVR (cells1 := 0) (slots1 := 0) (st1 := [.int (bI (1 = 0))]) (As := [.int 1]) (rest := []) cx (c_X3_goesOn hX) gX3_addMachine_X3_goesOn rfl rfl rfl 1 rfl (by decide +kernel) ⟨Nat.le_of_ble_eq_true rfl, Nat.le_of_ble_eq_true rfl⟩ hX.1 rfl rfl rfl rfl (Nat.le_of_ble_eq_true rfl) dX3_addMachine_44 ⟨Nat.le_of_ble_eq_true rfl, Nat.le_of_ble_eq_true rfl⟩ (pc' := 47) rfl rfl rfl rfl ?_
      refine j_ifb_ne (tgt := 52) cx dX3_addMachine_47 (by decide) (pc' := 50) rfl (fun h => by first | exact absurd h (by decide) | exact absurd (by decide) h) (fun _ => ?_)
      refine j_iconst (v := 0) cx dX3_addMachine_50 (by decide) (pc' := 51) rfl ?_
      exact j_iret (ty := .int) cx hlk hr rfl (Nat.le_of_ble_eq_true rfl) (Nat.le_of_ble_eq_true rfl) dX3_addMachine_51 (yM_n (by first | (simp [kAdd, hc6, h2]; done) | (exfalso; contradiction)) (by decide))
    · refine j_iload_n (j := 2) cx dX3_addMachine_8 rfl rfl (pc' := 9) rfl ?_
      refine j_iconst (v := 0) cx dX3_addMachine_9 (by decide) (pc' := 10) rfl ?_
      refine j_iconst (v := 2) cx dX3_addMachine_10 (by decide) (pc' := 11) rfl ?_
      refine j_cSR (cells1 := 0) (slots1 := 0) (st1 := [.int (bI (¬ oR 0 2 r)), .ref (al 40 0)]) (As := [.int r, .int 0, .int 2]) (rest := [.ref (al 40 0)]) cx (c_X3_in) gX3_addMachine_X3_in rfl rfl rfl 3 rfl (by decide +kernel) ⟨Nat.le_of_ble_eq_true rfl, Nat.le_of_ble_eq_true rfl⟩ rfl (Nat.le_of_ble_eq_true rfl) dX3_addMachine_11 ⟨Nat.le_of_ble_eq_true rfl, Nat.le_of_ble_eq_true rfl⟩ (pc' := 14) rfl rfl rfl rfl ?_
      refine j_ifb_eq (tgt := 26) cx dX3_addMachine_14 (by decide) (pc' := 17) rfl (fun h6 => ?_) (fun h6 => ?_)
      · refine j_iconst (v := 1) cx dX3_addMachine_26 (by decide) (pc' := 27) rfl ?_
        refine j_goto (tgt := 44) cx dX3_addMachine_27 (by decide) ?_
        refine j_cVR (cells1 := 0) (slots1 := 0) (st1 := [.int (bI (1 = 0))]) (As := [.int 1]) (rest := []) cx (c_X3_goesOn hX) gX3_addMachine_X3_goesOn rfl rfl rfl 1 rfl (by decide +kernel) ⟨Nat.le_of_ble_eq_true rfl, Nat.le_of_ble_eq_true rfl⟩ hX.1 rfl rfl rfl rfl (Nat.le_of_ble_eq_true rfl) dX3_addMachine_44 ⟨Nat.le_of_ble_eq_true rfl, Nat.le_of_ble_eq_true rfl⟩ (pc' := 47) rfl rfl rfl rfl ?_
        refine j_ifb_ne (tgt := 52) cx dX3_addMachine_47 (by decide) (pc' := 50) rfl (fun h => by first | exact absurd h (by decide) | exact absurd (by decide) h) (fun _ => ?_)
        refine j_iconst (v := 0) cx dX3_addMachine_50 (by decide) (pc' := 51) rfl ?_
        exact j_iret (ty := .int) cx hlk hr rfl (Nat.le_of_ble_eq_true rfl) (Nat.le_of_ble_eq_true rfl) dX3_addMachine_51 (yM_n (by first | (simp [kAdd, hc6, h2, h6]; done) | (exfalso; contradiction)) (by decide))
      · refine j_iload_n (j := 3) cx dX3_addMachine_17 rfl rfl (pc' := 18) rfl ?_
        refine j_iconst (v := 1) cx dX3_addMachine_18 (by decide) (pc' := 19) rfl ?_
        refine j_iconst (v := 4) cx dX3_addMachine_19 (by decide) (pc' := 20) rfl ?_
        refine j_cSR (cells1 := 0) (slots1 := 0) (st1 := [.int (bI (¬ oR 1 4 s)), .ref (al 40 0)]) (As := [.int s, .int 1, .int 4]) (rest := [.ref (al 40 0)]) cx (c_X3_in) gX3_addMachine_X3_in rfl rfl rfl 3 rfl (by decide +kernel) ⟨Nat.le_of_ble_eq_true rfl, Nat.le_of_ble_eq_true rfl⟩ rfl (Nat.le_of_ble_eq_true rfl) dX3_addMachine_20 ⟨Nat.le_of_ble_eq_true rfl, Nat.le_of_ble_eq_true rfl⟩ (pc' := 23) rfl rfl rfl rfl ?_
        refine j_ifb_ne (tgt := 30) cx dX3_addMachine_23 (by decide) (pc' := 26) rfl (fun h10 => ?_) (fun h10 => ?_)
        · refine j_aload_n (j := 0) cx dX3_addMachine_30 rfl rfl (pc' := 31) rfl ?_
          refine j_get (fk := 4) (ref := "TerminalYardModel") (v := .int (nI nm)) cx hX.1 rfl (by decide +kernel) (by decide) (by decide +kernel) (fun _ h => h) ((yV_i rfl).trans (congrArg Value.int hm)) rfl dX3_addMachine_31 (pc' := 34) rfl ?_
          refine j_bipush (v := 6) cx dX3_addMachine_34 (by decide) (pc' := 36) rfl ?_
          refine j_icmp_ne (tgt := 43) cx dX3_addMachine_36 (by decide) (pc' := 39) rfl (fun h => by first | exact absurd h ((nI_6 (by omega) (by omega)).mpr hc6 : nI nm = nI 6) | exact absurd ((nI_6 (by omega) (by omega)).mpr hc6 : nI nm = nI 6) h) (fun _ => ?_)
          refine j_iconst (v := 2) cx dX3_addMachine_39 (by decide) (pc' := 40) rfl ?_
          refine j_goto (tgt := 44) cx dX3_addMachine_40 (by decide) ?_
          refine j_cVR (cells1 := 0) (slots1 := 0) (st1 := [.int (bI (2 = 0))]) (As := [.int 2]) (rest := []) cx (c_X3_goesOn hX) gX3_addMachine_X3_goesOn rfl rfl rfl 1 rfl (by decide +kernel) ⟨Nat.le_of_ble_eq_true rfl, Nat.le_of_ble_eq_true rfl⟩ hX.1 rfl rfl rfl rfl (Nat.le_of_ble_eq_true rfl) dX3_addMachine_44 ⟨Nat.le_of_ble_eq_true rfl, Nat.le_of_ble_eq_true rfl⟩ (pc' := 47) rfl rfl rfl rfl ?_
          refine j_ifb_ne (tgt := 52) cx dX3_addMachine_47 (by decide) (pc' := 50) rfl (fun h => by first | exact absurd h (by decide) | exact absurd (by decide) h) (fun _ => ?_)
          refine j_iconst (v := 0) cx dX3_addMachine_50 (by decide) (pc' := 51) rfl ?_
          exact j_iret (ty := .int) cx hlk hr rfl (Nat.le_of_ble_eq_true rfl) (Nat.le_of_ble_eq_true rfl) dX3_addMachine_51 (yM_n (by first | (simp [kAdd, hc6, h2, h6, h10]; done) | (exfalso; contradiction)) (by decide))
        · refine j_iconst (v := 1) cx dX3_addMachine_26 (by decide) (pc' := 27) rfl ?_
          refine j_goto (tgt := 44) cx dX3_addMachine_27 (by decide) ?_
          refine j_cVR (cells1 := 0) (slots1 := 0) (st1 := [.int (bI (1 = 0))]) (As := [.int 1]) (rest := []) cx (c_X3_goesOn hX) gX3_addMachine_X3_goesOn rfl rfl rfl 1 rfl (by decide +kernel) ⟨Nat.le_of_ble_eq_true rfl, Nat.le_of_ble_eq_true rfl⟩ hX.1 rfl rfl rfl rfl (Nat.le_of_ble_eq_true rfl) dX3_addMachine_44 ⟨Nat.le_of_ble_eq_true rfl, Nat.le_of_ble_eq_true rfl⟩ (pc' := 47) rfl rfl rfl rfl ?_
          refine j_ifb_ne (tgt := 52) cx dX3_addMachine_47 (by decide) (pc' := 50) rfl (fun h => by first | exact absurd h (by decide) | exact absurd (by decide) h) (fun _ => ?_)
          refine j_iconst (v := 0) cx dX3_addMachine_50 (by decide) (pc' := 51) rfl ?_
          exact j_iret (ty := .int) cx hlk hr rfl (Nat.le_of_ble_eq_true rfl) (Nat.le_of_ble_eq_true rfl) dX3_addMachine_51 (yM_n (by first | (simp [kAdd, hc6, h2, h6, h10]; done) | (exfalso; contradiction)) (by decide))
  have hc7 : nm < 6 := by omega
  have hc8 : ¬ 6 ≤ nm := by omega
  refine j_aload_n (j := 0) cx dX3_addMachine_0 rfl rfl (pc' := 1) rfl ?_
  refine j_iload_n (j := 1) cx dX3_addMachine_1 rfl rfl (pc' := 2) rfl ?_
  refine j_cSR (cells1 := 0) (slots1 := 0) (st1 := [.int (bI (¬ oR 0 2 p)), .ref (al 40 0)]) (As := [.int p]) (rest := [.ref (al 40 0)]) cx (c_X3_isPool) gX3_addMachine_X3_isPool rfl rfl rfl 1 rfl (by decide +kernel) ⟨Nat.le_of_ble_eq_true rfl, Nat.le_of_ble_eq_true rfl⟩ rfl (Nat.le_of_ble_eq_true rfl) dX3_addMachine_2 ⟨Nat.le_of_ble_eq_true rfl, Nat.le_of_ble_eq_true rfl⟩ (pc' := 5) rfl rfl rfl rfl ?_
  refine j_ifb_eq (tgt := 26) cx dX3_addMachine_5 (by decide) (pc' := 8) rfl (fun h2 => ?_) (fun h2 => ?_)
  · refine j_iconst (v := 1) cx dX3_addMachine_26 (by decide) (pc' := 27) rfl ?_
    refine j_goto (tgt := 44) cx dX3_addMachine_27 (by decide) ?_
    refine j_cVR (cells1 := 0) (slots1 := 0) (st1 := [.int (bI (1 = 0))]) (As := [.int 1]) (rest := []) cx (c_X3_goesOn hX) gX3_addMachine_X3_goesOn rfl rfl rfl 1 rfl (by decide +kernel) ⟨Nat.le_of_ble_eq_true rfl, Nat.le_of_ble_eq_true rfl⟩ hX.1 rfl rfl rfl rfl (Nat.le_of_ble_eq_true rfl) dX3_addMachine_44 ⟨Nat.le_of_ble_eq_true rfl, Nat.le_of_ble_eq_true rfl⟩ (pc' := 47) rfl rfl rfl rfl ?_
    refine j_ifb_ne (tgt := 52) cx dX3_addMachine_47 (by decide) (pc' := 50) rfl (fun h => by first | exact absurd h (by decide) | exact absurd (by decide) h) (fun _ => ?_)
    refine j_iconst (v := 0) cx dX3_addMachine_50 (by decide) (pc' := 51) rfl ?_
    exact j_iret (ty := .int) cx hlk hr rfl (Nat.le_of_ble_eq_true rfl) (Nat.le_of_ble_eq_true rfl) dX3_addMachine_51 (yM_n (by first | (simp [kAdd, hc8, h2]; done) | (exfalso; contradiction)) (by decide))
  · refine j_iload_n (j := 2) cx dX3_addMachine_8 rfl rfl (pc' := 9) rfl ?_
    refine j_iconst (v := 0) cx dX3_addMachine_9 (by decide) (pc' := 10) rfl ?_
    refine j_iconst (v := 2) cx dX3_addMachine_10 (by decide) (pc' := 11) rfl ?_
    refine j_cSR (cells1 := 0) (slots1 := 0) (st1 := [.int (bI (¬ oR 0 2 r)), .ref (al 40 0)]) (As := [.int r, .int 0, .int 2]) (rest := [.ref (al 40 0)]) cx (c_X3_in) gX3_addMachine_X3_in rfl rfl rfl 3 rfl (by decide +kernel) ⟨Nat.le_of_ble_eq_true rfl, Nat.le_of_ble_eq_true rfl⟩ rfl (Nat.le_of_ble_eq_true rfl) dX3_addMachine_11 ⟨Nat.le_of_ble_eq_true rfl, Nat.le_of_ble_eq_true rfl⟩ (pc' := 14) rfl rfl rfl rfl ?_
    refine j_ifb_eq (tgt := 26) cx dX3_addMachine_14 (by decide) (pc' := 17) rfl (fun h6 => ?_) (fun h6 => ?_)
    · refine j_iconst (v := 1) cx dX3_addMachine_26 (by decide) (pc' := 27) rfl ?_
      refine j_goto (tgt := 44) cx dX3_addMachine_27 (by decide) ?_
      refine j_cVR (cells1 := 0) (slots1 := 0) (st1 := [.int (bI (1 = 0))]) (As := [.int 1]) (rest := []) cx (c_X3_goesOn hX) gX3_addMachine_X3_goesOn rfl rfl rfl 1 rfl (by decide +kernel) ⟨Nat.le_of_ble_eq_true rfl, Nat.le_of_ble_eq_true rfl⟩ hX.1 rfl rfl rfl rfl (Nat.le_of_ble_eq_true rfl) dX3_addMachine_44 ⟨Nat.le_of_ble_eq_true rfl, Nat.le_of_ble_eq_true rfl⟩ (pc' := 47) rfl rfl rfl rfl ?_
      refine j_ifb_ne (tgt := 52) cx dX3_addMachine_47 (by decide) (pc' := 50) rfl (fun h => by first | exact absurd h (by decide) | exact absurd (by decide) h) (fun _ => ?_)
      refine j_iconst (v := 0) cx dX3_addMachine_50 (by decide) (pc' := 51) rfl ?_
      exact j_iret (ty := .int) cx hlk hr rfl (Nat.le_of_ble_eq_true rfl) (Nat.le_of_ble_eq_true rfl) dX3_addMachine_51 (yM_n (by first | (simp [kAdd, hc8, h2, h6]; done) | (exfalso; contradiction)) (by decide))
    · refine j_iload_n (j := 3) cx dX3_addMachine_17 rfl rfl (pc' := 18) rfl ?_
      refine j_iconst (v := 1) cx dX3_addMachine_18 (by decide) (pc' := 19) rfl ?_
      refine j_iconst (v := 4) cx dX3_addMachine_19 (by decide) (pc' := 20) rfl ?_
      refine j_cSR (cells1 := 0) (slots1 := 0) (st1 := [.int (bI (¬ oR 1 4 s)), .ref (al 40 0)]) (As := [.int s, .int 1, .int 4]) (rest := [.ref (al 40 0)]) cx (c_X3_in) gX3_addMachine_X3_in rfl rfl rfl 3 rfl (by decide +kernel) ⟨Nat.le_of_ble_eq_true rfl, Nat.le_of_ble_eq_true rfl⟩ rfl (Nat.le_of_ble_eq_true rfl) dX3_addMachine_20 ⟨Nat.le_of_ble_eq_true rfl, Nat.le_of_ble_eq_true rfl⟩ (pc' := 23) rfl rfl rfl rfl ?_
      refine j_ifb_ne (tgt := 30) cx dX3_addMachine_23 (by decide) (pc' := 26) rfl (fun h10 => ?_) (fun h10 => ?_)
      · refine j_aload_n (j := 0) cx dX3_addMachine_30 rfl rfl (pc' := 31) rfl ?_
        refine j_get (fk := 4) (ref := "TerminalYardModel") (v := .int (nI nm)) cx hX.1 rfl (by decide +kernel) (by decide) (by decide +kernel) (fun _ h => h) ((yV_i rfl).trans (congrArg Value.int hm)) rfl dX3_addMachine_31 (pc' := 34) rfl ?_
        refine j_bipush (v := 6) cx dX3_addMachine_34 (by decide) (pc' := 36) rfl ?_
        refine j_icmp_ne (tgt := 43) cx dX3_addMachine_36 (by decide) (pc' := 39) rfl (fun _ => ?_) (fun h => by first | exact absurd h (fun q : nI nm = nI 6 => hc6 ((nI_6 (by omega) (by omega)).mp q)) | exact absurd (fun q : nI nm = nI 6 => hc6 ((nI_6 (by omega) (by omega)).mp q)) h)
        refine j_iconst (v := 0) cx dX3_addMachine_43 (by decide) (pc' := 44) rfl ?_
        refine j_cVR (cells1 := 0) (slots1 := 0) (st1 := [.int (bI (0 = 0))]) (As := [.int 0]) (rest := []) cx (c_X3_goesOn hX) gX3_addMachine_X3_goesOn rfl rfl rfl 1 rfl (by decide +kernel) ⟨Nat.le_of_ble_eq_true rfl, Nat.le_of_ble_eq_true rfl⟩ hX.1 rfl rfl rfl rfl (Nat.le_of_ble_eq_true rfl) dX3_addMachine_44 ⟨Nat.le_of_ble_eq_true rfl, Nat.le_of_ble_eq_true rfl⟩ (pc' := 47) rfl rfl rfl rfl ?_
        refine j_ifb_ne (tgt := 52) cx dX3_addMachine_47 (by decide) (pc' := 50) rfl (fun _ => ?_) (fun h => by first | exact absurd h (by decide) | exact absurd (by decide) h)
        refine j_aload_n (j := 0) cx dX3_addMachine_52 rfl rfl (pc' := 53) rfl ?_
        refine j_get (fk := 5) (ref := "TerminalYardModel") (v := .ref (al 45 0)) cx hX.1 rfl (by decide +kernel) (by decide) (by decide +kernel) (fun _ h => h) (yV_r (k := (45, 0)) rfl) rfl dX3_addMachine_53 (pc' := 56) rfl ?_
        refine j_aload_n (j := 0) cx dX3_addMachine_56 rfl rfl (pc' := 57) rfl ?_
        refine j_get (fk := 4) (ref := "TerminalYardModel") (v := .int (nI nm)) cx hX.1 rfl (by decide +kernel) (by decide) (by decide +kernel) (fun _ h => h) ((yV_i rfl).trans (congrArg Value.int (by simp [sup, gO, mChg_o, lEmp_o, hm]))) rfl dX3_addMachine_57 (pc' := 60) rfl ?_
        refine j_iload_n (j := 1) cx dX3_addMachine_60 rfl rfl (pc' := 61) rfl ?_
        refine j_iast (jn := nm) cx hX.2.2.2.1 rfl (vp_in_nI (by omega) (by omega)) (nI_clamp (by omega)) rfl dX3_addMachine_61 (pc' := 62) rfl ?_
        refine j_aload_n (j := 0) cx dX3_addMachine_62 rfl rfl (pc' := 63) rfl ?_
        refine j_get (fk := 6) (ref := "TerminalYardModel") (v := .ref (al 46 0)) cx hX.1 rfl (by decide +kernel) (by decide) (by decide +kernel) (fun _ h => h) (yV_r (k := (46, 0)) rfl) rfl dX3_addMachine_63 (pc' := 66) rfl ?_
        refine j_aload_n (j := 0) cx dX3_addMachine_66 rfl rfl (pc' := 67) rfl ?_
        refine j_get (fk := 4) (ref := "TerminalYardModel") (v := .int (nI nm)) cx hX.1 rfl (by decide +kernel) (by decide) (by decide +kernel) (fun _ h => h) ((yV_i rfl).trans (congrArg Value.int (by simp [sup, gO, mChg_o, lEmp_o, hm]))) rfl dX3_addMachine_67 (pc' := 70) rfl ?_
        refine j_iload_n (j := 2) cx dX3_addMachine_70 rfl rfl (pc' := 71) rfl ?_
        refine j_iast (jn := nm) cx hX.2.2.2.2.1 rfl (vp_in_nI (by omega) (by omega)) (nI_clamp (by omega)) rfl dX3_addMachine_71 (pc' := 72) rfl ?_
        refine j_aload_n (j := 0) cx dX3_addMachine_72 rfl rfl (pc' := 73) rfl ?_
        refine j_get (fk := 7) (ref := "TerminalYardModel") (v := .ref (al 47 0)) cx hX.1 rfl (by decide +kernel) (by decide) (by decide +kernel) (fun _ h => h) (yV_r (k := (47, 0)) rfl) rfl dX3_addMachine_73 (pc' := 76) rfl ?_
        refine j_aload_n (j := 0) cx dX3_addMachine_76 rfl rfl (pc' := 77) rfl ?_
        refine j_get (fk := 4) (ref := "TerminalYardModel") (v := .int (nI nm)) cx hX.1 rfl (by decide +kernel) (by decide) (by decide +kernel) (fun _ h => h) ((yV_i rfl).trans (congrArg Value.int (by simp [sup, gO, mChg_o, lEmp_o, hm]))) rfl dX3_addMachine_77 (pc' := 80) rfl ?_
        refine j_iload_n (j := 3) cx dX3_addMachine_80 rfl rfl (pc' := 81) rfl ?_
        refine j_iast (jn := nm) cx hX.2.2.2.2.2.1 rfl (vp_in_nI (by omega) (by omega)) (nI_clamp (by omega)) rfl dX3_addMachine_81 (pc' := 82) rfl ?_
        refine j_aload_n (j := 0) cx dX3_addMachine_82 rfl rfl (pc' := 83) rfl ?_
        refine j_get (fk := 8) (ref := "TerminalYardModel") (v := .ref (al 48 0)) cx hX.1 rfl (by decide +kernel) (by decide) (by decide +kernel) (fun _ h => h) (yV_r (k := (48, 0)) rfl) rfl dX3_addMachine_83 (pc' := 86) rfl ?_
        refine j_aload_n (j := 0) cx dX3_addMachine_86 rfl rfl (pc' := 87) rfl ?_
        refine j_get (fk := 4) (ref := "TerminalYardModel") (v := .int (nI nm)) cx hX.1 rfl (by decide +kernel) (by decide) (by decide +kernel) (fun _ h => h) ((yV_i rfl).trans (congrArg Value.int (by simp [sup, gO, mChg_o, lEmp_o, hm]))) rfl dX3_addMachine_87 (pc' := 90) rfl ?_
        refine j_bipush (v := 117) cx dX3_addMachine_90 (by decide) (pc' := 92) rfl ?_
        refine j_cast (jn := nm) cx hX.2.2.2.2.2.2.1 rfl (vp_in_nI (by omega) (by omega)) rfl (nI_clamp (by omega)) rfl dX3_addMachine_92 (pc' := 93) rfl ?_
        refine j_aload_n (j := 0) cx dX3_addMachine_93 rfl rfl (pc' := 94) rfl ?_
        refine j_dup cx dX3_addMachine_94 rfl (pc' := 95) rfl ?_
        refine j_get (fk := 4) (ref := "TerminalYardModel") (v := .int (nI nm)) cx hX.1 rfl (by decide +kernel) (by decide) (by decide +kernel) (fun _ h => h) ((yV_i rfl).trans (congrArg Value.int (by simp [sup, gO, mChg_o, lEmp_o, hm]))) rfl dX3_addMachine_95 (pc' := 98) rfl ?_
        refine j_iconst (v := 1) cx dX3_addMachine_98 (by decide) (pc' := 99) rfl ?_
        refine j_iadd cx dX3_addMachine_99 (pc' := 100) rfl ?_
        refine j_puti (fk := 4) (ref := "TerminalYardModel") (ty := .int) cx hX.1 rfl (by decide +kernel) (by decide) (by decide +kernel) (fun _ h => h) tyX3 tyX3_ok nmX3 rfl (by decide +kernel) rfl rfl rfl rfl dX3_addMachine_100 (pc' := 103) rfl ?_
        refine j_aload_n (j := 0) cx dX3_addMachine_103 rfl rfl (pc' := 104) rfl ?_
        refine j_get (fk := 4) (ref := "TerminalYardModel") (v := .int ((nI nm) + 1)) cx hX.1 rfl (by decide +kernel) (by decide) (by decide +kernel) (fun _ h => h) ((yV_i rfl).trans (congrArg Value.int (by simp [sup, gO, mChg_o, lEmp_o]))) rfl dX3_addMachine_104 (pc' := 107) rfl ?_
        refine j_iconst (v := 1) cx dX3_addMachine_107 (by decide) (pc' := 108) rfl ?_
        refine j_isub cx dX3_addMachine_108 (pc' := 109) rfl ?_
        exact j_iret (ty := .int) cx hlk hr rfl (Nat.le_of_ble_eq_true rfl) (Nat.le_of_ble_eq_true rfl) dX3_addMachine_109 (yM_0 (by simp [kAdd, hc8, h2, h6, h10]) (by simp [sup]) (by simp [sup]))
      · refine j_iconst (v := 1) cx dX3_addMachine_26 (by decide) (pc' := 27) rfl ?_
        refine j_goto (tgt := 44) cx dX3_addMachine_27 (by decide) ?_
        refine j_cVR (cells1 := 0) (slots1 := 0) (st1 := [.int (bI (1 = 0))]) (As := [.int 1]) (rest := []) cx (c_X3_goesOn hX) gX3_addMachine_X3_goesOn rfl rfl rfl 1 rfl (by decide +kernel) ⟨Nat.le_of_ble_eq_true rfl, Nat.le_of_ble_eq_true rfl⟩ hX.1 rfl rfl rfl rfl (Nat.le_of_ble_eq_true rfl) dX3_addMachine_44 ⟨Nat.le_of_ble_eq_true rfl, Nat.le_of_ble_eq_true rfl⟩ (pc' := 47) rfl rfl rfl rfl ?_
        refine j_ifb_ne (tgt := 52) cx dX3_addMachine_47 (by decide) (pc' := 50) rfl (fun h => by first | exact absurd h (by decide) | exact absurd (by decide) h) (fun _ => ?_)
        refine j_iconst (v := 0) cx dX3_addMachine_50 (by decide) (pc' := 51) rfl ?_
        exact j_iret (ty := .int) cx hlk hr rfl (Nat.le_of_ble_eq_true rfl) (Nat.le_of_ble_eq_true rfl) dX3_addMachine_51 (yM_n (by first | (simp [kAdd, hc8, h2, h6, h10]; done) | (exfalso; contradiction)) (by decide))
set_option maxHeartbeats 4000000 in
set_option maxRecDepth 100000 in
theorem c_X3_minutesBySessions {l : Launch} {Z : yL} {al : yAl} {sh : ySh} {S : yS} {nm ns : Nat} {d : Int32} (hX : YM Z sh) (hI : XI S nm ns) : Ct l yX3_minutesBySessions wsX3_minutesBySessions ({ frames := 3, cells := 0, slots := 0, locals := 63 }) 0 0 Z [.ref (al 40 0), .int d] al sh S (yM (kDep d) al sh (S 49 0 d.toNatClampNeg) (sup S 40 0 0 0) S) := by
  obtain ⟨hm, hs, hnm, hns, hus, hde, hmo, hpo, hro, hho, hen⟩ := id hI
  refine Ct.of (lv := [(0, .ref (al 40 0)), (1, .int d)]) (by decide) rfl (Nat.le_of_ble_eq_true rfl) rfl ?_
  intro p_ e_ s_ m_ below_ meth_ c_ cx hlk hr hnm9
  refine j_aload_n (j := 0) cx dX3_minutesBySessions_0 rfl rfl (pc' := 1) rfl ?_
  refine j_iload_n (j := 1) cx dX3_minutesBySessions_1 rfl rfl (pc' := 2) rfl ?_
  refine j_cVP (cells1 := 0) (slots1 := 0) (As := [.int d]) (rest := []) cx (c_X3_minutes hX hI) gX3_minutesBySessions_X3_minutes rfl rfl rfl 1 rfl (by decide +kernel) ⟨Nat.le_of_ble_eq_true rfl, Nat.le_of_ble_eq_true rfl⟩ hX.1 rfl rfl rfl rfl (Nat.le_of_ble_eq_true rfl) dX3_minutesBySessions_2 ⟨Nat.le_of_ble_eq_true rfl, Nat.le_of_ble_eq_true rfl⟩ (pc' := 5) rfl rfl rfl (fun v9 al9 sh9 S9 h9 => ?_)
  obtain ⟨e1, e2, e3⟩ := h9
  subst al9 sh9
  obtain ⟨r9, hr9⟩ : ∃ r9, v9 = some (.int r9) := by split at e3 <;> exact ⟨_, e3.1⟩
  subst hr9
  refine J.stk (st2 := [.int r9]) rfl ?_
  exact j_iret (ty := .int) cx hlk hr rfl (Nat.le_of_ble_eq_true rfl) (Nat.le_of_ble_eq_true rfl) dX3_minutesBySessions_5 ⟨rfl, rfl, e3⟩
set_option maxHeartbeats 4000000 in
set_option maxRecDepth 100000 in
theorem c_X3_logIn {l : Launch} {Z : yL} {al : yAl} {sh : ySh} {S : yS} {nm ns : Nat} {u p : Int32} (hX : YM Z sh) (hI : XI S nm ns) : Ct l yX3_logIn wsX3_logIn ({ frames := 3, cells := 0, slots := 0, locals := 68 }) 0 0 Z [.ref (al 40 0), .int u, .int p] al sh S (yM (xIn u p (¬ mOwns (S 59 0) (S 53 0) u 0 0 ns = 0) ns (S 49 0 (S 51 0 u.toNatClampNeg).toNatClampNeg) (mNx (S 59 0) (S 55 0) (S 45 0) (S 48 0) (S 47 0) p ns 0 (-1) nm)) al sh (nI ns) (sup (sup (sup (sup (sup (sup (sup S 40 0 0 0) 53 0 ns u) 54 0 ns u) 55 0 ns (mNx (S 59 0) (S 55 0) (S 45 0) (S 48 0) (S 47 0) p ns 0 (-1) nm)) 56 0 ns (S 40 0 1)) 57 0 ns (S 40 0 1)) 40 0 12 (nI ns + 1)) S) := by
  obtain ⟨hm, hs, hnm, hns, hus, hde, hmo, hpo, hro, hho, hen⟩ := id hI
  refine Ct.of (lv := [(0, .ref (al 40 0)), (1, .int u), (2, .int p)]) (by decide) rfl (Nat.le_of_ble_eq_true rfl) rfl ?_
  intro p_ e_ s_ m_ below_ meth_ c_ cx hlk hr hnm9
  by_cases hc6 : ns = 40
  · refine j_iload_n (j := 1) cx dX3_logIn_0 rfl rfl (pc' := 1) rfl ?_
    refine j_cSR (cells1 := 0) (slots1 := 0) (st1 := [.int (bI (¬ oR 0 9 u))]) (As := [.int u]) (rest := []) cx (c_X3_isUser) gX3_logIn_X3_isUser rfl rfl rfl 1 rfl (by decide +kernel) ⟨Nat.le_of_ble_eq_true rfl, Nat.le_of_ble_eq_true rfl⟩ rfl (Nat.le_of_ble_eq_true rfl) dX3_logIn_1 ⟨Nat.le_of_ble_eq_true rfl, Nat.le_of_ble_eq_true rfl⟩ (pc' := 4) rfl rfl rfl rfl ?_
    refine j_ifb_eq (tgt := 14) cx dX3_logIn_4 (by decide) (pc' := 7) rfl (fun h2 => ?_) (fun h2 => ?_)
    · refine j_iconst (v := 1) cx dX3_logIn_14 (by decide) (pc' := 15) rfl ?_
      refine j_goto (tgt := 71) cx dX3_logIn_15 (by decide) ?_
      refine j_istore_n (lv' := [(3, .int 1), (0, .ref (al 40 0)), (1, .int u), (2, .int p)]) cx dX3_logIn_71 rfl (by decide) rfl (pc' := 72) rfl ?_
      refine j_aload_n (j := 1) cx dX3_logIn_72 rfl rfl (pc' := 73) rfl ?_
      refine j_iload_n (j := 0) cx dX3_logIn_73 rfl rfl (pc' := 74) rfl ?_
      refine j_cVR (cells1 := 0) (slots1 := 0) (st1 := [.int (bI (1 = 0))]) (As := [.int 1]) (rest := []) cx (c_X3_goesOn hX) gX3_logIn_X3_goesOn rfl rfl rfl 1 rfl (by decide +kernel) ⟨Nat.le_of_ble_eq_true rfl, Nat.le_of_ble_eq_true rfl⟩ hX.1 rfl rfl rfl rfl (Nat.le_of_ble_eq_true rfl) dX3_logIn_74 ⟨Nat.le_of_ble_eq_true rfl, Nat.le_of_ble_eq_true rfl⟩ (pc' := 77) rfl rfl rfl rfl ?_
      refine j_ifb_ne (tgt := 82) cx dX3_logIn_77 (by decide) (pc' := 80) rfl (fun h => by first | exact absurd h (by decide) | exact absurd (by decide) h) (fun _ => ?_)
      refine j_iconst (v := 0) cx dX3_logIn_80 (by decide) (pc' := 81) rfl ?_
      exact j_iret (ty := .int) cx hlk hr rfl (Nat.le_of_ble_eq_true rfl) (Nat.le_of_ble_eq_true rfl) dX3_logIn_81 (yM_n (by first | (simp [xIn, hc6, h2]; done) | (exfalso; contradiction)) (by decide))
    · refine j_iload_n (j := 2) cx dX3_logIn_7 rfl rfl (pc' := 8) rfl ?_
      refine j_cSR (cells1 := 0) (slots1 := 0) (st1 := [.int (bI (¬ oR 0 2 p))]) (As := [.int p]) (rest := []) cx (c_X3_isPool) gX3_logIn_X3_isPool rfl rfl rfl 1 rfl (by decide +kernel) ⟨Nat.le_of_ble_eq_true rfl, Nat.le_of_ble_eq_true rfl⟩ rfl (Nat.le_of_ble_eq_true rfl) dX3_logIn_8 ⟨Nat.le_of_ble_eq_true rfl, Nat.le_of_ble_eq_true rfl⟩ (pc' := 11) rfl rfl rfl rfl ?_
      refine j_ifb_ne (tgt := 18) cx dX3_logIn_11 (by decide) (pc' := 14) rfl (fun h6 => ?_) (fun h6 => ?_)
      · refine j_aload_n (j := 0) cx dX3_logIn_18 rfl rfl (pc' := 19) rfl ?_
        refine j_iload_n (j := 1) cx dX3_logIn_19 rfl rfl (pc' := 20) rfl ?_
        refine j_cVR (cells1 := 0) (slots1 := 0) (st1 := [.int (mOwns (S 59 0) (S 53 0) u 0 0 ns)]) (As := [.int u]) (rest := []) cx (c_X3_owns (e := S 59 0) (ow := S 53 0) hX hI rfl rfl) gX3_logIn_X3_owns rfl rfl rfl 1 rfl (by decide +kernel) ⟨Nat.le_of_ble_eq_true rfl, Nat.le_of_ble_eq_true rfl⟩ hX.1 rfl rfl rfl rfl (Nat.le_of_ble_eq_true rfl) dX3_logIn_20 ⟨Nat.le_of_ble_eq_true rfl, Nat.le_of_ble_eq_true rfl⟩ (pc' := 23) rfl rfl rfl rfl ?_
        refine j_if_ne (tgt := 35) cx dX3_logIn_23 (by decide) (pc' := 26) rfl (fun h8 => ?_) (fun h8 => ?_)
        · refine j_iconst (v := 2) cx dX3_logIn_35 (by decide) (pc' := 36) rfl ?_
          refine j_goto (tgt := 71) cx dX3_logIn_36 (by decide) ?_
          refine j_istore_n (lv' := [(3, .int 2), (0, .ref (al 40 0)), (1, .int u), (2, .int p)]) cx dX3_logIn_71 rfl (by decide) rfl (pc' := 72) rfl ?_
          refine j_aload_n (j := 1) cx dX3_logIn_72 rfl rfl (pc' := 73) rfl ?_
          refine j_iload_n (j := 0) cx dX3_logIn_73 rfl rfl (pc' := 74) rfl ?_
          refine j_cVR (cells1 := 0) (slots1 := 0) (st1 := [.int (bI (2 = 0))]) (As := [.int 2]) (rest := []) cx (c_X3_goesOn hX) gX3_logIn_X3_goesOn rfl rfl rfl 1 rfl (by decide +kernel) ⟨Nat.le_of_ble_eq_true rfl, Nat.le_of_ble_eq_true rfl⟩ hX.1 rfl rfl rfl rfl (Nat.le_of_ble_eq_true rfl) dX3_logIn_74 ⟨Nat.le_of_ble_eq_true rfl, Nat.le_of_ble_eq_true rfl⟩ (pc' := 77) rfl rfl rfl rfl ?_
          refine j_ifb_ne (tgt := 82) cx dX3_logIn_77 (by decide) (pc' := 80) rfl (fun h => by first | exact absurd h (by decide) | exact absurd (by decide) h) (fun _ => ?_)
          refine j_iconst (v := 0) cx dX3_logIn_80 (by decide) (pc' := 81) rfl ?_
          exact j_iret (ty := .int) cx hlk hr rfl (Nat.le_of_ble_eq_true rfl) (Nat.le_of_ble_eq_true rfl) dX3_logIn_81 (yM_n (by first | (simp [xIn, hc6, h2, h6, h8]; done) | (exfalso; contradiction)) (by decide))
        · refine j_aload_n (j := 0) cx dX3_logIn_26 rfl rfl (pc' := 27) rfl ?_
          refine j_get (fk := 12) (ref := "TerminalYardModel") (v := .int (nI ns)) cx hX.1 rfl (by decide +kernel) (by decide) (by decide +kernel) (fun _ h => h) ((yV_i rfl).trans (congrArg Value.int hs)) rfl dX3_logIn_27 (pc' := 30) rfl ?_
          refine j_bipush (v := 40) cx dX3_logIn_30 (by decide) (pc' := 32) rfl ?_
          refine j_icmp_ne (tgt := 39) cx dX3_logIn_32 (by decide) (pc' := 35) rfl (fun h => by first | exact absurd h ((nI_6 (by omega) (by omega)).mpr hc6 : nI ns = nI 40) | exact absurd ((nI_6 (by omega) (by omega)).mpr hc6 : nI ns = nI 40) h) (fun _ => ?_)
          refine j_iconst (v := 2) cx dX3_logIn_35 (by decide) (pc' := 36) rfl ?_
          refine j_goto (tgt := 71) cx dX3_logIn_36 (by decide) ?_
          refine j_istore_n (lv' := [(3, .int 2), (0, .ref (al 40 0)), (1, .int u), (2, .int p)]) cx dX3_logIn_71 rfl (by decide) rfl (pc' := 72) rfl ?_
          refine j_aload_n (j := 1) cx dX3_logIn_72 rfl rfl (pc' := 73) rfl ?_
          refine j_iload_n (j := 0) cx dX3_logIn_73 rfl rfl (pc' := 74) rfl ?_
          refine j_cVR (cells1 := 0) (slots1 := 0) (st1 := [.int (bI (2 = 0))]) (As := [.int 2]) (rest := []) cx (c_X3_goesOn hX) gX3_logIn_X3_goesOn rfl rfl rfl 1 rfl (by decide +kernel) ⟨Nat.le_of_ble_eq_true rfl, Nat.le_of_ble_eq_true rfl⟩ hX.1 rfl rfl rfl rfl (Nat.le_of_ble_eq_true rfl) dX3_logIn_74 ⟨Nat.le_of_ble_eq_true rfl, Nat.le_of_ble_eq_true rfl⟩ (pc' := 77) rfl rfl rfl rfl ?_
          refine j_ifb_ne (tgt := 82) cx dX3_logIn_77 (by decide) (pc' := 80) rfl (fun h => by first | exact absurd h (by decide) | exact absurd (by decide) h) (fun _ => ?_)
          refine j_iconst (v := 0) cx dX3_logIn_80 (by decide) (pc' := 81) rfl ?_
          exact j_iret (ty := .int) cx hlk hr rfl (Nat.le_of_ble_eq_true rfl) (Nat.le_of_ble_eq_true rfl) dX3_logIn_81 (yM_n (by first | (simp [xIn, hc6, h2, h6, h8]; done) | (exfalso; contradiction)) (by decide))
      · refine j_iconst (v := 1) cx dX3_logIn_14 (by decide) (pc' := 15) rfl ?_
        refine j_goto (tgt := 71) cx dX3_logIn_15 (by decide) ?_
        refine j_istore_n (lv' := [(3, .int 1), (0, .ref (al 40 0)), (1, .int u), (2, .int p)]) cx dX3_logIn_71 rfl (by decide) rfl (pc' := 72) rfl ?_
        refine j_aload_n (j := 1) cx dX3_logIn_72 rfl rfl (pc' := 73) rfl ?_
        refine j_iload_n (j := 0) cx dX3_logIn_73 rfl rfl (pc' := 74) rfl ?_
        refine j_cVR (cells1 := 0) (slots1 := 0) (st1 := [.int (bI (1 = 0))]) (As := [.int 1]) (rest := []) cx (c_X3_goesOn hX) gX3_logIn_X3_goesOn rfl rfl rfl 1 rfl (by decide +kernel) ⟨Nat.le_of_ble_eq_true rfl, Nat.le_of_ble_eq_true rfl⟩ hX.1 rfl rfl rfl rfl (Nat.le_of_ble_eq_true rfl) dX3_logIn_74 ⟨Nat.le_of_ble_eq_true rfl, Nat.le_of_ble_eq_true rfl⟩ (pc' := 77) rfl rfl rfl rfl ?_
        refine j_ifb_ne (tgt := 82) cx dX3_logIn_77 (by decide) (pc' := 80) rfl (fun h => by first | exact absurd h (by decide) | exact absurd (by decide) h) (fun _ => ?_)
        refine j_iconst (v := 0) cx dX3_logIn_80 (by decide) (pc' := 81) rfl ?_
        exact j_iret (ty := .int) cx hlk hr rfl (Nat.le_of_ble_eq_true rfl) (Nat.le_of_ble_eq_true rfl) dX3_logIn_81 (yM_n (by first | (simp [xIn, hc6, h2, h6]; done) | (exfalso; contradiction)) (by decide))
  have hc7 : ns < 40 := by omega
  have hc8 : ¬ 40 ≤ ns := by omega
  refine j_iload_n (j := 1) cx dX3_logIn_0 rfl rfl (pc' := 1) rfl ?_
  refine j_cSR (cells1 := 0) (slots1 := 0) (st1 := [.int (bI (¬ oR 0 9 u))]) (As := [.int u]) (rest := []) cx (c_X3_isUser) gX3_logIn_X3_isUser rfl rfl rfl 1 rfl (by decide +kernel) ⟨Nat.le_of_ble_eq_true rfl, Nat.le_of_ble_eq_true rfl⟩ rfl (Nat.le_of_ble_eq_true rfl) dX3_logIn_1 ⟨Nat.le_of_ble_eq_true rfl, Nat.le_of_ble_eq_true rfl⟩ (pc' := 4) rfl rfl rfl rfl ?_
  refine j_ifb_eq (tgt := 14) cx dX3_logIn_4 (by decide) (pc' := 7) rfl (fun h2 => ?_) (fun h2 => ?_)
  · refine j_iconst (v := 1) cx dX3_logIn_14 (by decide) (pc' := 15) rfl ?_
    refine j_goto (tgt := 71) cx dX3_logIn_15 (by decide) ?_
    refine j_istore_n (lv' := [(3, .int 1), (0, .ref (al 40 0)), (1, .int u), (2, .int p)]) cx dX3_logIn_71 rfl (by decide) rfl (pc' := 72) rfl ?_
    refine j_aload_n (j := 1) cx dX3_logIn_72 rfl rfl (pc' := 73) rfl ?_
    refine j_iload_n (j := 0) cx dX3_logIn_73 rfl rfl (pc' := 74) rfl ?_
    refine j_cVR (cells1 := 0) (slots1 := 0) (st1 := [.int (bI (1 = 0))]) (As := [.int 1]) (rest := []) cx (c_X3_goesOn hX) gX3_logIn_X3_goesOn rfl rfl rfl 1 rfl (by decide +kernel) ⟨Nat.le_of_ble_eq_true rfl, Nat.le_of_ble_eq_true rfl⟩ hX.1 rfl rfl rfl rfl (Nat.le_of_ble_eq_true rfl) dX3_logIn_74 ⟨Nat.le_of_ble_eq_true rfl, Nat.le_of_ble_eq_true rfl⟩ (pc' := 77) rfl rfl rfl rfl ?_
    refine j_ifb_ne (tgt := 82) cx dX3_logIn_77 (by decide) (pc' := 80) rfl (fun h => by first | exact absurd h (by decide) | exact absurd (by decide) h) (fun _ => ?_)
    refine j_iconst (v := 0) cx dX3_logIn_80 (by decide) (pc' := 81) rfl ?_
    exact j_iret (ty := .int) cx hlk hr rfl (Nat.le_of_ble_eq_true rfl) (Nat.le_of_ble_eq_true rfl) dX3_logIn_81 (yM_n (by first | (simp [xIn, hc8, h2]; done) | (exfalso; contradiction)) (by decide))
  · refine j_iload_n (j := 2) cx dX3_logIn_7 rfl rfl (pc' := 8) rfl ?_
    refine j_cSR (cells1 := 0) (slots1 := 0) (st1 := [.int (bI (¬ oR 0 2 p))]) (As := [.int p]) (rest := []) cx (c_X3_isPool) gX3_logIn_X3_isPool rfl rfl rfl 1 rfl (by decide +kernel) ⟨Nat.le_of_ble_eq_true rfl, Nat.le_of_ble_eq_true rfl⟩ rfl (Nat.le_of_ble_eq_true rfl) dX3_logIn_8 ⟨Nat.le_of_ble_eq_true rfl, Nat.le_of_ble_eq_true rfl⟩ (pc' := 11) rfl rfl rfl rfl ?_
    refine j_ifb_ne (tgt := 18) cx dX3_logIn_11 (by decide) (pc' := 14) rfl (fun h6 => ?_) (fun h6 => ?_)
    · refine j_aload_n (j := 0) cx dX3_logIn_18 rfl rfl (pc' := 19) rfl ?_
      refine j_iload_n (j := 1) cx dX3_logIn_19 rfl rfl (pc' := 20) rfl ?_
      refine j_cVR (cells1 := 0) (slots1 := 0) (st1 := [.int (mOwns (S 59 0) (S 53 0) u 0 0 ns)]) (As := [.int u]) (rest := []) cx (c_X3_owns (e := S 59 0) (ow := S 53 0) hX hI rfl rfl) gX3_logIn_X3_owns rfl rfl rfl 1 rfl (by decide +kernel) ⟨Nat.le_of_ble_eq_true rfl, Nat.le_of_ble_eq_true rfl⟩ hX.1 rfl rfl rfl rfl (Nat.le_of_ble_eq_true rfl) dX3_logIn_20 ⟨Nat.le_of_ble_eq_true rfl, Nat.le_of_ble_eq_true rfl⟩ (pc' := 23) rfl rfl rfl rfl ?_
      refine j_if_ne (tgt := 35) cx dX3_logIn_23 (by decide) (pc' := 26) rfl (fun h8 => ?_) (fun h8 => ?_)
      · refine j_iconst (v := 2) cx dX3_logIn_35 (by decide) (pc' := 36) rfl ?_
        refine j_goto (tgt := 71) cx dX3_logIn_36 (by decide) ?_
        refine j_istore_n (lv' := [(3, .int 2), (0, .ref (al 40 0)), (1, .int u), (2, .int p)]) cx dX3_logIn_71 rfl (by decide) rfl (pc' := 72) rfl ?_
        refine j_aload_n (j := 1) cx dX3_logIn_72 rfl rfl (pc' := 73) rfl ?_
        refine j_iload_n (j := 0) cx dX3_logIn_73 rfl rfl (pc' := 74) rfl ?_
        refine j_cVR (cells1 := 0) (slots1 := 0) (st1 := [.int (bI (2 = 0))]) (As := [.int 2]) (rest := []) cx (c_X3_goesOn hX) gX3_logIn_X3_goesOn rfl rfl rfl 1 rfl (by decide +kernel) ⟨Nat.le_of_ble_eq_true rfl, Nat.le_of_ble_eq_true rfl⟩ hX.1 rfl rfl rfl rfl (Nat.le_of_ble_eq_true rfl) dX3_logIn_74 ⟨Nat.le_of_ble_eq_true rfl, Nat.le_of_ble_eq_true rfl⟩ (pc' := 77) rfl rfl rfl rfl ?_
        refine j_ifb_ne (tgt := 82) cx dX3_logIn_77 (by decide) (pc' := 80) rfl (fun h => by first | exact absurd h (by decide) | exact absurd (by decide) h) (fun _ => ?_)
        refine j_iconst (v := 0) cx dX3_logIn_80 (by decide) (pc' := 81) rfl ?_
        exact j_iret (ty := .int) cx hlk hr rfl (Nat.le_of_ble_eq_true rfl) (Nat.le_of_ble_eq_true rfl) dX3_logIn_81 (yM_n (by first | (simp [xIn, hc8, h2, h6, h8]; done) | (exfalso; contradiction)) (by decide))
      · refine j_aload_n (j := 0) cx dX3_logIn_26 rfl rfl (pc' := 27) rfl ?_
        refine j_get (fk := 12) (ref := "TerminalYardModel") (v := .int (nI ns)) cx hX.1 rfl (by decide +kernel) (by decide) (by decide +kernel) (fun _ h => h) ((yV_i rfl).trans (congrArg Value.int hs)) rfl dX3_logIn_27 (pc' := 30) rfl ?_
        refine j_bipush (v := 40) cx dX3_logIn_30 (by decide) (pc' := 32) rfl ?_
        refine j_icmp_ne (tgt := 39) cx dX3_logIn_32 (by decide) (pc' := 35) rfl (fun _ => ?_) (fun h => by first | exact absurd h (fun q : nI ns = nI 40 => hc6 ((nI_6 (by omega) (by omega)).mp q)) | exact absurd (fun q : nI ns = nI 40 => hc6 ((nI_6 (by omega) (by omega)).mp q)) h)
        refine j_aload_n (j := 0) cx dX3_logIn_39 rfl rfl (pc' := 40) rfl ?_
        refine j_get (fk := 9) (ref := "TerminalYardModel") (v := .ref (al 49 0)) cx hX.1 rfl (by decide +kernel) (by decide) (by decide +kernel) (fun _ h => h) (yV_r (k := (49, 0)) rfl) rfl dX3_logIn_40 (pc' := 43) rfl ?_
        refine j_aload_n (j := 0) cx dX3_logIn_43 rfl rfl (pc' := 44) rfl ?_
        refine j_get (fk := 11) (ref := "TerminalYardModel") (v := .ref (al 51 0)) cx hX.1 rfl (by decide +kernel) (by decide) (by decide +kernel) (fun _ h => h) (yV_r (k := (51, 0)) rfl) rfl dX3_logIn_44 (pc' := 47) rfl ?_
        refine j_iload_n (j := 1) cx dX3_logIn_47 rfl rfl (pc' := 48) rfl ?_
        refine j_iald (v := S 51 0 u.toNatClampNeg) cx hX.2.2.2.2.2.2.2.2.2.1 rfl (vp_in_out (b := 9) (by decide) h2) rfl rfl dX3_logIn_48 (pc' := 49) rfl ?_
        refine j_iald (v := S 49 0 ((S 51 0 u.toNatClampNeg).toNatClampNeg)) cx hX.2.2.2.2.2.2.2.1 rfl (hde _ (ix_of (vp_in_out (b := 9) (by decide) h2))) rfl rfl dX3_logIn_49 (pc' := 50) rfl ?_
        refine j_if_ne (tgt := 57) cx dX3_logIn_50 (by decide) (pc' := 53) rfl (fun h12 => ?_) (fun h12 => ?_)
        · refine j_aload_n (j := 0) cx dX3_logIn_57 rfl rfl (pc' := 58) rfl ?_
          refine j_iload_n (j := 2) cx dX3_logIn_58 rfl rfl (pc' := 59) rfl ?_
          refine j_cVR (cells1 := 0) (slots1 := 0) (st1 := [.int (mNx (S 59 0) (S 55 0) (S 45 0) (S 48 0) (S 47 0) p ns 0 (-1) nm)]) (As := [.int p]) (rest := []) cx (c_X3_nextIn (e := S 59 0) (mo := S 55 0) (po := S 45 0) (ho := S 48 0) (se := S 47 0) hX hI rfl rfl rfl rfl rfl) gX3_logIn_X3_nextIn rfl rfl rfl 1 rfl (by decide +kernel) ⟨Nat.le_of_ble_eq_true rfl, Nat.le_of_ble_eq_true rfl⟩ hX.1 rfl rfl rfl rfl (Nat.le_of_ble_eq_true rfl) dX3_logIn_59 ⟨Nat.le_of_ble_eq_true rfl, Nat.le_of_ble_eq_true rfl⟩ (pc' := 62) rfl rfl rfl rfl ?_
          refine j_iconst (v := (-1)) cx dX3_logIn_62 (by decide) (pc' := 63) rfl ?_
          refine j_icmp_ne (tgt := 70) cx dX3_logIn_63 (by decide) (pc' := 66) rfl (fun h14 => ?_) (fun h14 => ?_)
          · refine j_iconst (v := 0) cx dX3_logIn_70 (by decide) (pc' := 71) rfl ?_
            refine j_istore_n (lv' := [(3, .int 0), (0, .ref (al 40 0)), (1, .int u), (2, .int p)]) cx dX3_logIn_71 rfl (by decide) rfl (pc' := 72) rfl ?_
            refine j_aload_n (j := 1) cx dX3_logIn_72 rfl rfl (pc' := 73) rfl ?_
            refine j_iload_n (j := 0) cx dX3_logIn_73 rfl rfl (pc' := 74) rfl ?_
            refine j_cVR (cells1 := 0) (slots1 := 0) (st1 := [.int (bI (0 = 0))]) (As := [.int 0]) (rest := []) cx (c_X3_goesOn hX) gX3_logIn_X3_goesOn rfl rfl rfl 1 rfl (by decide +kernel) ⟨Nat.le_of_ble_eq_true rfl, Nat.le_of_ble_eq_true rfl⟩ hX.1 rfl rfl rfl rfl (Nat.le_of_ble_eq_true rfl) dX3_logIn_74 ⟨Nat.le_of_ble_eq_true rfl, Nat.le_of_ble_eq_true rfl⟩ (pc' := 77) rfl rfl rfl rfl ?_
            refine j_ifb_ne (tgt := 82) cx dX3_logIn_77 (by decide) (pc' := 80) rfl (fun _ => ?_) (fun h => by first | exact absurd h (by decide) | exact absurd (by decide) h)
            refine j_aload_n (j := 1) cx dX3_logIn_82 rfl rfl (pc' := 83) rfl ?_
            refine j_iload_n (j := 3) cx dX3_logIn_83 rfl rfl (pc' := 84) rfl ?_
            refine j_cVR (cells1 := 0) (slots1 := 0) (st1 := [.int (mNx (S 59 0) (S 55 0) (S 45 0) (S 48 0) (S 47 0) p ns 0 (-1) nm)]) (As := [.int p]) (rest := []) cx (c_X3_nextIn (e := S 59 0) (mo := S 55 0) (po := S 45 0) (ho := S 48 0) (se := S 47 0) hX (XI.s hI (by simp)) (by funext j9; simp [sup, lEmp_o, mChg_o]) (by funext j9; simp [sup, lEmp_o, mChg_o]) (by funext j9; simp [sup, lEmp_o, mChg_o]) (by funext j9; simp [sup, lEmp_o, mChg_o]) (by funext j9; simp [sup, lEmp_o, mChg_o])) gX3_logIn_X3_nextIn rfl rfl rfl 1 rfl (by decide +kernel) ⟨Nat.le_of_ble_eq_true rfl, Nat.le_of_ble_eq_true rfl⟩ hX.1 rfl rfl rfl rfl (Nat.le_of_ble_eq_true rfl) dX3_logIn_84 ⟨Nat.le_of_ble_eq_true rfl, Nat.le_of_ble_eq_true rfl⟩ (pc' := 87) rfl rfl rfl rfl ?_
            refine j_istore (lv' := [(4, .int (mNx (S 59 0) (S 55 0) (S 45 0) (S 48 0) (S 47 0) p ns 0 (-1) nm)), (3, .int 0), (0, .ref (al 40 0)), (1, .int u), (2, .int p)]) cx dX3_logIn_87 (by decide) rfl (pc' := 89) rfl ?_
            refine j_aload_n (j := 2) cx dX3_logIn_89 rfl rfl (pc' := 90) rfl ?_
            refine j_get (fk := 13) (ref := "TerminalYardModel") (v := .ref (al 53 0)) cx hX.1 rfl (by decide +kernel) (by decide) (by decide +kernel) (fun _ h => h) (yV_r (k := (53, 0)) rfl) rfl dX3_logIn_90 (pc' := 93) rfl ?_
            refine j_aload_n (j := 2) cx dX3_logIn_93 rfl rfl (pc' := 94) rfl ?_
            refine j_get (fk := 12) (ref := "TerminalYardModel") (v := .int (nI ns)) cx hX.1 rfl (by decide +kernel) (by decide) (by decide +kernel) (fun _ h => h) ((yV_i rfl).trans (congrArg Value.int (by simp [sup, gO, mChg_o, lEmp_o, hs]))) rfl dX3_logIn_94 (pc' := 97) rfl ?_
            refine j_iload_n (j := 3) cx dX3_logIn_97 rfl rfl (pc' := 98) rfl ?_
            refine j_iast (jn := ns) cx hX.2.2.2.2.2.2.2.2.2.2.1 rfl (vp_in_nI (by omega) (by omega)) (nI_clamp (by omega)) rfl dX3_logIn_98 (pc' := 99) rfl ?_
            refine j_aload_n (j := 2) cx dX3_logIn_99 rfl rfl (pc' := 100) rfl ?_
            refine j_get (fk := 14) (ref := "TerminalYardModel") (v := .ref (al 54 0)) cx hX.1 rfl (by decide +kernel) (by decide) (by decide +kernel) (fun _ h => h) (yV_r (k := (54, 0)) rfl) rfl dX3_logIn_100 (pc' := 103) rfl ?_
            refine j_aload_n (j := 2) cx dX3_logIn_103 rfl rfl (pc' := 104) rfl ?_
            refine j_get (fk := 12) (ref := "TerminalYardModel") (v := .int (nI ns)) cx hX.1 rfl (by decide +kernel) (by decide) (by decide +kernel) (fun _ h => h) ((yV_i rfl).trans (congrArg Value.int (by simp [sup, gO, mChg_o, lEmp_o, hs]))) rfl dX3_logIn_104 (pc' := 107) rfl ?_
            refine j_iload_n (j := 3) cx dX3_logIn_107 rfl rfl (pc' := 108) rfl ?_
            refine j_iast (jn := ns) cx hX.2.2.2.2.2.2.2.2.2.2.2.1 rfl (vp_in_nI (by omega) (by omega)) (nI_clamp (by omega)) rfl dX3_logIn_108 (pc' := 109) rfl ?_
            refine j_aload_n (j := 2) cx dX3_logIn_109 rfl rfl (pc' := 110) rfl ?_
            refine j_get (fk := 15) (ref := "TerminalYardModel") (v := .ref (al 55 0)) cx hX.1 rfl (by decide +kernel) (by decide) (by decide +kernel) (fun _ h => h) (yV_r (k := (55, 0)) rfl) rfl dX3_logIn_110 (pc' := 113) rfl ?_
            refine j_aload_n (j := 2) cx dX3_logIn_113 rfl rfl (pc' := 114) rfl ?_
            refine j_get (fk := 12) (ref := "TerminalYardModel") (v := .int (nI ns)) cx hX.1 rfl (by decide +kernel) (by decide) (by decide +kernel) (fun _ h => h) ((yV_i rfl).trans (congrArg Value.int (by simp [sup, gO, mChg_o, lEmp_o, hs]))) rfl dX3_logIn_114 (pc' := 117) rfl ?_
            refine j_iload (j := 0) cx dX3_logIn_117 rfl (pc' := 119) rfl ?_
            refine j_iast (jn := ns) cx hX.2.2.2.2.2.2.2.2.2.2.2.2.1 rfl (vp_in_nI (by omega) (by omega)) (nI_clamp (by omega)) rfl dX3_logIn_119 (pc' := 120) rfl ?_
            refine j_aload_n (j := 2) cx dX3_logIn_120 rfl rfl (pc' := 121) rfl ?_
            refine j_get (fk := 16) (ref := "TerminalYardModel") (v := .ref (al 56 0)) cx hX.1 rfl (by decide +kernel) (by decide) (by decide +kernel) (fun _ h => h) (yV_r (k := (56, 0)) rfl) rfl dX3_logIn_121 (pc' := 124) rfl ?_
            refine j_aload_n (j := 2) cx dX3_logIn_124 rfl rfl (pc' := 125) rfl ?_
            refine j_get (fk := 12) (ref := "TerminalYardModel") (v := .int (nI ns)) cx hX.1 rfl (by decide +kernel) (by decide) (by decide +kernel) (fun _ h => h) ((yV_i rfl).trans (congrArg Value.int (by simp [sup, gO, mChg_o, lEmp_o, hs]))) rfl dX3_logIn_125 (pc' := 128) rfl ?_
            refine j_aload_n (j := 2) cx dX3_logIn_128 rfl rfl (pc' := 129) rfl ?_
            refine j_get (fk := 1) (ref := "TerminalYardModel") (v := .int (S 40 0 1)) cx hX.1 rfl (by decide +kernel) (by decide) (by decide +kernel) (fun _ h => h) ((yV_i rfl).trans (congrArg Value.int (by simp [sup, gO, mChg_o, lEmp_o]))) rfl dX3_logIn_129 (pc' := 132) rfl ?_
            refine j_iast (jn := ns) cx hX.2.2.2.2.2.2.2.2.2.2.2.2.2.1 rfl (vp_in_nI (by omega) (by omega)) (nI_clamp (by omega)) rfl dX3_logIn_132 (pc' := 133) rfl ?_
            refine j_aload_n (j := 2) cx dX3_logIn_133 rfl rfl (pc' := 134) rfl ?_
            refine j_get (fk := 17) (ref := "TerminalYardModel") (v := .ref (al 57 0)) cx hX.1 rfl (by decide +kernel) (by decide) (by decide +kernel) (fun _ h => h) (yV_r (k := (57, 0)) rfl) rfl dX3_logIn_134 (pc' := 137) rfl ?_
            refine j_aload_n (j := 2) cx dX3_logIn_137 rfl rfl (pc' := 138) rfl ?_
            refine j_get (fk := 12) (ref := "TerminalYardModel") (v := .int (nI ns)) cx hX.1 rfl (by decide +kernel) (by decide) (by decide +kernel) (fun _ h => h) ((yV_i rfl).trans (congrArg Value.int (by simp [sup, gO, mChg_o, lEmp_o, hs]))) rfl dX3_logIn_138 (pc' := 141) rfl ?_
            refine j_aload_n (j := 2) cx dX3_logIn_141 rfl rfl (pc' := 142) rfl ?_
            refine j_get (fk := 1) (ref := "TerminalYardModel") (v := .int (S 40 0 1)) cx hX.1 rfl (by decide +kernel) (by decide) (by decide +kernel) (fun _ h => h) ((yV_i rfl).trans (congrArg Value.int (by simp [sup, gO, mChg_o, lEmp_o]))) rfl dX3_logIn_142 (pc' := 145) rfl ?_
            refine j_iast (jn := ns) cx hX.2.2.2.2.2.2.2.2.2.2.2.2.2.2.1 rfl (vp_in_nI (by omega) (by omega)) (nI_clamp (by omega)) rfl dX3_logIn_145 (pc' := 146) rfl ?_
            refine j_aload_n (j := 2) cx dX3_logIn_146 rfl rfl (pc' := 147) rfl ?_
            refine j_dup cx dX3_logIn_147 rfl (pc' := 148) rfl ?_
            refine j_get (fk := 12) (ref := "TerminalYardModel") (v := .int (nI ns)) cx hX.1 rfl (by decide +kernel) (by decide) (by decide +kernel) (fun _ h => h) ((yV_i rfl).trans (congrArg Value.int (by simp [sup, gO, mChg_o, lEmp_o, hs]))) rfl dX3_logIn_148 (pc' := 151) rfl ?_
            refine j_iconst (v := 1) cx dX3_logIn_151 (by decide) (pc' := 152) rfl ?_
            refine j_iadd cx dX3_logIn_152 (pc' := 153) rfl ?_
            refine j_puti (fk := 12) (ref := "TerminalYardModel") (ty := .int) cx hX.1 rfl (by decide +kernel) (by decide) (by decide +kernel) (fun _ h => h) tyX3 tyX3_ok nmX3 rfl (by decide +kernel) rfl rfl rfl rfl dX3_logIn_153 (pc' := 156) rfl ?_
            refine j_aload_n (j := 2) cx dX3_logIn_156 rfl rfl (pc' := 157) rfl ?_
            refine j_get (fk := 12) (ref := "TerminalYardModel") (v := .int ((nI ns) + 1)) cx hX.1 rfl (by decide +kernel) (by decide) (by decide +kernel) (fun _ h => h) ((yV_i rfl).trans (congrArg Value.int (by simp [sup, gO, mChg_o, lEmp_o]))) rfl dX3_logIn_157 (pc' := 160) rfl ?_
            refine j_iconst (v := 1) cx dX3_logIn_160 (by decide) (pc' := 161) rfl ?_
            refine j_isub cx dX3_logIn_161 (pc' := 162) rfl ?_
            exact j_iret (ty := .int) cx hlk hr rfl (Nat.le_of_ble_eq_true rfl) (Nat.le_of_ble_eq_true rfl) dX3_logIn_162 (yM_0 (by simp [xIn, hc8, h2, h6, h8, h12, h14]) (by simp [sup]) (by simp [sup]))
          · refine j_iconst (v := 4) cx dX3_logIn_66 (by decide) (pc' := 67) rfl ?_
            refine j_goto (tgt := 71) cx dX3_logIn_67 (by decide) ?_
            refine j_istore_n (lv' := [(3, .int 4), (0, .ref (al 40 0)), (1, .int u), (2, .int p)]) cx dX3_logIn_71 rfl (by decide) rfl (pc' := 72) rfl ?_
            refine j_aload_n (j := 1) cx dX3_logIn_72 rfl rfl (pc' := 73) rfl ?_
            refine j_iload_n (j := 0) cx dX3_logIn_73 rfl rfl (pc' := 74) rfl ?_
            refine j_cVR (cells1 := 0) (slots1 := 0) (st1 := [.int (bI (4 = 0))]) (As := [.int 4]) (rest := []) cx (c_X3_goesOn hX) gX3_logIn_X3_goesOn rfl rfl rfl 1 rfl (by decide +kernel) ⟨Nat.le_of_ble_eq_true rfl, Nat.le_of_ble_eq_true rfl⟩ hX.1 rfl rfl rfl rfl (Nat.le_of_ble_eq_true rfl) dX3_logIn_74 ⟨Nat.le_of_ble_eq_true rfl, Nat.le_of_ble_eq_true rfl⟩ (pc' := 77) rfl rfl rfl rfl ?_
            refine j_ifb_ne (tgt := 82) cx dX3_logIn_77 (by decide) (pc' := 80) rfl (fun h => by first | exact absurd h (by decide) | exact absurd (by decide) h) (fun _ => ?_)
            refine j_iconst (v := 0) cx dX3_logIn_80 (by decide) (pc' := 81) rfl ?_
            exact j_iret (ty := .int) cx hlk hr rfl (Nat.le_of_ble_eq_true rfl) (Nat.le_of_ble_eq_true rfl) dX3_logIn_81 (yM_n (by first | (simp [xIn, hc8, h2, h6, h8, h12, h14]; done) | (exfalso; contradiction)) (by decide))
        · refine j_iconst (v := 3) cx dX3_logIn_53 (by decide) (pc' := 54) rfl ?_
          refine j_goto (tgt := 71) cx dX3_logIn_54 (by decide) ?_
          refine j_istore_n (lv' := [(3, .int 3), (0, .ref (al 40 0)), (1, .int u), (2, .int p)]) cx dX3_logIn_71 rfl (by decide) rfl (pc' := 72) rfl ?_
          refine j_aload_n (j := 1) cx dX3_logIn_72 rfl rfl (pc' := 73) rfl ?_
          refine j_iload_n (j := 0) cx dX3_logIn_73 rfl rfl (pc' := 74) rfl ?_
          refine j_cVR (cells1 := 0) (slots1 := 0) (st1 := [.int (bI (3 = 0))]) (As := [.int 3]) (rest := []) cx (c_X3_goesOn hX) gX3_logIn_X3_goesOn rfl rfl rfl 1 rfl (by decide +kernel) ⟨Nat.le_of_ble_eq_true rfl, Nat.le_of_ble_eq_true rfl⟩ hX.1 rfl rfl rfl rfl (Nat.le_of_ble_eq_true rfl) dX3_logIn_74 ⟨Nat.le_of_ble_eq_true rfl, Nat.le_of_ble_eq_true rfl⟩ (pc' := 77) rfl rfl rfl rfl ?_
          refine j_ifb_ne (tgt := 82) cx dX3_logIn_77 (by decide) (pc' := 80) rfl (fun h => by first | exact absurd h (by decide) | exact absurd (by decide) h) (fun _ => ?_)
          refine j_iconst (v := 0) cx dX3_logIn_80 (by decide) (pc' := 81) rfl ?_
          exact j_iret (ty := .int) cx hlk hr rfl (Nat.le_of_ble_eq_true rfl) (Nat.le_of_ble_eq_true rfl) dX3_logIn_81 (yM_n (by first | (simp [xIn, hc8, h2, h6, h8, h12]; done) | (exfalso; contradiction)) (by decide))
    · refine j_iconst (v := 1) cx dX3_logIn_14 (by decide) (pc' := 15) rfl ?_
      refine j_goto (tgt := 71) cx dX3_logIn_15 (by decide) ?_
      refine j_istore_n (lv' := [(3, .int 1), (0, .ref (al 40 0)), (1, .int u), (2, .int p)]) cx dX3_logIn_71 rfl (by decide) rfl (pc' := 72) rfl ?_
      refine j_aload_n (j := 1) cx dX3_logIn_72 rfl rfl (pc' := 73) rfl ?_
      refine j_iload_n (j := 0) cx dX3_logIn_73 rfl rfl (pc' := 74) rfl ?_
      refine j_cVR (cells1 := 0) (slots1 := 0) (st1 := [.int (bI (1 = 0))]) (As := [.int 1]) (rest := []) cx (c_X3_goesOn hX) gX3_logIn_X3_goesOn rfl rfl rfl 1 rfl (by decide +kernel) ⟨Nat.le_of_ble_eq_true rfl, Nat.le_of_ble_eq_true rfl⟩ hX.1 rfl rfl rfl rfl (Nat.le_of_ble_eq_true rfl) dX3_logIn_74 ⟨Nat.le_of_ble_eq_true rfl, Nat.le_of_ble_eq_true rfl⟩ (pc' := 77) rfl rfl rfl rfl ?_
      refine j_ifb_ne (tgt := 82) cx dX3_logIn_77 (by decide) (pc' := 80) rfl (fun h => by first | exact absurd h (by decide) | exact absurd (by decide) h) (fun _ => ?_)
      refine j_iconst (v := 0) cx dX3_logIn_80 (by decide) (pc' := 81) rfl ?_
      exact j_iret (ty := .int) cx hlk hr rfl (Nat.le_of_ble_eq_true rfl) (Nat.le_of_ble_eq_true rfl) dX3_logIn_81 (yM_n (by first | (simp [xIn, hc8, h2, h6]; done) | (exfalso; contradiction)) (by decide))
set_option maxHeartbeats 4000000 in
set_option maxRecDepth 100000 in
theorem c_X3_passes {l : Launch} {Z : yL} {al : yAl} {sh : ySh} {S : yS} {nm ns : Nat} {i : Nat} (hX : YM Z sh) (hI : XI S nm ns) (hi : i < ns) : Ct l yX3_passes wsX3_passes ({ frames := 1, cells := 0, slots := 0, locals := 23 }) 0 0 Z [.ref (al 40 0), .int (nI i)] al sh S (yR al sh (some (.int (bI (mMin S i 59 0 i ≠ 0)))) (mMin S i)) := by
  obtain ⟨hm, hs, hnm, hns, hus, hde, hmo, hpo, hro, hho, hen⟩ := id hI
  refine Ct.of (lv := [(0, .ref (al 40 0)), (1, .int (nI i))]) (by decide) rfl (Nat.le_of_ble_eq_true rfl) rfl ?_
  intro p_ e_ s_ m_ below_ meth_ c_ cx hlk hr hnm9
  refine j_aload_n (j := 0) cx dX3_passes_0 rfl rfl (pc' := 1) rfl ?_
  refine j_get (fk := 5) (ref := "TerminalYardModel") (v := .ref (al 45 0)) cx hX.1 rfl (by decide +kernel) (by decide) (by decide +kernel) (fun _ h => h) (yV_r (k := (45, 0)) rfl) rfl dX3_passes_1 (pc' := 4) rfl ?_
  refine j_aload_n (j := 0) cx dX3_passes_4 rfl rfl (pc' := 5) rfl ?_
  refine j_get (fk := 15) (ref := "TerminalYardModel") (v := .ref (al 55 0)) cx hX.1 rfl (by decide +kernel) (by decide) (by decide +kernel) (fun _ h => h) (yV_r (k := (55, 0)) rfl) rfl dX3_passes_5 (pc' := 8) rfl ?_
  refine j_iload_n (j := 1) cx dX3_passes_8 rfl rfl (pc' := 9) rfl ?_
  refine j_iald (v := S 55 0 i) cx hX.2.2.2.2.2.2.2.2.2.2.2.2.1 rfl (vp_in_nI (by omega) (by omega)) (by rw [(nI_clamp (by omega))]) rfl dX3_passes_9 (pc' := 10) rfl ?_
  refine j_iald (v := S 45 0 ((S 55 0 i).toNatClampNeg)) cx hX.2.2.2.1 rfl (hmo _ hi) rfl rfl dX3_passes_10 (pc' := 11) rfl ?_
  refine j_istore_n (lv' := [(2, .int (S 45 0 ((S 55 0 i).toNatClampNeg))), (0, .ref (al 40 0)), (1, .int (nI i))]) cx dX3_passes_11 rfl (by decide) rfl (pc' := 12) rfl ?_
  refine j_aload_n (j := 1) cx dX3_passes_12 rfl rfl (pc' := 13) rfl ?_
  refine j_get (fk := 9) (ref := "TerminalYardModel") (v := .ref (al 49 0)) cx hX.1 rfl (by decide +kernel) (by decide) (by decide +kernel) (fun _ h => h) (yV_r (k := (49, 0)) rfl) rfl dX3_passes_13 (pc' := 16) rfl ?_
  refine j_aload_n (j := 1) cx dX3_passes_16 rfl rfl (pc' := 17) rfl ?_
  refine j_get (fk := 11) (ref := "TerminalYardModel") (v := .ref (al 51 0)) cx hX.1 rfl (by decide +kernel) (by decide) (by decide +kernel) (fun _ h => h) (yV_r (k := (51, 0)) rfl) rfl dX3_passes_17 (pc' := 20) rfl ?_
  refine j_aload_n (j := 1) cx dX3_passes_20 rfl rfl (pc' := 21) rfl ?_
  refine j_get (fk := 14) (ref := "TerminalYardModel") (v := .ref (al 54 0)) cx hX.1 rfl (by decide +kernel) (by decide) (by decide +kernel) (fun _ h => h) (yV_r (k := (54, 0)) rfl) rfl dX3_passes_21 (pc' := 24) rfl ?_
  refine j_iload_n (j := 2) cx dX3_passes_24 rfl rfl (pc' := 25) rfl ?_
  refine j_iald (v := S 54 0 i) cx hX.2.2.2.2.2.2.2.2.2.2.2.1 rfl (vp_in_nI (by omega) (by omega)) (by rw [(nI_clamp (by omega))]) rfl dX3_passes_25 (pc' := 26) rfl ?_
  refine j_iald (v := S 51 0 ((S 54 0 i).toNatClampNeg)) cx hX.2.2.2.2.2.2.2.2.2.1 rfl (hus _ hi) rfl rfl dX3_passes_26 (pc' := 27) rfl ?_
  refine j_iald (v := S 49 0 ((S 51 0 ((S 54 0 i).toNatClampNeg)).toNatClampNeg)) cx hX.2.2.2.2.2.2.2.1 rfl (hde _ (ix_of (hus _ hi))) rfl rfl dX3_passes_27 (pc' := 28) rfl ?_
  refine j_if_ne (tgt := 41) cx dX3_passes_28 (by decide) (pc' := 31) rfl (fun h1 => ?_) (fun h1 => ?_)
  · refine j_aload_n (j := 1) cx dX3_passes_41 rfl rfl (pc' := 42) rfl ?_
    refine j_iload_n (j := 2) cx dX3_passes_42 rfl rfl (pc' := 43) rfl ?_
    refine j_iconst (v := 1) cx dX3_passes_43 (by decide) (pc' := 44) rfl ?_
    refine j_cVR (cells1 := 0) (slots1 := 0) (st1 := []) (As := [.int (nI i), .int 1]) (rest := []) cx (c_X3_charges hX hI hi) gX3_passes_X3_charges rfl rfl rfl 2 rfl (by decide +kernel) ⟨Nat.le_of_ble_eq_true rfl, Nat.le_of_ble_eq_true rfl⟩ hX.1 rfl rfl rfl rfl (Nat.le_of_ble_eq_true rfl) dX3_passes_44 ⟨Nat.le_of_ble_eq_true rfl, Nat.le_of_ble_eq_true rfl⟩ (pc' := 47) rfl rfl rfl rfl ?_
    refine j_aload_n (j := 1) cx dX3_passes_47 rfl rfl (pc' := 48) rfl ?_
    refine j_get (fk := 19) (ref := "TerminalYardModel") (v := .ref (al 59 0)) cx hX.1 rfl (by decide +kernel) (by decide) (by decide +kernel) (fun _ h => h) (yV_r (k := (59, 0)) rfl) rfl dX3_passes_48 (pc' := 51) rfl ?_
    refine j_iload_n (j := 2) cx dX3_passes_51 rfl rfl (pc' := 52) rfl ?_
    refine j_aload_n (j := 1) cx dX3_passes_52 rfl rfl (pc' := 53) rfl ?_
    refine j_get (fk := 1) (ref := "TerminalYardModel") (v := .int (S 40 0 1)) cx hX.1 rfl (by decide +kernel) (by decide) (by decide +kernel) (fun _ h => h) ((yV_i rfl).trans (congrArg Value.int (by simp [sup, gO, mChg_o, lEmp_o]))) rfl dX3_passes_53 (pc' := 56) rfl ?_
    refine j_aload_n (j := 1) cx dX3_passes_56 rfl rfl (pc' := 57) rfl ?_
    refine j_get (fk := 17) (ref := "TerminalYardModel") (v := .ref (al 57 0)) cx hX.1 rfl (by decide +kernel) (by decide) (by decide +kernel) (fun _ h => h) (yV_r (k := (57, 0)) rfl) rfl dX3_passes_57 (pc' := 60) rfl ?_
    refine j_iload_n (j := 2) cx dX3_passes_60 rfl rfl (pc' := 61) rfl ?_
    refine j_iald (v := S 57 0 i) cx hX.2.2.2.2.2.2.2.2.2.2.2.2.2.2.1 rfl (vp_in_nI (by omega) (by omega)) (by rw [(nI_clamp (by omega))]; simp [sup, mChg_o, lEmp_o]) rfl dX3_passes_61 (pc' := 62) rfl ?_
    refine j_isub cx dX3_passes_62 (pc' := 63) rfl ?_
    refine j_aload_n (j := 1) cx dX3_passes_63 rfl rfl (pc' := 64) rfl ?_
    refine j_get (fk := 2) (ref := "TerminalYardModel") (v := .ref (al 42 0)) cx hX.1 rfl (by decide +kernel) (by decide) (by decide +kernel) (fun _ h => h) (yV_r (k := (42, 0)) rfl) rfl dX3_passes_64 (pc' := 67) rfl ?_
    refine j_iload_n (j := 0) cx dX3_passes_67 rfl rfl (pc' := 68) rfl ?_
    refine j_iald (v := S 42 0 ((S 45 0 ((S 55 0 i).toNatClampNeg)).toNatClampNeg)) cx hX.2.1 rfl (hpo _ (ix_of (hmo _ hi))) (by simp [sup, gO, mChg_o, lEmp_o]) rfl dX3_passes_68 (pc' := 69) rfl ?_
    refine j_icmp_lt (tgt := 77) cx dX3_passes_69 (by decide) (pc' := 72) rfl (fun h3 => ?_) (fun h3 => ?_)
    · refine j_aload_n (j := 1) cx dX3_passes_77 rfl rfl (pc' := 78) rfl ?_
      refine j_get (fk := 1) (ref := "TerminalYardModel") (v := .int (S 40 0 1)) cx hX.1 rfl (by decide +kernel) (by decide) (by decide +kernel) (fun _ h => h) ((yV_i rfl).trans (congrArg Value.int (by simp [sup, gO, mChg_o, lEmp_o]))) rfl dX3_passes_78 (pc' := 81) rfl ?_
      refine j_aload_n (j := 1) cx dX3_passes_81 rfl rfl (pc' := 82) rfl ?_
      refine j_get (fk := 16) (ref := "TerminalYardModel") (v := .ref (al 56 0)) cx hX.1 rfl (by decide +kernel) (by decide) (by decide +kernel) (fun _ h => h) (yV_r (k := (56, 0)) rfl) rfl dX3_passes_82 (pc' := 85) rfl ?_
      refine j_iload_n (j := 2) cx dX3_passes_85 rfl rfl (pc' := 86) rfl ?_
      refine j_iald (v := S 56 0 i) cx hX.2.2.2.2.2.2.2.2.2.2.2.2.2.1 rfl (vp_in_nI (by omega) (by omega)) (by rw [(nI_clamp (by omega))]; simp [sup, mChg_o, lEmp_o]) rfl dX3_passes_86 (pc' := 87) rfl ?_
      refine j_isub cx dX3_passes_87 (pc' := 88) rfl ?_
      refine j_aload_n (j := 1) cx dX3_passes_88 rfl rfl (pc' := 89) rfl ?_
      refine j_get (fk := 3) (ref := "TerminalYardModel") (v := .ref (al 43 0)) cx hX.1 rfl (by decide +kernel) (by decide) (by decide +kernel) (fun _ h => h) (yV_r (k := (43, 0)) rfl) rfl dX3_passes_89 (pc' := 92) rfl ?_
      refine j_iload_n (j := 0) cx dX3_passes_92 rfl rfl (pc' := 93) rfl ?_
      refine j_iald (v := S 43 0 ((S 45 0 ((S 55 0 i).toNatClampNeg)).toNatClampNeg)) cx hX.2.2.1 rfl (hpo _ (ix_of (hmo _ hi))) (by simp [sup, gO, mChg_o, lEmp_o]) rfl dX3_passes_93 (pc' := 94) rfl ?_
      refine j_icmp_lt (tgt := 102) cx dX3_passes_94 (by decide) (pc' := 97) rfl (fun h4 => ?_) (fun h4 => ?_)
      · refine j_aload_n (j := 1) cx dX3_passes_102 rfl rfl (pc' := 103) rfl ?_
        refine j_get (fk := 19) (ref := "TerminalYardModel") (v := .ref (al 59 0)) cx hX.1 rfl (by decide +kernel) (by decide) (by decide +kernel) (fun _ h => h) (yV_r (k := (59, 0)) rfl) rfl dX3_passes_103 (pc' := 106) rfl ?_
        refine j_iload_n (j := 2) cx dX3_passes_106 rfl rfl (pc' := 107) rfl ?_
        refine j_cald (v := S 59 0 i) cx hX.2.2.2.2.2.2.2.2.2.2.2.2.2.2.2.2.1 rfl (vp_in_nI (by omega) (by omega)) (by rw [(nI_clamp (by omega))]; simp [sup, mChg_o, lEmp_o]) rfl dX3_passes_107 (pc' := 108) rfl ?_
        refine j_cast (jn := i) cx hX.2.2.2.2.2.2.2.2.2.2.2.2.2.2.2.2.1 rfl (vp_in_nI (by omega) (by omega)) (by first | rfl | exact hho _ | exact hen _) (nI_clamp (by omega)) rfl dX3_passes_108 (pc' := 109) rfl ?_
        refine j_aload_n (j := 1) cx dX3_passes_109 rfl rfl (pc' := 110) rfl ?_
        refine j_iload_n (j := 2) cx dX3_passes_110 rfl rfl (pc' := 111) rfl ?_
        refine j_cVR (cells1 := 0) (slots1 := 0) (st1 := [.int (bI (S 59 0 i = 0))]) (As := [.int (nI i)]) (rest := []) cx (c_X3_isLive (S := (sup (mChg S i 1) 59 0 i (S 59 0 i))) (i := i) (e := S 59 0 i) hX (by omega) (by simp [sup, gO, mChg_o, lEmp_o])) gX3_passes_X3_isLive rfl rfl rfl 1 rfl (by decide +kernel) ⟨Nat.le_of_ble_eq_true rfl, Nat.le_of_ble_eq_true rfl⟩ hX.1 rfl rfl rfl rfl (Nat.le_of_ble_eq_true rfl) dX3_passes_111 ⟨Nat.le_of_ble_eq_true rfl, Nat.le_of_ble_eq_true rfl⟩ (pc' := 114) rfl rfl rfl rfl ?_
        refine j_ifb_ne (tgt := 121) cx dX3_passes_114 (by decide) (pc' := 117) rfl (fun h6 => ?_) (fun h6 => ?_)
        · refine j_iconst (v := 0) cx dX3_passes_121 (by decide) (pc' := 122) rfl ?_
          exact j_iret (ty := .boolean) cx hlk hr rfl (Nat.le_of_ble_eq_true rfl) (Nat.le_of_ble_eq_true rfl) dX3_passes_122 ⟨congrArg (fun z => some (Value.int z)) (by simp [bI, mMin, mDep, mPool, sup, mChg_o, h1, h3, h4, h6]), rfl, rfl, by simp [mMin, mDep, mPool, mChg_o, h1, h3, h4, h6]⟩
        · refine j_iconst (v := 1) cx dX3_passes_117 (by decide) (pc' := 118) rfl ?_
          refine j_goto (tgt := 122) cx dX3_passes_118 (by decide) ?_
          exact j_iret (ty := .boolean) cx hlk hr rfl (Nat.le_of_ble_eq_true rfl) (Nat.le_of_ble_eq_true rfl) dX3_passes_122 ⟨congrArg (fun z => some (Value.int z)) (by simp [bI, mMin, mDep, mPool, sup, mChg_o, h1, h3, h4, h6]), rfl, rfl, by simp [mMin, mDep, mPool, mChg_o, h1, h3, h4, h6]⟩
      · refine j_bipush (v := 120) cx dX3_passes_97 (by decide) (pc' := 99) rfl ?_
        refine j_goto (tgt := 108) cx dX3_passes_99 (by decide) ?_
        refine j_cast (jn := i) cx hX.2.2.2.2.2.2.2.2.2.2.2.2.2.2.2.2.1 rfl (vp_in_nI (by omega) (by omega)) (by first | rfl | exact hho _ | exact hen _) (nI_clamp (by omega)) rfl dX3_passes_108 (pc' := 109) rfl ?_
        refine j_aload_n (j := 1) cx dX3_passes_109 rfl rfl (pc' := 110) rfl ?_
        refine j_iload_n (j := 2) cx dX3_passes_110 rfl rfl (pc' := 111) rfl ?_
        refine j_cVR (cells1 := 0) (slots1 := 0) (st1 := [.int (bI (120 = 0))]) (As := [.int (nI i)]) (rest := []) cx (c_X3_isLive (S := (sup (mChg S i 1) 59 0 i 120)) (i := i) (e := 120) hX (by omega) (by simp [sup, gO, mChg_o, lEmp_o])) gX3_passes_X3_isLive rfl rfl rfl 1 rfl (by decide +kernel) ⟨Nat.le_of_ble_eq_true rfl, Nat.le_of_ble_eq_true rfl⟩ hX.1 rfl rfl rfl rfl (Nat.le_of_ble_eq_true rfl) dX3_passes_111 ⟨Nat.le_of_ble_eq_true rfl, Nat.le_of_ble_eq_true rfl⟩ (pc' := 114) rfl rfl rfl rfl ?_
        refine j_ifb_ne (tgt := 121) cx dX3_passes_114 (by decide) (pc' := 117) rfl (fun h => by first | exact absurd h (by decide) | exact absurd (by decide) h) (fun _ => ?_)
        refine j_iconst (v := 1) cx dX3_passes_117 (by decide) (pc' := 118) rfl ?_
        refine j_goto (tgt := 122) cx dX3_passes_118 (by decide) ?_
        exact j_iret (ty := .boolean) cx hlk hr rfl (Nat.le_of_ble_eq_true rfl) (Nat.le_of_ble_eq_true rfl) dX3_passes_122 ⟨congrArg (fun z => some (Value.int z)) (by simp [bI, mMin, mDep, mPool, sup, mChg_o, h1, h3, h4]), rfl, rfl, by simp [mMin, mDep, mPool, mChg_o, h1, h3, h4]⟩
    · refine j_bipush (v := 105) cx dX3_passes_72 (by decide) (pc' := 74) rfl ?_
      refine j_goto (tgt := 108) cx dX3_passes_74 (by decide) ?_
      refine j_cast (jn := i) cx hX.2.2.2.2.2.2.2.2.2.2.2.2.2.2.2.2.1 rfl (vp_in_nI (by omega) (by omega)) (by first | rfl | exact hho _ | exact hen _) (nI_clamp (by omega)) rfl dX3_passes_108 (pc' := 109) rfl ?_
      refine j_aload_n (j := 1) cx dX3_passes_109 rfl rfl (pc' := 110) rfl ?_
      refine j_iload_n (j := 2) cx dX3_passes_110 rfl rfl (pc' := 111) rfl ?_
      refine j_cVR (cells1 := 0) (slots1 := 0) (st1 := [.int (bI (105 = 0))]) (As := [.int (nI i)]) (rest := []) cx (c_X3_isLive (S := (sup (mChg S i 1) 59 0 i 105)) (i := i) (e := 105) hX (by omega) (by simp [sup, gO, mChg_o, lEmp_o])) gX3_passes_X3_isLive rfl rfl rfl 1 rfl (by decide +kernel) ⟨Nat.le_of_ble_eq_true rfl, Nat.le_of_ble_eq_true rfl⟩ hX.1 rfl rfl rfl rfl (Nat.le_of_ble_eq_true rfl) dX3_passes_111 ⟨Nat.le_of_ble_eq_true rfl, Nat.le_of_ble_eq_true rfl⟩ (pc' := 114) rfl rfl rfl rfl ?_
      refine j_ifb_ne (tgt := 121) cx dX3_passes_114 (by decide) (pc' := 117) rfl (fun h => by first | exact absurd h (by decide) | exact absurd (by decide) h) (fun _ => ?_)
      refine j_iconst (v := 1) cx dX3_passes_117 (by decide) (pc' := 118) rfl ?_
      refine j_goto (tgt := 122) cx dX3_passes_118 (by decide) ?_
      exact j_iret (ty := .boolean) cx hlk hr rfl (Nat.le_of_ble_eq_true rfl) (Nat.le_of_ble_eq_true rfl) dX3_passes_122 ⟨congrArg (fun z => some (Value.int z)) (by simp [bI, mMin, mDep, mPool, sup, mChg_o, h1, h3]), rfl, rfl, by simp [mMin, mDep, mPool, mChg_o, h1, h3]⟩
  · refine j_aload_n (j := 1) cx dX3_passes_31 rfl rfl (pc' := 32) rfl ?_
    refine j_get (fk := 19) (ref := "TerminalYardModel") (v := .ref (al 59 0)) cx hX.1 rfl (by decide +kernel) (by decide) (by decide +kernel) (fun _ h => h) (yV_r (k := (59, 0)) rfl) rfl dX3_passes_32 (pc' := 35) rfl ?_
    refine j_iload_n (j := 2) cx dX3_passes_35 rfl rfl (pc' := 36) rfl ?_
    refine j_bipush (v := 111) cx dX3_passes_36 (by decide) (pc' := 38) rfl ?_
    refine j_cast (jn := i) cx hX.2.2.2.2.2.2.2.2.2.2.2.2.2.2.2.2.1 rfl (vp_in_nI (by omega) (by omega)) (by first | rfl | exact hho _ | exact hen _) (nI_clamp (by omega)) rfl dX3_passes_38 (pc' := 39) rfl ?_
    refine j_iconst (v := 1) cx dX3_passes_39 (by decide) (pc' := 40) rfl ?_
    exact j_iret (ty := .boolean) cx hlk hr rfl (Nat.le_of_ble_eq_true rfl) (Nat.le_of_ble_eq_true rfl) dX3_passes_40 ⟨congrArg (fun z => some (Value.int z)) (by simp [bI, mMin, mDep, mPool, sup, mChg_o, h1]), rfl, rfl, by simp [mMin, mDep, mPool, mChg_o, h1]⟩
