set_option maxHeartbeats 4000000 in
set_option maxRecDepth 100000 in
theorem c_X3_setLimits {l : Launch} {Z : yL} {al : yAl} {sh : ySh} {S : yS} {nm ns : Nat} {p i h : Int32} (hX : YM Z sh) (hI : XI S nm ns) : Ct l yX3_setLimits wsX3_setLimits ({ frames := 2, cells := 0, slots := 0, locals := 42 }) 0 0 Z [.ref (al 40 0), .int p, .int i, .int h] al sh S (yM (kSet p i h) al sh (S 42 0 p.toNatClampNeg) (sup (sup (sup S 40 0 0 0) 42 0 p.toNatClampNeg i) 43 0 p.toNatClampNeg h) S) := by
  obtain ⟨hm, hs, hnm, hns, hus, hde, hmo, hpo, hro, hho, hen⟩ := id hI
  refine Ct.of (lv := [(0, .ref (al 40 0)), (1, .int p), (2, .int i), (3, .int h)]) (by decide) rfl (Nat.le_of_ble_eq_true rfl) rfl ?_
  intro p_ e_ s_ m_ below_ meth_ c_ cx hlk hr hnm9
  refine j_aload_n (j := 0) cx dX3_setLimits_0 rfl rfl (pc' := 1) rfl ?_
  refine j_iload_n (j := 1) cx dX3_setLimits_1 rfl rfl (pc' := 2) rfl ?_
  refine j_cSR (cells1 := 0) (slots1 := 0) (st1 := [.int (bI (¬ oR 0 2 p)), .ref (al 40 0)]) (As := [.int p]) (rest := [.ref (al 40 0)]) cx (c_X3_isPool) gX3_setLimits_X3_isPool rfl rfl rfl 1 rfl (by decide +kernel) ⟨Nat.le_of_ble_eq_true rfl, Nat.le_of_ble_eq_true rfl⟩ rfl (Nat.le_of_ble_eq_true rfl) dX3_setLimits_2 ⟨Nat.le_of_ble_eq_true rfl, Nat.le_of_ble_eq_true rfl⟩ (pc' := 5) rfl rfl rfl rfl ?_
  refine j_ifb_eq (tgt := 30) cx dX3_setLimits_5 (by decide) (pc' := 8) rfl (fun h2 => ?_) (fun h2 => ?_)
  · refine j_iconst (v := 1) cx dX3_setLimits_30 (by decide) (pc' := 31) rfl ?_
    refine j_goto (tgt := 35) cx dX3_setLimits_31 (by decide) ?_
    refine j_cVR (cells1 := 0) (slots1 := 0) (st1 := [.int (bI (1 = 0))]) (As := [.int 1]) (rest := []) cx (c_X3_goesOn hX) gX3_setLimits_X3_goesOn rfl rfl rfl 1 rfl (by decide +kernel) ⟨Nat.le_of_ble_eq_true rfl, Nat.le_of_ble_eq_true rfl⟩ hX.1 rfl rfl rfl rfl (Nat.le_of_ble_eq_true rfl) dX3_setLimits_35 ⟨Nat.le_of_ble_eq_true rfl, Nat.le_of_ble_eq_true rfl⟩ (pc' := 38) rfl rfl rfl rfl ?_
    refine j_ifb_ne (tgt := 43) cx dX3_setLimits_38 (by decide) (pc' := 41) rfl (fun h => by first | exact absurd h (by decide) | exact absurd (by decide) h) (fun _ => ?_)
    refine j_iconst (v := 0) cx dX3_setLimits_41 (by decide) (pc' := 42) rfl ?_
    exact j_iret (ty := .int) cx hlk hr rfl (Nat.le_of_ble_eq_true rfl) (Nat.le_of_ble_eq_true rfl) dX3_setLimits_42 (yM_n (by first | (simp [kSet, h2]; done) | (exfalso; contradiction)) (by decide))
  · refine j_iload_n (j := 2) cx dX3_setLimits_8 rfl rfl (pc' := 9) rfl ?_
    refine j_iconst (v := 1) cx dX3_setLimits_9 (by decide) (pc' := 10) rfl ?_
    refine j_sipush (v := 999) cx dX3_setLimits_10 (by decide) (pc' := 13) rfl ?_
    refine j_cSR (cells1 := 0) (slots1 := 0) (st1 := [.int (bI (¬ oR 1 999 i)), .ref (al 40 0)]) (As := [.int i, .int 1, .int 999]) (rest := [.ref (al 40 0)]) cx (c_X3_in) gX3_setLimits_X3_in rfl rfl rfl 3 rfl (by decide +kernel) ⟨Nat.le_of_ble_eq_true rfl, Nat.le_of_ble_eq_true rfl⟩ rfl (Nat.le_of_ble_eq_true rfl) dX3_setLimits_13 ⟨Nat.le_of_ble_eq_true rfl, Nat.le_of_ble_eq_true rfl⟩ (pc' := 16) rfl rfl rfl rfl ?_
    refine j_ifb_eq (tgt := 30) cx dX3_setLimits_16 (by decide) (pc' := 19) rfl (fun h6 => ?_) (fun h6 => ?_)
    · refine j_iconst (v := 1) cx dX3_setLimits_30 (by decide) (pc' := 31) rfl ?_
      refine j_goto (tgt := 35) cx dX3_setLimits_31 (by decide) ?_
      refine j_cVR (cells1 := 0) (slots1 := 0) (st1 := [.int (bI (1 = 0))]) (As := [.int 1]) (rest := []) cx (c_X3_goesOn hX) gX3_setLimits_X3_goesOn rfl rfl rfl 1 rfl (by decide +kernel) ⟨Nat.le_of_ble_eq_true rfl, Nat.le_of_ble_eq_true rfl⟩ hX.1 rfl rfl rfl rfl (Nat.le_of_ble_eq_true rfl) dX3_setLimits_35 ⟨Nat.le_of_ble_eq_true rfl, Nat.le_of_ble_eq_true rfl⟩ (pc' := 38) rfl rfl rfl rfl ?_
      refine j_ifb_ne (tgt := 43) cx dX3_setLimits_38 (by decide) (pc' := 41) rfl (fun h => by first | exact absurd h (by decide) | exact absurd (by decide) h) (fun _ => ?_)
      refine j_iconst (v := 0) cx dX3_setLimits_41 (by decide) (pc' := 42) rfl ?_
      exact j_iret (ty := .int) cx hlk hr rfl (Nat.le_of_ble_eq_true rfl) (Nat.le_of_ble_eq_true rfl) dX3_setLimits_42 (yM_n (by first | (simp [kSet, h2, h6]; done) | (exfalso; contradiction)) (by decide))
    · refine j_iload_n (j := 3) cx dX3_setLimits_19 rfl rfl (pc' := 20) rfl ?_
      refine j_iconst (v := 1) cx dX3_setLimits_20 (by decide) (pc' := 21) rfl ?_
      refine j_sipush (v := 999) cx dX3_setLimits_21 (by decide) (pc' := 24) rfl ?_
      refine j_cSR (cells1 := 0) (slots1 := 0) (st1 := [.int (bI (¬ oR 1 999 h)), .ref (al 40 0)]) (As := [.int h, .int 1, .int 999]) (rest := [.ref (al 40 0)]) cx (c_X3_in) gX3_setLimits_X3_in rfl rfl rfl 3 rfl (by decide +kernel) ⟨Nat.le_of_ble_eq_true rfl, Nat.le_of_ble_eq_true rfl⟩ rfl (Nat.le_of_ble_eq_true rfl) dX3_setLimits_24 ⟨Nat.le_of_ble_eq_true rfl, Nat.le_of_ble_eq_true rfl⟩ (pc' := 27) rfl rfl rfl rfl ?_
      refine j_ifb_ne (tgt := 34) cx dX3_setLimits_27 (by decide) (pc' := 30) rfl (fun h10 => ?_) (fun h10 => ?_)
      · refine j_iconst (v := 0) cx dX3_setLimits_34 (by decide) (pc' := 35) rfl ?_
        refine j_cVR (cells1 := 0) (slots1 := 0) (st1 := [.int (bI (0 = 0))]) (As := [.int 0]) (rest := []) cx (c_X3_goesOn hX) gX3_setLimits_X3_goesOn rfl rfl rfl 1 rfl (by decide +kernel) ⟨Nat.le_of_ble_eq_true rfl, Nat.le_of_ble_eq_true rfl⟩ hX.1 rfl rfl rfl rfl (Nat.le_of_ble_eq_true rfl) dX3_setLimits_35 ⟨Nat.le_of_ble_eq_true rfl, Nat.le_of_ble_eq_true rfl⟩ (pc' := 38) rfl rfl rfl rfl ?_
        refine j_ifb_ne (tgt := 43) cx dX3_setLimits_38 (by decide) (pc' := 41) rfl (fun _ => ?_) (fun h => by first | exact absurd h (by decide) | exact absurd (by decide) h)
        refine j_aload_n (j := 0) cx dX3_setLimits_43 rfl rfl (pc' := 44) rfl ?_
        refine j_get (fk := 2) (ref := "TerminalYardModel") (v := .ref (al 42 0)) cx hX.1 rfl (by decide +kernel) (by decide) (by decide +kernel) (fun _ h => h) (yV_r (k := (42, 0)) rfl) rfl dX3_setLimits_44 (pc' := 47) rfl ?_
        refine j_iload_n (j := 1) cx dX3_setLimits_47 rfl rfl (pc' := 48) rfl ?_
        refine j_iald (v := S 42 0 p.toNatClampNeg) cx hX.2.1 rfl (vp_in_out (b := 2) (by decide) h2) (by simp [sup, gO, mChg_o, lEmp_o]) rfl dX3_setLimits_48 (pc' := 49) rfl ?_
        refine j_istore (lv' := [(4, .int (S 42 0 p.toNatClampNeg)), (0, .ref (al 40 0)), (1, .int p), (2, .int i), (3, .int h)]) cx dX3_setLimits_49 (by decide) rfl (pc' := 51) rfl ?_
        refine j_aload_n (j := 1) cx dX3_setLimits_51 rfl rfl (pc' := 52) rfl ?_
        refine j_get (fk := 2) (ref := "TerminalYardModel") (v := .ref (al 42 0)) cx hX.1 rfl (by decide +kernel) (by decide) (by decide +kernel) (fun _ h => h) (yV_r (k := (42, 0)) rfl) rfl dX3_setLimits_52 (pc' := 55) rfl ?_
        refine j_iload_n (j := 2) cx dX3_setLimits_55 rfl rfl (pc' := 56) rfl ?_
        refine j_iload_n (j := 3) cx dX3_setLimits_56 rfl rfl (pc' := 57) rfl ?_
        refine j_iast (jn := p.toNatClampNeg) cx hX.2.1 rfl (vp_in_out (b := 2) (by decide) h2) rfl rfl dX3_setLimits_57 (pc' := 58) rfl ?_
        refine j_aload_n (j := 1) cx dX3_setLimits_58 rfl rfl (pc' := 59) rfl ?_
        refine j_get (fk := 3) (ref := "TerminalYardModel") (v := .ref (al 43 0)) cx hX.1 rfl (by decide +kernel) (by decide) (by decide +kernel) (fun _ h => h) (yV_r (k := (43, 0)) rfl) rfl dX3_setLimits_59 (pc' := 62) rfl ?_
        refine j_iload_n (j := 2) cx dX3_setLimits_62 rfl rfl (pc' := 63) rfl ?_
        refine j_iload_n (j := 4) cx dX3_setLimits_63 rfl rfl (pc' := 64) rfl ?_
        refine j_iast (jn := p.toNatClampNeg) cx hX.2.2.1 rfl (vp_in_out (b := 2) (by decide) h2) rfl rfl dX3_setLimits_64 (pc' := 65) rfl ?_
        refine j_iload (j := 0) cx dX3_setLimits_65 rfl (pc' := 67) rfl ?_
        exact j_iret (ty := .int) cx hlk hr rfl (Nat.le_of_ble_eq_true rfl) (Nat.le_of_ble_eq_true rfl) dX3_setLimits_67 (yM_0 (by simp [kSet, h2, h6, h10]) (by simp [sup]) (rfl))
      · refine j_iconst (v := 1) cx dX3_setLimits_30 (by decide) (pc' := 31) rfl ?_
        refine j_goto (tgt := 35) cx dX3_setLimits_31 (by decide) ?_
        refine j_cVR (cells1 := 0) (slots1 := 0) (st1 := [.int (bI (1 = 0))]) (As := [.int 1]) (rest := []) cx (c_X3_goesOn hX) gX3_setLimits_X3_goesOn rfl rfl rfl 1 rfl (by decide +kernel) ⟨Nat.le_of_ble_eq_true rfl, Nat.le_of_ble_eq_true rfl⟩ hX.1 rfl rfl rfl rfl (Nat.le_of_ble_eq_true rfl) dX3_setLimits_35 ⟨Nat.le_of_ble_eq_true rfl, Nat.le_of_ble_eq_true rfl⟩ (pc' := 38) rfl rfl rfl rfl ?_
        refine j_ifb_ne (tgt := 43) cx dX3_setLimits_38 (by decide) (pc' := 41) rfl (fun h => by first | exact absurd h (by decide) | exact absurd (by decide) h) (fun _ => ?_)
        refine j_iconst (v := 0) cx dX3_setLimits_41 (by decide) (pc' := 42) rfl ?_
        exact j_iret (ty := .int) cx hlk hr rfl (Nat.le_of_ble_eq_true rfl) (Nat.le_of_ble_eq_true rfl) dX3_setLimits_42 (yM_n (by first | (simp [kSet, h2, h6, h10]; done) | (exfalso; contradiction)) (by decide))
set_option maxHeartbeats 4000000 in
set_option maxRecDepth 100000 in
theorem c_X3_assign {l : Launch} {Z : yL} {al : yAl} {sh : ySh} {S : yS} {nm ns : Nat} {u d : Int32} (hX : YM Z sh) (hI : XI S nm ns) : Ct l yX3_assign wsX3_assign ({ frames := 2, cells := 0, slots := 0, locals := 42 }) 0 0 Z [.ref (al 40 0), .int u, .int d] al sh S (yM (kAss u d) al sh (S 51 0 u.toNatClampNeg) (sup (sup S 40 0 0 0) 51 0 u.toNatClampNeg d) S) := by
  obtain ⟨hm, hs, hnm, hns, hus, hde, hmo, hpo, hro, hho, hen⟩ := id hI
  refine Ct.of (lv := [(0, .ref (al 40 0)), (1, .int u), (2, .int d)]) (by decide) rfl (Nat.le_of_ble_eq_true rfl) rfl ?_
  intro p_ e_ s_ m_ below_ meth_ c_ cx hlk hr hnm9
  refine j_aload_n (j := 0) cx dX3_assign_0 rfl rfl (pc' := 1) rfl ?_
  refine j_iload_n (j := 1) cx dX3_assign_1 rfl rfl (pc' := 2) rfl ?_
  refine j_cSR (cells1 := 0) (slots1 := 0) (st1 := [.int (bI (¬ oR 0 9 u)), .ref (al 40 0)]) (As := [.int u]) (rest := [.ref (al 40 0)]) cx (c_X3_isUser) gX3_assign_X3_isUser rfl rfl rfl 1 rfl (by decide +kernel) ⟨Nat.le_of_ble_eq_true rfl, Nat.le_of_ble_eq_true rfl⟩ rfl (Nat.le_of_ble_eq_true rfl) dX3_assign_2 ⟨Nat.le_of_ble_eq_true rfl, Nat.le_of_ble_eq_true rfl⟩ (pc' := 5) rfl rfl rfl rfl ?_
  refine j_ifb_eq (tgt := 19) cx dX3_assign_5 (by decide) (pc' := 8) rfl (fun h2 => ?_) (fun h2 => ?_)
  · refine j_iconst (v := 1) cx dX3_assign_19 (by decide) (pc' := 20) rfl ?_
    refine j_cVR (cells1 := 0) (slots1 := 0) (st1 := [.int (bI (1 = 0))]) (As := [.int 1]) (rest := []) cx (c_X3_goesOn hX) gX3_assign_X3_goesOn rfl rfl rfl 1 rfl (by decide +kernel) ⟨Nat.le_of_ble_eq_true rfl, Nat.le_of_ble_eq_true rfl⟩ hX.1 rfl rfl rfl rfl (Nat.le_of_ble_eq_true rfl) dX3_assign_20 ⟨Nat.le_of_ble_eq_true rfl, Nat.le_of_ble_eq_true rfl⟩ (pc' := 23) rfl rfl rfl rfl ?_
    refine j_ifb_ne (tgt := 28) cx dX3_assign_23 (by decide) (pc' := 26) rfl (fun h => by first | exact absurd h (by decide) | exact absurd (by decide) h) (fun _ => ?_)
    refine j_iconst (v := 0) cx dX3_assign_26 (by decide) (pc' := 27) rfl ?_
    exact j_iret (ty := .int) cx hlk hr rfl (Nat.le_of_ble_eq_true rfl) (Nat.le_of_ble_eq_true rfl) dX3_assign_27 (yM_n (by first | (simp [kAss, h2]; done) | (exfalso; contradiction)) (by decide))
  · refine j_iload_n (j := 2) cx dX3_assign_8 rfl rfl (pc' := 9) rfl ?_
    refine j_cSR (cells1 := 0) (slots1 := 0) (st1 := [.int (bI (¬ oR 0 3 d)), .ref (al 40 0)]) (As := [.int d]) (rest := [.ref (al 40 0)]) cx (c_X3_isDepartment) gX3_assign_X3_isDepartment rfl rfl rfl 1 rfl (by decide +kernel) ⟨Nat.le_of_ble_eq_true rfl, Nat.le_of_ble_eq_true rfl⟩ rfl (Nat.le_of_ble_eq_true rfl) dX3_assign_9 ⟨Nat.le_of_ble_eq_true rfl, Nat.le_of_ble_eq_true rfl⟩ (pc' := 12) rfl rfl rfl rfl ?_
    refine j_ifb_eq (tgt := 19) cx dX3_assign_12 (by decide) (pc' := 15) rfl (fun h6 => ?_) (fun h6 => ?_)
    · refine j_iconst (v := 1) cx dX3_assign_19 (by decide) (pc' := 20) rfl ?_
      refine j_cVR (cells1 := 0) (slots1 := 0) (st1 := [.int (bI (1 = 0))]) (As := [.int 1]) (rest := []) cx (c_X3_goesOn hX) gX3_assign_X3_goesOn rfl rfl rfl 1 rfl (by decide +kernel) ⟨Nat.le_of_ble_eq_true rfl, Nat.le_of_ble_eq_true rfl⟩ hX.1 rfl rfl rfl rfl (Nat.le_of_ble_eq_true rfl) dX3_assign_20 ⟨Nat.le_of_ble_eq_true rfl, Nat.le_of_ble_eq_true rfl⟩ (pc' := 23) rfl rfl rfl rfl ?_
      refine j_ifb_ne (tgt := 28) cx dX3_assign_23 (by decide) (pc' := 26) rfl (fun h => by first | exact absurd h (by decide) | exact absurd (by decide) h) (fun _ => ?_)
      refine j_iconst (v := 0) cx dX3_assign_26 (by decide) (pc' := 27) rfl ?_
      exact j_iret (ty := .int) cx hlk hr rfl (Nat.le_of_ble_eq_true rfl) (Nat.le_of_ble_eq_true rfl) dX3_assign_27 (yM_n (by first | (simp [kAss, h2, h6]; done) | (exfalso; contradiction)) (by decide))
    · refine j_iconst (v := 0) cx dX3_assign_15 (by decide) (pc' := 16) rfl ?_
      refine j_goto (tgt := 20) cx dX3_assign_16 (by decide) ?_
      refine j_cVR (cells1 := 0) (slots1 := 0) (st1 := [.int (bI (0 = 0))]) (As := [.int 0]) (rest := []) cx (c_X3_goesOn hX) gX3_assign_X3_goesOn rfl rfl rfl 1 rfl (by decide +kernel) ⟨Nat.le_of_ble_eq_true rfl, Nat.le_of_ble_eq_true rfl⟩ hX.1 rfl rfl rfl rfl (Nat.le_of_ble_eq_true rfl) dX3_assign_20 ⟨Nat.le_of_ble_eq_true rfl, Nat.le_of_ble_eq_true rfl⟩ (pc' := 23) rfl rfl rfl rfl ?_
      refine j_ifb_ne (tgt := 28) cx dX3_assign_23 (by decide) (pc' := 26) rfl (fun _ => ?_) (fun h => by first | exact absurd h (by decide) | exact absurd (by decide) h)
      refine j_aload_n (j := 0) cx dX3_assign_28 rfl rfl (pc' := 29) rfl ?_
      refine j_get (fk := 11) (ref := "TerminalYardModel") (v := .ref (al 51 0)) cx hX.1 rfl (by decide +kernel) (by decide) (by decide +kernel) (fun _ h => h) (yV_r (k := (51, 0)) rfl) rfl dX3_assign_29 (pc' := 32) rfl ?_
      refine j_iload_n (j := 1) cx dX3_assign_32 rfl rfl (pc' := 33) rfl ?_
      refine j_iald (v := S 51 0 u.toNatClampNeg) cx hX.2.2.2.2.2.2.2.2.2.1 rfl (vp_in_out (b := 9) (by decide) h2) (by simp [sup, gO, mChg_o, lEmp_o]) rfl dX3_assign_33 (pc' := 34) rfl ?_
      refine j_istore_n (lv' := [(3, .int (S 51 0 u.toNatClampNeg)), (0, .ref (al 40 0)), (1, .int u), (2, .int d)]) cx dX3_assign_34 rfl (by decide) rfl (pc' := 35) rfl ?_
      refine j_aload_n (j := 1) cx dX3_assign_35 rfl rfl (pc' := 36) rfl ?_
      refine j_get (fk := 11) (ref := "TerminalYardModel") (v := .ref (al 51 0)) cx hX.1 rfl (by decide +kernel) (by decide) (by decide +kernel) (fun _ h => h) (yV_r (k := (51, 0)) rfl) rfl dX3_assign_36 (pc' := 39) rfl ?_
      refine j_iload_n (j := 2) cx dX3_assign_39 rfl rfl (pc' := 40) rfl ?_
      refine j_iload_n (j := 3) cx dX3_assign_40 rfl rfl (pc' := 41) rfl ?_
      refine j_iast (jn := u.toNatClampNeg) cx hX.2.2.2.2.2.2.2.2.2.1 rfl (vp_in_out (b := 9) (by decide) h2) rfl rfl dX3_assign_41 (pc' := 42) rfl ?_
      refine j_iload_n (j := 0) cx dX3_assign_42 rfl rfl (pc' := 43) rfl ?_
      exact j_iret (ty := .int) cx hlk hr rfl (Nat.le_of_ble_eq_true rfl) (Nat.le_of_ble_eq_true rfl) dX3_assign_43 (yM_0 (by simp [kAss, h2, h6]) (by simp [sup]) (rfl))
set_option maxHeartbeats 4000000 in
set_option maxRecDepth 100000 in
theorem c_X3_buy {l : Launch} {Z : yL} {al : yAl} {sh : ySh} {S : yS} {nm ns : Nat} {d m : Int32} (hX : YM Z sh) (hI : XI S nm ns) : Ct l yX3_buy wsX3_buy ({ frames := 2, cells := 0, slots := 0, locals := 42 }) 0 0 Z [.ref (al 40 0), .int d, .int m] al sh S (yM (kBuy d m (S 49 0 d.toNatClampNeg)) al sh (S 49 0 d.toNatClampNeg + m) (sup (sup S 40 0 0 0) 49 0 d.toNatClampNeg (S 49 0 d.toNatClampNeg + m)) S) := by
  obtain ⟨hm, hs, hnm, hns, hus, hde, hmo, hpo, hro, hho, hen⟩ := id hI
  refine Ct.of (lv := [(0, .ref (al 40 0)), (1, .int d), (2, .int m)]) (by decide) rfl (Nat.le_of_ble_eq_true rfl) rfl ?_
  intro p_ e_ s_ m_ below_ meth_ c_ cx hlk hr hnm9
  refine j_aload_n (j := 0) cx dX3_buy_0 rfl rfl (pc' := 1) rfl ?_
  refine j_iload_n (j := 1) cx dX3_buy_1 rfl rfl (pc' := 2) rfl ?_
  refine j_cSR (cells1 := 0) (slots1 := 0) (st1 := [.int (bI (¬ oR 0 3 d)), .ref (al 40 0)]) (As := [.int d]) (rest := [.ref (al 40 0)]) cx (c_X3_isDepartment) gX3_buy_X3_isDepartment rfl rfl rfl 1 rfl (by decide +kernel) ⟨Nat.le_of_ble_eq_true rfl, Nat.le_of_ble_eq_true rfl⟩ rfl (Nat.le_of_ble_eq_true rfl) dX3_buy_2 ⟨Nat.le_of_ble_eq_true rfl, Nat.le_of_ble_eq_true rfl⟩ (pc' := 5) rfl rfl rfl rfl ?_
  refine j_ifb_eq (tgt := 19) cx dX3_buy_5 (by decide) (pc' := 8) rfl (fun h2 => ?_) (fun h2 => ?_)
  · refine j_iconst (v := 1) cx dX3_buy_19 (by decide) (pc' := 20) rfl ?_
    refine j_goto (tgt := 41) cx dX3_buy_20 (by decide) ?_
    refine j_cVR (cells1 := 0) (slots1 := 0) (st1 := [.int (bI (1 = 0))]) (As := [.int 1]) (rest := []) cx (c_X3_goesOn hX) gX3_buy_X3_goesOn rfl rfl rfl 1 rfl (by decide +kernel) ⟨Nat.le_of_ble_eq_true rfl, Nat.le_of_ble_eq_true rfl⟩ hX.1 rfl rfl rfl rfl (Nat.le_of_ble_eq_true rfl) dX3_buy_41 ⟨Nat.le_of_ble_eq_true rfl, Nat.le_of_ble_eq_true rfl⟩ (pc' := 44) rfl rfl rfl rfl ?_
    refine j_ifb_ne (tgt := 49) cx dX3_buy_44 (by decide) (pc' := 47) rfl (fun h => by first | exact absurd h (by decide) | exact absurd (by decide) h) (fun _ => ?_)
    refine j_iconst (v := 0) cx dX3_buy_47 (by decide) (pc' := 48) rfl ?_
    exact j_iret (ty := .int) cx hlk hr rfl (Nat.le_of_ble_eq_true rfl) (Nat.le_of_ble_eq_true rfl) dX3_buy_48 (yM_n (by first | (simp [kBuy, h2]; done) | (exfalso; contradiction)) (by decide))
  · refine j_iload_n (j := 2) cx dX3_buy_8 rfl rfl (pc' := 9) rfl ?_
    refine j_iconst (v := 1) cx dX3_buy_9 (by decide) (pc' := 10) rfl ?_
    refine j_sipush (v := 5000) cx dX3_buy_10 (by decide) (pc' := 13) rfl ?_
    refine j_cSR (cells1 := 0) (slots1 := 0) (st1 := [.int (bI (¬ oR 1 5000 m)), .ref (al 40 0)]) (As := [.int m, .int 1, .int 5000]) (rest := [.ref (al 40 0)]) cx (c_X3_in) gX3_buy_X3_in rfl rfl rfl 3 rfl (by decide +kernel) ⟨Nat.le_of_ble_eq_true rfl, Nat.le_of_ble_eq_true rfl⟩ rfl (Nat.le_of_ble_eq_true rfl) dX3_buy_13 ⟨Nat.le_of_ble_eq_true rfl, Nat.le_of_ble_eq_true rfl⟩ (pc' := 16) rfl rfl rfl rfl ?_
    refine j_ifb_ne (tgt := 23) cx dX3_buy_16 (by decide) (pc' := 19) rfl (fun h6 => ?_) (fun h6 => ?_)
    · refine j_aload_n (j := 0) cx dX3_buy_23 rfl rfl (pc' := 24) rfl ?_
      refine j_get (fk := 9) (ref := "TerminalYardModel") (v := .ref (al 49 0)) cx hX.1 rfl (by decide +kernel) (by decide) (by decide +kernel) (fun _ h => h) (yV_r (k := (49, 0)) rfl) rfl dX3_buy_24 (pc' := 27) rfl ?_
      refine j_iload_n (j := 1) cx dX3_buy_27 rfl rfl (pc' := 28) rfl ?_
      refine j_iald (v := S 49 0 d.toNatClampNeg) cx hX.2.2.2.2.2.2.2.1 rfl (vp_in_out (b := 3) (by decide) h2) rfl rfl dX3_buy_28 (pc' := 29) rfl ?_
      refine j_iload_n (j := 2) cx dX3_buy_29 rfl rfl (pc' := 30) rfl ?_
      refine j_iadd cx dX3_buy_30 (pc' := 31) rfl ?_
      refine j_ldc (v := 99999) cx (by decide +kernel) dX3_buy_31 (pc' := 33) rfl ?_
      refine j_icmp_le (tgt := 40) cx dX3_buy_33 (by decide) (pc' := 36) rfl (fun h7 => ?_) (fun h7 => ?_)
      · refine j_iconst (v := 0) cx dX3_buy_40 (by decide) (pc' := 41) rfl ?_
        refine j_cVR (cells1 := 0) (slots1 := 0) (st1 := [.int (bI (0 = 0))]) (As := [.int 0]) (rest := []) cx (c_X3_goesOn hX) gX3_buy_X3_goesOn rfl rfl rfl 1 rfl (by decide +kernel) ⟨Nat.le_of_ble_eq_true rfl, Nat.le_of_ble_eq_true rfl⟩ hX.1 rfl rfl rfl rfl (Nat.le_of_ble_eq_true rfl) dX3_buy_41 ⟨Nat.le_of_ble_eq_true rfl, Nat.le_of_ble_eq_true rfl⟩ (pc' := 44) rfl rfl rfl rfl ?_
        refine j_ifb_ne (tgt := 49) cx dX3_buy_44 (by decide) (pc' := 47) rfl (fun _ => ?_) (fun h => by first | exact absurd h (by decide) | exact absurd (by decide) h)
        refine j_aload_n (j := 0) cx dX3_buy_49 rfl rfl (pc' := 50) rfl ?_
        refine j_get (fk := 9) (ref := "TerminalYardModel") (v := .ref (al 49 0)) cx hX.1 rfl (by decide +kernel) (by decide) (by decide +kernel) (fun _ h => h) (yV_r (k := (49, 0)) rfl) rfl dX3_buy_50 (pc' := 53) rfl ?_
        refine j_iload_n (j := 1) cx dX3_buy_53 rfl rfl (pc' := 54) rfl ?_
        refine j_dup2 cx dX3_buy_54 rfl rfl (pc' := 55) rfl ?_
        refine j_iald (v := S 49 0 d.toNatClampNeg) cx hX.2.2.2.2.2.2.2.1 rfl (vp_in_out (b := 3) (by decide) h2) (by simp [sup, gO, mChg_o, lEmp_o]) rfl dX3_buy_55 (pc' := 56) rfl ?_
        refine j_iload_n (j := 2) cx dX3_buy_56 rfl rfl (pc' := 57) rfl ?_
        refine j_iadd cx dX3_buy_57 (pc' := 58) rfl ?_
        refine j_iast (jn := d.toNatClampNeg) cx hX.2.2.2.2.2.2.2.1 rfl (vp_in_out (b := 3) (by decide) h2) rfl rfl dX3_buy_58 (pc' := 59) rfl ?_
        refine j_aload_n (j := 0) cx dX3_buy_59 rfl rfl (pc' := 60) rfl ?_
        refine j_get (fk := 9) (ref := "TerminalYardModel") (v := .ref (al 49 0)) cx hX.1 rfl (by decide +kernel) (by decide) (by decide +kernel) (fun _ h => h) (yV_r (k := (49, 0)) rfl) rfl dX3_buy_60 (pc' := 63) rfl ?_
        refine j_iload_n (j := 1) cx dX3_buy_63 rfl rfl (pc' := 64) rfl ?_
        refine j_iald (v := (S 49 0 d.toNatClampNeg) + m) cx hX.2.2.2.2.2.2.2.1 rfl (vp_in_out (b := 3) (by decide) h2) (by simp [sup, gO, mChg_o, lEmp_o]) rfl dX3_buy_64 (pc' := 65) rfl ?_
        exact j_iret (ty := .int) cx hlk hr rfl (Nat.le_of_ble_eq_true rfl) (Nat.le_of_ble_eq_true rfl) dX3_buy_65 (yM_0 (by simp [kBuy, h2, h6, h7, Int32.not_lt.mpr h7]) (by simp [sup]) (rfl))
      · refine j_iconst (v := 2) cx dX3_buy_36 (by decide) (pc' := 37) rfl ?_
        refine j_goto (tgt := 41) cx dX3_buy_37 (by decide) ?_
        refine j_cVR (cells1 := 0) (slots1 := 0) (st1 := [.int (bI (2 = 0))]) (As := [.int 2]) (rest := []) cx (c_X3_goesOn hX) gX3_buy_X3_goesOn rfl rfl rfl 1 rfl (by decide +kernel) ⟨Nat.le_of_ble_eq_true rfl, Nat.le_of_ble_eq_true rfl⟩ hX.1 rfl rfl rfl rfl (Nat.le_of_ble_eq_true rfl) dX3_buy_41 ⟨Nat.le_of_ble_eq_true rfl, Nat.le_of_ble_eq_true rfl⟩ (pc' := 44) rfl rfl rfl rfl ?_
        refine j_ifb_ne (tgt := 49) cx dX3_buy_44 (by decide) (pc' := 47) rfl (fun h => by first | exact absurd h (by decide) | exact absurd (by decide) h) (fun _ => ?_)
        refine j_iconst (v := 0) cx dX3_buy_47 (by decide) (pc' := 48) rfl ?_
        exact j_iret (ty := .int) cx hlk hr rfl (Nat.le_of_ble_eq_true rfl) (Nat.le_of_ble_eq_true rfl) dX3_buy_48 (yM_n (by first | (simp [kBuy, h2, h6, h7, Int32.not_le.mp h7]; done) | (exfalso; contradiction)) (by decide))
    · refine j_iconst (v := 1) cx dX3_buy_19 (by decide) (pc' := 20) rfl ?_
      refine j_goto (tgt := 41) cx dX3_buy_20 (by decide) ?_
      refine j_cVR (cells1 := 0) (slots1 := 0) (st1 := [.int (bI (1 = 0))]) (As := [.int 1]) (rest := []) cx (c_X3_goesOn hX) gX3_buy_X3_goesOn rfl rfl rfl 1 rfl (by decide +kernel) ⟨Nat.le_of_ble_eq_true rfl, Nat.le_of_ble_eq_true rfl⟩ hX.1 rfl rfl rfl rfl (Nat.le_of_ble_eq_true rfl) dX3_buy_41 ⟨Nat.le_of_ble_eq_true rfl, Nat.le_of_ble_eq_true rfl⟩ (pc' := 44) rfl rfl rfl rfl ?_
      refine j_ifb_ne (tgt := 49) cx dX3_buy_44 (by decide) (pc' := 47) rfl (fun h => by first | exact absurd h (by decide) | exact absurd (by decide) h) (fun _ => ?_)
      refine j_iconst (v := 0) cx dX3_buy_47 (by decide) (pc' := 48) rfl ?_
      exact j_iret (ty := .int) cx hlk hr rfl (Nat.le_of_ble_eq_true rfl) (Nat.le_of_ble_eq_true rfl) dX3_buy_48 (yM_n (by first | (simp [kBuy, h2, h6]; done) | (exfalso; contradiction)) (by decide))
set_option maxHeartbeats 4000000 in
set_option maxRecDepth 100000 in
theorem c_X3_minutes {l : Launch} {Z : yL} {al : yAl} {sh : ySh} {S : yS} {nm ns : Nat} {d : Int32} (hX : YM Z sh) (hI : XI S nm ns) : Ct l yX3_minutes wsX3_minutes ({ frames := 2, cells := 0, slots := 0, locals := 42 }) 0 0 Z [.ref (al 40 0), .int d] al sh S (yM (kDep d) al sh (S 49 0 d.toNatClampNeg) (sup S 40 0 0 0) S) := by
  obtain ⟨hm, hs, hnm, hns, hus, hde, hmo, hpo, hro, hho, hen⟩ := id hI
  refine Ct.of (lv := [(0, .ref (al 40 0)), (1, .int d)]) (by decide) rfl (Nat.le_of_ble_eq_true rfl) rfl ?_
  intro p_ e_ s_ m_ below_ meth_ c_ cx hlk hr hnm9
  refine j_aload_n (j := 0) cx dX3_minutes_0 rfl rfl (pc' := 1) rfl ?_
  refine j_iload_n (j := 1) cx dX3_minutes_1 rfl rfl (pc' := 2) rfl ?_
  refine j_cSR (cells1 := 0) (slots1 := 0) (st1 := [.int (bI (¬ oR 0 3 d)), .ref (al 40 0)]) (As := [.int d]) (rest := [.ref (al 40 0)]) cx (c_X3_isDepartment) gX3_minutes_X3_isDepartment rfl rfl rfl 1 rfl (by decide +kernel) ⟨Nat.le_of_ble_eq_true rfl, Nat.le_of_ble_eq_true rfl⟩ rfl (Nat.le_of_ble_eq_true rfl) dX3_minutes_2 ⟨Nat.le_of_ble_eq_true rfl, Nat.le_of_ble_eq_true rfl⟩ (pc' := 5) rfl rfl rfl rfl ?_
  refine j_ifb_eq (tgt := 12) cx dX3_minutes_5 (by decide) (pc' := 8) rfl (fun h2 => ?_) (fun h2 => ?_)
  · refine j_iconst (v := 1) cx dX3_minutes_12 (by decide) (pc' := 13) rfl ?_
    refine j_cVR (cells1 := 0) (slots1 := 0) (st1 := [.int (bI (1 = 0))]) (As := [.int 1]) (rest := []) cx (c_X3_goesOn hX) gX3_minutes_X3_goesOn rfl rfl rfl 1 rfl (by decide +kernel) ⟨Nat.le_of_ble_eq_true rfl, Nat.le_of_ble_eq_true rfl⟩ hX.1 rfl rfl rfl rfl (Nat.le_of_ble_eq_true rfl) dX3_minutes_13 ⟨Nat.le_of_ble_eq_true rfl, Nat.le_of_ble_eq_true rfl⟩ (pc' := 16) rfl rfl rfl rfl ?_
    refine j_ifb_eq (tgt := 28) cx dX3_minutes_16 (by decide) (pc' := 19) rfl (fun _ => ?_) (fun h => by first | exact absurd h (by decide) | exact absurd (by decide) h)
    refine j_iconst (v := 0) cx dX3_minutes_28 (by decide) (pc' := 29) rfl ?_
    exact j_iret (ty := .int) cx hlk hr rfl (Nat.le_of_ble_eq_true rfl) (Nat.le_of_ble_eq_true rfl) dX3_minutes_29 (yM_n (by first | (simp [kDep, h2]; done) | (exfalso; contradiction)) (by decide))
  · refine j_iconst (v := 0) cx dX3_minutes_8 (by decide) (pc' := 9) rfl ?_
    refine j_goto (tgt := 13) cx dX3_minutes_9 (by decide) ?_
    refine j_cVR (cells1 := 0) (slots1 := 0) (st1 := [.int (bI (0 = 0))]) (As := [.int 0]) (rest := []) cx (c_X3_goesOn hX) gX3_minutes_X3_goesOn rfl rfl rfl 1 rfl (by decide +kernel) ⟨Nat.le_of_ble_eq_true rfl, Nat.le_of_ble_eq_true rfl⟩ hX.1 rfl rfl rfl rfl (Nat.le_of_ble_eq_true rfl) dX3_minutes_13 ⟨Nat.le_of_ble_eq_true rfl, Nat.le_of_ble_eq_true rfl⟩ (pc' := 16) rfl rfl rfl rfl ?_
    refine j_ifb_eq (tgt := 28) cx dX3_minutes_16 (by decide) (pc' := 19) rfl (fun h => by first | exact absurd h (by decide) | exact absurd (by decide) h) (fun _ => ?_)
    refine j_aload_n (j := 0) cx dX3_minutes_19 rfl rfl (pc' := 20) rfl ?_
    refine j_get (fk := 9) (ref := "TerminalYardModel") (v := .ref (al 49 0)) cx hX.1 rfl (by decide +kernel) (by decide) (by decide +kernel) (fun _ h => h) (yV_r (k := (49, 0)) rfl) rfl dX3_minutes_20 (pc' := 23) rfl ?_
    refine j_iload_n (j := 1) cx dX3_minutes_23 rfl rfl (pc' := 24) rfl ?_
    refine j_iald (v := S 49 0 d.toNatClampNeg) cx hX.2.2.2.2.2.2.2.1 rfl (vp_in_out (b := 3) (by decide) h2) (by simp [sup, gO, mChg_o, lEmp_o]) rfl dX3_minutes_24 (pc' := 25) rfl ?_
    refine j_goto (tgt := 29) cx dX3_minutes_25 (by decide) ?_
    exact j_iret (ty := .int) cx hlk hr rfl (Nat.le_of_ble_eq_true rfl) (Nat.le_of_ble_eq_true rfl) dX3_minutes_29 (yM_0 (by simp [kDep, h2]) (by simp [sup]) (rfl))
set_option maxHeartbeats 4000000 in
set_option maxRecDepth 100000 in
theorem c_X3_areTwo {l : Launch} {Z : yL} {al : yAl} {sh : ySh} {S : yS} {a b m : Int32} : Ct l yX3_areTwo wsX3_areTwo ({ frames := 2, cells := 0, slots := 0, locals := 42 }) 0 0 Z [.int a, .int b, .int m] al sh S (yR al sh (some (.int (bI (¬ (oR 0 3 a ∨ oR 0 3 b ∨ a = b ∨ oR 1 5000 m))))) S) := by
  refine Ct.of (lv := [(0, .int a), (1, .int b), (2, .int m)]) (by decide) rfl (Nat.le_of_ble_eq_true rfl) rfl ?_
  intro p_ e_ s_ m_ below_ meth_ c_ cx hlk hr hnm9
  refine j_iload_n (j := 0) cx dX3_areTwo_0 rfl rfl (pc' := 1) rfl ?_
  refine j_cSR (cells1 := 0) (slots1 := 0) (st1 := [.int (bI (¬ oR 0 3 a))]) (As := [.int a]) (rest := []) cx (c_X3_isDepartment) gX3_areTwo_X3_isDepartment rfl rfl rfl 1 rfl (by decide +kernel) ⟨Nat.le_of_ble_eq_true rfl, Nat.le_of_ble_eq_true rfl⟩ rfl (Nat.le_of_ble_eq_true rfl) dX3_areTwo_1 ⟨Nat.le_of_ble_eq_true rfl, Nat.le_of_ble_eq_true rfl⟩ (pc' := 4) rfl rfl rfl rfl ?_
  refine j_ifb_eq (tgt := 34) cx dX3_areTwo_4 (by decide) (pc' := 7) rfl (fun h2 => ?_) (fun h2 => ?_)
  · refine j_iconst (v := 0) cx dX3_areTwo_34 (by decide) (pc' := 35) rfl ?_
    exact j_iret (ty := .boolean) cx hlk hr rfl (Nat.le_of_ble_eq_true rfl) (Nat.le_of_ble_eq_true rfl) dX3_areTwo_35 ⟨congrArg (fun z => some (Value.int z)) (by simp [bI, h2]), rfl, rfl, rfl⟩
  · refine j_iload_n (j := 1) cx dX3_areTwo_7 rfl rfl (pc' := 8) rfl ?_
    refine j_cSR (cells1 := 0) (slots1 := 0) (st1 := [.int (bI (¬ oR 0 3 b))]) (As := [.int b]) (rest := []) cx (c_X3_isDepartment) gX3_areTwo_X3_isDepartment rfl rfl rfl 1 rfl (by decide +kernel) ⟨Nat.le_of_ble_eq_true rfl, Nat.le_of_ble_eq_true rfl⟩ rfl (Nat.le_of_ble_eq_true rfl) dX3_areTwo_8 ⟨Nat.le_of_ble_eq_true rfl, Nat.le_of_ble_eq_true rfl⟩ (pc' := 11) rfl rfl rfl rfl ?_
    refine j_ifb_eq (tgt := 34) cx dX3_areTwo_11 (by decide) (pc' := 14) rfl (fun h4 => ?_) (fun h4 => ?_)
    · refine j_iconst (v := 0) cx dX3_areTwo_34 (by decide) (pc' := 35) rfl ?_
      exact j_iret (ty := .boolean) cx hlk hr rfl (Nat.le_of_ble_eq_true rfl) (Nat.le_of_ble_eq_true rfl) dX3_areTwo_35 ⟨congrArg (fun z => some (Value.int z)) (by simp [bI, h2, h4]), rfl, rfl, rfl⟩
    · refine j_iload_n (j := 0) cx dX3_areTwo_14 rfl rfl (pc' := 15) rfl ?_
      refine j_iload_n (j := 1) cx dX3_areTwo_15 rfl rfl (pc' := 16) rfl ?_
      refine j_icmp_eq (tgt := 34) cx dX3_areTwo_16 (by decide) (pc' := 19) rfl (fun h5 => ?_) (fun h5 => ?_)
      · refine j_iconst (v := 0) cx dX3_areTwo_34 (by decide) (pc' := 35) rfl ?_
        exact j_iret (ty := .boolean) cx hlk hr rfl (Nat.le_of_ble_eq_true rfl) (Nat.le_of_ble_eq_true rfl) dX3_areTwo_35 ⟨congrArg (fun z => some (Value.int z)) (by simp [bI, h2, h4, h5]), rfl, rfl, rfl⟩
      · refine j_iload_n (j := 2) cx dX3_areTwo_19 rfl rfl (pc' := 20) rfl ?_
        refine j_iconst (v := 1) cx dX3_areTwo_20 (by decide) (pc' := 21) rfl ?_
        refine j_sipush (v := 5000) cx dX3_areTwo_21 (by decide) (pc' := 24) rfl ?_
        refine j_cSR (cells1 := 0) (slots1 := 0) (st1 := [.int (bI (¬ oR 1 5000 m))]) (As := [.int m, .int 1, .int 5000]) (rest := []) cx (c_X3_in) gX3_areTwo_X3_in rfl rfl rfl 3 rfl (by decide +kernel) ⟨Nat.le_of_ble_eq_true rfl, Nat.le_of_ble_eq_true rfl⟩ rfl (Nat.le_of_ble_eq_true rfl) dX3_areTwo_24 ⟨Nat.le_of_ble_eq_true rfl, Nat.le_of_ble_eq_true rfl⟩ (pc' := 27) rfl rfl rfl rfl ?_
        refine j_ifb_eq (tgt := 34) cx dX3_areTwo_27 (by decide) (pc' := 30) rfl (fun h7 => ?_) (fun h7 => ?_)
        · refine j_iconst (v := 0) cx dX3_areTwo_34 (by decide) (pc' := 35) rfl ?_
          exact j_iret (ty := .boolean) cx hlk hr rfl (Nat.le_of_ble_eq_true rfl) (Nat.le_of_ble_eq_true rfl) dX3_areTwo_35 ⟨congrArg (fun z => some (Value.int z)) (by simp [bI, h2, h4, h5, h7]), rfl, rfl, rfl⟩
        · refine j_iconst (v := 1) cx dX3_areTwo_30 (by decide) (pc' := 31) rfl ?_
          refine j_goto (tgt := 35) cx dX3_areTwo_31 (by decide) ?_
          exact j_iret (ty := .boolean) cx hlk hr rfl (Nat.le_of_ble_eq_true rfl) (Nat.le_of_ble_eq_true rfl) dX3_areTwo_35 ⟨congrArg (fun z => some (Value.int z)) (by simp [bI, h2, h4, h5, h7]), rfl, rfl, rfl⟩
theorem two_f {f t m : Int32} (h : ¬ (oR 0 3 f ∨ oR 0 3 t ∨ f = t ∨ oR 1 5000 m)) : vp_in f 4 := vp_in_out (b := 3) (by decide) (fun q => h (Or.inl q))
theorem two_t {f t m : Int32} (h : ¬ (oR 0 3 f ∨ oR 0 3 t ∨ f = t ∨ oR 1 5000 m)) : vp_in t 4 := vp_in_out (b := 3) (by decide) (fun q => h (Or.inr (Or.inl q)))
set_option maxHeartbeats 4000000 in
set_option maxRecDepth 100000 in
theorem c_X3_lend {l : Launch} {Z : yL} {al : yAl} {sh : ySh} {S : yS} {nm ns : Nat} {f t m : Int32} (hX : YM Z sh) (hI : XI S nm ns) : Ct l yX3_lend wsX3_lend ({ frames := 3, cells := 0, slots := 0, locals := 64 }) 0 0 Z [.ref (al 40 0), .int f, .int t, .int m] al sh S (yM (kLend f t m (S 49 0 f.toNatClampNeg)) al sh (S 50 0 (4 * t.toNatClampNeg + f.toNatClampNeg) + m) (sup (sup (sup (sup S 40 0 0 0) 49 0 f.toNatClampNeg (S 49 0 f.toNatClampNeg - m)) 49 0 t.toNatClampNeg (sup (sup S 40 0 0 0) 49 0 f.toNatClampNeg (S 49 0 f.toNatClampNeg - m) 49 0 t.toNatClampNeg + m)) 50 0 (4 * t.toNatClampNeg + f.toNatClampNeg) (S 50 0 (4 * t.toNatClampNeg + f.toNatClampNeg) + m)) S) := by
  obtain ⟨hm, hs, hnm, hns, hus, hde, hmo, hpo, hro, hho, hen⟩ := id hI
  refine Ct.of (lv := [(0, .ref (al 40 0)), (1, .int f), (2, .int t), (3, .int m)]) (by decide) rfl (Nat.le_of_ble_eq_true rfl) rfl ?_
  intro p_ e_ s_ m_ below_ meth_ c_ cx hlk hr hnm9
  refine j_aload_n (j := 0) cx dX3_lend_0 rfl rfl (pc' := 1) rfl ?_
  refine j_iload_n (j := 1) cx dX3_lend_1 rfl rfl (pc' := 2) rfl ?_
  refine j_iload_n (j := 2) cx dX3_lend_2 rfl rfl (pc' := 3) rfl ?_
  refine j_iload_n (j := 3) cx dX3_lend_3 rfl rfl (pc' := 4) rfl ?_
  refine j_cSR (cells1 := 0) (slots1 := 0) (st1 := [.int (bI (¬ (oR 0 3 f ∨ oR 0 3 t ∨ f = t ∨ oR 1 5000 m))), .ref (al 40 0)]) (As := [.int f, .int t, .int m]) (rest := [.ref (al 40 0)]) cx (c_X3_areTwo) gX3_lend_X3_areTwo rfl rfl rfl 3 rfl (by decide +kernel) ⟨Nat.le_of_ble_eq_true rfl, Nat.le_of_ble_eq_true rfl⟩ rfl (Nat.le_of_ble_eq_true rfl) dX3_lend_4 ⟨Nat.le_of_ble_eq_true rfl, Nat.le_of_ble_eq_true rfl⟩ (pc' := 7) rfl rfl rfl rfl ?_
  refine j_ifb_ne (tgt := 14) cx dX3_lend_7 (by decide) (pc' := 10) rfl (fun h2 => ?_) (fun h2 => ?_)
  · refine j_aload_n (j := 0) cx dX3_lend_14 rfl rfl (pc' := 15) rfl ?_
    refine j_get (fk := 9) (ref := "TerminalYardModel") (v := .ref (al 49 0)) cx hX.1 rfl (by decide +kernel) (by decide) (by decide +kernel) (fun _ h => h) (yV_r (k := (49, 0)) rfl) rfl dX3_lend_15 (pc' := 18) rfl ?_
    refine j_iload_n (j := 1) cx dX3_lend_18 rfl rfl (pc' := 19) rfl ?_
    refine j_iald (v := S 49 0 f.toNatClampNeg) cx hX.2.2.2.2.2.2.2.1 rfl (two_f h2) rfl rfl dX3_lend_19 (pc' := 20) rfl ?_
    refine j_iload_n (j := 3) cx dX3_lend_20 rfl rfl (pc' := 21) rfl ?_
    refine j_icmp_ge (tgt := 28) cx dX3_lend_21 (by decide) (pc' := 24) rfl (fun h3 => ?_) (fun h3 => ?_)
    · refine j_iconst (v := 0) cx dX3_lend_28 (by decide) (pc' := 29) rfl ?_
      refine j_cVR (cells1 := 0) (slots1 := 0) (st1 := [.int (bI (0 = 0))]) (As := [.int 0]) (rest := []) cx (c_X3_goesOn hX) gX3_lend_X3_goesOn rfl rfl rfl 1 rfl (by decide +kernel) ⟨Nat.le_of_ble_eq_true rfl, Nat.le_of_ble_eq_true rfl⟩ hX.1 rfl rfl rfl rfl (Nat.le_of_ble_eq_true rfl) dX3_lend_29 ⟨Nat.le_of_ble_eq_true rfl, Nat.le_of_ble_eq_true rfl⟩ (pc' := 32) rfl rfl rfl rfl ?_
      refine j_ifb_ne (tgt := 37) cx dX3_lend_32 (by decide) (pc' := 35) rfl (fun _ => ?_) (fun h => by first | exact absurd h (by decide) | exact absurd (by decide) h)
      refine j_aload_n (j := 0) cx dX3_lend_37 rfl rfl (pc' := 38) rfl ?_
      refine j_get (fk := 9) (ref := "TerminalYardModel") (v := .ref (al 49 0)) cx hX.1 rfl (by decide +kernel) (by decide) (by decide +kernel) (fun _ h => h) (yV_r (k := (49, 0)) rfl) rfl dX3_lend_38 (pc' := 41) rfl ?_
      refine j_iload_n (j := 1) cx dX3_lend_41 rfl rfl (pc' := 42) rfl ?_
      refine j_dup2 cx dX3_lend_42 rfl rfl (pc' := 43) rfl ?_
      refine j_iald (v := S 49 0 f.toNatClampNeg) cx hX.2.2.2.2.2.2.2.1 rfl (two_f h2) (by simp [sup, gO, mChg_o, lEmp_o]) rfl dX3_lend_43 (pc' := 44) rfl ?_
      refine j_iload_n (j := 3) cx dX3_lend_44 rfl rfl (pc' := 45) rfl ?_
      refine j_isub cx dX3_lend_45 (pc' := 46) rfl ?_
      refine j_iast (jn := f.toNatClampNeg) cx hX.2.2.2.2.2.2.2.1 rfl (two_f h2) rfl rfl dX3_lend_46 (pc' := 47) rfl ?_
      refine j_aload_n (j := 0) cx dX3_lend_47 rfl rfl (pc' := 48) rfl ?_
      refine j_get (fk := 9) (ref := "TerminalYardModel") (v := .ref (al 49 0)) cx hX.1 rfl (by decide +kernel) (by decide) (by decide +kernel) (fun _ h => h) (yV_r (k := (49, 0)) rfl) rfl dX3_lend_48 (pc' := 51) rfl ?_
      refine j_iload_n (j := 2) cx dX3_lend_51 rfl rfl (pc' := 52) rfl ?_
      refine j_dup2 cx dX3_lend_52 rfl rfl (pc' := 53) rfl ?_
      refine j_iald (v := (sup (sup S 40 0 0 0) 49 0 f.toNatClampNeg ((S 49 0 f.toNatClampNeg) - m)) 49 0 t.toNatClampNeg) cx hX.2.2.2.2.2.2.2.1 rfl (two_t h2) rfl rfl dX3_lend_53 (pc' := 54) rfl ?_
      refine j_iload_n (j := 3) cx dX3_lend_54 rfl rfl (pc' := 55) rfl ?_
      refine j_iadd cx dX3_lend_55 (pc' := 56) rfl ?_
      refine j_iast (jn := t.toNatClampNeg) cx hX.2.2.2.2.2.2.2.1 rfl (two_t h2) rfl rfl dX3_lend_56 (pc' := 57) rfl ?_
      refine j_aload_n (j := 0) cx dX3_lend_57 rfl rfl (pc' := 58) rfl ?_
      refine j_get (fk := 10) (ref := "TerminalYardModel") (v := .ref (al 50 0)) cx hX.1 rfl (by decide +kernel) (by decide) (by decide +kernel) (fun _ h => h) (yV_r (k := (50, 0)) rfl) rfl dX3_lend_58 (pc' := 61) rfl ?_
      refine j_iconst (v := 4) cx dX3_lend_61 (by decide) (pc' := 62) rfl ?_
      refine j_iload_n (j := 2) cx dX3_lend_62 rfl rfl (pc' := 63) rfl ?_
      refine j_imul cx dX3_lend_63 (pc' := 64) rfl ?_
      refine j_iload_n (j := 1) cx dX3_lend_64 rfl rfl (pc' := 65) rfl ?_
      refine j_iadd cx dX3_lend_65 (pc' := 66) rfl ?_
      refine j_dup2 cx dX3_lend_66 rfl rfl (pc' := 67) rfl ?_
      refine j_iald (v := S 50 0 (4 * t.toNatClampNeg + f.toNatClampNeg)) cx hX.2.2.2.2.2.2.2.2.1 rfl (ix44i (two_t h2) (two_f h2)) (by rw [(ix44 (two_t h2) (two_f h2))]; simp [sup, mChg_o, lEmp_o]) rfl dX3_lend_67 (pc' := 68) rfl ?_
      refine j_iload_n (j := 3) cx dX3_lend_68 rfl rfl (pc' := 69) rfl ?_
      refine j_iadd cx dX3_lend_69 (pc' := 70) rfl ?_
      refine j_iast (jn := 4 * t.toNatClampNeg + f.toNatClampNeg) cx hX.2.2.2.2.2.2.2.2.1 rfl (ix44i (two_t h2) (two_f h2)) (ix44 (two_t h2) (two_f h2)) rfl dX3_lend_70 (pc' := 71) rfl ?_
      refine j_aload_n (j := 0) cx dX3_lend_71 rfl rfl (pc' := 72) rfl ?_
      refine j_get (fk := 10) (ref := "TerminalYardModel") (v := .ref (al 50 0)) cx hX.1 rfl (by decide +kernel) (by decide) (by decide +kernel) (fun _ h => h) (yV_r (k := (50, 0)) rfl) rfl dX3_lend_72 (pc' := 75) rfl ?_
      refine j_iconst (v := 4) cx dX3_lend_75 (by decide) (pc' := 76) rfl ?_
      refine j_iload_n (j := 2) cx dX3_lend_76 rfl rfl (pc' := 77) rfl ?_
      refine j_imul cx dX3_lend_77 (pc' := 78) rfl ?_
      refine j_iload_n (j := 1) cx dX3_lend_78 rfl rfl (pc' := 79) rfl ?_
      refine j_iadd cx dX3_lend_79 (pc' := 80) rfl ?_
      refine j_iald (v := (S 50 0 (4 * t.toNatClampNeg + f.toNatClampNeg)) + m) cx hX.2.2.2.2.2.2.2.2.1 rfl (ix44i (two_t h2) (two_f h2)) (by rw [(ix44 (two_t h2) (two_f h2))]; simp [sup, mChg_o, lEmp_o]) rfl dX3_lend_80 (pc' := 81) rfl ?_
      exact j_iret (ty := .int) cx hlk hr rfl (Nat.le_of_ble_eq_true rfl) (Nat.le_of_ble_eq_true rfl) dX3_lend_81 (yM_0 (by simp [kLend, h2, h3, Int32.not_lt.mpr h3]) (by simp [sup]) (by simp [sup]))
    · refine j_iconst (v := 2) cx dX3_lend_24 (by decide) (pc' := 25) rfl ?_
      refine j_goto (tgt := 29) cx dX3_lend_25 (by decide) ?_
      refine j_cVR (cells1 := 0) (slots1 := 0) (st1 := [.int (bI (2 = 0))]) (As := [.int 2]) (rest := []) cx (c_X3_goesOn hX) gX3_lend_X3_goesOn rfl rfl rfl 1 rfl (by decide +kernel) ⟨Nat.le_of_ble_eq_true rfl, Nat.le_of_ble_eq_true rfl⟩ hX.1 rfl rfl rfl rfl (Nat.le_of_ble_eq_true rfl) dX3_lend_29 ⟨Nat.le_of_ble_eq_true rfl, Nat.le_of_ble_eq_true rfl⟩ (pc' := 32) rfl rfl rfl rfl ?_
      refine j_ifb_ne (tgt := 37) cx dX3_lend_32 (by decide) (pc' := 35) rfl (fun h => by first | exact absurd h (by decide) | exact absurd (by decide) h) (fun _ => ?_)
      refine j_iconst (v := 0) cx dX3_lend_35 (by decide) (pc' := 36) rfl ?_
      exact j_iret (ty := .int) cx hlk hr rfl (Nat.le_of_ble_eq_true rfl) (Nat.le_of_ble_eq_true rfl) dX3_lend_36 (yM_n (by first | (simp [kLend, h2, h3, Int32.not_le.mp h3]; done) | (exfalso; contradiction)) (by decide))
  · refine j_iconst (v := 1) cx dX3_lend_10 (by decide) (pc' := 11) rfl ?_
    refine j_goto (tgt := 29) cx dX3_lend_11 (by decide) ?_
    refine j_cVR (cells1 := 0) (slots1 := 0) (st1 := [.int (bI (1 = 0))]) (As := [.int 1]) (rest := []) cx (c_X3_goesOn hX) gX3_lend_X3_goesOn rfl rfl rfl 1 rfl (by decide +kernel) ⟨Nat.le_of_ble_eq_true rfl, Nat.le_of_ble_eq_true rfl⟩ hX.1 rfl rfl rfl rfl (Nat.le_of_ble_eq_true rfl) dX3_lend_29 ⟨Nat.le_of_ble_eq_true rfl, Nat.le_of_ble_eq_true rfl⟩ (pc' := 32) rfl rfl rfl rfl ?_
    refine j_ifb_ne (tgt := 37) cx dX3_lend_32 (by decide) (pc' := 35) rfl (fun h => by first | exact absurd h (by decide) | exact absurd (by decide) h) (fun _ => ?_)
    refine j_iconst (v := 0) cx dX3_lend_35 (by decide) (pc' := 36) rfl ?_
    exact j_iret (ty := .int) cx hlk hr rfl (Nat.le_of_ble_eq_true rfl) (Nat.le_of_ble_eq_true rfl) dX3_lend_36 (yM_n (by first | (simp [kLend, h2]; done) | (exfalso; contradiction)) (by decide))
set_option maxHeartbeats 4000000 in
set_option maxRecDepth 100000 in
theorem c_X3_giveBack {l : Launch} {Z : yL} {al : yAl} {sh : ySh} {S : yS} {nm ns : Nat} {f t m : Int32} (hX : YM Z sh) (hI : XI S nm ns) : Ct l yX3_giveBack wsX3_giveBack ({ frames := 3, cells := 0, slots := 0, locals := 64 }) 0 0 Z [.ref (al 40 0), .int f, .int t, .int m] al sh S (yM (kGive f t m (S 50 0 (4 * f.toNatClampNeg + t.toNatClampNeg)) (S 49 0 f.toNatClampNeg)) al sh (S 50 0 (4 * f.toNatClampNeg + t.toNatClampNeg) - m) (sup (sup (sup (sup S 40 0 0 0) 49 0 f.toNatClampNeg (S 49 0 f.toNatClampNeg - m)) 49 0 t.toNatClampNeg (sup (sup S 40 0 0 0) 49 0 f.toNatClampNeg (S 49 0 f.toNatClampNeg - m) 49 0 t.toNatClampNeg + m)) 50 0 (4 * f.toNatClampNeg + t.toNatClampNeg) (S 50 0 (4 * f.toNatClampNeg + t.toNatClampNeg) - m)) S) := by
  obtain ⟨hm, hs, hnm, hns, hus, hde, hmo, hpo, hro, hho, hen⟩ := id hI
  refine Ct.of (lv := [(0, .ref (al 40 0)), (1, .int f), (2, .int t), (3, .int m)]) (by decide) rfl (Nat.le_of_ble_eq_true rfl) rfl ?_
  intro p_ e_ s_ m_ below_ meth_ c_ cx hlk hr hnm9
  refine j_iload_n (j := 1) cx dX3_giveBack_0 rfl rfl (pc' := 1) rfl ?_
  refine j_iload_n (j := 2) cx dX3_giveBack_1 rfl rfl (pc' := 2) rfl ?_
  refine j_iload_n (j := 3) cx dX3_giveBack_2 rfl rfl (pc' := 3) rfl ?_
  refine j_cSR (cells1 := 0) (slots1 := 0) (st1 := [.int (bI (¬ (oR 0 3 f ∨ oR 0 3 t ∨ f = t ∨ oR 1 5000 m)))]) (As := [.int f, .int t, .int m]) (rest := []) cx (c_X3_areTwo) gX3_giveBack_X3_areTwo rfl rfl rfl 3 rfl (by decide +kernel) ⟨Nat.le_of_ble_eq_true rfl, Nat.le_of_ble_eq_true rfl⟩ rfl (Nat.le_of_ble_eq_true rfl) dX3_giveBack_3 ⟨Nat.le_of_ble_eq_true rfl, Nat.le_of_ble_eq_true rfl⟩ (pc' := 6) rfl rfl rfl rfl ?_
  refine j_ifb_ne (tgt := 13) cx dX3_giveBack_6 (by decide) (pc' := 9) rfl (fun h2 => ?_) (fun h2 => ?_)
  · refine j_iconst (v := 0) cx dX3_giveBack_13 (by decide) (pc' := 14) rfl ?_
    refine j_istore (lv' := [(4, .int 0), (0, .ref (al 40 0)), (1, .int f), (2, .int t), (3, .int m)]) cx dX3_giveBack_14 (by decide) rfl (pc' := 16) rfl ?_
    refine j_iload (j := 0) cx dX3_giveBack_16 rfl (pc' := 18) rfl ?_
    refine j_if_ne (tgt := 39) cx dX3_giveBack_18 (by decide) (pc' := 21) rfl (fun h => absurd h (by decide)) (fun _ => ?_)
    refine j_aload_n (j := 1) cx dX3_giveBack_21 rfl rfl (pc' := 22) rfl ?_
    refine j_get (fk := 10) (ref := "TerminalYardModel") (v := .ref (al 50 0)) cx hX.1 rfl (by decide +kernel) (by decide) (by decide +kernel) (fun _ h => h) (yV_r (k := (50, 0)) rfl) rfl dX3_giveBack_22 (pc' := 25) rfl ?_
    refine j_iconst (v := 4) cx dX3_giveBack_25 (by decide) (pc' := 26) rfl ?_
    refine j_iload_n (j := 2) cx dX3_giveBack_26 rfl rfl (pc' := 27) rfl ?_
    refine j_imul cx dX3_giveBack_27 (pc' := 28) rfl ?_
    refine j_iload_n (j := 3) cx dX3_giveBack_28 rfl rfl (pc' := 29) rfl ?_
    refine j_iadd cx dX3_giveBack_29 (pc' := 30) rfl ?_
    refine j_iald (v := S 50 0 (4 * f.toNatClampNeg + t.toNatClampNeg)) cx hX.2.2.2.2.2.2.2.2.1 rfl (ix44i (two_f h2) (two_t h2)) (by rw [(ix44 (two_f h2) (two_t h2))]) rfl dX3_giveBack_30 (pc' := 31) rfl ?_
    refine j_iload_n (j := 4) cx dX3_giveBack_31 rfl rfl (pc' := 32) rfl ?_
    refine j_icmp_ge (tgt := 39) cx dX3_giveBack_32 (by decide) (pc' := 35) rfl (fun h3 => ?_) (fun h3 => ?_)
    · refine j_iload (j := 0) cx dX3_giveBack_39 rfl (pc' := 41) rfl ?_
      refine j_if_ne (tgt := 58) cx dX3_giveBack_41 (by decide) (pc' := 44) rfl (fun h => absurd h (by decide)) (fun _ => ?_)
      refine j_aload_n (j := 1) cx dX3_giveBack_44 rfl rfl (pc' := 45) rfl ?_
      refine j_get (fk := 9) (ref := "TerminalYardModel") (v := .ref (al 49 0)) cx hX.1 rfl (by decide +kernel) (by decide) (by decide +kernel) (fun _ h => h) (yV_r (k := (49, 0)) rfl) rfl dX3_giveBack_45 (pc' := 48) rfl ?_
      refine j_iload_n (j := 2) cx dX3_giveBack_48 rfl rfl (pc' := 49) rfl ?_
      refine j_iald (v := S 49 0 f.toNatClampNeg) cx hX.2.2.2.2.2.2.2.1 rfl (two_f h2) rfl rfl dX3_giveBack_49 (pc' := 50) rfl ?_
      refine j_iload_n (j := 4) cx dX3_giveBack_50 rfl rfl (pc' := 51) rfl ?_
      refine j_icmp_ge (tgt := 58) cx dX3_giveBack_51 (by decide) (pc' := 54) rfl (fun h4 => ?_) (fun h4 => ?_)
      · refine j_iload (j := 0) cx dX3_giveBack_58 rfl (pc' := 60) rfl ?_
        refine j_istore (lv' := [(4, .int 0), (0, .ref (al 40 0)), (1, .int f), (2, .int t), (3, .int m)]) cx dX3_giveBack_60 (by decide) rfl (pc' := 62) rfl ?_
        refine j_aload_n (j := 1) cx dX3_giveBack_62 rfl rfl (pc' := 63) rfl ?_
        refine j_iload (j := 0) cx dX3_giveBack_63 rfl (pc' := 65) rfl ?_
        refine j_cVR (cells1 := 0) (slots1 := 0) (st1 := [.int (bI (0 = 0))]) (As := [.int 0]) (rest := []) cx (c_X3_goesOn hX) gX3_giveBack_X3_goesOn rfl rfl rfl 1 rfl (by decide +kernel) ⟨Nat.le_of_ble_eq_true rfl, Nat.le_of_ble_eq_true rfl⟩ hX.1 rfl rfl rfl rfl (Nat.le_of_ble_eq_true rfl) dX3_giveBack_65 ⟨Nat.le_of_ble_eq_true rfl, Nat.le_of_ble_eq_true rfl⟩ (pc' := 68) rfl rfl rfl rfl ?_
        refine j_ifb_ne (tgt := 73) cx dX3_giveBack_68 (by decide) (pc' := 71) rfl (fun _ => ?_) (fun h => by first | exact absurd h (by decide) | exact absurd (by decide) h)
        refine j_aload_n (j := 1) cx dX3_giveBack_73 rfl rfl (pc' := 74) rfl ?_
        refine j_get (fk := 9) (ref := "TerminalYardModel") (v := .ref (al 49 0)) cx hX.1 rfl (by decide +kernel) (by decide) (by decide +kernel) (fun _ h => h) (yV_r (k := (49, 0)) rfl) rfl dX3_giveBack_74 (pc' := 77) rfl ?_
        refine j_iload_n (j := 2) cx dX3_giveBack_77 rfl rfl (pc' := 78) rfl ?_
        refine j_dup2 cx dX3_giveBack_78 rfl rfl (pc' := 79) rfl ?_
        refine j_iald (v := S 49 0 f.toNatClampNeg) cx hX.2.2.2.2.2.2.2.1 rfl (two_f h2) (by simp [sup, gO, mChg_o, lEmp_o]) rfl dX3_giveBack_79 (pc' := 80) rfl ?_
        refine j_iload_n (j := 4) cx dX3_giveBack_80 rfl rfl (pc' := 81) rfl ?_
        refine j_isub cx dX3_giveBack_81 (pc' := 82) rfl ?_
        refine j_iast (jn := f.toNatClampNeg) cx hX.2.2.2.2.2.2.2.1 rfl (two_f h2) rfl rfl dX3_giveBack_82 (pc' := 83) rfl ?_
        refine j_aload_n (j := 1) cx dX3_giveBack_83 rfl rfl (pc' := 84) rfl ?_
        refine j_get (fk := 9) (ref := "TerminalYardModel") (v := .ref (al 49 0)) cx hX.1 rfl (by decide +kernel) (by decide) (by decide +kernel) (fun _ h => h) (yV_r (k := (49, 0)) rfl) rfl dX3_giveBack_84 (pc' := 87) rfl ?_
        refine j_iload_n (j := 3) cx dX3_giveBack_87 rfl rfl (pc' := 88) rfl ?_
        refine j_dup2 cx dX3_giveBack_88 rfl rfl (pc' := 89) rfl ?_
        refine j_iald (v := (sup (sup S 40 0 0 0) 49 0 f.toNatClampNeg ((S 49 0 f.toNatClampNeg) - m)) 49 0 t.toNatClampNeg) cx hX.2.2.2.2.2.2.2.1 rfl (two_t h2) rfl rfl dX3_giveBack_89 (pc' := 90) rfl ?_
        refine j_iload_n (j := 4) cx dX3_giveBack_90 rfl rfl (pc' := 91) rfl ?_
        refine j_iadd cx dX3_giveBack_91 (pc' := 92) rfl ?_
        refine j_iast (jn := t.toNatClampNeg) cx hX.2.2.2.2.2.2.2.1 rfl (two_t h2) rfl rfl dX3_giveBack_92 (pc' := 93) rfl ?_
        refine j_aload_n (j := 1) cx dX3_giveBack_93 rfl rfl (pc' := 94) rfl ?_
        refine j_get (fk := 10) (ref := "TerminalYardModel") (v := .ref (al 50 0)) cx hX.1 rfl (by decide +kernel) (by decide) (by decide +kernel) (fun _ h => h) (yV_r (k := (50, 0)) rfl) rfl dX3_giveBack_94 (pc' := 97) rfl ?_
        refine j_iconst (v := 4) cx dX3_giveBack_97 (by decide) (pc' := 98) rfl ?_
        refine j_iload_n (j := 2) cx dX3_giveBack_98 rfl rfl (pc' := 99) rfl ?_
        refine j_imul cx dX3_giveBack_99 (pc' := 100) rfl ?_
        refine j_iload_n (j := 3) cx dX3_giveBack_100 rfl rfl (pc' := 101) rfl ?_
        refine j_iadd cx dX3_giveBack_101 (pc' := 102) rfl ?_
        refine j_dup2 cx dX3_giveBack_102 rfl rfl (pc' := 103) rfl ?_
        refine j_iald (v := S 50 0 (4 * f.toNatClampNeg + t.toNatClampNeg)) cx hX.2.2.2.2.2.2.2.2.1 rfl (ix44i (two_f h2) (two_t h2)) (by rw [(ix44 (two_f h2) (two_t h2))]; simp [sup, mChg_o, lEmp_o]) rfl dX3_giveBack_103 (pc' := 104) rfl ?_
        refine j_iload_n (j := 4) cx dX3_giveBack_104 rfl rfl (pc' := 105) rfl ?_
        refine j_isub cx dX3_giveBack_105 (pc' := 106) rfl ?_
        refine j_iast (jn := 4 * f.toNatClampNeg + t.toNatClampNeg) cx hX.2.2.2.2.2.2.2.2.1 rfl (ix44i (two_f h2) (two_t h2)) (ix44 (two_f h2) (two_t h2)) rfl dX3_giveBack_106 (pc' := 107) rfl ?_
        refine j_aload_n (j := 1) cx dX3_giveBack_107 rfl rfl (pc' := 108) rfl ?_
        refine j_get (fk := 10) (ref := "TerminalYardModel") (v := .ref (al 50 0)) cx hX.1 rfl (by decide +kernel) (by decide) (by decide +kernel) (fun _ h => h) (yV_r (k := (50, 0)) rfl) rfl dX3_giveBack_108 (pc' := 111) rfl ?_
        refine j_iconst (v := 4) cx dX3_giveBack_111 (by decide) (pc' := 112) rfl ?_
        refine j_iload_n (j := 2) cx dX3_giveBack_112 rfl rfl (pc' := 113) rfl ?_
        refine j_imul cx dX3_giveBack_113 (pc' := 114) rfl ?_
        refine j_iload_n (j := 3) cx dX3_giveBack_114 rfl rfl (pc' := 115) rfl ?_
        refine j_iadd cx dX3_giveBack_115 (pc' := 116) rfl ?_
        refine j_iald (v := (S 50 0 (4 * f.toNatClampNeg + t.toNatClampNeg)) - m) cx hX.2.2.2.2.2.2.2.2.1 rfl (ix44i (two_f h2) (two_t h2)) (by rw [(ix44 (two_f h2) (two_t h2))]; simp [sup, mChg_o, lEmp_o]) rfl dX3_giveBack_116 (pc' := 117) rfl ?_
        exact j_iret (ty := .int) cx hlk hr rfl (Nat.le_of_ble_eq_true rfl) (Nat.le_of_ble_eq_true rfl) dX3_giveBack_117 (yM_0 (by simp [kGive, h2, h3, Int32.not_lt.mpr h3, h4, Int32.not_lt.mpr h4]) (by simp [sup]) (by simp [sup]))
      · refine j_iconst (v := 3) cx dX3_giveBack_54 (by decide) (pc' := 55) rfl ?_
        refine j_goto (tgt := 60) cx dX3_giveBack_55 (by decide) ?_
        refine j_istore (lv' := [(4, .int 3), (0, .ref (al 40 0)), (1, .int f), (2, .int t), (3, .int m)]) cx dX3_giveBack_60 (by decide) rfl (pc' := 62) rfl ?_
        refine j_aload_n (j := 1) cx dX3_giveBack_62 rfl rfl (pc' := 63) rfl ?_
        refine j_iload (j := 0) cx dX3_giveBack_63 rfl (pc' := 65) rfl ?_
        refine j_cVR (cells1 := 0) (slots1 := 0) (st1 := [.int (bI (3 = 0))]) (As := [.int 3]) (rest := []) cx (c_X3_goesOn hX) gX3_giveBack_X3_goesOn rfl rfl rfl 1 rfl (by decide +kernel) ⟨Nat.le_of_ble_eq_true rfl, Nat.le_of_ble_eq_true rfl⟩ hX.1 rfl rfl rfl rfl (Nat.le_of_ble_eq_true rfl) dX3_giveBack_65 ⟨Nat.le_of_ble_eq_true rfl, Nat.le_of_ble_eq_true rfl⟩ (pc' := 68) rfl rfl rfl rfl ?_
        refine j_ifb_ne (tgt := 73) cx dX3_giveBack_68 (by decide) (pc' := 71) rfl (fun h => by first | exact absurd h (by decide) | exact absurd (by decide) h) (fun _ => ?_)
        refine j_iconst (v := 0) cx dX3_giveBack_71 (by decide) (pc' := 72) rfl ?_
        exact j_iret (ty := .int) cx hlk hr rfl (Nat.le_of_ble_eq_true rfl) (Nat.le_of_ble_eq_true rfl) dX3_giveBack_72 (yM_n (by first | (simp [kGive, h2, h3, Int32.not_lt.mpr h3, h4, Int32.not_le.mp h4]; done) | (exfalso; contradiction)) (by decide))
    · refine j_iconst (v := 2) cx dX3_giveBack_35 (by decide) (pc' := 36) rfl ?_
      refine j_goto (tgt := 60) cx dX3_giveBack_36 (by decide) ?_
      refine j_istore (lv' := [(4, .int 2), (0, .ref (al 40 0)), (1, .int f), (2, .int t), (3, .int m)]) cx dX3_giveBack_60 (by decide) rfl (pc' := 62) rfl ?_
      refine j_aload_n (j := 1) cx dX3_giveBack_62 rfl rfl (pc' := 63) rfl ?_
      refine j_iload (j := 0) cx dX3_giveBack_63 rfl (pc' := 65) rfl ?_
      refine j_cVR (cells1 := 0) (slots1 := 0) (st1 := [.int (bI (2 = 0))]) (As := [.int 2]) (rest := []) cx (c_X3_goesOn hX) gX3_giveBack_X3_goesOn rfl rfl rfl 1 rfl (by decide +kernel) ⟨Nat.le_of_ble_eq_true rfl, Nat.le_of_ble_eq_true rfl⟩ hX.1 rfl rfl rfl rfl (Nat.le_of_ble_eq_true rfl) dX3_giveBack_65 ⟨Nat.le_of_ble_eq_true rfl, Nat.le_of_ble_eq_true rfl⟩ (pc' := 68) rfl rfl rfl rfl ?_
      refine j_ifb_ne (tgt := 73) cx dX3_giveBack_68 (by decide) (pc' := 71) rfl (fun h => by first | exact absurd h (by decide) | exact absurd (by decide) h) (fun _ => ?_)
      refine j_iconst (v := 0) cx dX3_giveBack_71 (by decide) (pc' := 72) rfl ?_
      exact j_iret (ty := .int) cx hlk hr rfl (Nat.le_of_ble_eq_true rfl) (Nat.le_of_ble_eq_true rfl) dX3_giveBack_72 (yM_n (by first | (simp [kGive, h2, h3, Int32.not_le.mp h3]; done) | (exfalso; contradiction)) (by decide))
  · refine j_iconst (v := 1) cx dX3_giveBack_9 (by decide) (pc' := 10) rfl ?_
    refine j_goto (tgt := 14) cx dX3_giveBack_10 (by decide) ?_
    refine j_istore (lv' := [(4, .int 1), (0, .ref (al 40 0)), (1, .int f), (2, .int t), (3, .int m)]) cx dX3_giveBack_14 (by decide) rfl (pc' := 16) rfl ?_
    refine j_iload (j := 0) cx dX3_giveBack_16 rfl (pc' := 18) rfl ?_
    refine j_if_ne (tgt := 39) cx dX3_giveBack_18 (by decide) (pc' := 21) rfl (fun _ => ?_) (fun h => absurd h (by decide))
    refine j_iload (j := 0) cx dX3_giveBack_39 rfl (pc' := 41) rfl ?_
    refine j_if_ne (tgt := 58) cx dX3_giveBack_41 (by decide) (pc' := 44) rfl (fun _ => ?_) (fun h => absurd h (by decide))
    refine j_iload (j := 0) cx dX3_giveBack_58 rfl (pc' := 60) rfl ?_
    refine j_istore (lv' := [(4, .int 1), (0, .ref (al 40 0)), (1, .int f), (2, .int t), (3, .int m)]) cx dX3_giveBack_60 (by decide) rfl (pc' := 62) rfl ?_
    refine j_aload_n (j := 1) cx dX3_giveBack_62 rfl rfl (pc' := 63) rfl ?_
    refine j_iload (j := 0) cx dX3_giveBack_63 rfl (pc' := 65) rfl ?_
    refine j_cVR (cells1 := 0) (slots1 := 0) (st1 := [.int (bI (1 = 0))]) (As := [.int 1]) (rest := []) cx (c_X3_goesOn hX) gX3_giveBack_X3_goesOn rfl rfl rfl 1 rfl (by decide +kernel) ⟨Nat.le_of_ble_eq_true rfl, Nat.le_of_ble_eq_true rfl⟩ hX.1 rfl rfl rfl rfl (Nat.le_of_ble_eq_true rfl) dX3_giveBack_65 ⟨Nat.le_of_ble_eq_true rfl, Nat.le_of_ble_eq_true rfl⟩ (pc' := 68) rfl rfl rfl rfl ?_
    refine j_ifb_ne (tgt := 73) cx dX3_giveBack_68 (by decide) (pc' := 71) rfl (fun h => by first | exact absurd h (by decide) | exact absurd (by decide) h) (fun _ => ?_)
    refine j_iconst (v := 0) cx dX3_giveBack_71 (by decide) (pc' := 72) rfl ?_
    exact j_iret (ty := .int) cx hlk hr rfl (Nat.le_of_ble_eq_true rfl) (Nat.le_of_ble_eq_true rfl) dX3_giveBack_72 (yM_n (by first | (simp [kGive, h2]; done) | (exfalso; contradiction)) (by decide))
