set_option maxHeartbeats 4000000 in
set_option maxRecDepth 100000 in
theorem c_X3_pass {l : Launch} {Z : yL} {al : yAl} {sh : ySh} {S : yS} {nm ns : Nat} {x : Int32} (hX : YM Z sh) (hI : XI S nm ns) : Ct l yX3_pass wsX3_pass ({ frames := 3, cells := 0, slots := 0, locals := 65 }) 0 0 Z [.ref (al 40 0), .int x] al sh S (yM (kPass x (S 40 0 1)) al sh (nEnd ns (sup S 40 0 0 0) 0 x.toNatClampNeg) (lEmp ns (nPass ns (sup S 40 0 0 0) x.toNatClampNeg) 0 nm) S) := by
  obtain ⟨hm, hs, hnm, hns, hus, hde, hmo, hpo, hro, hho, hen⟩ := id hI
  refine Ct.of (lv := [(0, .ref (al 40 0)), (1, .int x)]) (by decide) rfl (Nat.le_of_ble_eq_true rfl) rfl ?_
  intro p_ e_ s_ m_ below_ meth_ c_ cx hlk hr hnm9
  by_cases hb : oR 1 60 x
  · refine j_aload_n (j := 0) cx dX3_pass_0 rfl rfl (pc' := 1) rfl ?_
    refine j_iload_n (j := 1) cx dX3_pass_1 rfl rfl (pc' := 2) rfl ?_
    refine j_iconst (v := 1) cx dX3_pass_2 (by decide) (pc' := 3) rfl ?_
    refine j_bipush (v := 60) cx dX3_pass_3 (by decide) (pc' := 5) rfl ?_
    refine j_cSR (cells1 := 0) (slots1 := 0) (st1 := [.int (bI (¬ oR 1 60 x)), .ref (al 40 0)]) (As := [.int x, .int 1, .int 60]) (rest := [.ref (al 40 0)]) cx (c_X3_in) gX3_pass_X3_in rfl rfl rfl 3 rfl (by decide +kernel) ⟨Nat.le_of_ble_eq_true rfl, Nat.le_of_ble_eq_true rfl⟩ rfl (Nat.le_of_ble_eq_true rfl) dX3_pass_5 ⟨Nat.le_of_ble_eq_true rfl, Nat.le_of_ble_eq_true rfl⟩ (pc' := 8) rfl rfl rfl rfl ?_
    refine j_ifb_eq (tgt := 23) cx dX3_pass_8 (by decide) (pc' := 11) rfl (fun _ => ?_) (fun h => by first | exact absurd h hb | exact absurd hb h)
    refine j_iconst (v := 1) cx dX3_pass_23 (by decide) (pc' := 24) rfl ?_
    refine j_goto (tgt := 28) cx dX3_pass_24 (by decide) ?_
    refine j_cVR (cells1 := 0) (slots1 := 0) (st1 := [.int (bI (1 = 0))]) (As := [.int 1]) (rest := []) cx (c_X3_goesOn hX) gX3_pass_X3_goesOn rfl rfl rfl 1 rfl (by decide +kernel) ⟨Nat.le_of_ble_eq_true rfl, Nat.le_of_ble_eq_true rfl⟩ hX.1 rfl rfl rfl rfl (Nat.le_of_ble_eq_true rfl) dX3_pass_28 ⟨Nat.le_of_ble_eq_true rfl, Nat.le_of_ble_eq_true rfl⟩ (pc' := 31) rfl rfl rfl rfl ?_
    refine j_ifb_ne (tgt := 36) cx dX3_pass_31 (by decide) (pc' := 34) rfl (fun h => by first | exact absurd h (by decide) | exact absurd (by decide) h) (fun _ => ?_)
    refine j_iconst (v := 0) cx dX3_pass_34 (by decide) (pc' := 35) rfl ?_
    exact j_iret (ty := .int) cx hlk hr rfl (Nat.le_of_ble_eq_true rfl) (Nat.le_of_ble_eq_true rfl) dX3_pass_35 (yM_n (by first | (simp [kPass, hb]; done) | (exfalso; contradiction)) (by decide))
  obtain ⟨n, hn, rfl⟩ : ∃ n : Nat, n ≤ 60 ∧ x = nI n := nI_of2 (M := 60) (by decide) (fun q => hb (Or.inl (by rw [Int32.lt_iff_toInt_lt] at q ⊢; rw [show (0 : Int32).toInt = 0 by decide] at q; rw [show (1 : Int32).toInt = 1 by decide]; omega))) (Int32.not_lt.mp (fun q => hb (Or.inr q)))
  have hcl : (nI n).toNatClampNeg = n := nI_clamp (by omega)
  simp only [hcl]
  have inner : ∀ (j : Nat) (k i : Nat) (T : yS) (a : Int32), i + k = ns → XI T nm ns → J p_ l e_ ({ frames := 3, cells := 0, slots := 0, locals := 65 }) s_ m_ (([.ref (al 40 0), .int (nI n)] : List Value).toArray) below_ meth_ c_ 5 Z 0 0 (MQ below_ (Qn Z (yM (kPass (nI n) (S 40 0 1)) al sh (nEnd ns (sup S 40 0 0 0) 0 n) (lEmp ns (nPass ns (sup S 40 0 0 0) n) 0 nm) S)) (([.ref (al 40 0), .int (nI n)] : List Value).toArray) s_ 0 0 (yF Z)) al sh (nMin T i k) 99 [(0, .ref (al 40 0)), (1, .int (nI n)), (2, .int (nCnt T i a k)), (3, .int (nI j))] [] → J p_ l e_ ({ frames := 3, cells := 0, slots := 0, locals := 65 }) s_ m_ (([.ref (al 40 0), .int (nI n)] : List Value).toArray) below_ meth_ c_ 5 Z 0 0 (MQ below_ (Qn Z (yM (kPass (nI n) (S 40 0 1)) al sh (nEnd ns (sup S 40 0 0 0) 0 n) (lEmp ns (nPass ns (sup S 40 0 0 0) n) 0 nm) S)) (([.ref (al 40 0), .int (nI n)] : List Value).toArray) s_ 0 0 (yF Z)) al sh T 58 [(0, .ref (al 40 0)), (1, .int (nI n)), (2, .int a), (3, .int (nI j)), (4, .int (nI i))] [] := by
    intro j k
    induction k with
    | zero =>
      intro i T a hik hI hk
      have hik2 : i = ns := by omega
      subst hik2
      obtain ⟨hm, hs, hnm, hns, hus, hde, hmo, hpo, hro, hho, hen⟩ := id hI
      refine j_iload (j := 4) cx dX3_pass_58 rfl (pc' := 60) rfl ?_
      refine j_aload_n (j := 0) cx dX3_pass_60 rfl rfl (pc' := 61) rfl ?_
      refine j_get (fk := 12) (ref := "TerminalYardModel") (v := .int (nI i)) cx hX.1 rfl (by decide +kernel) (by decide) (by decide +kernel) (fun _ h => h) ((yV_i rfl).trans (congrArg Value.int hs)) rfl dX3_pass_61 (pc' := 64) rfl ?_
      refine j_icmp_ge (tgt := 99) cx dX3_pass_64 (by decide) (pc' := 67) rfl (fun _ => ?_) (fun h => by first | exact absurd h nI_gg | exact absurd nI_gg h)
      exact J.sub [0, 1, 2, 3] rfl hk
    | succ k ih =>
      intro i T a hik hI hk
      have hi : i < ns := by omega
      obtain ⟨hm, hs, hnm, hns, hus, hde, hmo, hpo, hro, hho, hen⟩ := id hI
      refine j_iload (j := 4) cx dX3_pass_58 rfl (pc' := 60) rfl ?_
      refine j_aload_n (j := 0) cx dX3_pass_60 rfl rfl (pc' := 61) rfl ?_
      refine j_get (fk := 12) (ref := "TerminalYardModel") (v := .int (nI ns)) cx hX.1 rfl (by decide +kernel) (by decide) (by decide +kernel) (fun _ h => h) ((yV_i rfl).trans (congrArg Value.int hs)) rfl dX3_pass_61 (pc' := 64) rfl ?_
      refine j_icmp_ge (tgt := 99) cx dX3_pass_64 (by decide) (pc' := 67) rfl (fun h => by first | exact absurd h (nI_ge hi (by omega)) | exact absurd (nI_ge hi (by omega)) h) (fun _ => ?_)
      refine j_iload_n (j := 2) cx dX3_pass_67 rfl rfl (pc' := 68) rfl ?_
      refine j_aload_n (j := 0) cx dX3_pass_68 rfl rfl (pc' := 69) rfl ?_
      refine j_iload (j := 4) cx dX3_pass_69 rfl (pc' := 71) rfl ?_
      refine j_cVR (cells1 := 0) (slots1 := 0) (st1 := [.int (bI (T 59 0 i = 0)), .int a]) (As := [.int (nI i)]) (rest := [.int a]) cx (c_X3_isLive (S := T) (i := i) (e := T 59 0 i) hX (by omega) rfl) gX3_pass_X3_isLive rfl rfl rfl 1 rfl (by decide +kernel) ⟨Nat.le_of_ble_eq_true rfl, Nat.le_of_ble_eq_true rfl⟩ hX.1 rfl rfl rfl rfl (Nat.le_of_ble_eq_true rfl) dX3_pass_71 ⟨Nat.le_of_ble_eq_true rfl, Nat.le_of_ble_eq_true rfl⟩ (pc' := 74) rfl rfl rfl rfl ?_
      refine j_ifb_eq (tgt := 90) cx dX3_pass_74 (by decide) (pc' := 77) rfl (fun h3 => ?_) (fun h3 => ?_)
      · refine j_iconst (v := 0) cx dX3_pass_90 (by decide) (pc' := 91) rfl ?_
        refine j_iadd cx dX3_pass_91 (pc' := 92) rfl ?_
        refine j_istore_n (lv' := [(2, .int (a + 0)), (0, .ref (al 40 0)), (1, .int (nI n)), (3, .int (nI j)), (4, .int (nI i))]) cx dX3_pass_92 rfl (by decide) rfl (pc' := 93) rfl ?_
        refine j_iinc (j := 4) (v := nI (i + 1)) (lv' := [(4, .int (nI (i + 1))), (2, .int (a + 0)), (0, .ref (al 40 0)), (1, .int (nI n)), (3, .int (nI j))]) cx dX3_pass_93 rfl (nI_1 i) (by decide) rfl (pc' := 96) rfl ?_
        refine j_goto (tgt := 58) cx dX3_pass_96 (by decide) ?_
        exact J.sub [2, 3, 1, 4, 0] rfl (by
        have eT : mStep T i = T := by simp [mStep, h3]
        have eA : mEnds T i a = (a + 0) := by simp [mEnds, h3]
        refine ih (i + 1) _ _ (by omega) hI ?_
        simp only [nMin, nCnt, eT, eA] at hk
        exact hk)
      · refine j_aload_n (j := 0) cx dX3_pass_77 rfl rfl (pc' := 78) rfl ?_
        refine j_iload (j := 4) cx dX3_pass_78 rfl (pc' := 80) rfl ?_
        refine j_cVR (cells1 := 0) (slots1 := 0) (st1 := [.int (bI (mMin T i 59 0 i ≠ 0)), .int a]) (As := [.int (nI i)]) (rest := [.int a]) cx (c_X3_passes hX hI hi) gX3_pass_X3_passes rfl rfl rfl 1 rfl (by decide +kernel) ⟨Nat.le_of_ble_eq_true rfl, Nat.le_of_ble_eq_true rfl⟩ hX.1 rfl rfl rfl rfl (Nat.le_of_ble_eq_true rfl) dX3_pass_80 ⟨Nat.le_of_ble_eq_true rfl, Nat.le_of_ble_eq_true rfl⟩ (pc' := 83) rfl rfl rfl rfl ?_
        refine j_ifb_eq (tgt := 90) cx dX3_pass_83 (by decide) (pc' := 86) rfl (fun h5 => ?_) (fun h5 => ?_)
        · refine j_iconst (v := 0) cx dX3_pass_90 (by decide) (pc' := 91) rfl ?_
          refine j_iadd cx dX3_pass_91 (pc' := 92) rfl ?_
          refine j_istore_n (lv' := [(2, .int (a + 0)), (0, .ref (al 40 0)), (1, .int (nI n)), (3, .int (nI j)), (4, .int (nI i))]) cx dX3_pass_92 rfl (by decide) rfl (pc' := 93) rfl ?_
          refine j_iinc (j := 4) (v := nI (i + 1)) (lv' := [(4, .int (nI (i + 1))), (2, .int (a + 0)), (0, .ref (al 40 0)), (1, .int (nI n)), (3, .int (nI j))]) cx dX3_pass_93 rfl (nI_1 i) (by decide) rfl (pc' := 96) rfl ?_
          refine j_goto (tgt := 58) cx dX3_pass_96 (by decide) ?_
          exact J.sub [2, 3, 1, 4, 0] rfl (by
        have eT : (mMin T i) = mStep T i := by simp [mStep, h3, h5]
        have eA : (a + 0) = mEnds T i a := by simp [mEnds, h3, h5]
        rw [eA, eT]
        exact ih (i + 1) _ _ (by omega) hI.step hk)
        · refine j_iconst (v := 1) cx dX3_pass_86 (by decide) (pc' := 87) rfl ?_
          refine j_goto (tgt := 91) cx dX3_pass_87 (by decide) ?_
          refine j_iadd cx dX3_pass_91 (pc' := 92) rfl ?_
          refine j_istore_n (lv' := [(2, .int (a + 1)), (0, .ref (al 40 0)), (1, .int (nI n)), (3, .int (nI j)), (4, .int (nI i))]) cx dX3_pass_92 rfl (by decide) rfl (pc' := 93) rfl ?_
          refine j_iinc (j := 4) (v := nI (i + 1)) (lv' := [(4, .int (nI (i + 1))), (2, .int (a + 1)), (0, .ref (al 40 0)), (1, .int (nI n)), (3, .int (nI j))]) cx dX3_pass_93 rfl (nI_1 i) (by decide) rfl (pc' := 96) rfl ?_
          refine j_goto (tgt := 58) cx dX3_pass_96 (by decide) ?_
          exact J.sub [2, 3, 1, 4, 0] rfl (by
        have eT : (mMin T i) = mStep T i := by simp [mStep, h3, h5]
        have eA : (a + 1) = mEnds T i a := by simp [mEnds, h3, h5]
        rw [eA, eT]
        exact ih (i + 1) _ _ (by omega) hI.step hk)
  have loop : ∀ (hcd : kPass (nI n) (S 40 0 1) = 0) (k i : Nat) (T : yS) (a : Int32), i + k = n → XI T nm ns → nPass ns T k = nPass ns (sup S 40 0 0 0) n → nEnd ns T a k = nEnd ns (sup S 40 0 0 0) 0 n → J p_ l e_ ({ frames := 3, cells := 0, slots := 0, locals := 65 }) s_ m_ (([.ref (al 40 0), .int (nI n)] : List Value).toArray) below_ meth_ c_ 5 Z 0 0 (MQ below_ (Qn Z (yM (kPass (nI n) (S 40 0 1)) al sh (nEnd ns (sup S 40 0 0 0) 0 n) (lEmp ns (nPass ns (sup S 40 0 0 0) n) 0 nm) S)) (([.ref (al 40 0), .int (nI n)] : List Value).toArray) s_ 0 0 (yF Z)) al sh T 40 [(0, .ref (al 40 0)), (1, .int (nI n)), (2, .int a), (3, .int (nI i))] [] := by
    intro hcd k
    induction k with
    | zero =>
      intro i T a hik hI he he2
      have hik2 : i = n := by omega
      subst hik2
      obtain ⟨hm, hs, hnm, hns, hus, hde, hmo, hpo, hro, hho, hen⟩ := id hI
      refine j_iload_n (j := 3) cx dX3_pass_40 rfl rfl (pc' := 41) rfl ?_
      refine j_iload_n (j := 1) cx dX3_pass_41 rfl rfl (pc' := 42) rfl ?_
      refine j_icmp_ge (tgt := 105) cx dX3_pass_42 (by decide) (pc' := 45) rfl (fun _ => ?_) (fun h => by first | exact absurd h nI_gg | exact absurd nI_gg h)
      refine j_aload_n (j := 0) cx dX3_pass_105 rfl rfl (pc' := 106) rfl ?_
      refine j_cVR (cells1 := 0) (slots1 := 0) (st1 := []) (As := []) (rest := []) cx (c_X3_empties hX hI) gX3_pass_X3_empties rfl rfl rfl 0 rfl (by decide +kernel) ⟨Nat.le_of_ble_eq_true rfl, Nat.le_of_ble_eq_true rfl⟩ hX.1 rfl rfl rfl rfl (Nat.le_of_ble_eq_true rfl) dX3_pass_106 ⟨Nat.le_of_ble_eq_true rfl, Nat.le_of_ble_eq_true rfl⟩ (pc' := 109) rfl rfl rfl rfl ?_
      refine j_iload_n (j := 2) cx dX3_pass_109 rfl rfl (pc' := 110) rfl ?_
      exact j_iret (ty := .int) cx hlk hr rfl (Nat.le_of_ble_eq_true rfl) (Nat.le_of_ble_eq_true rfl) dX3_pass_110 (yM_0 hcd he2 (congrArg (fun z => lEmp ns z 0 nm) he))
    | succ k ih =>
      intro i T a hik hI he he2
      have hi : i < n := by omega
      obtain ⟨hm, hs, hnm, hns, hus, hde, hmo, hpo, hro, hho, hen⟩ := id hI
      refine j_iload_n (j := 3) cx dX3_pass_40 rfl rfl (pc' := 41) rfl ?_
      refine j_iload_n (j := 1) cx dX3_pass_41 rfl rfl (pc' := 42) rfl ?_
      refine j_icmp_ge (tgt := 105) cx dX3_pass_42 (by decide) (pc' := 45) rfl (fun h => by first | exact absurd h (nI_ge hi (by omega)) | exact absurd (nI_ge hi (by omega)) h) (fun _ => ?_)
      refine j_aload_n (j := 0) cx dX3_pass_45 rfl rfl (pc' := 46) rfl ?_
      refine j_dup cx dX3_pass_46 rfl (pc' := 47) rfl ?_
      refine j_get (fk := 1) (ref := "TerminalYardModel") (v := .int (T 40 0 1)) cx hX.1 rfl (by decide +kernel) (by decide) (by decide +kernel) (fun _ h => h) (yV_i rfl) rfl dX3_pass_47 (pc' := 50) rfl ?_
      refine j_iconst (v := 1) cx dX3_pass_50 (by decide) (pc' := 51) rfl ?_
      refine j_iadd cx dX3_pass_51 (pc' := 52) rfl ?_
      refine j_puti (fk := 1) (ref := "TerminalYardModel") (ty := .int) cx hX.1 rfl (by decide +kernel) (by decide) (by decide +kernel) (fun _ h => h) tyX3 tyX3_ok nmX3 rfl (by decide +kernel) rfl rfl rfl rfl dX3_pass_52 (pc' := 55) rfl ?_
      refine j_iconst (v := 0) cx dX3_pass_55 (by decide) (pc' := 56) rfl ?_
      refine j_istore (lv' := [(4, .int 0), (0, .ref (al 40 0)), (1, .int (nI n)), (2, .int a), (3, .int (nI i))]) cx dX3_pass_56 (by decide) rfl (pc' := 58) rfl ?_
      refine J.sub [1, 2, 3, 4, 0] rfl (inner i ns 0 (mTick T) a (by omega) hI.tick ?_)
      refine j_iinc (j := 3) (v := nI (i + 1)) (lv' := [(3, .int (nI (i + 1))), (0, .ref (al 40 0)), (1, .int (nI n)), (2, .int (nCnt (mTick T) 0 a ns))]) cx dX3_pass_99 rfl (nI_1 i) (by decide) rfl (pc' := 102) rfl ?_
      refine j_goto (tgt := 40) cx dX3_pass_102 (by decide) ?_
      exact J.sub [1, 2, 3, 0] rfl (ih (i + 1) _ _ (by omega) (XI.mins _ _ _ hI.tick) he he2)
  refine j_aload_n (j := 0) cx dX3_pass_0 rfl rfl (pc' := 1) rfl ?_
  refine j_iload_n (j := 1) cx dX3_pass_1 rfl rfl (pc' := 2) rfl ?_
  refine j_iconst (v := 1) cx dX3_pass_2 (by decide) (pc' := 3) rfl ?_
  refine j_bipush (v := 60) cx dX3_pass_3 (by decide) (pc' := 5) rfl ?_
  refine j_cSR (cells1 := 0) (slots1 := 0) (st1 := [.int (bI (¬ oR 1 60 (nI n))), .ref (al 40 0)]) (As := [.int (nI n), .int 1, .int 60]) (rest := [.ref (al 40 0)]) cx (c_X3_in) gX3_pass_X3_in rfl rfl rfl 3 rfl (by decide +kernel) ⟨Nat.le_of_ble_eq_true rfl, Nat.le_of_ble_eq_true rfl⟩ rfl (Nat.le_of_ble_eq_true rfl) dX3_pass_5 ⟨Nat.le_of_ble_eq_true rfl, Nat.le_of_ble_eq_true rfl⟩ (pc' := 8) rfl rfl rfl rfl ?_
  refine j_ifb_eq (tgt := 23) cx dX3_pass_8 (by decide) (pc' := 11) rfl (fun h => by first | exact absurd h hb | exact absurd hb h) (fun _ => ?_)
  refine j_aload_n (j := 0) cx dX3_pass_11 rfl rfl (pc' := 12) rfl ?_
  refine j_get (fk := 1) (ref := "TerminalYardModel") (v := .int (S 40 0 1)) cx hX.1 rfl (by decide +kernel) (by decide) (by decide +kernel) (fun _ h => h) (yV_i rfl) rfl dX3_pass_12 (pc' := 15) rfl ?_
  refine j_iload_n (j := 1) cx dX3_pass_15 rfl rfl (pc' := 16) rfl ?_
  refine j_iadd cx dX3_pass_16 (pc' := 17) rfl ?_
  refine j_sipush (v := 5000) cx dX3_pass_17 (by decide) (pc' := 20) rfl ?_
  refine j_icmp_le (tgt := 27) cx dX3_pass_20 (by decide) (pc' := 23) rfl (fun h3 => ?_) (fun h3 => ?_)
  · refine j_iconst (v := 0) cx dX3_pass_27 (by decide) (pc' := 28) rfl ?_
    refine j_cVR (cells1 := 0) (slots1 := 0) (st1 := [.int (bI (0 = 0))]) (As := [.int 0]) (rest := []) cx (c_X3_goesOn hX) gX3_pass_X3_goesOn rfl rfl rfl 1 rfl (by decide +kernel) ⟨Nat.le_of_ble_eq_true rfl, Nat.le_of_ble_eq_true rfl⟩ hX.1 rfl rfl rfl rfl (Nat.le_of_ble_eq_true rfl) dX3_pass_28 ⟨Nat.le_of_ble_eq_true rfl, Nat.le_of_ble_eq_true rfl⟩ (pc' := 31) rfl rfl rfl rfl ?_
    refine j_ifb_ne (tgt := 36) cx dX3_pass_31 (by decide) (pc' := 34) rfl (fun _ => ?_) (fun h => by first | exact absurd h (by decide) | exact absurd (by decide) h)
    refine j_iconst (v := 0) cx dX3_pass_36 (by decide) (pc' := 37) rfl ?_
    refine j_istore_n (lv' := [(2, .int 0), (0, .ref (al 40 0)), (1, .int (nI n))]) cx dX3_pass_37 rfl (by decide) rfl (pc' := 38) rfl ?_
    refine j_iconst (v := 0) cx dX3_pass_38 (by decide) (pc' := 39) rfl ?_
    refine j_istore_n (lv' := [(3, .int 0), (2, .int 0), (0, .ref (al 40 0)), (1, .int (nI n))]) cx dX3_pass_39 rfl (by decide) rfl (pc' := 40) rfl ?_
    exact J.sub [2, 3, 1, 0] rfl (loop (by simp [kPass, hb, h3, Int32.not_lt.mpr h3]) n 0 _ _ (by omega) (hI.s (by simp)) rfl rfl)
  · refine j_iconst (v := 1) cx dX3_pass_23 (by decide) (pc' := 24) rfl ?_
    refine j_goto (tgt := 28) cx dX3_pass_24 (by decide) ?_
    refine j_cVR (cells1 := 0) (slots1 := 0) (st1 := [.int (bI (1 = 0))]) (As := [.int 1]) (rest := []) cx (c_X3_goesOn hX) gX3_pass_X3_goesOn rfl rfl rfl 1 rfl (by decide +kernel) ⟨Nat.le_of_ble_eq_true rfl, Nat.le_of_ble_eq_true rfl⟩ hX.1 rfl rfl rfl rfl (Nat.le_of_ble_eq_true rfl) dX3_pass_28 ⟨Nat.le_of_ble_eq_true rfl, Nat.le_of_ble_eq_true rfl⟩ (pc' := 31) rfl rfl rfl rfl ?_
    refine j_ifb_ne (tgt := 36) cx dX3_pass_31 (by decide) (pc' := 34) rfl (fun h => by first | exact absurd h (by decide) | exact absurd (by decide) h) (fun _ => ?_)
    refine j_iconst (v := 0) cx dX3_pass_34 (by decide) (pc' := 35) rfl ?_
    exact j_iret (ty := .int) cx hlk hr rfl (Nat.le_of_ble_eq_true rfl) (Nat.le_of_ble_eq_true rfl) dX3_pass_35 (yM_n (by first | (simp [kPass, hb, h3, Int32.not_le.mp h3]; done) | (exfalso; contradiction)) (by decide))
