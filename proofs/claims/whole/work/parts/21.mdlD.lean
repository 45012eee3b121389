set_option maxHeartbeats 4000000 in
set_option maxRecDepth 100000 in
theorem c_X3_chargedTo {l : Launch} {Z : yL} {al : yAl} {sh : ySh} {S : yS} {nm ns : Nat} {i : Nat} {c : Nat → Int32} (hX : YM Z sh) (hI : XI S nm ns) (hi : i < ns) (hC : c = S 58 0) : Ct l yX3_chargedTo wsX3_chargedTo ({ frames := 0, cells := 0, slots := 0, locals := 0 }) 0 0 Z [.ref (al 40 0), .int (nI i)] al sh S (yR al sh (some (.int (mIn c i))) S) := by
  obtain ⟨hm, hs, hnm, hns, hus, hde, hmo, hpo, hro, hho, hen⟩ := id hI
  refine Ct.of (lv := [(0, .ref (al 40 0)), (1, .int (nI i))]) (by decide) rfl (Nat.le_of_ble_eq_true rfl) rfl ?_
  intro p_ e_ s_ m_ below_ meth_ c_ cx hlk hr hnm9
  refine j_iconst (v := 0) cx dX3_chargedTo_0 (by decide) (pc' := 1) rfl ?_
  refine j_istore_n (lv' := [(2, .int 0), (0, .ref (al 40 0)), (1, .int (nI i))]) cx dX3_chargedTo_1 rfl (by decide) rfl (pc' := 2) rfl ?_
  refine j_iconst (v := 0) cx dX3_chargedTo_2 (by decide) (pc' := 3) rfl ?_
  refine j_istore_n (lv' := [(3, .int 0), (2, .int 0), (0, .ref (al 40 0)), (1, .int (nI i))]) cx dX3_chargedTo_3 rfl (by decide) rfl (pc' := 4) rfl ?_
  refine j_iload_n (j := 0) cx dX3_chargedTo_4 rfl rfl (pc' := 5) rfl ?_
  refine j_iconst (v := 4) cx dX3_chargedTo_5 (by decide) (pc' := 6) rfl ?_
  refine j_icmp_ge (tgt := 28) cx dX3_chargedTo_6 (by decide) (pc' := 9) rfl (fun h => absurd h (by decide)) (fun _ => ?_)
  refine j_iload_n (j := 1) cx dX3_chargedTo_9 rfl rfl (pc' := 10) rfl ?_
  refine j_aload_n (j := 2) cx dX3_chargedTo_10 rfl rfl (pc' := 11) rfl ?_
  refine j_get (fk := 18) (ref := "TerminalYardModel") (v := .ref (al 58 0)) cx hX.1 rfl (by decide +kernel) (by decide) (by decide +kernel) (fun _ h => h) (yV_r (k := (58, 0)) rfl) rfl dX3_chargedTo_11 (pc' := 14) rfl ?_
  refine j_iconst (v := 4) cx dX3_chargedTo_14 (by decide) (pc' := 15) rfl ?_
  refine j_iload_n (j := 3) cx dX3_chargedTo_15 rfl rfl (pc' := 16) rfl ?_
  refine j_imul cx dX3_chargedTo_16 (pc' := 17) rfl ?_
  refine j_iload_n (j := 0) cx dX3_chargedTo_17 rfl rfl (pc' := 18) rfl ?_
  refine j_iadd cx dX3_chargedTo_18 (pc' := 19) rfl ?_
  refine j_iald (v := S 58 0 (4 * i + 0)) cx hX.2.2.2.2.2.2.2.2.2.2.2.2.2.2.2.1 rfl (ix4i (by omega) (by unfold vp_in; decide)) (by rw [(ix4l (by omega) 0 (D := 0) (by omega) rfl)]) rfl dX3_chargedTo_19 (pc' := 20) rfl ?_
  refine j_iadd cx dX3_chargedTo_20 (pc' := 21) rfl ?_
  refine j_istore_n (lv' := [(2, .int (0 + (S 58 0 (4 * i + 0)))), (3, .int 0), (0, .ref (al 40 0)), (1, .int (nI i))]) cx dX3_chargedTo_21 rfl (by decide) rfl (pc' := 22) rfl ?_
  refine j_iinc (j := 1) (v := 1) (lv' := [(3, .int 1), (2, .int (0 + (S 58 0 (4 * i + 0)))), (0, .ref (al 40 0)), (1, .int (nI i))]) cx dX3_chargedTo_22 rfl (by decide) (by decide) rfl (pc' := 25) rfl ?_
  refine j_goto (tgt := 4) cx dX3_chargedTo_25 (by decide) ?_
  refine j_iload_n (j := 0) cx dX3_chargedTo_4 rfl rfl (pc' := 5) rfl ?_
  refine j_iconst (v := 4) cx dX3_chargedTo_5 (by decide) (pc' := 6) rfl ?_
  refine j_icmp_ge (tgt := 28) cx dX3_chargedTo_6 (by decide) (pc' := 9) rfl (fun h => absurd h (by decide)) (fun _ => ?_)
  refine j_iload_n (j := 1) cx dX3_chargedTo_9 rfl rfl (pc' := 10) rfl ?_
  refine j_aload_n (j := 2) cx dX3_chargedTo_10 rfl rfl (pc' := 11) rfl ?_
  refine j_get (fk := 18) (ref := "TerminalYardModel") (v := .ref (al 58 0)) cx hX.1 rfl (by decide +kernel) (by decide) (by decide +kernel) (fun _ h => h) (yV_r (k := (58, 0)) rfl) rfl dX3_chargedTo_11 (pc' := 14) rfl ?_
  refine j_iconst (v := 4) cx dX3_chargedTo_14 (by decide) (pc' := 15) rfl ?_
  refine j_iload_n (j := 3) cx dX3_chargedTo_15 rfl rfl (pc' := 16) rfl ?_
  refine j_imul cx dX3_chargedTo_16 (pc' := 17) rfl ?_
  refine j_iload_n (j := 0) cx dX3_chargedTo_17 rfl rfl (pc' := 18) rfl ?_
  refine j_iadd cx dX3_chargedTo_18 (pc' := 19) rfl ?_
  refine j_iald (v := S 58 0 (4 * i + 1)) cx hX.2.2.2.2.2.2.2.2.2.2.2.2.2.2.2.1 rfl (ix4i (by omega) (by unfold vp_in; decide)) (by rw [(ix4l (by omega) 1 (D := 1) (by omega) rfl)]) rfl dX3_chargedTo_19 (pc' := 20) rfl ?_
  refine j_iadd cx dX3_chargedTo_20 (pc' := 21) rfl ?_
  refine j_istore_n (lv' := [(2, .int ((0 + (S 58 0 (4 * i + 0))) + (S 58 0 (4 * i + 1)))), (3, .int 1), (0, .ref (al 40 0)), (1, .int (nI i))]) cx dX3_chargedTo_21 rfl (by decide) rfl (pc' := 22) rfl ?_
  refine j_iinc (j := 1) (v := 2) (lv' := [(3, .int 2), (2, .int ((0 + (S 58 0 (4 * i + 0))) + (S 58 0 (4 * i + 1)))), (0, .ref (al 40 0)), (1, .int (nI i))]) cx dX3_chargedTo_22 rfl (by decide) (by decide) rfl (pc' := 25) rfl ?_
  refine j_goto (tgt := 4) cx dX3_chargedTo_25 (by decide) ?_
  refine j_iload_n (j := 0) cx dX3_chargedTo_4 rfl rfl (pc' := 5) rfl ?_
  refine j_iconst (v := 4) cx dX3_chargedTo_5 (by decide) (pc' := 6) rfl ?_
  refine j_icmp_ge (tgt := 28) cx dX3_chargedTo_6 (by decide) (pc' := 9) rfl (fun h => absurd h (by decide)) (fun _ => ?_)
  refine j_iload_n (j := 1) cx dX3_chargedTo_9 rfl rfl (pc' := 10) rfl ?_
  refine j_aload_n (j := 2) cx dX3_chargedTo_10 rfl rfl (pc' := 11) rfl ?_
  refine j_get (fk := 18) (ref := "TerminalYardModel") (v := .ref (al 58 0)) cx hX.1 rfl (by decide +kernel) (by decide) (by decide +kernel) (fun _ h => h) (yV_r (k := (58, 0)) rfl) rfl dX3_chargedTo_11 (pc' := 14) rfl ?_
  refine j_iconst (v := 4) cx dX3_chargedTo_14 (by decide) (pc' := 15) rfl ?_
  refine j_iload_n (j := 3) cx dX3_chargedTo_15 rfl rfl (pc' := 16) rfl ?_
  refine j_imul cx dX3_chargedTo_16 (pc' := 17) rfl ?_
  refine j_iload_n (j := 0) cx dX3_chargedTo_17 rfl rfl (pc' := 18) rfl ?_
  refine j_iadd cx dX3_chargedTo_18 (pc' := 19) rfl ?_
  refine j_iald (v := S 58 0 (4 * i + 2)) cx hX.2.2.2.2.2.2.2.2.2.2.2.2.2.2.2.1 rfl (ix4i (by omega) (by unfold vp_in; decide)) (by rw [(ix4l (by omega) 2 (D := 2) (by omega) rfl)]) rfl dX3_chargedTo_19 (pc' := 20) rfl ?_
  refine j_iadd cx dX3_chargedTo_20 (pc' := 21) rfl ?_
  refine j_istore_n (lv' := [(2, .int (((0 + (S 58 0 (4 * i + 0))) + (S 58 0 (4 * i + 1))) + (S 58 0 (4 * i + 2)))), (3, .int 2), (0, .ref (al 40 0)), (1, .int (nI i))]) cx dX3_chargedTo_21 rfl (by decide) rfl (pc' := 22) rfl ?_
  refine j_iinc (j := 1) (v := 3) (lv' := [(3, .int 3), (2, .int (((0 + (S 58 0 (4 * i + 0))) + (S 58 0 (4 * i + 1))) + (S 58 0 (4 * i + 2)))), (0, .ref (al 40 0)), (1, .int (nI i))]) cx dX3_chargedTo_22 rfl (by decide) (by decide) rfl (pc' := 25) rfl ?_
  refine j_goto (tgt := 4) cx dX3_chargedTo_25 (by decide) ?_
  refine j_iload_n (j := 0) cx dX3_chargedTo_4 rfl rfl (pc' := 5) rfl ?_
  refine j_iconst (v := 4) cx dX3_chargedTo_5 (by decide) (pc' := 6) rfl ?_
  refine j_icmp_ge (tgt := 28) cx dX3_chargedTo_6 (by decide) (pc' := 9) rfl (fun h => absurd h (by decide)) (fun _ => ?_)
  refine j_iload_n (j := 1) cx dX3_chargedTo_9 rfl rfl (pc' := 10) rfl ?_
  refine j_aload_n (j := 2) cx dX3_chargedTo_10 rfl rfl (pc' := 11) rfl ?_
  refine j_get (fk := 18) (ref := "TerminalYardModel") (v := .ref (al 58 0)) cx hX.1 rfl (by decide +kernel) (by decide) (by decide +kernel) (fun _ h => h) (yV_r (k := (58, 0)) rfl) rfl dX3_chargedTo_11 (pc' := 14) rfl ?_
  refine j_iconst (v := 4) cx dX3_chargedTo_14 (by decide) (pc' := 15) rfl ?_
  refine j_iload_n (j := 3) cx dX3_chargedTo_15 rfl rfl (pc' := 16) rfl ?_
  refine j_imul cx dX3_chargedTo_16 (pc' := 17) rfl ?_
  refine j_iload_n (j := 0) cx dX3_chargedTo_17 rfl rfl (pc' := 18) rfl ?_
  refine j_iadd cx dX3_chargedTo_18 (pc' := 19) rfl ?_
  refine j_iald (v := S 58 0 (4 * i + 3)) cx hX.2.2.2.2.2.2.2.2.2.2.2.2.2.2.2.1 rfl (ix4i (by omega) (by unfold vp_in; decide)) (by rw [(ix4l (by omega) 3 (D := 3) (by omega) rfl)]) rfl dX3_chargedTo_19 (pc' := 20) rfl ?_
  refine j_iadd cx dX3_chargedTo_20 (pc' := 21) rfl ?_
  refine j_istore_n (lv' := [(2, .int ((((0 + (S 58 0 (4 * i + 0))) + (S 58 0 (4 * i + 1))) + (S 58 0 (4 * i + 2))) + (S 58 0 (4 * i + 3)))), (3, .int 3), (0, .ref (al 40 0)), (1, .int (nI i))]) cx dX3_chargedTo_21 rfl (by decide) rfl (pc' := 22) rfl ?_
  refine j_iinc (j := 1) (v := 4) (lv' := [(3, .int 4), (2, .int ((((0 + (S 58 0 (4 * i + 0))) + (S 58 0 (4 * i + 1))) + (S 58 0 (4 * i + 2))) + (S 58 0 (4 * i + 3)))), (0, .ref (al 40 0)), (1, .int (nI i))]) cx dX3_chargedTo_22 rfl (by decide) (by decide) rfl (pc' := 25) rfl ?_
  refine j_goto (tgt := 4) cx dX3_chargedTo_25 (by decide) ?_
  refine j_iload_n (j := 0) cx dX3_chargedTo_4 rfl rfl (pc' := 5) rfl ?_
  refine j_iconst (v := 4) cx dX3_chargedTo_5 (by decide) (pc' := 6) rfl ?_
  refine j_icmp_ge (tgt := 28) cx dX3_chargedTo_6 (by decide) (pc' := 9) rfl (fun _ => ?_) (fun h => absurd h (by decide))
  refine j_iload_n (j := 1) cx dX3_chargedTo_28 rfl rfl (pc' := 29) rfl ?_
  exact j_iret (ty := .int) cx hlk hr rfl (Nat.le_of_ble_eq_true rfl) (Nat.le_of_ble_eq_true rfl) dX3_chargedTo_29 ⟨congrArg (fun z => some (Value.int z)) (by rw [hC]; rfl), rfl, rfl, rfl⟩
set_option maxHeartbeats 4000000 in
set_option maxRecDepth 100000 in
theorem c_lf1 {l : Launch} {Z : yL} {al : yAl} {sh : ySh} {S : yS} {nm ns : Nat} {x : Int32} (hX : YM Z sh) (hI : XI S nm ns) (hx : oN ns x) : Ct l yX3_liveFault wsX3_liveFault ({ frames := 2, cells := 0, slots := 0, locals := 43 }) 0 0 Z [.ref (al 40 0), .int x] al sh S (yR al sh (some (.int 1)) S) := by
  obtain ⟨hm, hs, hnm, hns, hus, hde, hmo, hpo, hro, hho, hen⟩ := id hI
  refine Ct.of (lv := [(0, .ref (al 40 0)), (1, .int x)]) (by decide) rfl (Nat.le_of_ble_eq_true rfl) rfl ?_
  intro p_ e_ s_ m_ below_ meth_ c_ cx hlk hr hnm9
  refine j_aload_n (j := 0) cx dX3_liveFault_0 rfl rfl (pc' := 1) rfl ?_
  refine j_iload_n (j := 1) cx dX3_liveFault_1 rfl rfl (pc' := 2) rfl ?_
  refine j_cVR (cells1 := 0) (slots1 := 0) (st1 := [.int (bI (¬ oN ns x))]) (As := [.int x]) (rest := []) cx (c_X3_isSession hX hI) gX3_liveFault_X3_isSession rfl rfl rfl 1 rfl (by decide +kernel) ⟨Nat.le_of_ble_eq_true rfl, Nat.le_of_ble_eq_true rfl⟩ hX.1 rfl rfl rfl rfl (Nat.le_of_ble_eq_true rfl) dX3_liveFault_2 ⟨Nat.le_of_ble_eq_true rfl, Nat.le_of_ble_eq_true rfl⟩ (pc' := 5) rfl rfl rfl rfl ?_
  refine j_ifb_ne (tgt := 12) cx dX3_liveFault_5 (by decide) (pc' := 8) rfl (fun h => by first | exact absurd h hx | exact absurd hx h) (fun _ => ?_)
  refine j_iconst (v := 1) cx dX3_liveFault_8 (by decide) (pc' := 9) rfl ?_
  refine j_goto (tgt := 25) cx dX3_liveFault_9 (by decide) ?_
  exact j_iret (ty := .int) cx hlk hr rfl (Nat.le_of_ble_eq_true rfl) (Nat.le_of_ble_eq_true rfl) dX3_liveFault_25 ⟨rfl, rfl, rfl, rfl⟩
set_option maxHeartbeats 4000000 in
set_option maxRecDepth 100000 in
theorem c_lf0 {l : Launch} {Z : yL} {al : yAl} {sh : ySh} {S : yS} {nm ns : Nat} {i : Nat} (hX : YM Z sh) (hI : XI S nm ns) (hi : i < ns) (hl : S 59 0 i = 0) : Ct l yX3_liveFault wsX3_liveFault ({ frames := 2, cells := 0, slots := 0, locals := 43 }) 0 0 Z [.ref (al 40 0), .int (nI i)] al sh S (yR al sh (some (.int 0)) S) := by
  obtain ⟨hm, hs, hnm, hns, hus, hde, hmo, hpo, hro, hho, hen⟩ := id hI
  refine Ct.of (lv := [(0, .ref (al 40 0)), (1, .int (nI i))]) (by decide) rfl (Nat.le_of_ble_eq_true rfl) rfl ?_
  intro p_ e_ s_ m_ below_ meth_ c_ cx hlk hr hnm9
  refine j_aload_n (j := 0) cx dX3_liveFault_0 rfl rfl (pc' := 1) rfl ?_
  refine j_iload_n (j := 1) cx dX3_liveFault_1 rfl rfl (pc' := 2) rfl ?_
  refine j_cVR (cells1 := 0) (slots1 := 0) (st1 := [.int (bI (¬ oN ns (nI i)))]) (As := [.int (nI i)]) (rest := []) cx (c_X3_isSession hX hI) gX3_liveFault_X3_isSession rfl rfl rfl 1 rfl (by decide +kernel) ⟨Nat.le_of_ble_eq_true rfl, Nat.le_of_ble_eq_true rfl⟩ hX.1 rfl rfl rfl rfl (Nat.le_of_ble_eq_true rfl) dX3_liveFault_2 ⟨Nat.le_of_ble_eq_true rfl, Nat.le_of_ble_eq_true rfl⟩ (pc' := 5) rfl rfl rfl rfl ?_
  refine j_ifb_ne (tgt := 12) cx dX3_liveFault_5 (by decide) (pc' := 8) rfl (fun _ => ?_) (fun h => by first | exact absurd h (vin (vp_in_nI hi (by omega))) | exact absurd (vin (vp_in_nI hi (by omega))) h)
  refine j_aload_n (j := 0) cx dX3_liveFault_12 rfl rfl (pc' := 13) rfl ?_
  refine j_iload_n (j := 1) cx dX3_liveFault_13 rfl rfl (pc' := 14) rfl ?_
  refine j_cVR (cells1 := 0) (slots1 := 0) (st1 := [.int (bI (S 59 0 i = 0))]) (As := [.int (nI i)]) (rest := []) cx (c_X3_isLive (S := S) (i := i) (e := S 59 0 i) hX (by omega) rfl) gX3_liveFault_X3_isLive rfl rfl rfl 1 rfl (by decide +kernel) ⟨Nat.le_of_ble_eq_true rfl, Nat.le_of_ble_eq_true rfl⟩ hX.1 rfl rfl rfl rfl (Nat.le_of_ble_eq_true rfl) dX3_liveFault_14 ⟨Nat.le_of_ble_eq_true rfl, Nat.le_of_ble_eq_true rfl⟩ (pc' := 17) rfl rfl rfl rfl ?_
  refine j_ifb_ne (tgt := 24) cx dX3_liveFault_17 (by decide) (pc' := 20) rfl (fun _ => ?_) (fun h => by first | exact absurd h hl | exact absurd hl h)
  refine j_iconst (v := 0) cx dX3_liveFault_24 (by decide) (pc' := 25) rfl ?_
  exact j_iret (ty := .int) cx hlk hr rfl (Nat.le_of_ble_eq_true rfl) (Nat.le_of_ble_eq_true rfl) dX3_liveFault_25 ⟨rfl, rfl, rfl, rfl⟩
set_option maxHeartbeats 4000000 in
set_option maxRecDepth 100000 in
theorem c_lf2 {l : Launch} {Z : yL} {al : yAl} {sh : ySh} {S : yS} {nm ns : Nat} {i : Nat} (hX : YM Z sh) (hI : XI S nm ns) (hi : i < ns) (hl : ¬ S 59 0 i = 0) : Ct l yX3_liveFault wsX3_liveFault ({ frames := 2, cells := 0, slots := 0, locals := 43 }) 0 0 Z [.ref (al 40 0), .int (nI i)] al sh S (yR al sh (some (.int 2)) S) := by
  obtain ⟨hm, hs, hnm, hns, hus, hde, hmo, hpo, hro, hho, hen⟩ := id hI
  refine Ct.of (lv := [(0, .ref (al 40 0)), (1, .int (nI i))]) (by decide) rfl (Nat.le_of_ble_eq_true rfl) rfl ?_
  intro p_ e_ s_ m_ below_ meth_ c_ cx hlk hr hnm9
  refine j_aload_n (j := 0) cx dX3_liveFault_0 rfl rfl (pc' := 1) rfl ?_
  refine j_iload_n (j := 1) cx dX3_liveFault_1 rfl rfl (pc' := 2) rfl ?_
  refine j_cVR (cells1 := 0) (slots1 := 0) (st1 := [.int (bI (¬ oN ns (nI i)))]) (As := [.int (nI i)]) (rest := []) cx (c_X3_isSession hX hI) gX3_liveFault_X3_isSession rfl rfl rfl 1 rfl (by decide +kernel) ⟨Nat.le_of_ble_eq_true rfl, Nat.le_of_ble_eq_true rfl⟩ hX.1 rfl rfl rfl rfl (Nat.le_of_ble_eq_true rfl) dX3_liveFault_2 ⟨Nat.le_of_ble_eq_true rfl, Nat.le_of_ble_eq_true rfl⟩ (pc' := 5) rfl rfl rfl rfl ?_
  refine j_ifb_ne (tgt := 12) cx dX3_liveFault_5 (by decide) (pc' := 8) rfl (fun _ => ?_) (fun h => by first | exact absurd h (vin (vp_in_nI hi (by omega))) | exact absurd (vin (vp_in_nI hi (by omega))) h)
  refine j_aload_n (j := 0) cx dX3_liveFault_12 rfl rfl (pc' := 13) rfl ?_
  refine j_iload_n (j := 1) cx dX3_liveFault_13 rfl rfl (pc' := 14) rfl ?_
  refine j_cVR (cells1 := 0) (slots1 := 0) (st1 := [.int (bI (S 59 0 i = 0))]) (As := [.int (nI i)]) (rest := []) cx (c_X3_isLive (S := S) (i := i) (e := S 59 0 i) hX (by omega) rfl) gX3_liveFault_X3_isLive rfl rfl rfl 1 rfl (by decide +kernel) ⟨Nat.le_of_ble_eq_true rfl, Nat.le_of_ble_eq_true rfl⟩ hX.1 rfl rfl rfl rfl (Nat.le_of_ble_eq_true rfl) dX3_liveFault_14 ⟨Nat.le_of_ble_eq_true rfl, Nat.le_of_ble_eq_true rfl⟩ (pc' := 17) rfl rfl rfl rfl ?_
  refine j_ifb_ne (tgt := 24) cx dX3_liveFault_17 (by decide) (pc' := 20) rfl (fun h => by first | exact absurd h hl | exact absurd hl h) (fun _ => ?_)
  refine j_iconst (v := 2) cx dX3_liveFault_20 (by decide) (pc' := 21) rfl ?_
  refine j_goto (tgt := 25) cx dX3_liveFault_21 (by decide) ?_
  exact j_iret (ty := .int) cx hlk hr rfl (Nat.le_of_ble_eq_true rfl) (Nat.le_of_ble_eq_true rfl) dX3_liveFault_25 ⟨rfl, rfl, rfl, rfl⟩
set_option maxHeartbeats 4000000 in
set_option maxRecDepth 100000 in
theorem c_X3_use {l : Launch} {Z : yL} {al : yAl} {sh : ySh} {S : yS} {nm ns : Nat} {x : Int32} (hX : YM Z sh) (hI : XI S nm ns) : Ct l yX3_use wsX3_use ({ frames := 3, cells := 0, slots := 0, locals := 64 }) 0 0 Z [.ref (al 40 0), .int x] al sh S (yM (kLive ns x (S 59 0 x.toNatClampNeg = 0)) al sh (S 40 0 1 - S 57 0 x.toNatClampNeg) (sup (sup S 40 0 0 0) 57 0 x.toNatClampNeg (S 40 0 1)) S) := by
  obtain ⟨hm, hs, hnm, hns, hus, hde, hmo, hpo, hro, hho, hen⟩ := id hI
  refine Ct.of (lv := [(0, .ref (al 40 0)), (1, .int x)]) (by decide) rfl (Nat.le_of_ble_eq_true rfl) rfl ?_
  intro p_ e_ s_ m_ below_ meth_ c_ cx hlk hr hnm9
  by_cases hx : oN ns x
  · refine j_aload_n (j := 0) cx dX3_use_0 rfl rfl (pc' := 1) rfl ?_
    refine j_aload_n (j := 0) cx dX3_use_1 rfl rfl (pc' := 2) rfl ?_
    refine j_iload_n (j := 1) cx dX3_use_2 rfl rfl (pc' := 3) rfl ?_
    refine j_cVR (cells1 := 0) (slots1 := 0) (st1 := [.int 1, .ref (al 40 0)]) (As := [.int x]) (rest := [.ref (al 40 0)]) cx ((c_lf1 hX hI hx)) gX3_use_X3_liveFault rfl rfl rfl 1 rfl (by decide +kernel) ⟨Nat.le_of_ble_eq_true rfl, Nat.le_of_ble_eq_true rfl⟩ hX.1 rfl rfl rfl rfl (Nat.le_of_ble_eq_true rfl) dX3_use_3 ⟨Nat.le_of_ble_eq_true rfl, Nat.le_of_ble_eq_true rfl⟩ (pc' := 6) rfl rfl rfl rfl ?_
    refine j_cVR (cells1 := 0) (slots1 := 0) (st1 := [.int (bI (1 = 0))]) (As := [.int 1]) (rest := []) cx (c_X3_goesOn hX) gX3_use_X3_goesOn rfl rfl rfl 1 rfl (by decide +kernel) ⟨Nat.le_of_ble_eq_true rfl, Nat.le_of_ble_eq_true rfl⟩ hX.1 rfl rfl rfl rfl (Nat.le_of_ble_eq_true rfl) dX3_use_6 ⟨Nat.le_of_ble_eq_true rfl, Nat.le_of_ble_eq_true rfl⟩ (pc' := 9) rfl rfl rfl rfl ?_
    refine j_ifb_ne (tgt := 14) cx dX3_use_9 (by decide) (pc' := 12) rfl (fun h => by first | exact absurd h (by decide) | exact absurd (by decide) h) (fun _ => ?_)
    refine j_iconst (v := 0) cx dX3_use_12 (by decide) (pc' := 13) rfl ?_
    exact j_iret (ty := .int) cx hlk hr rfl (Nat.le_of_ble_eq_true rfl) (Nat.le_of_ble_eq_true rfl) dX3_use_13 (yM_n (by first | (simp [kLive, hx]; done) | (exfalso; contradiction)) (by decide))
  obtain ⟨i, hi, rfl⟩ : ∃ i, i < ns ∧ x = nI i := vp_in_of (vinm hx) (by omega)
  have hcl : (nI i).toNatClampNeg = i := nI_clamp (by omega)
  simp only [hcl]
  by_cases hl : S 59 0 i = 0
  · refine j_aload_n (j := 0) cx dX3_use_0 rfl rfl (pc' := 1) rfl ?_
    refine j_aload_n (j := 0) cx dX3_use_1 rfl rfl (pc' := 2) rfl ?_
    refine j_iload_n (j := 1) cx dX3_use_2 rfl rfl (pc' := 3) rfl ?_
    refine j_cVR (cells1 := 0) (slots1 := 0) (st1 := [.int 0, .ref (al 40 0)]) (As := [.int (nI i)]) (rest := [.ref (al 40 0)]) cx ((c_lf0 hX hI hi hl)) gX3_use_X3_liveFault rfl rfl rfl 1 rfl (by decide +kernel) ⟨Nat.le_of_ble_eq_true rfl, Nat.le_of_ble_eq_true rfl⟩ hX.1 rfl rfl rfl rfl (Nat.le_of_ble_eq_true rfl) dX3_use_3 ⟨Nat.le_of_ble_eq_true rfl, Nat.le_of_ble_eq_true rfl⟩ (pc' := 6) rfl rfl rfl rfl ?_
    refine j_cVR (cells1 := 0) (slots1 := 0) (st1 := [.int (bI (0 = 0))]) (As := [.int 0]) (rest := []) cx (c_X3_goesOn hX) gX3_use_X3_goesOn rfl rfl rfl 1 rfl (by decide +kernel) ⟨Nat.le_of_ble_eq_true rfl, Nat.le_of_ble_eq_true rfl⟩ hX.1 rfl rfl rfl rfl (Nat.le_of_ble_eq_true rfl) dX3_use_6 ⟨Nat.le_of_ble_eq_true rfl, Nat.le_of_ble_eq_true rfl⟩ (pc' := 9) rfl rfl rfl rfl ?_
    refine j_ifb_ne (tgt := 14) cx dX3_use_9 (by decide) (pc' := 12) rfl (fun _ => ?_) (fun h => by first | exact absurd h (by decide) | exact absurd (by decide) h)
    refine j_aload_n (j := 0) cx dX3_use_14 rfl rfl (pc' := 15) rfl ?_
    refine j_get (fk := 17) (ref := "TerminalYardModel") (v := .ref (al 57 0)) cx hX.1 rfl (by decide +kernel) (by decide) (by decide +kernel) (fun _ h => h) (yV_r (k := (57, 0)) rfl) rfl dX3_use_15 (pc' := 18) rfl ?_
    refine j_iload_n (j := 1) cx dX3_use_18 rfl rfl (pc' := 19) rfl ?_
    refine j_iald (v := S 57 0 i) cx hX.2.2.2.2.2.2.2.2.2.2.2.2.2.2.1 rfl (vp_in_nI (by omega) (by omega)) (by rw [(nI_clamp (by omega))]; simp [sup, mChg_o, lEmp_o]) rfl dX3_use_19 (pc' := 20) rfl ?_
    refine j_istore_n (lv' := [(2, .int (S 57 0 i)), (0, .ref (al 40 0)), (1, .int (nI i))]) cx dX3_use_20 rfl (by decide) rfl (pc' := 21) rfl ?_
    refine j_aload_n (j := 1) cx dX3_use_21 rfl rfl (pc' := 22) rfl ?_
    refine j_get (fk := 17) (ref := "TerminalYardModel") (v := .ref (al 57 0)) cx hX.1 rfl (by decide +kernel) (by decide) (by decide +kernel) (fun _ h => h) (yV_r (k := (57, 0)) rfl) rfl dX3_use_22 (pc' := 25) rfl ?_
    refine j_iload_n (j := 2) cx dX3_use_25 rfl rfl (pc' := 26) rfl ?_
    refine j_aload_n (j := 1) cx dX3_use_26 rfl rfl (pc' := 27) rfl ?_
    refine j_get (fk := 1) (ref := "TerminalYardModel") (v := .int (S 40 0 1)) cx hX.1 rfl (by decide +kernel) (by decide) (by decide +kernel) (fun _ h => h) ((yV_i rfl).trans (congrArg Value.int (by simp [sup, gO, mChg_o, lEmp_o]))) rfl dX3_use_27 (pc' := 30) rfl ?_
    refine j_iast (jn := i) cx hX.2.2.2.2.2.2.2.2.2.2.2.2.2.2.1 rfl (vp_in_nI (by omega) (by omega)) (nI_clamp (by omega)) rfl dX3_use_30 (pc' := 31) rfl ?_
    refine j_aload_n (j := 1) cx dX3_use_31 rfl rfl (pc' := 32) rfl ?_
    refine j_get (fk := 1) (ref := "TerminalYardModel") (v := .int (S 40 0 1)) cx hX.1 rfl (by decide +kernel) (by decide) (by decide +kernel) (fun _ h => h) ((yV_i rfl).trans (congrArg Value.int (by simp [sup, gO, mChg_o, lEmp_o]))) rfl dX3_use_32 (pc' := 35) rfl ?_
    refine j_iload_n (j := 0) cx dX3_use_35 rfl rfl (pc' := 36) rfl ?_
    refine j_isub cx dX3_use_36 (pc' := 37) rfl ?_
    exact j_iret (ty := .int) cx hlk hr rfl (Nat.le_of_ble_eq_true rfl) (Nat.le_of_ble_eq_true rfl) dX3_use_37 (yM_0 (by simp [kLive, hx, hl]) (by simp [sup]) (by simp [sup]))
  refine j_aload_n (j := 0) cx dX3_use_0 rfl rfl (pc' := 1) rfl ?_
  refine j_aload_n (j := 0) cx dX3_use_1 rfl rfl (pc' := 2) rfl ?_
  refine j_iload_n (j := 1) cx dX3_use_2 rfl rfl (pc' := 3) rfl ?_
  refine j_cVR (cells1 := 0) (slots1 := 0) (st1 := [.int 2, .ref (al 40 0)]) (As := [.int (nI i)]) (rest := [.ref (al 40 0)]) cx ((c_lf2 hX hI hi hl)) gX3_use_X3_liveFault rfl rfl rfl 1 rfl (by decide +kernel) ⟨Nat.le_of_ble_eq_true rfl, Nat.le_of_ble_eq_true rfl⟩ hX.1 rfl rfl rfl rfl (Nat.le_of_ble_eq_true rfl) dX3_use_3 ⟨Nat.le_of_ble_eq_true rfl, Nat.le_of_ble_eq_true rfl⟩ (pc' := 6) rfl rfl rfl rfl ?_
  refine j_cVR (cells1 := 0) (slots1 := 0) (st1 := [.int (bI (2 = 0))]) (As := [.int 2]) (rest := []) cx (c_X3_goesOn hX) gX3_use_X3_goesOn rfl rfl rfl 1 rfl (by decide +kernel) ⟨Nat.le_of_ble_eq_true rfl, Nat.le_of_ble_eq_true rfl⟩ hX.1 rfl rfl rfl rfl (Nat.le_of_ble_eq_true rfl) dX3_use_6 ⟨Nat.le_of_ble_eq_true rfl, Nat.le_of_ble_eq_true rfl⟩ (pc' := 9) rfl rfl rfl rfl ?_
  refine j_ifb_ne (tgt := 14) cx dX3_use_9 (by decide) (pc' := 12) rfl (fun h => by first | exact absurd h (by decide) | exact absurd (by decide) h) (fun _ => ?_)
  refine j_iconst (v := 0) cx dX3_use_12 (by decide) (pc' := 13) rfl ?_
  exact j_iret (ty := .int) cx hlk hr rfl (Nat.le_of_ble_eq_true rfl) (Nat.le_of_ble_eq_true rfl) dX3_use_13 (yM_n (by first | (simp [kLive, hx, hl]; done) | (exfalso; contradiction)) (by decide))
set_option maxHeartbeats 4000000 in
set_option maxRecDepth 100000 in
theorem c_X3_logOut {l : Launch} {Z : yL} {al : yAl} {sh : ySh} {S : yS} {nm ns : Nat} {x : Int32} (hX : YM Z sh) (hI : XI S nm ns) : Ct l yX3_logOut wsX3_logOut ({ frames := 3, cells := 0, slots := 0, locals := 65 }) 0 0 Z [.ref (al 40 0), .int x] al sh S (yM (kLive ns x (S 59 0 x.toNatClampNeg = 0)) al sh (mIn (S 58 0) x.toNatClampNeg) (lEmp ns (sup (sup S 40 0 0 0) 59 0 x.toNatClampNeg 108) 0 nm) S) := by
  obtain ⟨hm, hs, hnm, hns, hus, hde, hmo, hpo, hro, hho, hen⟩ := id hI
  refine Ct.of (lv := [(0, .ref (al 40 0)), (1, .int x)]) (by decide) rfl (Nat.le_of_ble_eq_true rfl) rfl ?_
  intro p_ e_ s_ m_ below_ meth_ c_ cx hlk hr hnm9
  by_cases hx : oN ns x
  · refine j_aload_n (j := 0) cx dX3_logOut_0 rfl rfl (pc' := 1) rfl ?_
    refine j_aload_n (j := 0) cx dX3_logOut_1 rfl rfl (pc' := 2) rfl ?_
    refine j_iload_n (j := 1) cx dX3_logOut_2 rfl rfl (pc' := 3) rfl ?_
    refine j_cVR (cells1 := 0) (slots1 := 0) (st1 := [.int 1, .ref (al 40 0)]) (As := [.int x]) (rest := [.ref (al 40 0)]) cx ((c_lf1 hX hI hx)) gX3_logOut_X3_liveFault rfl rfl rfl 1 rfl (by decide +kernel) ⟨Nat.le_of_ble_eq_true rfl, Nat.le_of_ble_eq_true rfl⟩ hX.1 rfl rfl rfl rfl (Nat.le_of_ble_eq_true rfl) dX3_logOut_3 ⟨Nat.le_of_ble_eq_true rfl, Nat.le_of_ble_eq_true rfl⟩ (pc' := 6) rfl rfl rfl rfl ?_
    refine j_cVR (cells1 := 0) (slots1 := 0) (st1 := [.int (bI (1 = 0))]) (As := [.int 1]) (rest := []) cx (c_X3_goesOn hX) gX3_logOut_X3_goesOn rfl rfl rfl 1 rfl (by decide +kernel) ⟨Nat.le_of_ble_eq_true rfl, Nat.le_of_ble_eq_true rfl⟩ hX.1 rfl rfl rfl rfl (Nat.le_of_ble_eq_true rfl) dX3_logOut_6 ⟨Nat.le_of_ble_eq_true rfl, Nat.le_of_ble_eq_true rfl⟩ (pc' := 9) rfl rfl rfl rfl ?_
    refine j_ifb_ne (tgt := 14) cx dX3_logOut_9 (by decide) (pc' := 12) rfl (fun h => by first | exact absurd h (by decide) | exact absurd (by decide) h) (fun _ => ?_)
    refine j_iconst (v := 0) cx dX3_logOut_12 (by decide) (pc' := 13) rfl ?_
    exact j_iret (ty := .int) cx hlk hr rfl (Nat.le_of_ble_eq_true rfl) (Nat.le_of_ble_eq_true rfl) dX3_logOut_13 (yM_n (by first | (simp [kLive, hx]; done) | (exfalso; contradiction)) (by decide))
  obtain ⟨i, hi, rfl⟩ : ∃ i, i < ns ∧ x = nI i := vp_in_of (vinm hx) (by omega)
  have hcl : (nI i).toNatClampNeg = i := nI_clamp (by omega)
  simp only [hcl]
  by_cases hl : S 59 0 i = 0
  · refine j_aload_n (j := 0) cx dX3_logOut_0 rfl rfl (pc' := 1) rfl ?_
    refine j_aload_n (j := 0) cx dX3_logOut_1 rfl rfl (pc' := 2) rfl ?_
    refine j_iload_n (j := 1) cx dX3_logOut_2 rfl rfl (pc' := 3) rfl ?_
    refine j_cVR (cells1 := 0) (slots1 := 0) (st1 := [.int 0, .ref (al 40 0)]) (As := [.int (nI i)]) (rest := [.ref (al 40 0)]) cx ((c_lf0 hX hI hi hl)) gX3_logOut_X3_liveFault rfl rfl rfl 1 rfl (by decide +kernel) ⟨Nat.le_of_ble_eq_true rfl, Nat.le_of_ble_eq_true rfl⟩ hX.1 rfl rfl rfl rfl (Nat.le_of_ble_eq_true rfl) dX3_logOut_3 ⟨Nat.le_of_ble_eq_true rfl, Nat.le_of_ble_eq_true rfl⟩ (pc' := 6) rfl rfl rfl rfl ?_
    refine j_cVR (cells1 := 0) (slots1 := 0) (st1 := [.int (bI (0 = 0))]) (As := [.int 0]) (rest := []) cx (c_X3_goesOn hX) gX3_logOut_X3_goesOn rfl rfl rfl 1 rfl (by decide +kernel) ⟨Nat.le_of_ble_eq_true rfl, Nat.le_of_ble_eq_true rfl⟩ hX.1 rfl rfl rfl rfl (Nat.le_of_ble_eq_true rfl) dX3_logOut_6 ⟨Nat.le_of_ble_eq_true rfl, Nat.le_of_ble_eq_true rfl⟩ (pc' := 9) rfl rfl rfl rfl ?_
    refine j_ifb_ne (tgt := 14) cx dX3_logOut_9 (by decide) (pc' := 12) rfl (fun _ => ?_) (fun h => by first | exact absurd h (by decide) | exact absurd (by decide) h)
    refine j_aload_n (j := 0) cx dX3_logOut_14 rfl rfl (pc' := 15) rfl ?_
    refine j_get (fk := 19) (ref := "TerminalYardModel") (v := .ref (al 59 0)) cx hX.1 rfl (by decide +kernel) (by decide) (by decide +kernel) (fun _ h => h) (yV_r (k := (59, 0)) rfl) rfl dX3_logOut_15 (pc' := 18) rfl ?_
    refine j_iload_n (j := 1) cx dX3_logOut_18 rfl rfl (pc' := 19) rfl ?_
    refine j_bipush (v := 108) cx dX3_logOut_19 (by decide) (pc' := 21) rfl ?_
    refine j_cast (jn := i) cx hX.2.2.2.2.2.2.2.2.2.2.2.2.2.2.2.2.1 rfl (vp_in_nI (by omega) (by omega)) (by first | rfl | exact hho _ | exact hen _) (nI_clamp (by omega)) rfl dX3_logOut_21 (pc' := 22) rfl ?_
    refine j_aload_n (j := 0) cx dX3_logOut_22 rfl rfl (pc' := 23) rfl ?_
    refine j_cVR (cells1 := 0) (slots1 := 0) (st1 := []) (As := []) (rest := []) cx (c_X3_empties hX (XI.s59 (XI.s hI (by simp)) rfl)) gX3_logOut_X3_empties rfl rfl rfl 0 rfl (by decide +kernel) ⟨Nat.le_of_ble_eq_true rfl, Nat.le_of_ble_eq_true rfl⟩ hX.1 rfl rfl rfl rfl (Nat.le_of_ble_eq_true rfl) dX3_logOut_23 ⟨Nat.le_of_ble_eq_true rfl, Nat.le_of_ble_eq_true rfl⟩ (pc' := 26) rfl rfl rfl rfl ?_
    refine j_aload_n (j := 0) cx dX3_logOut_26 rfl rfl (pc' := 27) rfl ?_
    refine j_iload_n (j := 1) cx dX3_logOut_27 rfl rfl (pc' := 28) rfl ?_
    refine j_cVR (cells1 := 0) (slots1 := 0) (st1 := [.int (mIn (S 58 0) i)]) (As := [.int (nI i)]) (rest := []) cx (c_X3_chargedTo (c := S 58 0) hX (XI.emp (S := S) _ _ _ (XI.s59 (XI.s hI (by simp)) rfl)) hi (by funext j9; simp [sup, lEmp_o, mChg_o])) gX3_logOut_X3_chargedTo rfl rfl rfl 1 rfl (by decide +kernel) ⟨Nat.le_of_ble_eq_true rfl, Nat.le_of_ble_eq_true rfl⟩ hX.1 rfl rfl rfl rfl (Nat.le_of_ble_eq_true rfl) dX3_logOut_28 ⟨Nat.le_of_ble_eq_true rfl, Nat.le_of_ble_eq_true rfl⟩ (pc' := 31) rfl rfl rfl rfl ?_
    exact j_iret (ty := .int) cx hlk hr rfl (Nat.le_of_ble_eq_true rfl) (Nat.le_of_ble_eq_true rfl) dX3_logOut_31 (yM_0 (by simp [kLive, hx, hl]) (rfl) (rfl))
  refine j_aload_n (j := 0) cx dX3_logOut_0 rfl rfl (pc' := 1) rfl ?_
  refine j_aload_n (j := 0) cx dX3_logOut_1 rfl rfl (pc' := 2) rfl ?_
  refine j_iload_n (j := 1) cx dX3_logOut_2 rfl rfl (pc' := 3) rfl ?_
  refine j_cVR (cells1 := 0) (slots1 := 0) (st1 := [.int 2, .ref (al 40 0)]) (As := [.int (nI i)]) (rest := [.ref (al 40 0)]) cx ((c_lf2 hX hI hi hl)) gX3_logOut_X3_liveFault rfl rfl rfl 1 rfl (by decide +kernel) ⟨Nat.le_of_ble_eq_true rfl, Nat.le_of_ble_eq_true rfl⟩ hX.1 rfl rfl rfl rfl (Nat.le_of_ble_eq_true rfl) dX3_logOut_3 ⟨Nat.le_of_ble_eq_true rfl, Nat.le_of_ble_eq_true rfl⟩ (pc' := 6) rfl rfl rfl rfl ?_
  refine j_cVR (cells1 := 0) (slots1 := 0) (st1 := [.int (bI (2 = 0))]) (As := [.int 2]) (rest := []) cx (c_X3_goesOn hX) gX3_logOut_X3_goesOn rfl rfl rfl 1 rfl (by decide +kernel) ⟨Nat.le_of_ble_eq_true rfl, Nat.le_of_ble_eq_true rfl⟩ hX.1 rfl rfl rfl rfl (Nat.le_of_ble_eq_true rfl) dX3_logOut_6 ⟨Nat.le_of_ble_eq_true rfl, Nat.le_of_ble_eq_true rfl⟩ (pc' := 9) rfl rfl rfl rfl ?_
  refine j_ifb_ne (tgt := 14) cx dX3_logOut_9 (by decide) (pc' := 12) rfl (fun h => by first | exact absurd h (by decide) | exact absurd (by decide) h) (fun _ => ?_)
  refine j_iconst (v := 0) cx dX3_logOut_12 (by decide) (pc' := 13) rfl ?_
  exact j_iret (ty := .int) cx hlk hr rfl (Nat.le_of_ble_eq_true rfl) (Nat.le_of_ble_eq_true rfl) dX3_logOut_13 (yM_n (by first | (simp [kLive, hx, hl]; done) | (exfalso; contradiction)) (by decide))
set_option maxHeartbeats 4000000 in
set_option maxRecDepth 100000 in
theorem c_X3_handBack {l : Launch} {Z : yL} {al : yAl} {sh : ySh} {S : yS} {nm ns : Nat} {x : Int32} (hX : YM Z sh) (hI : XI S nm ns) : Ct l yX3_handBack wsX3_handBack ({ frames := 3, cells := 0, slots := 0, locals := 64 }) 0 0 Z [.ref (al 40 0), .int x] al sh S (yM (kHand ns x (S 59 0 x.toNatClampNeg = 0) (S 54 0 x.toNatClampNeg = S 53 0 x.toNatClampNeg)) al sh (S 54 0 x.toNatClampNeg) (sup (sup (sup S 40 0 0 0) 54 0 x.toNatClampNeg (S 53 0 x.toNatClampNeg)) 57 0 x.toNatClampNeg (S 40 0 1)) S) := by
  obtain ⟨hm, hs, hnm, hns, hus, hde, hmo, hpo, hro, hho, hen⟩ := id hI
  refine Ct.of (lv := [(0, .ref (al 40 0)), (1, .int x)]) (by decide) rfl (Nat.le_of_ble_eq_true rfl) rfl ?_
  intro p_ e_ s_ m_ below_ meth_ c_ cx hlk hr hnm9
  by_cases hx : oN ns x
  · refine j_aload_n (j := 0) cx dX3_handBack_0 rfl rfl (pc' := 1) rfl ?_
    refine j_iload_n (j := 1) cx dX3_handBack_1 rfl rfl (pc' := 2) rfl ?_
    refine j_cVR (cells1 := 0) (slots1 := 0) (st1 := [.int 1]) (As := [.int x]) (rest := []) cx ((c_lf1 hX hI hx)) gX3_handBack_X3_liveFault rfl rfl rfl 1 rfl (by decide +kernel) ⟨Nat.le_of_ble_eq_true rfl, Nat.le_of_ble_eq_true rfl⟩ hX.1 rfl rfl rfl rfl (Nat.le_of_ble_eq_true rfl) dX3_handBack_2 ⟨Nat.le_of_ble_eq_true rfl, Nat.le_of_ble_eq_true rfl⟩ (pc' := 5) rfl rfl rfl rfl ?_
    refine j_istore_n (lv' := [(2, .int 1), (0, .ref (al 40 0)), (1, .int x)]) cx dX3_handBack_5 rfl (by decide) rfl (pc' := 6) rfl ?_
    refine j_aload_n (j := 1) cx dX3_handBack_6 rfl rfl (pc' := 7) rfl ?_
    refine j_iload_n (j := 0) cx dX3_handBack_7 rfl rfl (pc' := 8) rfl ?_
    refine j_if_ne (tgt := 30) cx dX3_handBack_8 (by decide) (pc' := 11) rfl (fun _ => ?_) (fun h => absurd h (by decide))
    refine j_iload_n (j := 0) cx dX3_handBack_30 rfl rfl (pc' := 31) rfl ?_
    refine j_cVR (cells1 := 0) (slots1 := 0) (st1 := [.int (bI (1 = 0))]) (As := [.int 1]) (rest := []) cx (c_X3_goesOn hX) gX3_handBack_X3_goesOn rfl rfl rfl 1 rfl (by decide +kernel) ⟨Nat.le_of_ble_eq_true rfl, Nat.le_of_ble_eq_true rfl⟩ hX.1 rfl rfl rfl rfl (Nat.le_of_ble_eq_true rfl) dX3_handBack_31 ⟨Nat.le_of_ble_eq_true rfl, Nat.le_of_ble_eq_true rfl⟩ (pc' := 34) rfl rfl rfl rfl ?_
    refine j_ifb_ne (tgt := 39) cx dX3_handBack_34 (by decide) (pc' := 37) rfl (fun h => by first | exact absurd h (by decide) | exact absurd (by decide) h) (fun _ => ?_)
    refine j_iconst (v := 0) cx dX3_handBack_37 (by decide) (pc' := 38) rfl ?_
    exact j_iret (ty := .int) cx hlk hr rfl (Nat.le_of_ble_eq_true rfl) (Nat.le_of_ble_eq_true rfl) dX3_handBack_38 (yM_n (by first | (simp [kHand, hx]; done) | (exfalso; contradiction)) (by decide))
  obtain ⟨i, hi, rfl⟩ : ∃ i, i < ns ∧ x = nI i := vp_in_of (vinm hx) (by omega)
  have hcl : (nI i).toNatClampNeg = i := nI_clamp (by omega)
  simp only [hcl]
  by_cases hl : S 59 0 i = 0
  · refine j_aload_n (j := 0) cx dX3_handBack_0 rfl rfl (pc' := 1) rfl ?_
    refine j_iload_n (j := 1) cx dX3_handBack_1 rfl rfl (pc' := 2) rfl ?_
    refine j_cVR (cells1 := 0) (slots1 := 0) (st1 := [.int 0]) (As := [.int (nI i)]) (rest := []) cx ((c_lf0 hX hI hi hl)) gX3_handBack_X3_liveFault rfl rfl rfl 1 rfl (by decide +kernel) ⟨Nat.le_of_ble_eq_true rfl, Nat.le_of_ble_eq_true rfl⟩ hX.1 rfl rfl rfl rfl (Nat.le_of_ble_eq_true rfl) dX3_handBack_2 ⟨Nat.le_of_ble_eq_true rfl, Nat.le_of_ble_eq_true rfl⟩ (pc' := 5) rfl rfl rfl rfl ?_
    refine j_istore_n (lv' := [(2, .int 0), (0, .ref (al 40 0)), (1, .int (nI i))]) cx dX3_handBack_5 rfl (by decide) rfl (pc' := 6) rfl ?_
    refine j_aload_n (j := 1) cx dX3_handBack_6 rfl rfl (pc' := 7) rfl ?_
    refine j_iload_n (j := 0) cx dX3_handBack_7 rfl rfl (pc' := 8) rfl ?_
    refine j_if_ne (tgt := 30) cx dX3_handBack_8 (by decide) (pc' := 11) rfl (fun h => absurd h (by decide)) (fun _ => ?_)
    refine j_aload_n (j := 1) cx dX3_handBack_11 rfl rfl (pc' := 12) rfl ?_
    refine j_get (fk := 14) (ref := "TerminalYardModel") (v := .ref (al 54 0)) cx hX.1 rfl (by decide +kernel) (by decide) (by decide +kernel) (fun _ h => h) (yV_r (k := (54, 0)) rfl) rfl dX3_handBack_12 (pc' := 15) rfl ?_
    refine j_iload_n (j := 2) cx dX3_handBack_15 rfl rfl (pc' := 16) rfl ?_
    refine j_iald (v := S 54 0 i) cx hX.2.2.2.2.2.2.2.2.2.2.2.1 rfl (vp_in_nI (by omega) (by omega)) (by rw [(nI_clamp (by omega))]) rfl dX3_handBack_16 (pc' := 17) rfl ?_
    refine j_aload_n (j := 1) cx dX3_handBack_17 rfl rfl (pc' := 18) rfl ?_
    refine j_get (fk := 13) (ref := "TerminalYardModel") (v := .ref (al 53 0)) cx hX.1 rfl (by decide +kernel) (by decide) (by decide +kernel) (fun _ h => h) (yV_r (k := (53, 0)) rfl) rfl dX3_handBack_18 (pc' := 21) rfl ?_
    refine j_iload_n (j := 2) cx dX3_handBack_21 rfl rfl (pc' := 22) rfl ?_
    refine j_iald (v := S 53 0 i) cx hX.2.2.2.2.2.2.2.2.2.2.1 rfl (vp_in_nI (by omega) (by omega)) (by rw [(nI_clamp (by omega))]) rfl dX3_handBack_22 (pc' := 23) rfl ?_
    refine j_icmp_ne (tgt := 30) cx dX3_handBack_23 (by decide) (pc' := 26) rfl (fun h2 => ?_) (fun h2 => ?_)
    · refine j_iload_n (j := 0) cx dX3_handBack_30 rfl rfl (pc' := 31) rfl ?_
      refine j_cVR (cells1 := 0) (slots1 := 0) (st1 := [.int (bI (0 = 0))]) (As := [.int 0]) (rest := []) cx (c_X3_goesOn hX) gX3_handBack_X3_goesOn rfl rfl rfl 1 rfl (by decide +kernel) ⟨Nat.le_of_ble_eq_true rfl, Nat.le_of_ble_eq_true rfl⟩ hX.1 rfl rfl rfl rfl (Nat.le_of_ble_eq_true rfl) dX3_handBack_31 ⟨Nat.le_of_ble_eq_true rfl, Nat.le_of_ble_eq_true rfl⟩ (pc' := 34) rfl rfl rfl rfl ?_
      refine j_ifb_ne (tgt := 39) cx dX3_handBack_34 (by decide) (pc' := 37) rfl (fun _ => ?_) (fun h => by first | exact absurd h (by decide) | exact absurd (by decide) h)
      refine j_aload_n (j := 1) cx dX3_handBack_39 rfl rfl (pc' := 40) rfl ?_
      refine j_get (fk := 14) (ref := "TerminalYardModel") (v := .ref (al 54 0)) cx hX.1 rfl (by decide +kernel) (by decide) (by decide +kernel) (fun _ h => h) (yV_r (k := (54, 0)) rfl) rfl dX3_handBack_40 (pc' := 43) rfl ?_
      refine j_iload_n (j := 2) cx dX3_handBack_43 rfl rfl (pc' := 44) rfl ?_
      refine j_iald (v := S 54 0 i) cx hX.2.2.2.2.2.2.2.2.2.2.2.1 rfl (vp_in_nI (by omega) (by omega)) (by rw [(nI_clamp (by omega))]; simp [sup, mChg_o, lEmp_o]) rfl dX3_handBack_44 (pc' := 45) rfl ?_
      refine j_istore_n (lv' := [(3, .int (S 54 0 i)), (2, .int 0), (0, .ref (al 40 0)), (1, .int (nI i))]) cx dX3_handBack_45 rfl (by decide) rfl (pc' := 46) rfl ?_
      refine j_aload_n (j := 2) cx dX3_handBack_46 rfl rfl (pc' := 47) rfl ?_
      refine j_get (fk := 14) (ref := "TerminalYardModel") (v := .ref (al 54 0)) cx hX.1 rfl (by decide +kernel) (by decide) (by decide +kernel) (fun _ h => h) (yV_r (k := (54, 0)) rfl) rfl dX3_handBack_47 (pc' := 50) rfl ?_
      refine j_iload_n (j := 3) cx dX3_handBack_50 rfl rfl (pc' := 51) rfl ?_
      refine j_aload_n (j := 2) cx dX3_handBack_51 rfl rfl (pc' := 52) rfl ?_
      refine j_get (fk := 13) (ref := "TerminalYardModel") (v := .ref (al 53 0)) cx hX.1 rfl (by decide +kernel) (by decide) (by decide +kernel) (fun _ h => h) (yV_r (k := (53, 0)) rfl) rfl dX3_handBack_52 (pc' := 55) rfl ?_
      refine j_iload_n (j := 3) cx dX3_handBack_55 rfl rfl (pc' := 56) rfl ?_
      refine j_iald (v := S 53 0 i) cx hX.2.2.2.2.2.2.2.2.2.2.1 rfl (vp_in_nI (by omega) (by omega)) (by rw [(nI_clamp (by omega))]; simp [sup, mChg_o, lEmp_o]) rfl dX3_handBack_56 (pc' := 57) rfl ?_
      refine j_iast (jn := i) cx hX.2.2.2.2.2.2.2.2.2.2.2.1 rfl (vp_in_nI (by omega) (by omega)) (nI_clamp (by omega)) rfl dX3_handBack_57 (pc' := 58) rfl ?_
      refine j_aload_n (j := 2) cx dX3_handBack_58 rfl rfl (pc' := 59) rfl ?_
      refine j_get (fk := 17) (ref := "TerminalYardModel") (v := .ref (al 57 0)) cx hX.1 rfl (by decide +kernel) (by decide) (by decide +kernel) (fun _ h => h) (yV_r (k := (57, 0)) rfl) rfl dX3_handBack_59 (pc' := 62) rfl ?_
      refine j_iload_n (j := 3) cx dX3_handBack_62 rfl rfl (pc' := 63) rfl ?_
      refine j_aload_n (j := 2) cx dX3_handBack_63 rfl rfl (pc' := 64) rfl ?_
      refine j_get (fk := 1) (ref := "TerminalYardModel") (v := .int (S 40 0 1)) cx hX.1 rfl (by decide +kernel) (by decide) (by decide +kernel) (fun _ h => h) ((yV_i rfl).trans (congrArg Value.int (by simp [sup, gO, mChg_o, lEmp_o]))) rfl dX3_handBack_64 (pc' := 67) rfl ?_
      refine j_iast (jn := i) cx hX.2.2.2.2.2.2.2.2.2.2.2.2.2.2.1 rfl (vp_in_nI (by omega) (by omega)) (nI_clamp (by omega)) rfl dX3_handBack_67 (pc' := 68) rfl ?_
      refine j_iload_n (j := 0) cx dX3_handBack_68 rfl rfl (pc' := 69) rfl ?_
      exact j_iret (ty := .int) cx hlk hr rfl (Nat.le_of_ble_eq_true rfl) (Nat.le_of_ble_eq_true rfl) dX3_handBack_69 (yM_0 (by simp [kHand, hx, hl, h2]) (by simp [sup]) (by simp [sup]))
    · refine j_iconst (v := 2) cx dX3_handBack_26 (by decide) (pc' := 27) rfl ?_
      refine j_goto (tgt := 31) cx dX3_handBack_27 (by decide) ?_
      refine j_cVR (cells1 := 0) (slots1 := 0) (st1 := [.int (bI (2 = 0))]) (As := [.int 2]) (rest := []) cx (c_X3_goesOn hX) gX3_handBack_X3_goesOn rfl rfl rfl 1 rfl (by decide +kernel) ⟨Nat.le_of_ble_eq_true rfl, Nat.le_of_ble_eq_true rfl⟩ hX.1 rfl rfl rfl rfl (Nat.le_of_ble_eq_true rfl) dX3_handBack_31 ⟨Nat.le_of_ble_eq_true rfl, Nat.le_of_ble_eq_true rfl⟩ (pc' := 34) rfl rfl rfl rfl ?_
      refine j_ifb_ne (tgt := 39) cx dX3_handBack_34 (by decide) (pc' := 37) rfl (fun h => by first | exact absurd h (by decide) | exact absurd (by decide) h) (fun _ => ?_)
      refine j_iconst (v := 0) cx dX3_handBack_37 (by decide) (pc' := 38) rfl ?_
      exact j_iret (ty := .int) cx hlk hr rfl (Nat.le_of_ble_eq_true rfl) (Nat.le_of_ble_eq_true rfl) dX3_handBack_38 (yM_n (by first | (simp [kHand, hx, hl, h2]; done) | (exfalso; contradiction)) (by decide))
  refine j_aload_n (j := 0) cx dX3_handBack_0 rfl rfl (pc' := 1) rfl ?_
  refine j_iload_n (j := 1) cx dX3_handBack_1 rfl rfl (pc' := 2) rfl ?_
  refine j_cVR (cells1 := 0) (slots1 := 0) (st1 := [.int 2]) (As := [.int (nI i)]) (rest := []) cx ((c_lf2 hX hI hi hl)) gX3_handBack_X3_liveFault rfl rfl rfl 1 rfl (by decide +kernel) ⟨Nat.le_of_ble_eq_true rfl, Nat.le_of_ble_eq_true rfl⟩ hX.1 rfl rfl rfl rfl (Nat.le_of_ble_eq_true rfl) dX3_handBack_2 ⟨Nat.le_of_ble_eq_true rfl, Nat.le_of_ble_eq_true rfl⟩ (pc' := 5) rfl rfl rfl rfl ?_
  refine j_istore_n (lv' := [(2, .int 2), (0, .ref (al 40 0)), (1, .int (nI i))]) cx dX3_handBack_5 rfl (by decide) rfl (pc' := 6) rfl ?_
  refine j_aload_n (j := 1) cx dX3_handBack_6 rfl rfl (pc' := 7) rfl ?_
  refine j_iload_n (j := 0) cx dX3_handBack_7 rfl rfl (pc' := 8) rfl ?_
  refine j_if_ne (tgt := 30) cx dX3_handBack_8 (by decide) (pc' := 11) rfl (fun _ => ?_) (fun h => absurd h (by decide))
  refine j_iload_n (j := 0) cx dX3_handBack_30 rfl rfl (pc' := 31) rfl ?_
  refine j_cVR (cells1 := 0) (slots1 := 0) (st1 := [.int (bI (2 = 0))]) (As := [.int 2]) (rest := []) cx (c_X3_goesOn hX) gX3_handBack_X3_goesOn rfl rfl rfl 1 rfl (by decide +kernel) ⟨Nat.le_of_ble_eq_true rfl, Nat.le_of_ble_eq_true rfl⟩ hX.1 rfl rfl rfl rfl (Nat.le_of_ble_eq_true rfl) dX3_handBack_31 ⟨Nat.le_of_ble_eq_true rfl, Nat.le_of_ble_eq_true rfl⟩ (pc' := 34) rfl rfl rfl rfl ?_
  refine j_ifb_ne (tgt := 39) cx dX3_handBack_34 (by decide) (pc' := 37) rfl (fun h => by first | exact absurd h (by decide) | exact absurd (by decide) h) (fun _ => ?_)
  refine j_iconst (v := 0) cx dX3_handBack_37 (by decide) (pc' := 38) rfl ?_
  exact j_iret (ty := .int) cx hlk hr rfl (Nat.le_of_ble_eq_true rfl) (Nat.le_of_ble_eq_true rfl) dX3_handBack_38 (yM_n (by first | (simp [kHand, hx, hl]; done) | (exfalso; contradiction)) (by decide))
set_option maxHeartbeats 4000000 in
set_option maxRecDepth 100000 in
theorem c_X3_endsIn {l : Launch} {Z : yL} {al : yAl} {sh : ySh} {S : yS} {nm ns : Nat} {x : Int32} (hX : YM Z sh) (hI : XI S nm ns) : Ct l yX3_endsIn wsX3_endsIn ({ frames := 3, cells := 0, slots := 0, locals := 64 }) 0 0 Z [.ref (al 40 0), .int x] al sh S (yM (kLive ns x (S 59 0 x.toNatClampNeg = 0)) al sh (if (if (S 42 0 (S 45 0 (S 55 0 x.toNatClampNeg).toNatClampNeg).toNatClampNeg - S 40 0 1 + S 57 0 x.toNatClampNeg) < (S 43 0 (S 45 0 (S 55 0 x.toNatClampNeg).toNatClampNeg).toNatClampNeg - S 40 0 1 + S 56 0 x.toNatClampNeg) then (S 42 0 (S 45 0 (S 55 0 x.toNatClampNeg).toNatClampNeg).toNatClampNeg - S 40 0 1 + S 57 0 x.toNatClampNeg) else (S 43 0 (S 45 0 (S 55 0 x.toNatClampNeg).toNatClampNeg).toNatClampNeg - S 40 0 1 + S 56 0 x.toNatClampNeg)) < 1 then 1 else (if (S 42 0 (S 45 0 (S 55 0 x.toNatClampNeg).toNatClampNeg).toNatClampNeg - S 40 0 1 + S 57 0 x.toNatClampNeg) < (S 43 0 (S 45 0 (S 55 0 x.toNatClampNeg).toNatClampNeg).toNatClampNeg - S 40 0 1 + S 56 0 x.toNatClampNeg) then (S 42 0 (S 45 0 (S 55 0 x.toNatClampNeg).toNatClampNeg).toNatClampNeg - S 40 0 1 + S 57 0 x.toNatClampNeg) else (S 43 0 (S 45 0 (S 55 0 x.toNatClampNeg).toNatClampNeg).toNatClampNeg - S 40 0 1 + S 56 0 x.toNatClampNeg))) (sup S 40 0 0 0) S) := by
  obtain ⟨hm, hs, hnm, hns, hus, hde, hmo, hpo, hro, hho, hen⟩ := id hI
  refine Ct.of (lv := [(0, .ref (al 40 0)), (1, .int x)]) (by decide) rfl (Nat.le_of_ble_eq_true rfl) rfl ?_
  intro p_ e_ s_ m_ below_ meth_ c_ cx hlk hr hnm9
  by_cases hx : oN ns x
  · refine j_aload_n (j := 0) cx dX3_endsIn_0 rfl rfl (pc' := 1) rfl ?_
    refine j_aload_n (j := 0) cx dX3_endsIn_1 rfl rfl (pc' := 2) rfl ?_
    refine j_iload_n (j := 1) cx dX3_endsIn_2 rfl rfl (pc' := 3) rfl ?_
    refine j_cVR (cells1 := 0) (slots1 := 0) (st1 := [.int 1, .ref (al 40 0)]) (As := [.int x]) (rest := [.ref (al 40 0)]) cx ((c_lf1 hX hI hx)) gX3_endsIn_X3_liveFault rfl rfl rfl 1 rfl (by decide +kernel) ⟨Nat.le_of_ble_eq_true rfl, Nat.le_of_ble_eq_true rfl⟩ hX.1 rfl rfl rfl rfl (Nat.le_of_ble_eq_true rfl) dX3_endsIn_3 ⟨Nat.le_of_ble_eq_true rfl, Nat.le_of_ble_eq_true rfl⟩ (pc' := 6) rfl rfl rfl rfl ?_
    refine j_cVR (cells1 := 0) (slots1 := 0) (st1 := [.int (bI (1 = 0))]) (As := [.int 1]) (rest := []) cx (c_X3_goesOn hX) gX3_endsIn_X3_goesOn rfl rfl rfl 1 rfl (by decide +kernel) ⟨Nat.le_of_ble_eq_true rfl, Nat.le_of_ble_eq_true rfl⟩ hX.1 rfl rfl rfl rfl (Nat.le_of_ble_eq_true rfl) dX3_endsIn_6 ⟨Nat.le_of_ble_eq_true rfl, Nat.le_of_ble_eq_true rfl⟩ (pc' := 9) rfl rfl rfl rfl ?_
    refine j_ifb_ne (tgt := 14) cx dX3_endsIn_9 (by decide) (pc' := 12) rfl (fun h => by first | exact absurd h (by decide) | exact absurd (by decide) h) (fun _ => ?_)
    refine j_iconst (v := 0) cx dX3_endsIn_12 (by decide) (pc' := 13) rfl ?_
    exact j_iret (ty := .int) cx hlk hr rfl (Nat.le_of_ble_eq_true rfl) (Nat.le_of_ble_eq_true rfl) dX3_endsIn_13 (yM_n (by first | (simp [kLive, hx]; done) | (exfalso; contradiction)) (by decide))
  obtain ⟨i, hi, rfl⟩ : ∃ i, i < ns ∧ x = nI i := vp_in_of (vinm hx) (by omega)
  have hcl : (nI i).toNatClampNeg = i := nI_clamp (by omega)
  simp only [hcl]
  by_cases hl : S 59 0 i = 0
  · refine j_aload_n (j := 0) cx dX3_endsIn_0 rfl rfl (pc' := 1) rfl ?_
    refine j_aload_n (j := 0) cx dX3_endsIn_1 rfl rfl (pc' := 2) rfl ?_
    refine j_iload_n (j := 1) cx dX3_endsIn_2 rfl rfl (pc' := 3) rfl ?_
    refine j_cVR (cells1 := 0) (slots1 := 0) (st1 := [.int 0, .ref (al 40 0)]) (As := [.int (nI i)]) (rest := [.ref (al 40 0)]) cx ((c_lf0 hX hI hi hl)) gX3_endsIn_X3_liveFault rfl rfl rfl 1 rfl (by decide +kernel) ⟨Nat.le_of_ble_eq_true rfl, Nat.le_of_ble_eq_true rfl⟩ hX.1 rfl rfl rfl rfl (Nat.le_of_ble_eq_true rfl) dX3_endsIn_3 ⟨Nat.le_of_ble_eq_true rfl, Nat.le_of_ble_eq_true rfl⟩ (pc' := 6) rfl rfl rfl rfl ?_
    refine j_cVR (cells1 := 0) (slots1 := 0) (st1 := [.int (bI (0 = 0))]) (As := [.int 0]) (rest := []) cx (c_X3_goesOn hX) gX3_endsIn_X3_goesOn rfl rfl rfl 1 rfl (by decide +kernel) ⟨Nat.le_of_ble_eq_true rfl, Nat.le_of_ble_eq_true rfl⟩ hX.1 rfl rfl rfl rfl (Nat.le_of_ble_eq_true rfl) dX3_endsIn_6 ⟨Nat.le_of_ble_eq_true rfl, Nat.le_of_ble_eq_true rfl⟩ (pc' := 9) rfl rfl rfl rfl ?_
    refine j_ifb_ne (tgt := 14) cx dX3_endsIn_9 (by decide) (pc' := 12) rfl (fun _ => ?_) (fun h => by first | exact absurd h (by decide) | exact absurd (by decide) h)
    refine j_aload_n (j := 0) cx dX3_endsIn_14 rfl rfl (pc' := 15) rfl ?_
    refine j_get (fk := 5) (ref := "TerminalYardModel") (v := .ref (al 45 0)) cx hX.1 rfl (by decide +kernel) (by decide) (by decide +kernel) (fun _ h => h) (yV_r (k := (45, 0)) rfl) rfl dX3_endsIn_15 (pc' := 18) rfl ?_
    refine j_aload_n (j := 0) cx dX3_endsIn_18 rfl rfl (pc' := 19) rfl ?_
    refine j_get (fk := 15) (ref := "TerminalYardModel") (v := .ref (al 55 0)) cx hX.1 rfl (by decide +kernel) (by decide) (by decide +kernel) (fun _ h => h) (yV_r (k := (55, 0)) rfl) rfl dX3_endsIn_19 (pc' := 22) rfl ?_
    refine j_iload_n (j := 1) cx dX3_endsIn_22 rfl rfl (pc' := 23) rfl ?_
    refine j_iald (v := S 55 0 i) cx hX.2.2.2.2.2.2.2.2.2.2.2.2.1 rfl (vp_in_nI (by omega) (by omega)) (by rw [(nI_clamp (by omega))]; simp [sup, mChg_o, lEmp_o]) rfl dX3_endsIn_23 (pc' := 24) rfl ?_
    refine j_iald (v := S 45 0 ((S 55 0 i).toNatClampNeg)) cx hX.2.2.2.1 rfl (hmo _ hi) (by simp [sup, gO, mChg_o, lEmp_o]) rfl dX3_endsIn_24 (pc' := 25) rfl ?_
    refine j_istore_n (lv' := [(2, .int (S 45 0 ((S 55 0 i).toNatClampNeg))), (0, .ref (al 40 0)), (1, .int (nI i))]) cx dX3_endsIn_25 rfl (by decide) rfl (pc' := 26) rfl ?_
    refine j_aload_n (j := 1) cx dX3_endsIn_26 rfl rfl (pc' := 27) rfl ?_
    refine j_get (fk := 2) (ref := "TerminalYardModel") (v := .ref (al 42 0)) cx hX.1 rfl (by decide +kernel) (by decide) (by decide +kernel) (fun _ h => h) (yV_r (k := (42, 0)) rfl) rfl dX3_endsIn_27 (pc' := 30) rfl ?_
    refine j_iload_n (j := 0) cx dX3_endsIn_30 rfl rfl (pc' := 31) rfl ?_
    refine j_iald (v := S 42 0 ((S 45 0 ((S 55 0 i).toNatClampNeg)).toNatClampNeg)) cx hX.2.1 rfl (hpo _ (ix_of (hmo _ hi))) (by simp [sup, gO, mChg_o, lEmp_o]) rfl dX3_endsIn_31 (pc' := 32) rfl ?_
    refine j_aload_n (j := 1) cx dX3_endsIn_32 rfl rfl (pc' := 33) rfl ?_
    refine j_get (fk := 1) (ref := "TerminalYardModel") (v := .int (S 40 0 1)) cx hX.1 rfl (by decide +kernel) (by decide) (by decide +kernel) (fun _ h => h) ((yV_i rfl).trans (congrArg Value.int (by simp [sup, gO, mChg_o, lEmp_o]))) rfl dX3_endsIn_33 (pc' := 36) rfl ?_
    refine j_isub cx dX3_endsIn_36 (pc' := 37) rfl ?_
    refine j_aload_n (j := 1) cx dX3_endsIn_37 rfl rfl (pc' := 38) rfl ?_
    refine j_get (fk := 17) (ref := "TerminalYardModel") (v := .ref (al 57 0)) cx hX.1 rfl (by decide +kernel) (by decide) (by decide +kernel) (fun _ h => h) (yV_r (k := (57, 0)) rfl) rfl dX3_endsIn_38 (pc' := 41) rfl ?_
    refine j_iload_n (j := 2) cx dX3_endsIn_41 rfl rfl (pc' := 42) rfl ?_
    refine j_iald (v := S 57 0 i) cx hX.2.2.2.2.2.2.2.2.2.2.2.2.2.2.1 rfl (vp_in_nI (by omega) (by omega)) (by rw [(nI_clamp (by omega))]; simp [sup, mChg_o, lEmp_o]) rfl dX3_endsIn_42 (pc' := 43) rfl ?_
    refine j_iadd cx dX3_endsIn_43 (pc' := 44) rfl ?_
    refine j_istore_n (lv' := [(3, .int (((S 42 0 ((S 45 0 ((S 55 0 i).toNatClampNeg)).toNatClampNeg)) - (S 40 0 1)) + (S 57 0 i))), (2, .int (S 45 0 ((S 55 0 i).toNatClampNeg))), (0, .ref (al 40 0)), (1, .int (nI i))]) cx dX3_endsIn_44 rfl (by decide) rfl (pc' := 45) rfl ?_
    refine j_aload_n (j := 2) cx dX3_endsIn_45 rfl rfl (pc' := 46) rfl ?_
    refine j_get (fk := 3) (ref := "TerminalYardModel") (v := .ref (al 43 0)) cx hX.1 rfl (by decide +kernel) (by decide) (by decide +kernel) (fun _ h => h) (yV_r (k := (43, 0)) rfl) rfl dX3_endsIn_46 (pc' := 49) rfl ?_
    refine j_iload_n (j := 1) cx dX3_endsIn_49 rfl rfl (pc' := 50) rfl ?_
    refine j_iald (v := S 43 0 ((S 45 0 ((S 55 0 i).toNatClampNeg)).toNatClampNeg)) cx hX.2.2.1 rfl (hpo _ (ix_of (hmo _ hi))) (by simp [sup, gO, mChg_o, lEmp_o]) rfl dX3_endsIn_50 (pc' := 51) rfl ?_
    refine j_aload_n (j := 2) cx dX3_endsIn_51 rfl rfl (pc' := 52) rfl ?_
    refine j_get (fk := 1) (ref := "TerminalYardModel") (v := .int (S 40 0 1)) cx hX.1 rfl (by decide +kernel) (by decide) (by decide +kernel) (fun _ h => h) ((yV_i rfl).trans (congrArg Value.int (by simp [sup, gO, mChg_o, lEmp_o]))) rfl dX3_endsIn_52 (pc' := 55) rfl ?_
    refine j_isub cx dX3_endsIn_55 (pc' := 56) rfl ?_
    refine j_aload_n (j := 2) cx dX3_endsIn_56 rfl rfl (pc' := 57) rfl ?_
    refine j_get (fk := 16) (ref := "TerminalYardModel") (v := .ref (al 56 0)) cx hX.1 rfl (by decide +kernel) (by decide) (by decide +kernel) (fun _ h => h) (yV_r (k := (56, 0)) rfl) rfl dX3_endsIn_57 (pc' := 60) rfl ?_
    refine j_iload_n (j := 3) cx dX3_endsIn_60 rfl rfl (pc' := 61) rfl ?_
    refine j_iald (v := S 56 0 i) cx hX.2.2.2.2.2.2.2.2.2.2.2.2.2.1 rfl (vp_in_nI (by omega) (by omega)) (by rw [(nI_clamp (by omega))]; simp [sup, mChg_o, lEmp_o]) rfl dX3_endsIn_61 (pc' := 62) rfl ?_
    refine j_iadd cx dX3_endsIn_62 (pc' := 63) rfl ?_
    refine j_istore (lv' := [(4, .int (((S 43 0 ((S 45 0 ((S 55 0 i).toNatClampNeg)).toNatClampNeg)) - (S 40 0 1)) + (S 56 0 i))), (3, .int (((S 42 0 ((S 45 0 ((S 55 0 i).toNatClampNeg)).toNatClampNeg)) - (S 40 0 1)) + (S 57 0 i))), (2, .int (S 45 0 ((S 55 0 i).toNatClampNeg))), (0, .ref (al 40 0)), (1, .int (nI i))]) cx dX3_endsIn_63 (by decide) rfl (pc' := 65) rfl ?_
    refine j_iload_n (j := 1) cx dX3_endsIn_65 rfl rfl (pc' := 66) rfl ?_
    refine j_iload (j := 0) cx dX3_endsIn_66 rfl (pc' := 68) rfl ?_
    refine j_icmp_ge (tgt := 75) cx dX3_endsIn_68 (by decide) (pc' := 71) rfl (fun h4 => ?_) (fun h4 => ?_)
    · refine j_iload (j := 0) cx dX3_endsIn_75 rfl (pc' := 77) rfl ?_
      refine j_istore (lv' := [(5, .int (((S 43 0 ((S 45 0 ((S 55 0 i).toNatClampNeg)).toNatClampNeg)) - (S 40 0 1)) + (S 56 0 i))), (4, .int (((S 43 0 ((S 45 0 ((S 55 0 i).toNatClampNeg)).toNatClampNeg)) - (S 40 0 1)) + (S 56 0 i))), (3, .int (((S 42 0 ((S 45 0 ((S 55 0 i).toNatClampNeg)).toNatClampNeg)) - (S 40 0 1)) + (S 57 0 i))), (2, .int (S 45 0 ((S 55 0 i).toNatClampNeg))), (0, .ref (al 40 0)), (1, .int (nI i))]) cx dX3_endsIn_77 (by decide) rfl (pc' := 79) rfl ?_
      refine j_iload (j := 0) cx dX3_endsIn_79 rfl (pc' := 81) rfl ?_
      refine j_iconst (v := 1) cx dX3_endsIn_81 (by decide) (pc' := 82) rfl ?_
      refine j_icmp_ge (tgt := 89) cx dX3_endsIn_82 (by decide) (pc' := 85) rfl (fun h5 => ?_) (fun h5 => ?_)
      · refine j_iload (j := 0) cx dX3_endsIn_89 rfl (pc' := 91) rfl ?_
        exact j_iret (ty := .int) cx hlk hr rfl (Nat.le_of_ble_eq_true rfl) (Nat.le_of_ble_eq_true rfl) dX3_endsIn_91 (yM_0 (by simp [kLive, hx, hl]) (by simp [sup, h4, Int32.not_lt.mpr h4, h5, Int32.not_lt.mpr h5]) rfl)
      · refine j_iconst (v := 1) cx dX3_endsIn_85 (by decide) (pc' := 86) rfl ?_
        refine j_goto (tgt := 91) cx dX3_endsIn_86 (by decide) ?_
        exact j_iret (ty := .int) cx hlk hr rfl (Nat.le_of_ble_eq_true rfl) (Nat.le_of_ble_eq_true rfl) dX3_endsIn_91 (yM_0 (by simp [kLive, hx, hl]) (by simp [sup, h4, Int32.not_lt.mpr h4, h5, Int32.not_le.mp h5]) rfl)
    · refine j_iload_n (j := 1) cx dX3_endsIn_71 rfl rfl (pc' := 72) rfl ?_
      refine j_goto (tgt := 77) cx dX3_endsIn_72 (by decide) ?_
      refine j_istore (lv' := [(5, .int (((S 42 0 ((S 45 0 ((S 55 0 i).toNatClampNeg)).toNatClampNeg)) - (S 40 0 1)) + (S 57 0 i))), (4, .int (((S 43 0 ((S 45 0 ((S 55 0 i).toNatClampNeg)).toNatClampNeg)) - (S 40 0 1)) + (S 56 0 i))), (3, .int (((S 42 0 ((S 45 0 ((S 55 0 i).toNatClampNeg)).toNatClampNeg)) - (S 40 0 1)) + (S 57 0 i))), (2, .int (S 45 0 ((S 55 0 i).toNatClampNeg))), (0, .ref (al 40 0)), (1, .int (nI i))]) cx dX3_endsIn_77 (by decide) rfl (pc' := 79) rfl ?_
      refine j_iload (j := 0) cx dX3_endsIn_79 rfl (pc' := 81) rfl ?_
      refine j_iconst (v := 1) cx dX3_endsIn_81 (by decide) (pc' := 82) rfl ?_
      refine j_icmp_ge (tgt := 89) cx dX3_endsIn_82 (by decide) (pc' := 85) rfl (fun h6 => ?_) (fun h6 => ?_)
      · refine j_iload (j := 0) cx dX3_endsIn_89 rfl (pc' := 91) rfl ?_
        exact j_iret (ty := .int) cx hlk hr rfl (Nat.le_of_ble_eq_true rfl) (Nat.le_of_ble_eq_true rfl) dX3_endsIn_91 (yM_0 (by simp [kLive, hx, hl]) (by simp [sup, h4, Int32.not_le.mp h4, h6, Int32.not_lt.mpr h6]) rfl)
      · refine j_iconst (v := 1) cx dX3_endsIn_85 (by decide) (pc' := 86) rfl ?_
        refine j_goto (tgt := 91) cx dX3_endsIn_86 (by decide) ?_
        exact j_iret (ty := .int) cx hlk hr rfl (Nat.le_of_ble_eq_true rfl) (Nat.le_of_ble_eq_true rfl) dX3_endsIn_91 (yM_0 (by simp [kLive, hx, hl]) (by simp [sup, h4, Int32.not_le.mp h4, h6, Int32.not_le.mp h6]) rfl)
  refine j_aload_n (j := 0) cx dX3_endsIn_0 rfl rfl (pc' := 1) rfl ?_
  refine j_aload_n (j := 0) cx dX3_endsIn_1 rfl rfl (pc' := 2) rfl ?_
  refine j_iload_n (j := 1) cx dX3_endsIn_2 rfl rfl (pc' := 3) rfl ?_
  refine j_cVR (cells1 := 0) (slots1 := 0) (st1 := [.int 2, .ref (al 40 0)]) (As := [.int (nI i)]) (rest := [.ref (al 40 0)]) cx ((c_lf2 hX hI hi hl)) gX3_endsIn_X3_liveFault rfl rfl rfl 1 rfl (by decide +kernel) ⟨Nat.le_of_ble_eq_true rfl, Nat.le_of_ble_eq_true rfl⟩ hX.1 rfl rfl rfl rfl (Nat.le_of_ble_eq_true rfl) dX3_endsIn_3 ⟨Nat.le_of_ble_eq_true rfl, Nat.le_of_ble_eq_true rfl⟩ (pc' := 6) rfl rfl rfl rfl ?_
  refine j_cVR (cells1 := 0) (slots1 := 0) (st1 := [.int (bI (2 = 0))]) (As := [.int 2]) (rest := []) cx (c_X3_goesOn hX) gX3_endsIn_X3_goesOn rfl rfl rfl 1 rfl (by decide +kernel) ⟨Nat.le_of_ble_eq_true rfl, Nat.le_of_ble_eq_true rfl⟩ hX.1 rfl rfl rfl rfl (Nat.le_of_ble_eq_true rfl) dX3_endsIn_6 ⟨Nat.le_of_ble_eq_true rfl, Nat.le_of_ble_eq_true rfl⟩ (pc' := 9) rfl rfl rfl rfl ?_
  refine j_ifb_ne (tgt := 14) cx dX3_endsIn_9 (by decide) (pc' := 12) rfl (fun h => by first | exact absurd h (by decide) | exact absurd (by decide) h) (fun _ => ?_)
  refine j_iconst (v := 0) cx dX3_endsIn_12 (by decide) (pc' := 13) rfl ?_
  exact j_iret (ty := .int) cx hlk hr rfl (Nat.le_of_ble_eq_true rfl) (Nat.le_of_ble_eq_true rfl) dX3_endsIn_13 (yM_n (by first | (simp [kLive, hx, hl]; done) | (exfalso; contradiction)) (by decide))
set_option maxHeartbeats 4000000 in
set_option maxRecDepth 100000 in
theorem c_X3_machineOf {l : Launch} {Z : yL} {al : yAl} {sh : ySh} {S : yS} {nm ns : Nat} {x : Int32} (hX : YM Z sh) (hI : XI S nm ns) : Ct l yX3_machineOf wsX3_machineOf ({ frames := 2, cells := 0, slots := 0, locals := 43 }) 0 0 Z [.ref (al 40 0), .int x] al sh S (yM (kIdx ns x) al sh (S 55 0 x.toNatClampNeg) (sup S 40 0 0 0) S) := by
  obtain ⟨hm, hs, hnm, hns, hus, hde, hmo, hpo, hro, hho, hen⟩ := id hI
  refine Ct.of (lv := [(0, .ref (al 40 0)), (1, .int x)]) (by decide) rfl (Nat.le_of_ble_eq_true rfl) rfl ?_
  intro p_ e_ s_ m_ below_ meth_ c_ cx hlk hr hnm9
  by_cases hx : oN ns x
  · refine j_aload_n (j := 0) cx dX3_machineOf_0 rfl rfl (pc' := 1) rfl ?_
    refine j_aload_n (j := 0) cx dX3_machineOf_1 rfl rfl (pc' := 2) rfl ?_
    refine j_iload_n (j := 1) cx dX3_machineOf_2 rfl rfl (pc' := 3) rfl ?_
    refine j_cVR (cells1 := 0) (slots1 := 0) (st1 := [.int (bI (¬ oN ns x)), .ref (al 40 0)]) (As := [.int x]) (rest := [.ref (al 40 0)]) cx (c_X3_isSession hX hI) gX3_machineOf_X3_isSession rfl rfl rfl 1 rfl (by decide +kernel) ⟨Nat.le_of_ble_eq_true rfl, Nat.le_of_ble_eq_true rfl⟩ hX.1 rfl rfl rfl rfl (Nat.le_of_ble_eq_true rfl) dX3_machineOf_3 ⟨Nat.le_of_ble_eq_true rfl, Nat.le_of_ble_eq_true rfl⟩ (pc' := 6) rfl rfl rfl rfl ?_
    refine j_ifb_eq (tgt := 13) cx dX3_machineOf_6 (by decide) (pc' := 9) rfl (fun _ => ?_) (fun h => by first | exact absurd h hx | exact absurd hx h)
    refine j_iconst (v := 1) cx dX3_machineOf_13 (by decide) (pc' := 14) rfl ?_
    refine j_cVR (cells1 := 0) (slots1 := 0) (st1 := [.int (bI (1 = 0))]) (As := [.int 1]) (rest := []) cx (c_X3_goesOn hX) gX3_machineOf_X3_goesOn rfl rfl rfl 1 rfl (by decide +kernel) ⟨Nat.le_of_ble_eq_true rfl, Nat.le_of_ble_eq_true rfl⟩ hX.1 rfl rfl rfl rfl (Nat.le_of_ble_eq_true rfl) dX3_machineOf_14 ⟨Nat.le_of_ble_eq_true rfl, Nat.le_of_ble_eq_true rfl⟩ (pc' := 17) rfl rfl rfl rfl ?_
    refine j_ifb_eq (tgt := 29) cx dX3_machineOf_17 (by decide) (pc' := 20) rfl (fun _ => ?_) (fun h => by first | exact absurd h (by decide) | exact absurd (by decide) h)
    refine j_iconst (v := 0) cx dX3_machineOf_29 (by decide) (pc' := 30) rfl ?_
    exact j_iret (ty := .int) cx hlk hr rfl (Nat.le_of_ble_eq_true rfl) (Nat.le_of_ble_eq_true rfl) dX3_machineOf_30 (yM_n (by first | (simp [kIdx, hx]; done) | (exfalso; contradiction)) (by decide))
  obtain ⟨i, hi, rfl⟩ : ∃ i, i < ns ∧ x = nI i := vp_in_of (vinm hx) (by omega)
  have hcl : (nI i).toNatClampNeg = i := nI_clamp (by omega)
  simp only [hcl]
  refine j_aload_n (j := 0) cx dX3_machineOf_0 rfl rfl (pc' := 1) rfl ?_
  refine j_aload_n (j := 0) cx dX3_machineOf_1 rfl rfl (pc' := 2) rfl ?_
  refine j_iload_n (j := 1) cx dX3_machineOf_2 rfl rfl (pc' := 3) rfl ?_
  refine j_cVR (cells1 := 0) (slots1 := 0) (st1 := [.int (bI (¬ oN ns (nI i))), .ref (al 40 0)]) (As := [.int (nI i)]) (rest := [.ref (al 40 0)]) cx (c_X3_isSession hX hI) gX3_machineOf_X3_isSession rfl rfl rfl 1 rfl (by decide +kernel) ⟨Nat.le_of_ble_eq_true rfl, Nat.le_of_ble_eq_true rfl⟩ hX.1 rfl rfl rfl rfl (Nat.le_of_ble_eq_true rfl) dX3_machineOf_3 ⟨Nat.le_of_ble_eq_true rfl, Nat.le_of_ble_eq_true rfl⟩ (pc' := 6) rfl rfl rfl rfl ?_
  refine j_ifb_eq (tgt := 13) cx dX3_machineOf_6 (by decide) (pc' := 9) rfl (fun h => by first | exact absurd h hx | exact absurd hx h) (fun _ => ?_)
  refine j_iconst (v := 0) cx dX3_machineOf_9 (by decide) (pc' := 10) rfl ?_
  refine j_goto (tgt := 14) cx dX3_machineOf_10 (by decide) ?_
  refine j_cVR (cells1 := 0) (slots1 := 0) (st1 := [.int (bI (0 = 0))]) (As := [.int 0]) (rest := []) cx (c_X3_goesOn hX) gX3_machineOf_X3_goesOn rfl rfl rfl 1 rfl (by decide +kernel) ⟨Nat.le_of_ble_eq_true rfl, Nat.le_of_ble_eq_true rfl⟩ hX.1 rfl rfl rfl rfl (Nat.le_of_ble_eq_true rfl) dX3_machineOf_14 ⟨Nat.le_of_ble_eq_true rfl, Nat.le_of_ble_eq_true rfl⟩ (pc' := 17) rfl rfl rfl rfl ?_
  refine j_ifb_eq (tgt := 29) cx dX3_machineOf_17 (by decide) (pc' := 20) rfl (fun h => by first | exact absurd h (by decide) | exact absurd (by decide) h) (fun _ => ?_)
  refine j_aload_n (j := 0) cx dX3_machineOf_20 rfl rfl (pc' := 21) rfl ?_
  refine j_get (fk := 15) (ref := "TerminalYardModel") (v := .ref (al 55 0)) cx hX.1 rfl (by decide +kernel) (by decide) (by decide +kernel) (fun _ h => h) (yV_r (k := (55, 0)) rfl) rfl dX3_machineOf_21 (pc' := 24) rfl ?_
  refine j_iload_n (j := 1) cx dX3_machineOf_24 rfl rfl (pc' := 25) rfl ?_
  refine j_iald (v := S 55 0 i) cx hX.2.2.2.2.2.2.2.2.2.2.2.2.1 rfl (vp_in_nI (by omega) (by omega)) (by rw [(nI_clamp (by omega))]; simp [sup, mChg_o, lEmp_o]) rfl dX3_machineOf_25 (pc' := 26) rfl ?_
  refine j_goto (tgt := 30) cx dX3_machineOf_26 (by decide) ?_
  exact j_iret (ty := .int) cx hlk hr rfl (Nat.le_of_ble_eq_true rfl) (Nat.le_of_ble_eq_true rfl) dX3_machineOf_30 (yM_0 (by simp [kIdx, hx]) (by simp [sup]) (rfl))
set_option maxHeartbeats 4000000 in
set_option maxRecDepth 100000 in
theorem c_X3_userOf {l : Launch} {Z : yL} {al : yAl} {sh : ySh} {S : yS} {nm ns : Nat} {x : Int32} (hX : YM Z sh) (hI : XI S nm ns) : Ct l yX3_userOf wsX3_userOf ({ frames := 2, cells := 0, slots := 0, locals := 43 }) 0 0 Z [.ref (al 40 0), .int x] al sh S (yM (kIdx ns x) al sh (S 54 0 x.toNatClampNeg) (sup S 40 0 0 0) S) := by
  obtain ⟨hm, hs, hnm, hns, hus, hde, hmo, hpo, hro, hho, hen⟩ := id hI
  refine Ct.of (lv := [(0, .ref (al 40 0)), (1, .int x)]) (by decide) rfl (Nat.le_of_ble_eq_true rfl) rfl ?_
  intro p_ e_ s_ m_ below_ meth_ c_ cx hlk hr hnm9
  by_cases hx : oN ns x
  · refine j_aload_n (j := 0) cx dX3_userOf_0 rfl rfl (pc' := 1) rfl ?_
    refine j_aload_n (j := 0) cx dX3_userOf_1 rfl rfl (pc' := 2) rfl ?_
    refine j_iload_n (j := 1) cx dX3_userOf_2 rfl rfl (pc' := 3) rfl ?_
    refine j_cVR (cells1 := 0) (slots1 := 0) (st1 := [.int (bI (¬ oN ns x)), .ref (al 40 0)]) (As := [.int x]) (rest := [.ref (al 40 0)]) cx (c_X3_isSession hX hI) gX3_userOf_X3_isSession rfl rfl rfl 1 rfl (by decide +kernel) ⟨Nat.le_of_ble_eq_true rfl, Nat.le_of_ble_eq_true rfl⟩ hX.1 rfl rfl rfl rfl (Nat.le_of_ble_eq_true rfl) dX3_userOf_3 ⟨Nat.le_of_ble_eq_true rfl, Nat.le_of_ble_eq_true rfl⟩ (pc' := 6) rfl rfl rfl rfl ?_
    refine j_ifb_eq (tgt := 13) cx dX3_userOf_6 (by decide) (pc' := 9) rfl (fun _ => ?_) (fun h => by first | exact absurd h hx | exact absurd hx h)
    refine j_iconst (v := 1) cx dX3_userOf_13 (by decide) (pc' := 14) rfl ?_
    refine j_cVR (cells1 := 0) (slots1 := 0) (st1 := [.int (bI (1 = 0))]) (As := [.int 1]) (rest := []) cx (c_X3_goesOn hX) gX3_userOf_X3_goesOn rfl rfl rfl 1 rfl (by decide +kernel) ⟨Nat.le_of_ble_eq_true rfl, Nat.le_of_ble_eq_true rfl⟩ hX.1 rfl rfl rfl rfl (Nat.le_of_ble_eq_true rfl) dX3_userOf_14 ⟨Nat.le_of_ble_eq_true rfl, Nat.le_of_ble_eq_true rfl⟩ (pc' := 17) rfl rfl rfl rfl ?_
    refine j_ifb_eq (tgt := 29) cx dX3_userOf_17 (by decide) (pc' := 20) rfl (fun _ => ?_) (fun h => by first | exact absurd h (by decide) | exact absurd (by decide) h)
    refine j_iconst (v := 0) cx dX3_userOf_29 (by decide) (pc' := 30) rfl ?_
    exact j_iret (ty := .int) cx hlk hr rfl (Nat.le_of_ble_eq_true rfl) (Nat.le_of_ble_eq_true rfl) dX3_userOf_30 (yM_n (by first | (simp [kIdx, hx]; done) | (exfalso; contradiction)) (by decide))
  obtain ⟨i, hi, rfl⟩ : ∃ i, i < ns ∧ x = nI i := vp_in_of (vinm hx) (by omega)
  have hcl : (nI i).toNatClampNeg = i := nI_clamp (by omega)
  simp only [hcl]
  refine j_aload_n (j := 0) cx dX3_userOf_0 rfl rfl (pc' := 1) rfl ?_
  refine j_aload_n (j := 0) cx dX3_userOf_1 rfl rfl (pc' := 2) rfl ?_
  refine j_iload_n (j := 1) cx dX3_userOf_2 rfl rfl (pc' := 3) rfl ?_
  refine j_cVR (cells1 := 0) (slots1 := 0) (st1 := [.int (bI (¬ oN ns (nI i))), .ref (al 40 0)]) (As := [.int (nI i)]) (rest := [.ref (al 40 0)]) cx (c_X3_isSession hX hI) gX3_userOf_X3_isSession rfl rfl rfl 1 rfl (by decide +kernel) ⟨Nat.le_of_ble_eq_true rfl, Nat.le_of_ble_eq_true rfl⟩ hX.1 rfl rfl rfl rfl (Nat.le_of_ble_eq_true rfl) dX3_userOf_3 ⟨Nat.le_of_ble_eq_true rfl, Nat.le_of_ble_eq_true rfl⟩ (pc' := 6) rfl rfl rfl rfl ?_
  refine j_ifb_eq (tgt := 13) cx dX3_userOf_6 (by decide) (pc' := 9) rfl (fun h => by first | exact absurd h hx | exact absurd hx h) (fun _ => ?_)
  refine j_iconst (v := 0) cx dX3_userOf_9 (by decide) (pc' := 10) rfl ?_
  refine j_goto (tgt := 14) cx dX3_userOf_10 (by decide) ?_
  refine j_cVR (cells1 := 0) (slots1 := 0) (st1 := [.int (bI (0 = 0))]) (As := [.int 0]) (rest := []) cx (c_X3_goesOn hX) gX3_userOf_X3_goesOn rfl rfl rfl 1 rfl (by decide +kernel) ⟨Nat.le_of_ble_eq_true rfl, Nat.le_of_ble_eq_true rfl⟩ hX.1 rfl rfl rfl rfl (Nat.le_of_ble_eq_true rfl) dX3_userOf_14 ⟨Nat.le_of_ble_eq_true rfl, Nat.le_of_ble_eq_true rfl⟩ (pc' := 17) rfl rfl rfl rfl ?_
  refine j_ifb_eq (tgt := 29) cx dX3_userOf_17 (by decide) (pc' := 20) rfl (fun h => by first | exact absurd h (by decide) | exact absurd (by decide) h) (fun _ => ?_)
  refine j_aload_n (j := 0) cx dX3_userOf_20 rfl rfl (pc' := 21) rfl ?_
  refine j_get (fk := 14) (ref := "TerminalYardModel") (v := .ref (al 54 0)) cx hX.1 rfl (by decide +kernel) (by decide) (by decide +kernel) (fun _ h => h) (yV_r (k := (54, 0)) rfl) rfl dX3_userOf_21 (pc' := 24) rfl ?_
  refine j_iload_n (j := 1) cx dX3_userOf_24 rfl rfl (pc' := 25) rfl ?_
  refine j_iald (v := S 54 0 i) cx hX.2.2.2.2.2.2.2.2.2.2.2.1 rfl (vp_in_nI (by omega) (by omega)) (by rw [(nI_clamp (by omega))]; simp [sup, mChg_o, lEmp_o]) rfl dX3_userOf_25 (pc' := 26) rfl ?_
  refine j_goto (tgt := 30) cx dX3_userOf_26 (by decide) ?_
  exact j_iret (ty := .int) cx hlk hr rfl (Nat.le_of_ble_eq_true rfl) (Nat.le_of_ble_eq_true rfl) dX3_userOf_30 (yM_0 (by simp [kIdx, hx]) (by simp [sup]) (rfl))
set_option maxHeartbeats 4000000 in
set_option maxRecDepth 100000 in
theorem c_X3_state {l : Launch} {Z : yL} {al : yAl} {sh : ySh} {S : yS} {nm ns : Nat} {x : Int32} (hX : YM Z sh) (hI : XI S nm ns) : Ct l yX3_state wsX3_state ({ frames := 2, cells := 0, slots := 0, locals := 43 }) 0 0 Z [.ref (al 40 0), .int x] al sh S (yM (kIdx ns x) al sh (if S 59 0 x.toNatClampNeg = 0 then (if S 54 0 x.toNatClampNeg = S 53 0 x.toNatClampNeg then 97 else 116) else S 59 0 x.toNatClampNeg) (sup S 40 0 0 0) S) := by
  obtain ⟨hm, hs, hnm, hns, hus, hde, hmo, hpo, hro, hho, hen⟩ := id hI
  refine Ct.of (lv := [(0, .ref (al 40 0)), (1, .int x)]) (by decide) rfl (Nat.le_of_ble_eq_true rfl) rfl ?_
  intro p_ e_ s_ m_ below_ meth_ c_ cx hlk hr hnm9
  by_cases hx : oN ns x
  · refine j_aload_n (j := 0) cx dX3_state_0 rfl rfl (pc' := 1) rfl ?_
    refine j_aload_n (j := 0) cx dX3_state_1 rfl rfl (pc' := 2) rfl ?_
    refine j_iload_n (j := 1) cx dX3_state_2 rfl rfl (pc' := 3) rfl ?_
    refine j_cVR (cells1 := 0) (slots1 := 0) (st1 := [.int (bI (¬ oN ns x)), .ref (al 40 0)]) (As := [.int x]) (rest := [.ref (al 40 0)]) cx (c_X3_isSession hX hI) gX3_state_X3_isSession rfl rfl rfl 1 rfl (by decide +kernel) ⟨Nat.le_of_ble_eq_true rfl, Nat.le_of_ble_eq_true rfl⟩ hX.1 rfl rfl rfl rfl (Nat.le_of_ble_eq_true rfl) dX3_state_3 ⟨Nat.le_of_ble_eq_true rfl, Nat.le_of_ble_eq_true rfl⟩ (pc' := 6) rfl rfl rfl rfl ?_
    refine j_ifb_eq (tgt := 13) cx dX3_state_6 (by decide) (pc' := 9) rfl (fun _ => ?_) (fun h => by first | exact absurd h hx | exact absurd hx h)
    refine j_iconst (v := 1) cx dX3_state_13 (by decide) (pc' := 14) rfl ?_
    refine j_cVR (cells1 := 0) (slots1 := 0) (st1 := [.int (bI (1 = 0))]) (As := [.int 1]) (rest := []) cx (c_X3_goesOn hX) gX3_state_X3_goesOn rfl rfl rfl 1 rfl (by decide +kernel) ⟨Nat.le_of_ble_eq_true rfl, Nat.le_of_ble_eq_true rfl⟩ hX.1 rfl rfl rfl rfl (Nat.le_of_ble_eq_true rfl) dX3_state_14 ⟨Nat.le_of_ble_eq_true rfl, Nat.le_of_ble_eq_true rfl⟩ (pc' := 17) rfl rfl rfl rfl ?_
    refine j_ifb_ne (tgt := 22) cx dX3_state_17 (by decide) (pc' := 20) rfl (fun h => by first | exact absurd h (by decide) | exact absurd (by decide) h) (fun _ => ?_)
    refine j_iconst (v := 0) cx dX3_state_20 (by decide) (pc' := 21) rfl ?_
    exact j_iret (ty := .char) cx hlk hr rfl (Nat.le_of_ble_eq_true rfl) (Nat.le_of_ble_eq_true rfl) dX3_state_21 (yM_n (by first | (simp [kIdx, hx]; done) | (exfalso; contradiction)) (by decide))
  obtain ⟨i, hi, rfl⟩ : ∃ i, i < ns ∧ x = nI i := vp_in_of (vinm hx) (by omega)
  have hcl : (nI i).toNatClampNeg = i := nI_clamp (by omega)
  simp only [hcl]
  refine j_aload_n (j := 0) cx dX3_state_0 rfl rfl (pc' := 1) rfl ?_
  refine j_aload_n (j := 0) cx dX3_state_1 rfl rfl (pc' := 2) rfl ?_
  refine j_iload_n (j := 1) cx dX3_state_2 rfl rfl (pc' := 3) rfl ?_
  refine j_cVR (cells1 := 0) (slots1 := 0) (st1 := [.int (bI (¬ oN ns (nI i))), .ref (al 40 0)]) (As := [.int (nI i)]) (rest := [.ref (al 40 0)]) cx (c_X3_isSession hX hI) gX3_state_X3_isSession rfl rfl rfl 1 rfl (by decide +kernel) ⟨Nat.le_of_ble_eq_true rfl, Nat.le_of_ble_eq_true rfl⟩ hX.1 rfl rfl rfl rfl (Nat.le_of_ble_eq_true rfl) dX3_state_3 ⟨Nat.le_of_ble_eq_true rfl, Nat.le_of_ble_eq_true rfl⟩ (pc' := 6) rfl rfl rfl rfl ?_
  refine j_ifb_eq (tgt := 13) cx dX3_state_6 (by decide) (pc' := 9) rfl (fun h => by first | exact absurd h hx | exact absurd hx h) (fun _ => ?_)
  refine j_iconst (v := 0) cx dX3_state_9 (by decide) (pc' := 10) rfl ?_
  refine j_goto (tgt := 14) cx dX3_state_10 (by decide) ?_
  refine j_cVR (cells1 := 0) (slots1 := 0) (st1 := [.int (bI (0 = 0))]) (As := [.int 0]) (rest := []) cx (c_X3_goesOn hX) gX3_state_X3_goesOn rfl rfl rfl 1 rfl (by decide +kernel) ⟨Nat.le_of_ble_eq_true rfl, Nat.le_of_ble_eq_true rfl⟩ hX.1 rfl rfl rfl rfl (Nat.le_of_ble_eq_true rfl) dX3_state_14 ⟨Nat.le_of_ble_eq_true rfl, Nat.le_of_ble_eq_true rfl⟩ (pc' := 17) rfl rfl rfl rfl ?_
  refine j_ifb_ne (tgt := 22) cx dX3_state_17 (by decide) (pc' := 20) rfl (fun _ => ?_) (fun h => by first | exact absurd h (by decide) | exact absurd (by decide) h)
  refine j_aload_n (j := 0) cx dX3_state_22 rfl rfl (pc' := 23) rfl ?_
  refine j_iload_n (j := 1) cx dX3_state_23 rfl rfl (pc' := 24) rfl ?_
  refine j_cVR (cells1 := 0) (slots1 := 0) (st1 := [.int (bI (S 59 0 i = 0))]) (As := [.int (nI i)]) (rest := []) cx (c_X3_isLive (S := (sup S 40 0 0 0)) (i := i) (e := S 59 0 i) hX (by omega) (by simp [sup, gO, mChg_o, lEmp_o])) gX3_state_X3_isLive rfl rfl rfl 1 rfl (by decide +kernel) ⟨Nat.le_of_ble_eq_true rfl, Nat.le_of_ble_eq_true rfl⟩ hX.1 rfl rfl rfl rfl (Nat.le_of_ble_eq_true rfl) dX3_state_24 ⟨Nat.le_of_ble_eq_true rfl, Nat.le_of_ble_eq_true rfl⟩ (pc' := 27) rfl rfl rfl rfl ?_
  refine j_ifb_ne (tgt := 39) cx dX3_state_27 (by decide) (pc' := 30) rfl (fun h6 => ?_) (fun h6 => ?_)
  · refine j_aload_n (j := 0) cx dX3_state_39 rfl rfl (pc' := 40) rfl ?_
    refine j_get (fk := 14) (ref := "TerminalYardModel") (v := .ref (al 54 0)) cx hX.1 rfl (by decide +kernel) (by decide) (by decide +kernel) (fun _ h => h) (yV_r (k := (54, 0)) rfl) rfl dX3_state_40 (pc' := 43) rfl ?_
    refine j_iload_n (j := 1) cx dX3_state_43 rfl rfl (pc' := 44) rfl ?_
    refine j_iald (v := S 54 0 i) cx hX.2.2.2.2.2.2.2.2.2.2.2.1 rfl (vp_in_nI (by omega) (by omega)) (by rw [(nI_clamp (by omega))]; simp [sup, mChg_o, lEmp_o]) rfl dX3_state_44 (pc' := 45) rfl ?_
    refine j_aload_n (j := 0) cx dX3_state_45 rfl rfl (pc' := 46) rfl ?_
    refine j_get (fk := 13) (ref := "TerminalYardModel") (v := .ref (al 53 0)) cx hX.1 rfl (by decide +kernel) (by decide) (by decide +kernel) (fun _ h => h) (yV_r (k := (53, 0)) rfl) rfl dX3_state_46 (pc' := 49) rfl ?_
    refine j_iload_n (j := 1) cx dX3_state_49 rfl rfl (pc' := 50) rfl ?_
    refine j_iald (v := S 53 0 i) cx hX.2.2.2.2.2.2.2.2.2.2.1 rfl (vp_in_nI (by omega) (by omega)) (by rw [(nI_clamp (by omega))]; simp [sup, mChg_o, lEmp_o]) rfl dX3_state_50 (pc' := 51) rfl ?_
    refine j_icmp_ne (tgt := 59) cx dX3_state_51 (by decide) (pc' := 54) rfl (fun h7 => ?_) (fun h7 => ?_)
    · refine j_bipush (v := 116) cx dX3_state_59 (by decide) (pc' := 61) rfl ?_
      exact j_iret (ty := .char) cx hlk hr rfl (Nat.le_of_ble_eq_true rfl) (Nat.le_of_ble_eq_true rfl) dX3_state_61 (yM_0 (by simp [kIdx, hx]) (by simp [sup, h6, h7]) rfl)
    · refine j_bipush (v := 97) cx dX3_state_54 (by decide) (pc' := 56) rfl ?_
      refine j_goto (tgt := 61) cx dX3_state_56 (by decide) ?_
      exact j_iret (ty := .char) cx hlk hr rfl (Nat.le_of_ble_eq_true rfl) (Nat.le_of_ble_eq_true rfl) dX3_state_61 (yM_0 (by simp [kIdx, hx]) (by simp [sup, h6, h7]) rfl)
  · refine j_aload_n (j := 0) cx dX3_state_30 rfl rfl (pc' := 31) rfl ?_
    refine j_get (fk := 19) (ref := "TerminalYardModel") (v := .ref (al 59 0)) cx hX.1 rfl (by decide +kernel) (by decide) (by decide +kernel) (fun _ h => h) (yV_r (k := (59, 0)) rfl) rfl dX3_state_31 (pc' := 34) rfl ?_
    refine j_iload_n (j := 1) cx dX3_state_34 rfl rfl (pc' := 35) rfl ?_
    refine j_cald (v := S 59 0 i) cx hX.2.2.2.2.2.2.2.2.2.2.2.2.2.2.2.2.1 rfl (vp_in_nI (by omega) (by omega)) (by rw [(nI_clamp (by omega))]; simp [sup, mChg_o, lEmp_o]) rfl dX3_state_35 (pc' := 36) rfl ?_
    refine j_goto (tgt := 61) cx dX3_state_36 (by decide) ?_
    exact j_iret (ty := .char) cx hlk hr (by first | rfl | exact hho _ | exact hen _) (Nat.le_of_ble_eq_true rfl) (Nat.le_of_ble_eq_true rfl) dX3_state_61 (yM_0 (by simp [kIdx, hx]) (by simp [sup, h6]) rfl)
set_option maxHeartbeats 4000000 in
set_option maxRecDepth 100000 in
theorem c_X3_charged {l : Launch} {Z : yL} {al : yAl} {sh : ySh} {S : yS} {nm ns : Nat} {x d : Int32} (hX : YM Z sh) (hI : XI S nm ns) : Ct l yX3_charged wsX3_charged ({ frames := 2, cells := 0, slots := 0, locals := 43 }) 0 0 Z [.ref (al 40 0), .int x, .int d] al sh S (yM (kChg ns x d) al sh (S 58 0 (4 * x.toNatClampNeg + d.toNatClampNeg)) (sup S 40 0 0 0) S) := by
  obtain ⟨hm, hs, hnm, hns, hus, hde, hmo, hpo, hro, hho, hen⟩ := id hI
  refine Ct.of (lv := [(0, .ref (al 40 0)), (1, .int x), (2, .int d)]) (by decide) rfl (Nat.le_of_ble_eq_true rfl) rfl ?_
  intro p_ e_ s_ m_ below_ meth_ c_ cx hlk hr hnm9
  by_cases hx : oN ns x
  · refine j_aload_n (j := 0) cx dX3_charged_0 rfl rfl (pc' := 1) rfl ?_
    refine j_aload_n (j := 0) cx dX3_charged_1 rfl rfl (pc' := 2) rfl ?_
    refine j_iload_n (j := 1) cx dX3_charged_2 rfl rfl (pc' := 3) rfl ?_
    refine j_cVR (cells1 := 0) (slots1 := 0) (st1 := [.int (bI (¬ oN ns x)), .ref (al 40 0)]) (As := [.int x]) (rest := [.ref (al 40 0)]) cx (c_X3_isSession hX hI) gX3_charged_X3_isSession rfl rfl rfl 1 rfl (by decide +kernel) ⟨Nat.le_of_ble_eq_true rfl, Nat.le_of_ble_eq_true rfl⟩ hX.1 rfl rfl rfl rfl (Nat.le_of_ble_eq_true rfl) dX3_charged_3 ⟨Nat.le_of_ble_eq_true rfl, Nat.le_of_ble_eq_true rfl⟩ (pc' := 6) rfl rfl rfl rfl ?_
    refine j_ifb_ne (tgt := 13) cx dX3_charged_6 (by decide) (pc' := 9) rfl (fun h => by first | exact absurd h hx | exact absurd hx h) (fun _ => ?_)
    refine j_iconst (v := 1) cx dX3_charged_9 (by decide) (pc' := 10) rfl ?_
    refine j_goto (tgt := 25) cx dX3_charged_10 (by decide) ?_
    refine j_cVR (cells1 := 0) (slots1 := 0) (st1 := [.int (bI (1 = 0))]) (As := [.int 1]) (rest := []) cx (c_X3_goesOn hX) gX3_charged_X3_goesOn rfl rfl rfl 1 rfl (by decide +kernel) ⟨Nat.le_of_ble_eq_true rfl, Nat.le_of_ble_eq_true rfl⟩ hX.1 rfl rfl rfl rfl (Nat.le_of_ble_eq_true rfl) dX3_charged_25 ⟨Nat.le_of_ble_eq_true rfl, Nat.le_of_ble_eq_true rfl⟩ (pc' := 28) rfl rfl rfl rfl ?_
    refine j_ifb_eq (tgt := 44) cx dX3_charged_28 (by decide) (pc' := 31) rfl (fun _ => ?_) (fun h => by first | exact absurd h (by decide) | exact absurd (by decide) h)
    refine j_iconst (v := 0) cx dX3_charged_44 (by decide) (pc' := 45) rfl ?_
    exact j_iret (ty := .int) cx hlk hr rfl (Nat.le_of_ble_eq_true rfl) (Nat.le_of_ble_eq_true rfl) dX3_charged_45 (yM_n (by first | (simp [kChg, hx]; done) | (exfalso; contradiction)) (by decide))
  obtain ⟨i, hi, rfl⟩ : ∃ i, i < ns ∧ x = nI i := vp_in_of (vinm hx) (by omega)
  have hcl : (nI i).toNatClampNeg = i := nI_clamp (by omega)
  simp only [hcl]
  refine j_aload_n (j := 0) cx dX3_charged_0 rfl rfl (pc' := 1) rfl ?_
  refine j_aload_n (j := 0) cx dX3_charged_1 rfl rfl (pc' := 2) rfl ?_
  refine j_iload_n (j := 1) cx dX3_charged_2 rfl rfl (pc' := 3) rfl ?_
  refine j_cVR (cells1 := 0) (slots1 := 0) (st1 := [.int (bI (¬ oN ns (nI i))), .ref (al 40 0)]) (As := [.int (nI i)]) (rest := [.ref (al 40 0)]) cx (c_X3_isSession hX hI) gX3_charged_X3_isSession rfl rfl rfl 1 rfl (by decide +kernel) ⟨Nat.le_of_ble_eq_true rfl, Nat.le_of_ble_eq_true rfl⟩ hX.1 rfl rfl rfl rfl (Nat.le_of_ble_eq_true rfl) dX3_charged_3 ⟨Nat.le_of_ble_eq_true rfl, Nat.le_of_ble_eq_true rfl⟩ (pc' := 6) rfl rfl rfl rfl ?_
  refine j_ifb_ne (tgt := 13) cx dX3_charged_6 (by decide) (pc' := 9) rfl (fun _ => ?_) (fun h => by first | exact absurd h hx | exact absurd hx h)
  refine j_iload_n (j := 2) cx dX3_charged_13 rfl rfl (pc' := 14) rfl ?_
  refine j_cSR (cells1 := 0) (slots1 := 0) (st1 := [.int (bI (¬ oR 0 3 d)), .ref (al 40 0)]) (As := [.int d]) (rest := [.ref (al 40 0)]) cx (c_X3_isDepartment) gX3_charged_X3_isDepartment rfl rfl rfl 1 rfl (by decide +kernel) ⟨Nat.le_of_ble_eq_true rfl, Nat.le_of_ble_eq_true rfl⟩ rfl (Nat.le_of_ble_eq_true rfl) dX3_charged_14 ⟨Nat.le_of_ble_eq_true rfl, Nat.le_of_ble_eq_true rfl⟩ (pc' := 17) rfl rfl rfl rfl ?_
  refine j_ifb_ne (tgt := 24) cx dX3_charged_17 (by decide) (pc' := 20) rfl (fun h4 => ?_) (fun h4 => ?_)
  · refine j_iconst (v := 0) cx dX3_charged_24 (by decide) (pc' := 25) rfl ?_
    refine j_cVR (cells1 := 0) (slots1 := 0) (st1 := [.int (bI (0 = 0))]) (As := [.int 0]) (rest := []) cx (c_X3_goesOn hX) gX3_charged_X3_goesOn rfl rfl rfl 1 rfl (by decide +kernel) ⟨Nat.le_of_ble_eq_true rfl, Nat.le_of_ble_eq_true rfl⟩ hX.1 rfl rfl rfl rfl (Nat.le_of_ble_eq_true rfl) dX3_charged_25 ⟨Nat.le_of_ble_eq_true rfl, Nat.le_of_ble_eq_true rfl⟩ (pc' := 28) rfl rfl rfl rfl ?_
    refine j_ifb_eq (tgt := 44) cx dX3_charged_28 (by decide) (pc' := 31) rfl (fun h => by first | exact absurd h (by decide) | exact absurd (by decide) h) (fun _ => ?_)
    refine j_aload_n (j := 0) cx dX3_charged_31 rfl rfl (pc' := 32) rfl ?_
    refine j_get (fk := 18) (ref := "TerminalYardModel") (v := .ref (al 58 0)) cx hX.1 rfl (by decide +kernel) (by decide) (by decide +kernel) (fun _ h => h) (yV_r (k := (58, 0)) rfl) rfl dX3_charged_32 (pc' := 35) rfl ?_
    refine j_iconst (v := 4) cx dX3_charged_35 (by decide) (pc' := 36) rfl ?_
    refine j_iload_n (j := 1) cx dX3_charged_36 rfl rfl (pc' := 37) rfl ?_
    refine j_imul cx dX3_charged_37 (pc' := 38) rfl ?_
    refine j_iload_n (j := 2) cx dX3_charged_38 rfl rfl (pc' := 39) rfl ?_
    refine j_iadd cx dX3_charged_39 (pc' := 40) rfl ?_
    refine j_iald (v := S 58 0 (4 * i + d.toNatClampNeg)) cx hX.2.2.2.2.2.2.2.2.2.2.2.2.2.2.2.1 rfl (ix4i (by omega) (vp_in_out (b := 3) (by decide) h4)) (by rw [(ix4 (by omega) (vp_in_out (b := 3) (by decide) h4))]; simp [sup, mChg_o, lEmp_o]) rfl dX3_charged_40 (pc' := 41) rfl ?_
    refine j_goto (tgt := 45) cx dX3_charged_41 (by decide) ?_
    exact j_iret (ty := .int) cx hlk hr rfl (Nat.le_of_ble_eq_true rfl) (Nat.le_of_ble_eq_true rfl) dX3_charged_45 (yM_0 (by simp [kChg, hx, h4]) (by simp [sup]) (rfl))
  · refine j_iconst (v := 2) cx dX3_charged_20 (by decide) (pc' := 21) rfl ?_
    refine j_goto (tgt := 25) cx dX3_charged_21 (by decide) ?_
    refine j_cVR (cells1 := 0) (slots1 := 0) (st1 := [.int (bI (2 = 0))]) (As := [.int 2]) (rest := []) cx (c_X3_goesOn hX) gX3_charged_X3_goesOn rfl rfl rfl 1 rfl (by decide +kernel) ⟨Nat.le_of_ble_eq_true rfl, Nat.le_of_ble_eq_true rfl⟩ hX.1 rfl rfl rfl rfl (Nat.le_of_ble_eq_true rfl) dX3_charged_25 ⟨Nat.le_of_ble_eq_true rfl, Nat.le_of_ble_eq_true rfl⟩ (pc' := 28) rfl rfl rfl rfl ?_
    refine j_ifb_eq (tgt := 44) cx dX3_charged_28 (by decide) (pc' := 31) rfl (fun _ => ?_) (fun h => by first | exact absurd h (by decide) | exact absurd (by decide) h)
    refine j_iconst (v := 0) cx dX3_charged_44 (by decide) (pc' := 45) rfl ?_
    exact j_iret (ty := .int) cx hlk hr rfl (Nat.le_of_ble_eq_true rfl) (Nat.le_of_ble_eq_true rfl) dX3_charged_45 (yM_n (by first | (simp [kChg, hx, h4]; done) | (exfalso; contradiction)) (by decide))
