set_option maxHeartbeats 4000000 in
set_option maxRecDepth 100000 in
theorem c_X2_charge {l : Launch} {Z : yL} {al : yAl} {sh : ySh} {S : yS} {nm ns : Nat} {mu : Nat → Nat} {i : Nat} {x : Int32} (hY : YC Z al sh nm ns mu) (hi : i < ns) (hu : vp_in (S 21 i 4) 10) (hd : vp_in (S 4 0 (S 21 i 4).toNatClampNeg) 4) : Ct l yX2_charge wsX2_charge ({ frames := 0, cells := 0, slots := 0, locals := 0 }) 0 0 Z [.ref (al 0 0), .ref (al 21 i), .int x] al sh S (yR al sh none (fCharge S i x)) := by
  refine Ct.of (lv := [(0, .ref (al 0 0)), (1, .ref (al 21 i)), (2, .int x)]) (by decide) rfl (Nat.le_of_ble_eq_true rfl) rfl ?_
  intro p_ e_ s_ m_ below_ meth_ c_ cx hlk hr hnm9
  refine j_aload_n (j := 0) cx dX2_charge_0 rfl rfl (pc' := 1) rfl ?_
  refine j_get (fk := 3) (ref := "TerminalYard") (v := .ref (al 4 0)) cx hY.1 rfl (by decide +kernel) (by decide) (by decide +kernel) (fun _ h => h) (yV_r (k := (4, 0)) rfl) rfl dX2_charge_1 (pc' := 4) rfl ?_
  refine j_aload_n (j := 1) cx dX2_charge_4 rfl rfl (pc' := 5) rfl ?_
  refine j_get (fk := 4) (ref := "TerminalYard$Session") (v := .int (S 21 i 4)) cx (hY.2.2.2.2.2.2.2.2.2.2.2.2.1 _ hi) rfl (by decide +kernel) (by decide) (by decide +kernel) (fun _ h => h) (yV_i rfl) rfl dX2_charge_5 (pc' := 8) rfl ?_
  refine j_iald (v := S 4 0 ((S 21 i 4).toNatClampNeg)) cx hY.2.2.2.2.1 rfl hu rfl rfl dX2_charge_8 (pc' := 9) rfl ?_
  refine j_istore_n (lv' := [(3, .int (S 4 0 ((S 21 i 4).toNatClampNeg))), (0, .ref (al 0 0)), (1, .ref (al 21 i)), (2, .int x)]) cx dX2_charge_9 rfl (by decide) rfl (pc' := 10) rfl ?_
  refine j_aload_n (j := 1) cx dX2_charge_10 rfl rfl (pc' := 11) rfl ?_
  refine j_get (fk := 4) (ref := "TerminalYard") (v := .ref (al 5 0)) cx hY.1 rfl (by decide +kernel) (by decide) (by decide +kernel) (fun _ h => h) (yV_r (k := (5, 0)) rfl) rfl dX2_charge_11 (pc' := 14) rfl ?_
  refine j_iload_n (j := 0) cx dX2_charge_14 rfl rfl (pc' := 15) rfl ?_
  refine j_dup2 cx dX2_charge_15 rfl rfl (pc' := 16) rfl ?_
  refine j_iald (v := S 5 0 ((S 4 0 ((S 21 i 4).toNatClampNeg)).toNatClampNeg)) cx hY.2.2.2.2.2.1 rfl hd rfl rfl dX2_charge_16 (pc' := 17) rfl ?_
  refine j_iload_n (j := 3) cx dX2_charge_17 rfl rfl (pc' := 18) rfl ?_
  refine j_isub cx dX2_charge_18 (pc' := 19) rfl ?_
  refine j_iast (jn := (S 4 0 ((S 21 i 4).toNatClampNeg)).toNatClampNeg) cx hY.2.2.2.2.2.1 rfl hd rfl rfl dX2_charge_19 (pc' := 20) rfl ?_
  refine j_aload_n (j := 2) cx dX2_charge_20 rfl rfl (pc' := 21) rfl ?_
  refine j_get (fk := 3) (ref := "TerminalYard$Session") (v := .ref (al 22 i)) cx (hY.2.2.2.2.2.2.2.2.2.2.2.2.1 _ hi) rfl (by decide +kernel) (by decide) (by decide +kernel) (fun _ h => h) (yV_r (k := (22, i)) rfl) rfl dX2_charge_21 (pc' := 24) rfl ?_
  refine j_iload_n (j := 0) cx dX2_charge_24 rfl rfl (pc' := 25) rfl ?_
  refine j_dup2 cx dX2_charge_25 rfl rfl (pc' := 26) rfl ?_
  refine j_iald (v := S 22 i ((S 4 0 ((S 21 i 4).toNatClampNeg)).toNatClampNeg)) cx (hY.2.2.2.2.2.2.2.2.2.2.2.2.2.1 _ hi) rfl hd (by simp [sup, fCharge_o, fRep_o, fEnd_o, fTo_o]) rfl dX2_charge_26 (pc' := 27) rfl ?_
  refine j_iload_n (j := 3) cx dX2_charge_27 rfl rfl (pc' := 28) rfl ?_
  refine j_iadd cx dX2_charge_28 (pc' := 29) rfl ?_
  refine j_iast (jn := (S 4 0 ((S 21 i 4).toNatClampNeg)).toNatClampNeg) cx (hY.2.2.2.2.2.2.2.2.2.2.2.2.2.1 _ hi) rfl hd rfl rfl dX2_charge_29 (pc' := 30) rfl ?_
  exact j_vret cx hlk hr (Nat.le_of_ble_eq_true rfl) (Nat.le_of_ble_eq_true rfl) dX2_charge_30 ⟨rfl, rfl, rfl, rfl⟩
set_option maxHeartbeats 4000000 in
set_option maxRecDepth 100000 in
theorem c_X2_passTo {l : Launch} {Z : yL} {al : yAl} {sh : ySh} {S : yS} {nm ns : Nat} {mu : Nat → Nat} {i : Nat} {u : Int32} (hY : YC Z al sh nm ns mu) (hi : i < ns) : Ct l yX2_passTo wsX2_passTo ({ frames := 0, cells := 0, slots := 0, locals := 0 }) 0 0 Z [.ref (al 0 0), .ref (al 21 i), .int u] al sh S (yR al sh (some (.int (S 21 i 4))) (fTo S i u)) := by
  refine Ct.of (lv := [(0, .ref (al 0 0)), (1, .ref (al 21 i)), (2, .int u)]) (by decide) rfl (Nat.le_of_ble_eq_true rfl) rfl ?_
  intro p_ e_ s_ m_ below_ meth_ c_ cx hlk hr hnm9
  refine j_aload_n (j := 1) cx dX2_passTo_0 rfl rfl (pc' := 1) rfl ?_
  refine j_get (fk := 4) (ref := "TerminalYard$Session") (v := .int (S 21 i 4)) cx (hY.2.2.2.2.2.2.2.2.2.2.2.2.1 _ hi) rfl (by decide +kernel) (by decide) (by decide +kernel) (fun _ h => h) (yV_i rfl) rfl dX2_passTo_1 (pc' := 4) rfl ?_
  refine j_istore_n (lv' := [(3, .int (S 21 i 4)), (0, .ref (al 0 0)), (1, .ref (al 21 i)), (2, .int u)]) cx dX2_passTo_4 rfl (by decide) rfl (pc' := 5) rfl ?_
  refine j_aload_n (j := 2) cx dX2_passTo_5 rfl rfl (pc' := 6) rfl ?_
  refine j_iload_n (j := 3) cx dX2_passTo_6 rfl rfl (pc' := 7) rfl ?_
  refine j_puti (fk := 4) (ref := "TerminalYard$Session") (ty := .int) cx (hY.2.2.2.2.2.2.2.2.2.2.2.2.1 _ hi) rfl (by decide +kernel) (by decide) (by decide +kernel) (fun _ h => h) tyX1 tyX1_ok nmX1 rfl (by decide +kernel) rfl rfl rfl rfl dX2_passTo_7 (pc' := 10) rfl ?_
  refine j_aload_n (j := 2) cx dX2_passTo_10 rfl rfl (pc' := 11) rfl ?_
  refine j_aload_n (j := 1) cx dX2_passTo_11 rfl rfl (pc' := 12) rfl ?_
  refine j_get (fk := 9) (ref := "TerminalYard") (v := .int (S 0 0 9)) cx hY.1 rfl (by decide +kernel) (by decide) (by decide +kernel) (fun _ h => h) ((yV_i rfl).trans (congrArg Value.int (by simp [sup, fCharge_o, fRep_o, fEnd_o, fTo_o]))) rfl dX2_passTo_12 (pc' := 15) rfl ?_
  refine j_puti (fk := 5) (ref := "TerminalYard$Session") (ty := .int) cx (hY.2.2.2.2.2.2.2.2.2.2.2.2.1 _ hi) rfl (by decide +kernel) (by decide) (by decide +kernel) (fun _ h => h) tyX1 tyX1_ok nmX1 rfl (by decide +kernel) rfl rfl rfl rfl dX2_passTo_15 (pc' := 18) rfl ?_
  refine j_iload_n (j := 0) cx dX2_passTo_18 rfl rfl (pc' := 19) rfl ?_
  exact j_iret (ty := .int) cx hlk hr rfl (Nat.le_of_ble_eq_true rfl) (Nat.le_of_ble_eq_true rfl) dX2_passTo_19 ⟨rfl, rfl, rfl, rfl⟩
set_option maxHeartbeats 4000000 in
set_option maxRecDepth 100000 in
theorem c_X2_end {l : Launch} {Z : yL} {al : yAl} {sh : ySh} {S : yS} {nm ns : Nat} {mu : Nat → Nat} {i : Nat} {u : Int32} (hY : YC Z al sh nm ns mu) (hi : i < ns) (hn : narrow .char (.int u) = .int u) (hf : fits .char (.int u) = true) : Ct l yX2_end wsX2_end ({ frames := 1, cells := 0, slots := 0, locals := 20 }) 0 0 Z [.ref (al 0 0), .ref (al 21 i), .int u] al sh S (yR al sh none (fEnd S (mu i) i u)) := by
  refine Ct.of (lv := [(0, .ref (al 0 0)), (1, .ref (al 21 i)), (2, .int u)]) (by decide) rfl (Nat.le_of_ble_eq_true rfl) rfl ?_
  intro p_ e_ s_ m_ below_ meth_ c_ cx hlk hr hnm9
  refine j_aload_n (j := 1) cx dX2_end_0 rfl rfl (pc' := 1) rfl ?_
  refine j_iload_n (j := 2) cx dX2_end_1 rfl rfl (pc' := 2) rfl ?_
  refine j_puti (fk := 6) (ref := "TerminalYard$Session") (ty := .char) cx (hY.2.2.2.2.2.2.2.2.2.2.2.2.1 _ hi) rfl (by decide +kernel) (by decide) (by decide +kernel) (fun _ h => h) tyX1 tyX1_ok nmX1 rfl (by decide +kernel) rfl hn hf rfl dX2_end_2 (pc' := 5) rfl ?_
  refine j_aload_n (j := 1) cx dX2_end_5 rfl rfl (pc' := 6) rfl ?_
  refine j_get (fk := 1) (ref := "TerminalYard$Session") (v := .ref (al 20 (mu i))) cx (hY.2.2.2.2.2.2.2.2.2.2.2.2.1 _ hi) rfl (by decide +kernel) (by decide) (by decide +kernel) (fun _ h => h) (yV_r (k := (20, mu i)) rfl) rfl dX2_end_6 (pc' := 9) rfl ?_
  refine j_dup cx dX2_end_9 rfl (pc' := 10) rfl ?_
  refine j_get (fk := 5) (ref := "TerminalYard$Machine") (v := .int (S 20 (mu i) 5)) cx (hY.2.2.2.2.2.2.2.2.2.2.2.1 _ (hY.2.2.2.2.2.2.2.2.2.2.2.2.2.2.1 _ hi)) rfl (by decide +kernel) (by decide) (by decide +kernel) (fun _ h => h) ((yV_i rfl).trans (congrArg Value.int (by simp [sup, fCharge_o, fRep_o, fEnd_o, fTo_o]))) rfl dX2_end_10 (pc' := 13) rfl ?_
  refine j_iconst (v := 1) cx dX2_end_13 (by decide) (pc' := 14) rfl ?_
  refine j_isub cx dX2_end_14 (pc' := 15) rfl ?_
  refine j_puti (fk := 5) (ref := "TerminalYard$Machine") (ty := .int) cx (hY.2.2.2.2.2.2.2.2.2.2.2.1 _ (hY.2.2.2.2.2.2.2.2.2.2.2.2.2.2.1 _ hi)) rfl (by decide +kernel) (by decide) (by decide +kernel) (fun _ h => h) tyX0 tyX0_ok nmX0 rfl (by decide +kernel) rfl rfl rfl rfl dX2_end_15 (pc' := 18) rfl ?_
  refine j_aload_n (j := 1) cx dX2_end_18 rfl rfl (pc' := 19) rfl ?_
  refine j_get (fk := 1) (ref := "TerminalYard$Session") (v := .ref (al 20 (mu i))) cx (hY.2.2.2.2.2.2.2.2.2.2.2.2.1 _ hi) rfl (by decide +kernel) (by decide) (by decide +kernel) (fun _ h => h) (yV_r (k := (20, mu i)) rfl) rfl dX2_end_19 (pc' := 22) rfl ?_
  refine j_cVR (cells1 := 0) (slots1 := 0) (st1 := []) (As := []) (rest := []) cx (c_X0_repairWhenEmpty (hY.2.2.2.2.2.2.2.2.2.2.2.1 _ (hY.2.2.2.2.2.2.2.2.2.2.2.2.2.2.1 _ hi))) gX2_end_X0_repairWhenEmpty rfl rfl rfl 0 rfl (by decide +kernel) ⟨Nat.le_of_ble_eq_true rfl, Nat.le_of_ble_eq_true rfl⟩ (hY.2.2.2.2.2.2.2.2.2.2.2.1 _ (hY.2.2.2.2.2.2.2.2.2.2.2.2.2.2.1 _ hi)) rfl rfl rfl rfl (Nat.le_of_ble_eq_true rfl) dX2_end_22 ⟨Nat.le_of_ble_eq_true rfl, Nat.le_of_ble_eq_true rfl⟩ (pc' := 25) rfl rfl rfl rfl ?_
  exact j_vret cx hlk hr (Nat.le_of_ble_eq_true rfl) (Nat.le_of_ble_eq_true rfl) dX2_end_25 ⟨rfl, rfl, rfl, rfl⟩
set_option maxHeartbeats 4000000 in
set_option maxRecDepth 100000 in
theorem c_X2_afterOneMinute {l : Launch} {Z : yL} {al : yAl} {sh : ySh} {S : yS} {nm ns : Nat} {mu : Nat → Nat} {i : Nat} (hY : YC Z al sh nm ns mu) (hi : i < ns) (hu : vp_in (S 21 i 4) 10) (hd : vp_in (S 4 0 (S 21 i 4).toNatClampNeg) 4) (hpo : vp_in (S 20 (mu i) 1) 3) : Ct l yX2_afterOneMinute wsX2_afterOneMinute ({ frames := 1, cells := 0, slots := 0, locals := 23 }) 0 0 Z [.ref (al 0 0), .ref (al 21 i)] al sh S (yR al sh (some (.int (hMin S (mu i) i))) (fMin S i)) := by
  refine Ct.of (lv := [(0, .ref (al 0 0)), (1, .ref (al 21 i))]) (by decide) rfl (Nat.le_of_ble_eq_true rfl) rfl ?_
  intro p_ e_ s_ m_ below_ meth_ c_ cx hlk hr hnm9
  refine j_aload_n (j := 0) cx dX2_afterOneMinute_0 rfl rfl (pc' := 1) rfl ?_
  refine j_get (fk := 4) (ref := "TerminalYard") (v := .ref (al 5 0)) cx hY.1 rfl (by decide +kernel) (by decide) (by decide +kernel) (fun _ h => h) (yV_r (k := (5, 0)) rfl) rfl dX2_afterOneMinute_1 (pc' := 4) rfl ?_
  refine j_aload_n (j := 0) cx dX2_afterOneMinute_4 rfl rfl (pc' := 5) rfl ?_
  refine j_get (fk := 3) (ref := "TerminalYard") (v := .ref (al 4 0)) cx hY.1 rfl (by decide +kernel) (by decide) (by decide +kernel) (fun _ h => h) (yV_r (k := (4, 0)) rfl) rfl dX2_afterOneMinute_5 (pc' := 8) rfl ?_
  refine j_aload_n (j := 1) cx dX2_afterOneMinute_8 rfl rfl (pc' := 9) rfl ?_
  refine j_get (fk := 4) (ref := "TerminalYard$Session") (v := .int (S 21 i 4)) cx (hY.2.2.2.2.2.2.2.2.2.2.2.2.1 _ hi) rfl (by decide +kernel) (by decide) (by decide +kernel) (fun _ h => h) (yV_i rfl) rfl dX2_afterOneMinute_9 (pc' := 12) rfl ?_
  refine j_iald (v := S 4 0 ((S 21 i 4).toNatClampNeg)) cx hY.2.2.2.2.1 rfl hu rfl rfl dX2_afterOneMinute_12 (pc' := 13) rfl ?_
  refine j_iald (v := S 5 0 ((S 4 0 ((S 21 i 4).toNatClampNeg)).toNatClampNeg)) cx hY.2.2.2.2.2.1 rfl hd rfl rfl dX2_afterOneMinute_13 (pc' := 14) rfl ?_
  refine j_iconst (v := 1) cx dX2_afterOneMinute_14 (by decide) (pc' := 15) rfl ?_
  refine j_icmp_ge (tgt := 21) cx dX2_afterOneMinute_15 (by decide) (pc' := 18) rfl (fun h1 => ?_) (fun h1 => ?_)
  · refine j_aload_n (j := 0) cx dX2_afterOneMinute_21 rfl rfl (pc' := 22) rfl ?_
    refine j_aload_n (j := 1) cx dX2_afterOneMinute_22 rfl rfl (pc' := 23) rfl ?_
    refine j_iconst (v := 1) cx dX2_afterOneMinute_23 (by decide) (pc' := 24) rfl ?_
    refine j_cVR (cells1 := 0) (slots1 := 0) (st1 := []) (As := [.ref (al 21 i), .int 1]) (rest := []) cx (c_X2_charge hY hi hu hd) gX2_afterOneMinute_X2_charge rfl rfl rfl 2 rfl (by decide +kernel) ⟨Nat.le_of_ble_eq_true rfl, Nat.le_of_ble_eq_true rfl⟩ hY.1 rfl rfl rfl rfl (Nat.le_of_ble_eq_true rfl) dX2_afterOneMinute_24 ⟨Nat.le_of_ble_eq_true rfl, Nat.le_of_ble_eq_true rfl⟩ (pc' := 27) rfl rfl rfl rfl ?_
    refine j_aload_n (j := 1) cx dX2_afterOneMinute_27 rfl rfl (pc' := 28) rfl ?_
    refine j_get (fk := 1) (ref := "TerminalYard$Session") (v := .ref (al 20 (mu i))) cx (hY.2.2.2.2.2.2.2.2.2.2.2.2.1 _ hi) rfl (by decide +kernel) (by decide) (by decide +kernel) (fun _ h => h) (yV_r (k := (20, mu i)) rfl) rfl dX2_afterOneMinute_28 (pc' := 31) rfl ?_
    refine j_get (fk := 1) (ref := "TerminalYard$Machine") (v := .int (S 20 (mu i) 1)) cx (hY.2.2.2.2.2.2.2.2.2.2.2.1 _ (hY.2.2.2.2.2.2.2.2.2.2.2.2.2.2.1 _ hi)) rfl (by decide +kernel) (by decide) (by decide +kernel) (fun _ h => h) ((yV_i rfl).trans (congrArg Value.int (by simp [sup, fCharge_o, fRep_o, fEnd_o, fTo_o]))) rfl dX2_afterOneMinute_31 (pc' := 34) rfl ?_
    refine j_istore_n (lv' := [(2, .int (S 20 (mu i) 1)), (0, .ref (al 0 0)), (1, .ref (al 21 i))]) cx dX2_afterOneMinute_34 rfl (by decide) rfl (pc' := 35) rfl ?_
    refine j_aload_n (j := 1) cx dX2_afterOneMinute_35 rfl rfl (pc' := 36) rfl ?_
    refine j_get (fk := 9) (ref := "TerminalYard") (v := .int (S 0 0 9)) cx hY.1 rfl (by decide +kernel) (by decide) (by decide +kernel) (fun _ h => h) ((yV_i rfl).trans (congrArg Value.int (by simp [sup, fCharge_o, fRep_o, fEnd_o, fTo_o]))) rfl dX2_afterOneMinute_36 (pc' := 39) rfl ?_
    refine j_aload_n (j := 2) cx dX2_afterOneMinute_39 rfl rfl (pc' := 40) rfl ?_
    refine j_get (fk := 5) (ref := "TerminalYard$Session") (v := .int (S 21 i 5)) cx (hY.2.2.2.2.2.2.2.2.2.2.2.2.1 _ hi) rfl (by decide +kernel) (by decide) (by decide +kernel) (fun _ h => h) ((yV_i rfl).trans (congrArg Value.int (by simp [sup, fCharge_o, fRep_o, fEnd_o, fTo_o]))) rfl dX2_afterOneMinute_40 (pc' := 43) rfl ?_
    refine j_isub cx dX2_afterOneMinute_43 (pc' := 44) rfl ?_
    refine j_aload_n (j := 1) cx dX2_afterOneMinute_44 rfl rfl (pc' := 45) rfl ?_
    refine j_get (fk := 0) (ref := "TerminalYard") (v := .ref (al 1 0)) cx hY.1 rfl (by decide +kernel) (by decide) (by decide +kernel) (fun _ h => h) (yV_r (k := (1, 0)) rfl) rfl dX2_afterOneMinute_45 (pc' := 48) rfl ?_
    refine j_iload_n (j := 0) cx dX2_afterOneMinute_48 rfl rfl (pc' := 49) rfl ?_
    refine j_iald (v := S 1 0 ((S 20 (mu i) 1).toNatClampNeg)) cx hY.2.1 rfl hpo (by simp [sup, fCharge_o, fRep_o, fEnd_o, fTo_o]) rfl dX2_afterOneMinute_49 (pc' := 50) rfl ?_
    refine j_icmp_lt (tgt := 56) cx dX2_afterOneMinute_50 (by decide) (pc' := 53) rfl (fun h3 => ?_) (fun h3 => ?_)
    · refine j_aload_n (j := 1) cx dX2_afterOneMinute_56 rfl rfl (pc' := 57) rfl ?_
      refine j_get (fk := 9) (ref := "TerminalYard") (v := .int (S 0 0 9)) cx hY.1 rfl (by decide +kernel) (by decide) (by decide +kernel) (fun _ h => h) ((yV_i rfl).trans (congrArg Value.int (by simp [sup, fCharge_o, fRep_o, fEnd_o, fTo_o]))) rfl dX2_afterOneMinute_57 (pc' := 60) rfl ?_
      refine j_aload_n (j := 2) cx dX2_afterOneMinute_60 rfl rfl (pc' := 61) rfl ?_
      refine j_get (fk := 2) (ref := "TerminalYard$Session") (v := .int (S 21 i 2)) cx (hY.2.2.2.2.2.2.2.2.2.2.2.2.1 _ hi) rfl (by decide +kernel) (by decide) (by decide +kernel) (fun _ h => h) ((yV_i rfl).trans (congrArg Value.int (by simp [sup, fCharge_o, fRep_o, fEnd_o, fTo_o]))) rfl dX2_afterOneMinute_61 (pc' := 64) rfl ?_
      refine j_isub cx dX2_afterOneMinute_64 (pc' := 65) rfl ?_
      refine j_aload_n (j := 1) cx dX2_afterOneMinute_65 rfl rfl (pc' := 66) rfl ?_
      refine j_get (fk := 1) (ref := "TerminalYard") (v := .ref (al 2 0)) cx hY.1 rfl (by decide +kernel) (by decide) (by decide +kernel) (fun _ h => h) (yV_r (k := (2, 0)) rfl) rfl dX2_afterOneMinute_66 (pc' := 69) rfl ?_
      refine j_iload_n (j := 0) cx dX2_afterOneMinute_69 rfl rfl (pc' := 70) rfl ?_
      refine j_iald (v := S 2 0 ((S 20 (mu i) 1).toNatClampNeg)) cx hY.2.2.1 rfl hpo (by simp [sup, fCharge_o, fRep_o, fEnd_o, fTo_o]) rfl dX2_afterOneMinute_70 (pc' := 71) rfl ?_
      refine j_icmp_lt (tgt := 77) cx dX2_afterOneMinute_71 (by decide) (pc' := 74) rfl (fun h4 => ?_) (fun h4 => ?_)
      · refine j_bipush (v := 97) cx dX2_afterOneMinute_77 (by decide) (pc' := 79) rfl ?_
        exact j_iret (ty := .char) cx hlk hr rfl (Nat.le_of_ble_eq_true rfl) (Nat.le_of_ble_eq_true rfl) dX2_afterOneMinute_79 ⟨congrArg (fun z => some (Value.int z)) (by simp [hMin, cDep, *]), rfl, rfl, by simp [fMin, cDep, *]⟩
      · refine j_bipush (v := 120) cx dX2_afterOneMinute_74 (by decide) (pc' := 76) rfl ?_
        exact j_iret (ty := .char) cx hlk hr rfl (Nat.le_of_ble_eq_true rfl) (Nat.le_of_ble_eq_true rfl) dX2_afterOneMinute_76 ⟨congrArg (fun z => some (Value.int z)) (by simp [hMin, cDep, *]), rfl, rfl, by simp [fMin, cDep, *]⟩
    · refine j_bipush (v := 105) cx dX2_afterOneMinute_53 (by decide) (pc' := 55) rfl ?_
      exact j_iret (ty := .char) cx hlk hr rfl (Nat.le_of_ble_eq_true rfl) (Nat.le_of_ble_eq_true rfl) dX2_afterOneMinute_55 ⟨congrArg (fun z => some (Value.int z)) (by simp [hMin, cDep, *]), rfl, rfl, by simp [fMin, cDep, *]⟩
  · refine j_bipush (v := 111) cx dX2_afterOneMinute_18 (by decide) (pc' := 20) rfl ?_
    exact j_iret (ty := .char) cx hlk hr rfl (Nat.le_of_ble_eq_true rfl) (Nat.le_of_ble_eq_true rfl) dX2_afterOneMinute_20 ⟨congrArg (fun z => some (Value.int z)) (by simp [hMin, cDep, *]), rfl, rfl, by simp [fMin, cDep, *]⟩
theorem kx_live {x c : Int32} {E : String} {n : Nat} {P : Prop} {a b : Int32} (h : (E = xIB ∧ ¬ vp_in x n) ∨ (E = xIS ∧ vp_in x n ∧ ¬ P)) (h1 : ¬ vp_in x n → c = a) (h2 : vp_in x n → ¬ P → c = b) : yx [(a, xIB), (b, xIS)] c E := by
  rcases h with ⟨q1, q2⟩ | ⟨q1, q2, q3⟩
  · exact ⟨(a, xIB), by simp, q1, h1 q2⟩
  · exact ⟨(b, xIS), by simp, q1, h2 q2 q3⟩

set_option maxHeartbeats 4000000 in
set_option maxRecDepth 100000 in
theorem c_X2_logOut {l : Launch} (hl0 : l.stackTraces = false) {Z : yL} {al : yAl} {sh : ySh} {S : yS} {nm ns : Nat} {mu : Nat → Nat} {x : Int32} (hY : YC Z al sh nm ns mu) (hs11 : S 11 0 2 = nI ns) : Cq l yX2_logOut wsX2_logOut ({ frames := 8, cells := 2, slots := 12, locals := 133 }) 2 12 Z [.ref (al 0 0), .int x] al sh S (yRp (kLive ns x (S 21 x.toNatClampNeg 6 = 97) = 0) al sh (some (.int (qIn (fEnd S (mu x.toNatClampNeg) x.toNatClampNeg 108) x.toNatClampNeg))) (fEnd S (mu x.toNatClampNeg) x.toNatClampNeg 108)) (yx [(1, xIB), (2, xIS)] (kLive ns x (S 21 x.toNatClampNeg 6 = 97))) := by
  refine Cq.of (lv := [(0, .ref (al 0 0)), (1, .int x)]) (by decide) rfl (Nat.le_of_ble_eq_true rfl) rfl ?_
  intro p_ e_ s_ m_ below_ meth_ c_ cx hlk hr htb
  refine j_aload_n (j := 0) cx dX2_logOut_0 rfl rfl (pc' := 1) rfl ?_
  refine j_iload_n (j := 1) cx dX2_logOut_1 rfl rfl (pc' := 2) rfl ?_
  refine j_cVX (cells1 := 2) (slots1 := 12) (st1 := [.ref (al 21 x.toNatClampNeg)]) (As := [.int x]) (rest := []) cx (c_X2_liveSessionAt hl0 hY hs11) gX2_logOut_X2_liveSessionAt rfl rfl rfl 1 rfl (by decide +kernel) ⟨Nat.le_of_ble_eq_true rfl, Nat.le_of_ble_eq_true rfl⟩ hY.1 rfl rfl rfl rfl (Nat.le_of_ble_eq_true rfl) dX2_logOut_2 ⟨Nat.le_of_ble_eq_true rfl, Nat.le_of_ble_eq_true rfl⟩ (pc' := 5) rfl rfl rfl rfl (fun E hE => jx_out hlk htb (Nat.le_of_ble_eq_true rfl) (Nat.le_of_ble_eq_true rfl) (kx_live hE (fun q => by simp [kLive, nvin q]) (fun q q2 => by simp [kLive, vin q, q2]))) (fun p1 => ?_)
  refine j_astore_n (lv' := [(2, .ref (al 21 x.toNatClampNeg)), (0, .ref (al 0 0)), (1, .int x)]) cx dX2_logOut_5 rfl (by decide) rfl (pc' := 6) rfl ?_
  refine j_aload_n (j := 1) cx dX2_logOut_6 rfl rfl (pc' := 7) rfl ?_
  refine j_aload_n (j := 0) cx dX2_logOut_7 rfl rfl (pc' := 8) rfl ?_
  refine j_bipush (v := 108) cx dX2_logOut_8 (by decide) (pc' := 10) rfl ?_
  refine j_cVR (cells1 := 2) (slots1 := 12) (st1 := []) (As := [.ref (al 21 x.toNatClampNeg), .int 108]) (rest := []) cx (c_X2_end hY (ix_of p1.1) rfl rfl) gX2_logOut_X2_end rfl rfl rfl 2 rfl (by decide +kernel) ⟨Nat.le_of_ble_eq_true rfl, Nat.le_of_ble_eq_true rfl⟩ hY.1 rfl rfl rfl rfl (Nat.le_of_ble_eq_true rfl) dX2_logOut_10 ⟨Nat.le_of_ble_eq_true rfl, Nat.le_of_ble_eq_true rfl⟩ (pc' := 13) rfl rfl rfl rfl ?_
  refine j_aload_n (j := 0) cx dX2_logOut_13 rfl rfl (pc' := 14) rfl ?_
  refine j_cVR (cells1 := 2) (slots1 := 12) (st1 := [.int (qIn (fEnd S (mu x.toNatClampNeg) x.toNatClampNeg 108) x.toNatClampNeg)]) (As := []) (rest := []) cx (c_X1_chargedInAll (hY.2.2.2.2.2.2.2.2.2.2.2.2.1 _ (ix_of p1.1)) (hY.2.2.2.2.2.2.2.2.2.2.2.2.2.1 _ (ix_of p1.1))) gX2_logOut_X1_chargedInAll rfl rfl rfl 0 rfl (by decide +kernel) ⟨Nat.le_of_ble_eq_true rfl, Nat.le_of_ble_eq_true rfl⟩ (hY.2.2.2.2.2.2.2.2.2.2.2.2.1 _ (ix_of p1.1)) rfl rfl rfl rfl (Nat.le_of_ble_eq_true rfl) dX2_logOut_14 ⟨Nat.le_of_ble_eq_true rfl, Nat.le_of_ble_eq_true rfl⟩ (pc' := 17) rfl rfl rfl rfl ?_
  exact J.ret _ (j_iret (ty := .int) cx hlk hr rfl (Nat.le_of_ble_eq_true rfl) (Nat.le_of_ble_eq_true rfl) dX2_logOut_17 ⟨by simp [kLive, vin p1.1, p1.2], rfl, rfl, rfl, rfl⟩)
set_option maxHeartbeats 4000000 in
set_option maxRecDepth 100000 in
theorem c_X2_handBack {l : Launch} (hl0 : l.stackTraces = false) {Z : yL} {al : yAl} {sh : ySh} {S : yS} {nm ns : Nat} {mu : Nat → Nat} {x : Int32} (hY : YC Z al sh nm ns mu) (hs11 : S 11 0 2 = nI ns) : Cq l yX2_handBack wsX2_handBack ({ frames := 8, cells := 3, slots := 18, locals := 133 }) 3 18 Z [.ref (al 0 0), .int x] al sh S (yRp (kHand ns x (S 21 x.toNatClampNeg 6 = 97) (S 21 x.toNatClampNeg 4 = S 21 x.toNatClampNeg 0) = 0) al sh (some (.int (S 21 x.toNatClampNeg 4))) (fTo S x.toNatClampNeg (S 21 x.toNatClampNeg 0))) (yx [(1, xIB), (2, xIS)] (kHand ns x (S 21 x.toNatClampNeg 6 = 97) (S 21 x.toNatClampNeg 4 = S 21 x.toNatClampNeg 0))) := by
  refine Cq.of (lv := [(0, .ref (al 0 0)), (1, .int x)]) (by decide) rfl (Nat.le_of_ble_eq_true rfl) rfl ?_
  intro p_ e_ s_ m_ below_ meth_ c_ cx hlk hr htb
  refine j_aload_n (j := 0) cx dX2_handBack_0 rfl rfl (pc' := 1) rfl ?_
  refine j_iload_n (j := 1) cx dX2_handBack_1 rfl rfl (pc' := 2) rfl ?_
  refine j_cVX (cells1 := 2) (slots1 := 12) (st1 := [.ref (al 21 x.toNatClampNeg)]) (As := [.int x]) (rest := []) cx (c_X2_liveSessionAt hl0 hY hs11) gX2_handBack_X2_liveSessionAt rfl rfl rfl 1 rfl (by decide +kernel) ⟨Nat.le_of_ble_eq_true rfl, Nat.le_of_ble_eq_true rfl⟩ hY.1 rfl rfl rfl rfl (Nat.le_of_ble_eq_true rfl) dX2_handBack_2 ⟨Nat.le_of_ble_eq_true rfl, Nat.le_of_ble_eq_true rfl⟩ (pc' := 5) rfl rfl rfl rfl (fun E hE => jx_out hlk htb (Nat.le_of_ble_eq_true rfl) (Nat.le_of_ble_eq_true rfl) (kx_live hE (fun q => by simp [kHand, nvin q]) (fun q q2 => by simp [kHand, vin q, q2]))) (fun p1 => ?_)
  refine j_astore_n (lv' := [(2, .ref (al 21 x.toNatClampNeg)), (0, .ref (al 0 0)), (1, .int x)]) cx dX2_handBack_5 rfl (by decide) rfl (pc' := 6) rfl ?_
  refine j_aload_n (j := 0) cx dX2_handBack_6 rfl rfl (pc' := 7) rfl ?_
  refine j_get (fk := 4) (ref := "TerminalYard$Session") (v := .int (S 21 x.toNatClampNeg 4)) cx (hY.2.2.2.2.2.2.2.2.2.2.2.2.1 _ (ix_of p1.1)) rfl (by decide +kernel) (by decide) (by decide +kernel) (fun _ h => h) (yV_i rfl) rfl dX2_handBack_7 (pc' := 10) rfl ?_
  refine j_aload_n (j := 0) cx dX2_handBack_10 rfl rfl (pc' := 11) rfl ?_
  refine j_get (fk := 0) (ref := "TerminalYard$Session") (v := .int (S 21 x.toNatClampNeg 0)) cx (hY.2.2.2.2.2.2.2.2.2.2.2.2.1 _ (ix_of p1.1)) rfl (by decide +kernel) (by decide) (by decide +kernel) (fun _ h => h) (yV_i rfl) rfl dX2_handBack_11 (pc' := 14) rfl ?_
  refine j_icmp_ne (tgt := 27) cx dX2_handBack_14 (by decide) (pc' := 17) rfl (fun h2 => ?_) (fun h2 => ?_)
  · refine j_aload_n (j := 1) cx dX2_handBack_27 rfl rfl (pc' := 28) rfl ?_
    refine j_aload_n (j := 0) cx dX2_handBack_28 rfl rfl (pc' := 29) rfl ?_
    refine j_aload_n (j := 0) cx dX2_handBack_29 rfl rfl (pc' := 30) rfl ?_
    refine j_get (fk := 0) (ref := "TerminalYard$Session") (v := .int (S 21 x.toNatClampNeg 0)) cx (hY.2.2.2.2.2.2.2.2.2.2.2.2.1 _ (ix_of p1.1)) rfl (by decide +kernel) (by decide) (by decide +kernel) (fun _ h => h) (yV_i rfl) rfl dX2_handBack_30 (pc' := 33) rfl ?_
    refine j_cVR (cells1 := 2) (slots1 := 12) (st1 := [.int (S 21 x.toNatClampNeg 4)]) (As := [.ref (al 21 x.toNatClampNeg), .int (S 21 x.toNatClampNeg 0)]) (rest := []) cx (c_X2_passTo hY (ix_of p1.1)) gX2_handBack_X2_passTo rfl rfl rfl 2 rfl (by decide +kernel) ⟨Nat.le_of_ble_eq_true rfl, Nat.le_of_ble_eq_true rfl⟩ hY.1 rfl rfl rfl rfl (Nat.le_of_ble_eq_true rfl) dX2_handBack_33 ⟨Nat.le_of_ble_eq_true rfl, Nat.le_of_ble_eq_true rfl⟩ (pc' := 36) rfl rfl rfl rfl ?_
    exact J.ret _ (j_iret (ty := .int) cx hlk hr rfl (Nat.le_of_ble_eq_true rfl) (Nat.le_of_ble_eq_true rfl) dX2_handBack_36 ⟨by simp [kHand, vin p1.1, p1.2, h2], rfl, rfl, rfl, rfl⟩)
  · exact j_throwS (ik := 71) (ic := 75) (is := 195) (cls := "java/lang/IllegalStateException") (text := "the owner is the user of the session") (names := ["java/lang/RuntimeException", "java/lang/Exception"]) cx hl0 hlk htb rfl (by decide) (by decide) (by decide) (by decide +kernel) (by decide +kernel) (by decide +kernel) (by decide +kernel) (by decide +kernel) dX2_handBack_17 dX2_handBack_20 dX2_handBack_21 dX2_handBack_23 dX2_handBack_26 (Nat.le_of_ble_eq_true rfl) (Nat.le_of_ble_eq_true rfl) (Nat.le_of_ble_eq_true rfl) (Nat.le_of_ble_eq_true rfl) (Nat.le_of_ble_eq_true rfl) (Nat.le_of_ble_eq_true rfl) ⟨(2, xIS), by simp, rfl, by simp [kHand, vin p1.1, p1.2, h2]⟩
set_option maxHeartbeats 4000000 in
set_option maxRecDepth 100000 in
theorem c_X2_state {l : Launch} (hl0 : l.stackTraces = false) {Z : yL} {al : yAl} {sh : ySh} {S : yS} {nm ns : Nat} {mu : Nat → Nat} {x : Int32} (hY : YC Z al sh nm ns mu) (hs11 : S 11 0 2 = nI ns) (hch : ∀ i, i < ns → narrow .char (.int (S 21 i 6)) = .int (S 21 i 6)) : Cq l yX2_state wsX2_state ({ frames := 7, cells := 1, slots := 6, locals := 111 }) 1 6 Z [.ref (al 0 0), .int x] al sh S (yRp (kIdx ns x = 0) al sh (some (.int (qState S x.toNatClampNeg))) S) (yx [(1, xIB)] (kIdx ns x)) := by
  refine Cq.of (lv := [(0, .ref (al 0 0)), (1, .int x)]) (by decide) rfl (Nat.le_of_ble_eq_true rfl) rfl ?_
  intro p_ e_ s_ m_ below_ meth_ c_ cx hlk hr htb
  refine j_aload_n (j := 0) cx dX2_state_0 rfl rfl (pc' := 1) rfl ?_
  refine j_iload_n (j := 1) cx dX2_state_1 rfl rfl (pc' := 2) rfl ?_
  refine j_cVX (cells1 := 1) (slots1 := 6) (st1 := [.ref (al 21 x.toNatClampNeg)]) (As := [.int x]) (rest := []) cx (c_X2_sessionAt hl0 hY hs11) gX2_state_X2_sessionAt rfl rfl rfl 1 rfl (by decide +kernel) ⟨Nat.le_of_ble_eq_true rfl, Nat.le_of_ble_eq_true rfl⟩ hY.1 rfl rfl rfl rfl (Nat.le_of_ble_eq_true rfl) dX2_state_2 ⟨Nat.le_of_ble_eq_true rfl, Nat.le_of_ble_eq_true rfl⟩ (pc' := 5) rfl rfl rfl rfl (fun E hE => jx_out hlk htb (Nat.le_of_ble_eq_true rfl) (Nat.le_of_ble_eq_true rfl) ⟨(1, xIB), by simp, hE.1, by simp [kIdx, nvin hE.2]⟩) (fun p1 => ?_)
  refine j_astore_n (lv' := [(2, .ref (al 21 x.toNatClampNeg)), (0, .ref (al 0 0)), (1, .int x)]) cx dX2_state_5 rfl (by decide) rfl (pc' := 6) rfl ?_
  refine j_aload_n (j := 0) cx dX2_state_6 rfl rfl (pc' := 7) rfl ?_
  refine j_cVR (cells1 := 1) (slots1 := 6) (st1 := [.int (bI (S 21 x.toNatClampNeg 6 = 97))]) (As := []) (rest := []) cx (c_X1_isLive (hY.2.2.2.2.2.2.2.2.2.2.2.2.1 _ (ix_of p1))) gX2_state_X1_isLive rfl rfl rfl 0 rfl (by decide +kernel) ⟨Nat.le_of_ble_eq_true rfl, Nat.le_of_ble_eq_true rfl⟩ (hY.2.2.2.2.2.2.2.2.2.2.2.2.1 _ (ix_of p1)) rfl rfl rfl rfl (Nat.le_of_ble_eq_true rfl) dX2_state_7 ⟨Nat.le_of_ble_eq_true rfl, Nat.le_of_ble_eq_true rfl⟩ (pc' := 10) rfl rfl rfl rfl ?_
  refine j_ifb_eq (tgt := 27) cx dX2_state_10 (by decide) (pc' := 13) rfl (fun h3 => ?_) (fun h3 => ?_)
  · refine j_aload_n (j := 0) cx dX2_state_27 rfl rfl (pc' := 28) rfl ?_
    refine j_get (fk := 6) (ref := "TerminalYard$Session") (v := .int (S 21 x.toNatClampNeg 6)) cx (hY.2.2.2.2.2.2.2.2.2.2.2.2.1 _ (ix_of p1)) rfl (by decide +kernel) (by decide) (by decide +kernel) (fun _ h => h) (yV_i rfl) rfl dX2_state_28 (pc' := 31) rfl ?_
    exact J.ret _ (j_iret (ty := .char) cx hlk hr (hch _ (ix_of p1)) (Nat.le_of_ble_eq_true rfl) (Nat.le_of_ble_eq_true rfl) dX2_state_31 ⟨by simp [kIdx, vin p1], congrArg (fun z => some (Value.int z)) (by simp [qState, *]), rfl, rfl, rfl⟩)
  · refine j_aload_n (j := 0) cx dX2_state_13 rfl rfl (pc' := 14) rfl ?_
    refine j_get (fk := 4) (ref := "TerminalYard$Session") (v := .int (S 21 x.toNatClampNeg 4)) cx (hY.2.2.2.2.2.2.2.2.2.2.2.2.1 _ (ix_of p1)) rfl (by decide +kernel) (by decide) (by decide +kernel) (fun _ h => h) (yV_i rfl) rfl dX2_state_14 (pc' := 17) rfl ?_
    refine j_aload_n (j := 0) cx dX2_state_17 rfl rfl (pc' := 18) rfl ?_
    refine j_get (fk := 0) (ref := "TerminalYard$Session") (v := .int (S 21 x.toNatClampNeg 0)) cx (hY.2.2.2.2.2.2.2.2.2.2.2.2.1 _ (ix_of p1)) rfl (by decide +kernel) (by decide) (by decide +kernel) (fun _ h => h) (yV_i rfl) rfl dX2_state_18 (pc' := 21) rfl ?_
    refine j_icmp_eq (tgt := 27) cx dX2_state_21 (by decide) (pc' := 24) rfl (fun h4 => ?_) (fun h4 => ?_)
    · refine j_aload_n (j := 0) cx dX2_state_27 rfl rfl (pc' := 28) rfl ?_
      refine j_get (fk := 6) (ref := "TerminalYard$Session") (v := .int (S 21 x.toNatClampNeg 6)) cx (hY.2.2.2.2.2.2.2.2.2.2.2.2.1 _ (ix_of p1)) rfl (by decide +kernel) (by decide) (by decide +kernel) (fun _ h => h) (yV_i rfl) rfl dX2_state_28 (pc' := 31) rfl ?_
      exact J.ret _ (j_iret (ty := .char) cx hlk hr (hch _ (ix_of p1)) (Nat.le_of_ble_eq_true rfl) (Nat.le_of_ble_eq_true rfl) dX2_state_31 ⟨by simp [kIdx, vin p1], congrArg (fun z => some (Value.int z)) (by simp [qState, *]), rfl, rfl, rfl⟩)
    · refine j_bipush (v := 116) cx dX2_state_24 (by decide) (pc' := 26) rfl ?_
      exact J.ret _ (j_iret (ty := .char) cx hlk hr rfl (Nat.le_of_ble_eq_true rfl) (Nat.le_of_ble_eq_true rfl) dX2_state_26 ⟨by simp [kIdx, vin p1], congrArg (fun z => some (Value.int z)) (by simp [qState, *]), rfl, rfl, rfl⟩)
set_option maxHeartbeats 4000000 in
set_option maxRecDepth 100000 in
theorem c_X2_charged {l : Launch} (hl0 : l.stackTraces = false) {Z : yL} {al : yAl} {sh : ySh} {S : yS} {nm ns : Nat} {mu : Nat → Nat} {x d : Int32} (hY : YC Z al sh nm ns mu) (hs11 : S 11 0 2 = nI ns) : Cq l yX2_charged wsX2_charged ({ frames := 7, cells := 2, slots := 12, locals := 111 }) 2 12 Z [.ref (al 0 0), .int x, .int d] al sh S (yRp (kChg ns x d = 0) al sh (some (.int (S 22 x.toNatClampNeg d.toNatClampNeg))) S) (yx [(1, xIB), (2, xIA)] (kChg ns x d)) := by
  refine Cq.of (lv := [(0, .ref (al 0 0)), (1, .int x), (2, .int d)]) (by decide) rfl (Nat.le_of_ble_eq_true rfl) rfl ?_
  intro p_ e_ s_ m_ below_ meth_ c_ cx hlk hr htb
  refine j_aload_n (j := 0) cx dX2_charged_0 rfl rfl (pc' := 1) rfl ?_
  refine j_iload_n (j := 1) cx dX2_charged_1 rfl rfl (pc' := 2) rfl ?_
  refine j_cVX (cells1 := 1) (slots1 := 6) (st1 := [.ref (al 21 x.toNatClampNeg)]) (As := [.int x]) (rest := []) cx (c_X2_sessionAt hl0 hY hs11) gX2_charged_X2_sessionAt rfl rfl rfl 1 rfl (by decide +kernel) ⟨Nat.le_of_ble_eq_true rfl, Nat.le_of_ble_eq_true rfl⟩ hY.1 rfl rfl rfl rfl (Nat.le_of_ble_eq_true rfl) dX2_charged_2 ⟨Nat.le_of_ble_eq_true rfl, Nat.le_of_ble_eq_true rfl⟩ (pc' := 5) rfl rfl rfl rfl (fun E hE => jx_out hlk htb (Nat.le_of_ble_eq_true rfl) (Nat.le_of_ble_eq_true rfl) ⟨(1, xIB), by simp, hE.1, by simp [kChg, nvin hE.2]⟩) (fun p1 => ?_)
  refine j_astore_n (lv' := [(3, .ref (al 21 x.toNatClampNeg)), (0, .ref (al 0 0)), (1, .int x), (2, .int d)]) cx dX2_charged_5 rfl (by decide) rfl (pc' := 6) rfl ?_
  refine j_iload_n (j := 3) cx dX2_charged_6 rfl rfl (pc' := 7) rfl ?_
  refine j_cSX (cells1 := 2) (slots1 := 12) (st1 := []) (As := [.int d]) (rest := []) cx (c_X2_checkDepartment hl0) gX2_charged_X2_checkDepartment rfl rfl rfl 1 rfl (by decide +kernel) ⟨Nat.le_of_ble_eq_true rfl, Nat.le_of_ble_eq_true rfl⟩ rfl (Nat.le_of_ble_eq_true rfl) dX2_charged_7 ⟨Nat.le_of_ble_eq_true rfl, Nat.le_of_ble_eq_true rfl⟩ (pc' := 10) rfl rfl rfl rfl (fun E hE => jx_out hlk htb (Nat.le_of_ble_eq_true rfl) (Nat.le_of_ble_eq_true rfl) ⟨(2, xIA), by simp, hE.1, by have hq := hE.2; simp [kChg, vin p1, hq]⟩) (fun p2 => ?_)
  refine j_aload_n (j := 0) cx dX2_charged_10 rfl rfl (pc' := 11) rfl ?_
  refine j_get (fk := 3) (ref := "TerminalYard$Session") (v := .ref (al 22 x.toNatClampNeg)) cx (hY.2.2.2.2.2.2.2.2.2.2.2.2.1 _ (ix_of p1)) rfl (by decide +kernel) (by decide) (by decide +kernel) (fun _ h => h) (yV_r (k := (22, x.toNatClampNeg)) rfl) rfl dX2_charged_11 (pc' := 14) rfl ?_
  refine j_iload_n (j := 3) cx dX2_charged_14 rfl rfl (pc' := 15) rfl ?_
  refine j_iald (v := S 22 x.toNatClampNeg d.toNatClampNeg) cx (hY.2.2.2.2.2.2.2.2.2.2.2.2.2.1 _ (ix_of p1)) rfl (vp_in_out (b := 3) (by decide) p2) rfl rfl dX2_charged_15 (pc' := 16) rfl ?_
  exact J.ret _ (j_iret (ty := .int) cx hlk hr rfl (Nat.le_of_ble_eq_true rfl) (Nat.le_of_ble_eq_true rfl) dX2_charged_16 ⟨by simp [kChg, vin p1, p2], rfl, rfl, rfl, rfl⟩)
set_option maxHeartbeats 4000000 in
set_option maxRecDepth 100000 in
theorem c_X2_takeOver {l : Launch} (hl0 : l.stackTraces = false) {Z : yL} {al : yAl} {sh : ySh} {S : yS} {nm ns : Nat} {mu : Nat → Nat} {x u : Int32} (hY : YC Z al sh nm ns mu) (hs11 : S 11 0 2 = nI ns) (hds : ∀ u, u < 10 → vp_in (S 4 0 u) 4) : Cq l yX2_takeOver wsX2_takeOver ({ frames := 7, cells := 4, slots := 24, locals := 112 }) 4 24 Z [.ref (al 0 0), .int x, .int u] al sh S (yRp (kTake ns x u (S 21 x.toNatClampNeg 4) (S 21 x.toNatClampNeg 6 = 97) (S 5 0 (S 4 0 u.toNatClampNeg).toNatClampNeg) = 0) al sh (some (.int (S 21 x.toNatClampNeg 4))) (fTo S x.toNatClampNeg u)) (yx [(1, xIB), (2, xIA), (3, xIS), (4, xUO)] (kTake ns x u (S 21 x.toNatClampNeg 4) (S 21 x.toNatClampNeg 6 = 97) (S 5 0 (S 4 0 u.toNatClampNeg).toNatClampNeg))) := by
  refine Cq.of (lv := [(0, .ref (al 0 0)), (1, .int x), (2, .int u)]) (by decide) rfl (Nat.le_of_ble_eq_true rfl) rfl ?_
  intro p_ e_ s_ m_ below_ meth_ c_ cx hlk hr htb
  refine j_aload_n (j := 0) cx dX2_takeOver_0 rfl rfl (pc' := 1) rfl ?_
  refine j_iload_n (j := 1) cx dX2_takeOver_1 rfl rfl (pc' := 2) rfl ?_
  refine j_cVX (cells1 := 1) (slots1 := 6) (st1 := [.ref (al 21 x.toNatClampNeg)]) (As := [.int x]) (rest := []) cx (c_X2_sessionAt hl0 hY hs11) gX2_takeOver_X2_sessionAt rfl rfl rfl 1 rfl (by decide +kernel) ⟨Nat.le_of_ble_eq_true rfl, Nat.le_of_ble_eq_true rfl⟩ hY.1 rfl rfl rfl rfl (Nat.le_of_ble_eq_true rfl) dX2_takeOver_2 ⟨Nat.le_of_ble_eq_true rfl, Nat.le_of_ble_eq_true rfl⟩ (pc' := 5) rfl rfl rfl rfl (fun E hE => jx_out hlk htb (Nat.le_of_ble_eq_true rfl) (Nat.le_of_ble_eq_true rfl) ⟨(1, xIB), by simp, hE.1, by simp [kTake, nvin hE.2]⟩) (fun p1 => ?_)
  refine j_astore_n (lv' := [(3, .ref (al 21 x.toNatClampNeg)), (0, .ref (al 0 0)), (1, .int x), (2, .int u)]) cx dX2_takeOver_5 rfl (by decide) rfl (pc' := 6) rfl ?_
  refine j_iload_n (j := 3) cx dX2_takeOver_6 rfl rfl (pc' := 7) rfl ?_
  refine j_cSX (cells1 := 2) (slots1 := 12) (st1 := []) (As := [.int u]) (rest := []) cx (c_X2_checkUser hl0) gX2_takeOver_X2_checkUser rfl rfl rfl 1 rfl (by decide +kernel) ⟨Nat.le_of_ble_eq_true rfl, Nat.le_of_ble_eq_true rfl⟩ rfl (Nat.le_of_ble_eq_true rfl) dX2_takeOver_7 ⟨Nat.le_of_ble_eq_true rfl, Nat.le_of_ble_eq_true rfl⟩ (pc' := 10) rfl rfl rfl rfl (fun E hE => jx_out hlk htb (Nat.le_of_ble_eq_true rfl) (Nat.le_of_ble_eq_true rfl) ⟨(2, xIA), by simp, hE.1, by have hq := hE.2; simp [kTake, vin p1, hq]⟩) (fun p2 => ?_)
  refine j_aload_n (j := 0) cx dX2_takeOver_10 rfl rfl (pc' := 11) rfl ?_
  refine j_get (fk := 4) (ref := "TerminalYard$Session") (v := .int (S 21 x.toNatClampNeg 4)) cx (hY.2.2.2.2.2.2.2.2.2.2.2.2.1 _ (ix_of p1)) rfl (by decide +kernel) (by decide) (by decide +kernel) (fun _ h => h) (yV_i rfl) rfl dX2_takeOver_11 (pc' := 14) rfl ?_
  refine j_iload_n (j := 3) cx dX2_takeOver_14 rfl rfl (pc' := 15) rfl ?_
  refine j_icmp_ne (tgt := 28) cx dX2_takeOver_15 (by decide) (pc' := 18) rfl (fun h3 => ?_) (fun h3 => ?_)
  · refine j_aload_n (j := 0) cx dX2_takeOver_28 rfl rfl (pc' := 29) rfl ?_
    refine j_cSX (cells1 := 3) (slots1 := 18) (st1 := []) (As := [.ref (al 21 x.toNatClampNeg)]) (rest := []) cx (c_X2_checkLive hl0 (hY.2.2.2.2.2.2.2.2.2.2.2.2.1 _ (ix_of p1))) gX2_takeOver_X2_checkLive rfl rfl rfl 1 rfl (by decide +kernel) ⟨Nat.le_of_ble_eq_true rfl, Nat.le_of_ble_eq_true rfl⟩ rfl (Nat.le_of_ble_eq_true rfl) dX2_takeOver_29 ⟨Nat.le_of_ble_eq_true rfl, Nat.le_of_ble_eq_true rfl⟩ (pc' := 32) rfl rfl rfl rfl (fun E hE => jx_out hlk htb (Nat.le_of_ble_eq_true rfl) (Nat.le_of_ble_eq_true rfl) ⟨(3, xIS), by simp, hE.1, by have hq := hE.2; simp [kTake, vin p1, p2, h3, hq]⟩) (fun p4 => ?_)
    refine j_aload_n (j := 1) cx dX2_takeOver_32 rfl rfl (pc' := 33) rfl ?_
    refine j_aload_n (j := 1) cx dX2_takeOver_33 rfl rfl (pc' := 34) rfl ?_
    refine j_get (fk := 3) (ref := "TerminalYard") (v := .ref (al 4 0)) cx hY.1 rfl (by decide +kernel) (by decide) (by decide +kernel) (fun _ h => h) (yV_r (k := (4, 0)) rfl) rfl dX2_takeOver_34 (pc' := 37) rfl ?_
    refine j_iload_n (j := 3) cx dX2_takeOver_37 rfl rfl (pc' := 38) rfl ?_
    refine j_iald (v := S 4 0 u.toNatClampNeg) cx hY.2.2.2.2.1 rfl (vp_in_out (b := 9) (by decide) p2) rfl rfl dX2_takeOver_38 (pc' := 39) rfl ?_
    refine j_iconst (v := 1) cx dX2_takeOver_39 (by decide) (pc' := 40) rfl ?_
    refine j_cVX (cells1 := 4) (slots1 := 24) (st1 := []) (As := [.int (S 4 0 u.toNatClampNeg), .int 1]) (rest := []) cx (c_X2_checkStock hl0 hY (hds _ (ix_of (vp_in_out (b := 9) (by decide) p2)))) gX2_takeOver_X2_checkStock rfl rfl rfl 2 rfl (by decide +kernel) ⟨Nat.le_of_ble_eq_true rfl, Nat.le_of_ble_eq_true rfl⟩ hY.1 rfl rfl rfl rfl (Nat.le_of_ble_eq_true rfl) dX2_takeOver_40 ⟨Nat.le_of_ble_eq_true rfl, Nat.le_of_ble_eq_true rfl⟩ (pc' := 43) rfl rfl rfl rfl (fun E hE => jx_out hlk htb (Nat.le_of_ble_eq_true rfl) (Nat.le_of_ble_eq_true rfl) ⟨(4, xUO), by simp, hE.1, by have hq := hE.2; simp [kTake, vin p1, p2, h3, p4, hq]⟩) (fun p5 => ?_)
    refine j_aload_n (j := 1) cx dX2_takeOver_43 rfl rfl (pc' := 44) rfl ?_
    refine j_aload_n (j := 0) cx dX2_takeOver_44 rfl rfl (pc' := 45) rfl ?_
    refine j_iload_n (j := 3) cx dX2_takeOver_45 rfl rfl (pc' := 46) rfl ?_
    refine j_cVR (cells1 := 4) (slots1 := 24) (st1 := [.int (S 21 x.toNatClampNeg 4)]) (As := [.ref (al 21 x.toNatClampNeg), .int u]) (rest := []) cx (c_X2_passTo hY (ix_of p1)) gX2_takeOver_X2_passTo rfl rfl rfl 2 rfl (by decide +kernel) ⟨Nat.le_of_ble_eq_true rfl, Nat.le_of_ble_eq_true rfl⟩ hY.1 rfl rfl rfl rfl (Nat.le_of_ble_eq_true rfl) dX2_takeOver_46 ⟨Nat.le_of_ble_eq_true rfl, Nat.le_of_ble_eq_true rfl⟩ (pc' := 49) rfl rfl rfl rfl ?_
    exact J.ret _ (j_iret (ty := .int) cx hlk hr rfl (Nat.le_of_ble_eq_true rfl) (Nat.le_of_ble_eq_true rfl) dX2_takeOver_49 ⟨by simp [kTake, vin p1, p2, h3, p4, p5], rfl, rfl, rfl, rfl⟩)
  · exact j_throwS (ik := 58) (ic := 62) (is := 182) (cls := "java/lang/IllegalArgumentException") (text := "this is the user of the session") (names := ["java/lang/RuntimeException", "java/lang/Exception"]) cx hl0 hlk htb rfl (by decide) (by decide) (by decide) (by decide +kernel) (by decide +kernel) (by decide +kernel) (by decide +kernel) (by decide +kernel) dX2_takeOver_18 dX2_takeOver_21 dX2_takeOver_22 dX2_takeOver_24 dX2_takeOver_27 (Nat.le_of_ble_eq_true rfl) (Nat.le_of_ble_eq_true rfl) (Nat.le_of_ble_eq_true rfl) (Nat.le_of_ble_eq_true rfl) (Nat.le_of_ble_eq_true rfl) (Nat.le_of_ble_eq_true rfl) ⟨(2, xIA), by simp, rfl, by simp [kTake, vin p1, h3]⟩
