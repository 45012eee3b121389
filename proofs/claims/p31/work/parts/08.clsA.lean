set_option maxHeartbeats 4000000 in
set_option maxRecDepth 100000 in
theorem c_X0_freeSeats {l : Launch} {Z : yL} {al : yAl} {sh : ySh} {S : yS} {i : Nat} (hM : sh 20 i = some (.inl (3, tgM))) : Ct l yX0_freeSeats wsX0_freeSeats ({ frames := 0, cells := 0, slots := 0, locals := 0 }) 0 0 Z [.ref (al 20 i)] al sh S (yR al sh (some (.int (S 20 i 3 - S 20 i 5))) S) := by
  refine Ct.of (lv := [(0, .ref (al 20 i))]) (by decide) rfl (Nat.le_of_ble_eq_true rfl) rfl ?_
  intro p_ e_ s_ m_ below_ meth_ c_ cx hlk hr hnm9
  refine j_aload_n (j := 0) cx dX0_freeSeats_0 rfl rfl (pc' := 1) rfl ?_
  refine j_get (fk := 3) (ref := "TerminalYard$Machine") (v := .int (S 20 i 3)) cx hM rfl (by decide +kernel) (by decide) (by decide +kernel) (fun _ h => h) (yV_i rfl) rfl dX0_freeSeats_1 (pc' := 4) rfl ?_
  refine j_aload_n (j := 0) cx dX0_freeSeats_4 rfl rfl (pc' := 5) rfl ?_
  refine j_get (fk := 5) (ref := "TerminalYard$Machine") (v := .int (S 20 i 5)) cx hM rfl (by decide +kernel) (by decide) (by decide +kernel) (fun _ h => h) (yV_i rfl) rfl dX0_freeSeats_5 (pc' := 8) rfl ?_
  refine j_isub cx dX0_freeSeats_8 (pc' := 9) rfl ?_
  exact j_iret (ty := .int) cx hlk hr rfl (Nat.le_of_ble_eq_true rfl) (Nat.le_of_ble_eq_true rfl) dX0_freeSeats_9 ⟨rfl, rfl, rfl, rfl⟩
set_option maxHeartbeats 4000000 in
set_option maxRecDepth 100000 in
theorem c_X0_serves {l : Launch} {Z : yL} {al : yAl} {sh : ySh} {S : yS} {i : Nat} {x : Int32} (hM : sh 20 i = some (.inl (3, tgM))) : Ct l yX0_serves wsX0_serves ({ frames := 0, cells := 0, slots := 0, locals := 0 }) 0 0 Z [.ref (al 20 i), .int x] al sh S (yR al sh (some (.int (bI (S 20 i 4 = 117 ∧ S 20 i 1 = x)))) S) := by
  refine Ct.of (lv := [(0, .ref (al 20 i)), (1, .int x)]) (by decide) rfl (Nat.le_of_ble_eq_true rfl) rfl ?_
  intro p_ e_ s_ m_ below_ meth_ c_ cx hlk hr hnm9
  refine j_aload_n (j := 0) cx dX0_serves_0 rfl rfl (pc' := 1) rfl ?_
  refine j_get (fk := 4) (ref := "TerminalYard$Machine") (v := .int (S 20 i 4)) cx hM rfl (by decide +kernel) (by decide) (by decide +kernel) (fun _ h => h) (yV_i rfl) rfl dX0_serves_1 (pc' := 4) rfl ?_
  refine j_bipush (v := 117) cx dX0_serves_4 (by decide) (pc' := 6) rfl ?_
  refine j_icmp_ne (tgt := 21) cx dX0_serves_6 (by decide) (pc' := 9) rfl (fun h1 => ?_) (fun h1 => ?_)
  · refine j_iconst (v := 0) cx dX0_serves_21 (by decide) (pc' := 22) rfl ?_
    exact j_iret (ty := .boolean) cx hlk hr rfl (Nat.le_of_ble_eq_true rfl) (Nat.le_of_ble_eq_true rfl) dX0_serves_22 ⟨congrArg (fun z => some (Value.int z)) (by simp [bI, *]), rfl, rfl, rfl⟩
  · refine j_aload_n (j := 0) cx dX0_serves_9 rfl rfl (pc' := 10) rfl ?_
    refine j_get (fk := 1) (ref := "TerminalYard$Machine") (v := .int (S 20 i 1)) cx hM rfl (by decide +kernel) (by decide) (by decide +kernel) (fun _ h => h) (yV_i rfl) rfl dX0_serves_10 (pc' := 13) rfl ?_
    refine j_iload_n (j := 1) cx dX0_serves_13 rfl rfl (pc' := 14) rfl ?_
    refine j_icmp_ne (tgt := 21) cx dX0_serves_14 (by decide) (pc' := 17) rfl (fun h2 => ?_) (fun h2 => ?_)
    · refine j_iconst (v := 0) cx dX0_serves_21 (by decide) (pc' := 22) rfl ?_
      exact j_iret (ty := .boolean) cx hlk hr rfl (Nat.le_of_ble_eq_true rfl) (Nat.le_of_ble_eq_true rfl) dX0_serves_22 ⟨congrArg (fun z => some (Value.int z)) (by simp [bI, *]), rfl, rfl, rfl⟩
    · refine j_iconst (v := 1) cx dX0_serves_17 (by decide) (pc' := 18) rfl ?_
      refine j_goto (tgt := 22) cx dX0_serves_18 (by decide) ?_
      exact j_iret (ty := .boolean) cx hlk hr rfl (Nat.le_of_ble_eq_true rfl) (Nat.le_of_ble_eq_true rfl) dX0_serves_22 ⟨congrArg (fun z => some (Value.int z)) (by simp [bI, *]), rfl, rfl, rfl⟩
set_option maxHeartbeats 4000000 in
set_option maxRecDepth 100000 in
theorem c_X0_repairWhenEmpty {l : Launch} {Z : yL} {al : yAl} {sh : ySh} {S : yS} {i : Nat} (hM : sh 20 i = some (.inl (3, tgM))) : Ct l yX0_repairWhenEmpty wsX0_repairWhenEmpty ({ frames := 0, cells := 0, slots := 0, locals := 0 }) 0 0 Z [.ref (al 20 i)] al sh S (yR al sh none (fRep S i)) := by
  refine Ct.of (lv := [(0, .ref (al 20 i))]) (by decide) rfl (Nat.le_of_ble_eq_true rfl) rfl ?_
  intro p_ e_ s_ m_ below_ meth_ c_ cx hlk hr hnm9
  refine j_aload_n (j := 0) cx dX0_repairWhenEmpty_0 rfl rfl (pc' := 1) rfl ?_
  refine j_get (fk := 4) (ref := "TerminalYard$Machine") (v := .int (S 20 i 4)) cx hM rfl (by decide +kernel) (by decide) (by decide +kernel) (fun _ h => h) (yV_i rfl) rfl dX0_repairWhenEmpty_1 (pc' := 4) rfl ?_
  refine j_bipush (v := 103) cx dX0_repairWhenEmpty_4 (by decide) (pc' := 6) rfl ?_
  refine j_icmp_ne (tgt := 22) cx dX0_repairWhenEmpty_6 (by decide) (pc' := 9) rfl (fun h1 => ?_) (fun h1 => ?_)
  · exact j_vret cx hlk hr (Nat.le_of_ble_eq_true rfl) (Nat.le_of_ble_eq_true rfl) dX0_repairWhenEmpty_22 ⟨rfl, rfl, rfl, by simp [fRep, *]⟩
  · refine j_aload_n (j := 0) cx dX0_repairWhenEmpty_9 rfl rfl (pc' := 10) rfl ?_
    refine j_get (fk := 5) (ref := "TerminalYard$Machine") (v := .int (S 20 i 5)) cx hM rfl (by decide +kernel) (by decide) (by decide +kernel) (fun _ h => h) (yV_i rfl) rfl dX0_repairWhenEmpty_10 (pc' := 13) rfl ?_
    refine j_if_ne (tgt := 22) cx dX0_repairWhenEmpty_13 (by decide) (pc' := 16) rfl (fun h2 => ?_) (fun h2 => ?_)
    · exact j_vret cx hlk hr (Nat.le_of_ble_eq_true rfl) (Nat.le_of_ble_eq_true rfl) dX0_repairWhenEmpty_22 ⟨rfl, rfl, rfl, by simp [fRep, *]⟩
    · refine j_aload_n (j := 0) cx dX0_repairWhenEmpty_16 rfl rfl (pc' := 17) rfl ?_
      refine j_bipush (v := 109) cx dX0_repairWhenEmpty_17 (by decide) (pc' := 19) rfl ?_
      refine j_puti (fk := 4) (ref := "TerminalYard$Machine") (ty := .char) cx hM rfl (by decide +kernel) (by decide) (by decide +kernel) (fun _ h => h) tyX0 tyX0_ok nmX0 rfl (by decide +kernel) rfl rfl rfl rfl dX0_repairWhenEmpty_19 (pc' := 22) rfl ?_
      exact j_vret cx hlk hr (Nat.le_of_ble_eq_true rfl) (Nat.le_of_ble_eq_true rfl) dX0_repairWhenEmpty_22 ⟨rfl, rfl, rfl, by simp [fRep, *]⟩
set_option maxHeartbeats 4000000 in
set_option maxRecDepth 100000 in
theorem c_X1_isLive {l : Launch} {Z : yL} {al : yAl} {sh : ySh} {S : yS} {i mi : Nat} (hM : sh 21 i = some (.inl (4, tgS mi i))) : Ct l yX1_isLive wsX1_isLive ({ frames := 0, cells := 0, slots := 0, locals := 0 }) 0 0 Z [.ref (al 21 i)] al sh S (yR al sh (some (.int (bI (S 21 i 6 = 97)))) S) := by
  refine Ct.of (lv := [(0, .ref (al 21 i))]) (by decide) rfl (Nat.le_of_ble_eq_true rfl) rfl ?_
  intro p_ e_ s_ m_ below_ meth_ c_ cx hlk hr hnm9
  refine j_aload_n (j := 0) cx dX1_isLive_0 rfl rfl (pc' := 1) rfl ?_
  refine j_get (fk := 6) (ref := "TerminalYard$Session") (v := .int (S 21 i 6)) cx hM rfl (by decide +kernel) (by decide) (by decide +kernel) (fun _ h => h) (yV_i rfl) rfl dX1_isLive_1 (pc' := 4) rfl ?_
  refine j_bipush (v := 97) cx dX1_isLive_4 (by decide) (pc' := 6) rfl ?_
  refine j_icmp_ne (tgt := 13) cx dX1_isLive_6 (by decide) (pc' := 9) rfl (fun h1 => ?_) (fun h1 => ?_)
  · refine j_iconst (v := 0) cx dX1_isLive_13 (by decide) (pc' := 14) rfl ?_
    exact j_iret (ty := .boolean) cx hlk hr rfl (Nat.le_of_ble_eq_true rfl) (Nat.le_of_ble_eq_true rfl) dX1_isLive_14 ⟨congrArg (fun z => some (Value.int z)) (by simp [bI, *]), rfl, rfl, rfl⟩
  · refine j_iconst (v := 1) cx dX1_isLive_9 (by decide) (pc' := 10) rfl ?_
    refine j_goto (tgt := 14) cx dX1_isLive_10 (by decide) ?_
    exact j_iret (ty := .boolean) cx hlk hr rfl (Nat.le_of_ble_eq_true rfl) (Nat.le_of_ble_eq_true rfl) dX1_isLive_14 ⟨congrArg (fun z => some (Value.int z)) (by simp [bI, *]), rfl, rfl, rfl⟩
set_option maxHeartbeats 4000000 in
set_option maxRecDepth 100000 in
theorem c_X1_chargedInAll {l : Launch} {Z : yL} {al : yAl} {sh : ySh} {S : yS} {i mi : Nat} (hM : sh 21 i = some (.inl (4, tgS mi i))) (hC : sh 22 i = yI Z 4) : Ct l yX1_chargedInAll wsX1_chargedInAll ({ frames := 0, cells := 0, slots := 0, locals := 0 }) 0 0 Z [.ref (al 21 i)] al sh S (yR al sh (some (.int (qIn S i))) S) := by
  refine Ct.of (lv := [(0, .ref (al 21 i))]) (by decide) rfl (Nat.le_of_ble_eq_true rfl) rfl ?_
  intro p_ e_ s_ m_ below_ meth_ c_ cx hlk hr hnm9
  refine j_iconst (v := 0) cx dX1_chargedInAll_0 (by decide) (pc' := 1) rfl ?_
  refine j_istore_n (lv' := [(1, .int 0), (0, .ref (al 21 i))]) cx dX1_chargedInAll_1 rfl (by decide) rfl (pc' := 2) rfl ?_
  refine j_iconst (v := 0) cx dX1_chargedInAll_2 (by decide) (pc' := 3) rfl ?_
  refine j_istore_n (lv' := [(2, .int 0), (1, .int 0), (0, .ref (al 21 i))]) cx dX1_chargedInAll_3 rfl (by decide) rfl (pc' := 4) rfl ?_
  refine j_iload_n (j := 0) cx dX1_chargedInAll_4 rfl rfl (pc' := 5) rfl ?_
  refine j_iconst (v := 4) cx dX1_chargedInAll_5 (by decide) (pc' := 6) rfl ?_
  refine j_icmp_ge (tgt := 24) cx dX1_chargedInAll_6 (by decide) (pc' := 9) rfl (fun h => absurd h (by decide)) (fun _ => ?_)
  refine j_iload_n (j := 1) cx dX1_chargedInAll_9 rfl rfl (pc' := 10) rfl ?_
  refine j_aload_n (j := 2) cx dX1_chargedInAll_10 rfl rfl (pc' := 11) rfl ?_
  refine j_get (fk := 3) (ref := "TerminalYard$Session") (v := .ref (al 22 i)) cx hM rfl (by decide +kernel) (by decide) (by decide +kernel) (fun _ h => h) (yV_r (k := (22, i)) rfl) rfl dX1_chargedInAll_11 (pc' := 14) rfl ?_
  refine j_iload_n (j := 0) cx dX1_chargedInAll_14 rfl rfl (pc' := 15) rfl ?_
  refine j_iald (v := S 22 i 0) cx hC rfl (by unfold vp_in; decide) rfl rfl dX1_chargedInAll_15 (pc' := 16) rfl ?_
  refine j_iadd cx dX1_chargedInAll_16 (pc' := 17) rfl ?_
  refine j_istore_n (lv' := [(1, .int (0 + (S 22 i 0))), (2, .int 0), (0, .ref (al 21 i))]) cx dX1_chargedInAll_17 rfl (by decide) rfl (pc' := 18) rfl ?_
  refine j_iinc (j := 1) (v := 1) (lv' := [(2, .int 1), (1, .int (0 + (S 22 i 0))), (0, .ref (al 21 i))]) cx dX1_chargedInAll_18 rfl (by decide) (by decide) rfl (pc' := 21) rfl ?_
  refine j_goto (tgt := 4) cx dX1_chargedInAll_21 (by decide) ?_
  refine j_iload_n (j := 0) cx dX1_chargedInAll_4 rfl rfl (pc' := 5) rfl ?_
  refine j_iconst (v := 4) cx dX1_chargedInAll_5 (by decide) (pc' := 6) rfl ?_
  refine j_icmp_ge (tgt := 24) cx dX1_chargedInAll_6 (by decide) (pc' := 9) rfl (fun h => absurd h (by decide)) (fun _ => ?_)
  refine j_iload_n (j := 1) cx dX1_chargedInAll_9 rfl rfl (pc' := 10) rfl ?_
  refine j_aload_n (j := 2) cx dX1_chargedInAll_10 rfl rfl (pc' := 11) rfl ?_
  refine j_get (fk := 3) (ref := "TerminalYard$Session") (v := .ref (al 22 i)) cx hM rfl (by decide +kernel) (by decide) (by decide +kernel) (fun _ h => h) (yV_r (k := (22, i)) rfl) rfl dX1_chargedInAll_11 (pc' := 14) rfl ?_
  refine j_iload_n (j := 0) cx dX1_chargedInAll_14 rfl rfl (pc' := 15) rfl ?_
  refine j_iald (v := S 22 i 1) cx hC rfl (by unfold vp_in; decide) rfl rfl dX1_chargedInAll_15 (pc' := 16) rfl ?_
  refine j_iadd cx dX1_chargedInAll_16 (pc' := 17) rfl ?_
  refine j_istore_n (lv' := [(1, .int ((0 + (S 22 i 0)) + (S 22 i 1))), (2, .int 1), (0, .ref (al 21 i))]) cx dX1_chargedInAll_17 rfl (by decide) rfl (pc' := 18) rfl ?_
  refine j_iinc (j := 1) (v := 2) (lv' := [(2, .int 2), (1, .int ((0 + (S 22 i 0)) + (S 22 i 1))), (0, .ref (al 21 i))]) cx dX1_chargedInAll_18 rfl (by decide) (by decide) rfl (pc' := 21) rfl ?_
  refine j_goto (tgt := 4) cx dX1_chargedInAll_21 (by decide) ?_
  refine j_iload_n (j := 0) cx dX1_chargedInAll_4 rfl rfl (pc' := 5) rfl ?_
  refine j_iconst (v := 4) cx dX1_chargedInAll_5 (by decide) (pc' := 6) rfl ?_
  refine j_icmp_ge (tgt := 24) cx dX1_chargedInAll_6 (by decide) (pc' := 9) rfl (fun h => absurd h (by decide)) (fun _ => ?_)
  refine j_iload_n (j := 1) cx dX1_chargedInAll_9 rfl rfl (pc' := 10) rfl ?_
  refine j_aload_n (j := 2) cx dX1_chargedInAll_10 rfl rfl (pc' := 11) rfl ?_
  refine j_get (fk := 3) (ref := "TerminalYard$Session") (v := .ref (al 22 i)) cx hM rfl (by decide +kernel) (by decide) (by decide +kernel) (fun _ h => h) (yV_r (k := (22, i)) rfl) rfl dX1_chargedInAll_11 (pc' := 14) rfl ?_
  refine j_iload_n (j := 0) cx dX1_chargedInAll_14 rfl rfl (pc' := 15) rfl ?_
  refine j_iald (v := S 22 i 2) cx hC rfl (by unfold vp_in; decide) rfl rfl dX1_chargedInAll_15 (pc' := 16) rfl ?_
  refine j_iadd cx dX1_chargedInAll_16 (pc' := 17) rfl ?_
  refine j_istore_n (lv' := [(1, .int (((0 + (S 22 i 0)) + (S 22 i 1)) + (S 22 i 2))), (2, .int 2), (0, .ref (al 21 i))]) cx dX1_chargedInAll_17 rfl (by decide) rfl (pc' := 18) rfl ?_
  refine j_iinc (j := 1) (v := 3) (lv' := [(2, .int 3), (1, .int (((0 + (S 22 i 0)) + (S 22 i 1)) + (S 22 i 2))), (0, .ref (al 21 i))]) cx dX1_chargedInAll_18 rfl (by decide) (by decide) rfl (pc' := 21) rfl ?_
  refine j_goto (tgt := 4) cx dX1_chargedInAll_21 (by decide) ?_
  refine j_iload_n (j := 0) cx dX1_chargedInAll_4 rfl rfl (pc' := 5) rfl ?_
  refine j_iconst (v := 4) cx dX1_chargedInAll_5 (by decide) (pc' := 6) rfl ?_
  refine j_icmp_ge (tgt := 24) cx dX1_chargedInAll_6 (by decide) (pc' := 9) rfl (fun h => absurd h (by decide)) (fun _ => ?_)
  refine j_iload_n (j := 1) cx dX1_chargedInAll_9 rfl rfl (pc' := 10) rfl ?_
  refine j_aload_n (j := 2) cx dX1_chargedInAll_10 rfl rfl (pc' := 11) rfl ?_
  refine j_get (fk := 3) (ref := "TerminalYard$Session") (v := .ref (al 22 i)) cx hM rfl (by decide +kernel) (by decide) (by decide +kernel) (fun _ h => h) (yV_r (k := (22, i)) rfl) rfl dX1_chargedInAll_11 (pc' := 14) rfl ?_
  refine j_iload_n (j := 0) cx dX1_chargedInAll_14 rfl rfl (pc' := 15) rfl ?_
  refine j_iald (v := S 22 i 3) cx hC rfl (by unfold vp_in; decide) rfl rfl dX1_chargedInAll_15 (pc' := 16) rfl ?_
  refine j_iadd cx dX1_chargedInAll_16 (pc' := 17) rfl ?_
  refine j_istore_n (lv' := [(1, .int ((((0 + (S 22 i 0)) + (S 22 i 1)) + (S 22 i 2)) + (S 22 i 3))), (2, .int 3), (0, .ref (al 21 i))]) cx dX1_chargedInAll_17 rfl (by decide) rfl (pc' := 18) rfl ?_
  refine j_iinc (j := 1) (v := 4) (lv' := [(2, .int 4), (1, .int ((((0 + (S 22 i 0)) + (S 22 i 1)) + (S 22 i 2)) + (S 22 i 3))), (0, .ref (al 21 i))]) cx dX1_chargedInAll_18 rfl (by decide) (by decide) rfl (pc' := 21) rfl ?_
  refine j_goto (tgt := 4) cx dX1_chargedInAll_21 (by decide) ?_
  refine j_iload_n (j := 0) cx dX1_chargedInAll_4 rfl rfl (pc' := 5) rfl ?_
  refine j_iconst (v := 4) cx dX1_chargedInAll_5 (by decide) (pc' := 6) rfl ?_
  refine j_icmp_ge (tgt := 24) cx dX1_chargedInAll_6 (by decide) (pc' := 9) rfl (fun _ => ?_) (fun h => absurd h (by decide))
  refine j_iload_n (j := 1) cx dX1_chargedInAll_24 rfl rfl (pc' := 25) rfl ?_
  exact j_iret (ty := .int) cx hlk hr rfl (Nat.le_of_ble_eq_true rfl) (Nat.le_of_ble_eq_true rfl) dX1_chargedInAll_25 ⟨rfl, rfl, rfl, rfl⟩
set_option maxHeartbeats 4000000 in
set_option maxRecDepth 100000 in
theorem c_X2_isOutside {l : Launch} {Z : yL} {al : yAl} {sh : ySh} {S : yS} {x a b : Int32} : Ct l yX2_isOutside wsX2_isOutside ({ frames := 0, cells := 0, slots := 0, locals := 0 }) 0 0 Z [.int x, .int a, .int b] al sh S (yR al sh (some (.int (bI (oR a b x)))) S) := by
  refine Ct.of (lv := [(0, .int x), (1, .int a), (2, .int b)]) (by decide) rfl (Nat.le_of_ble_eq_true rfl) rfl ?_
  intro p_ e_ s_ m_ below_ meth_ c_ cx hlk hr hnm9
  refine j_iload_n (j := 0) cx dX2_isOutside_0 rfl rfl (pc' := 1) rfl ?_
  refine j_iload_n (j := 1) cx dX2_isOutside_1 rfl rfl (pc' := 2) rfl ?_
  refine j_icmp_lt (tgt := 10) cx dX2_isOutside_2 (by decide) (pc' := 5) rfl (fun h1 => ?_) (fun h1 => ?_)
  · refine j_iconst (v := 1) cx dX2_isOutside_10 (by decide) (pc' := 11) rfl ?_
    refine j_goto (tgt := 15) cx dX2_isOutside_11 (by decide) ?_
    exact j_iret (ty := .boolean) cx hlk hr rfl (Nat.le_of_ble_eq_true rfl) (Nat.le_of_ble_eq_true rfl) dX2_isOutside_15 ⟨congrArg (fun z => some (Value.int z)) (by simp [bI, *]), rfl, rfl, rfl⟩
  · refine j_iload_n (j := 0) cx dX2_isOutside_5 rfl rfl (pc' := 6) rfl ?_
    refine j_iload_n (j := 2) cx dX2_isOutside_6 rfl rfl (pc' := 7) rfl ?_
    refine j_icmp_le (tgt := 14) cx dX2_isOutside_7 (by decide) (pc' := 10) rfl (fun h2 => ?_) (fun h2 => ?_)
    · refine j_iconst (v := 0) cx dX2_isOutside_14 (by decide) (pc' := 15) rfl ?_
      exact j_iret (ty := .boolean) cx hlk hr rfl (Nat.le_of_ble_eq_true rfl) (Nat.le_of_ble_eq_true rfl) dX2_isOutside_15 ⟨congrArg (fun z => some (Value.int z)) (by simp [bI, *]), rfl, rfl, rfl⟩
    · refine j_iconst (v := 1) cx dX2_isOutside_10 (by decide) (pc' := 11) rfl ?_
      refine j_goto (tgt := 15) cx dX2_isOutside_11 (by decide) ?_
      exact j_iret (ty := .boolean) cx hlk hr rfl (Nat.le_of_ble_eq_true rfl) (Nat.le_of_ble_eq_true rfl) dX2_isOutside_15 ⟨congrArg (fun z => some (Value.int z)) (by simp [bI, *]), rfl, rfl, rfl⟩
set_option maxHeartbeats 4000000 in
set_option maxRecDepth 100000 in
theorem c_X2_checkPool {l : Launch} (hl0 : l.stackTraces = false) {Z : yL} {al : yAl} {sh : ySh} {S : yS} {x : Int32} : Cq l yX2_checkPool wsX2_checkPool ({ frames := 6, cells := 1, slots := 6, locals := 90 }) 1 6 Z [.int x] al sh S (yRp (¬ oR 0 2 x) al sh none S) (fun E => E = xIA ∧ oR 0 2 x) := by
  refine Cq.of (lv := [(0, .int x)]) (by decide) rfl (Nat.le_of_ble_eq_true rfl) rfl ?_
  intro p_ e_ s_ m_ below_ meth_ c_ cx hlk hr htb
  refine j_iload_n (j := 0) cx dX2_checkPool_0 rfl rfl (pc' := 1) rfl ?_
  refine j_iconst (v := 0) cx dX2_checkPool_1 (by decide) (pc' := 2) rfl ?_
  refine j_iconst (v := 2) cx dX2_checkPool_2 (by decide) (pc' := 3) rfl ?_
  refine j_cSR (cells1 := 0) (slots1 := 0) (st1 := [.int (bI (oR 0 2 x))]) (As := [.int x, .int 0, .int 2]) (rest := []) cx (c_X2_isOutside) gX2_checkPool_X2_isOutside rfl rfl rfl 3 rfl (by decide +kernel) ⟨Nat.le_of_ble_eq_true rfl, Nat.le_of_ble_eq_true rfl⟩ rfl (Nat.le_of_ble_eq_true rfl) dX2_checkPool_3 ⟨Nat.le_of_ble_eq_true rfl, Nat.le_of_ble_eq_true rfl⟩ (pc' := 6) rfl rfl rfl rfl ?_
  refine j_ifb_eq (tgt := 19) cx dX2_checkPool_6 (by decide) (pc' := 9) rfl (fun h2 => ?_) (fun h2 => ?_)
  · exact J.ret _ (j_vret cx hlk hr (Nat.le_of_ble_eq_true rfl) (Nat.le_of_ble_eq_true rfl) dX2_checkPool_19 ⟨h2, rfl, rfl, rfl, rfl⟩)
  · exact j_throwS (ik := 58) (ic := 62) (is := 247) (cls := "java/lang/IllegalArgumentException") (text := "no such pool") (names := ["java/lang/RuntimeException", "java/lang/Exception"]) cx hl0 hlk htb rfl (by decide) (by decide) (by decide) (by decide +kernel) (by decide +kernel) (by decide +kernel) (by decide +kernel) (by decide +kernel) dX2_checkPool_9 dX2_checkPool_12 dX2_checkPool_13 dX2_checkPool_15 dX2_checkPool_18 (Nat.le_of_ble_eq_true rfl) (Nat.le_of_ble_eq_true rfl) (Nat.le_of_ble_eq_true rfl) (Nat.le_of_ble_eq_true rfl) (Nat.le_of_ble_eq_true rfl) (Nat.le_of_ble_eq_true rfl) ⟨rfl, h2⟩
set_option maxHeartbeats 4000000 in
set_option maxRecDepth 100000 in
theorem c_X2_checkUser {l : Launch} (hl0 : l.stackTraces = false) {Z : yL} {al : yAl} {sh : ySh} {S : yS} {x : Int32} : Cq l yX2_checkUser wsX2_checkUser ({ frames := 6, cells := 1, slots := 6, locals := 90 }) 1 6 Z [.int x] al sh S (yRp (¬ oR 0 9 x) al sh none S) (fun E => E = xIA ∧ oR 0 9 x) := by
  refine Cq.of (lv := [(0, .int x)]) (by decide) rfl (Nat.le_of_ble_eq_true rfl) rfl ?_
  intro p_ e_ s_ m_ below_ meth_ c_ cx hlk hr htb
  refine j_iload_n (j := 0) cx dX2_checkUser_0 rfl rfl (pc' := 1) rfl ?_
  refine j_iconst (v := 0) cx dX2_checkUser_1 (by decide) (pc' := 2) rfl ?_
  refine j_bipush (v := 9) cx dX2_checkUser_2 (by decide) (pc' := 4) rfl ?_
  refine j_cSR (cells1 := 0) (slots1 := 0) (st1 := [.int (bI (oR 0 9 x))]) (As := [.int x, .int 0, .int 9]) (rest := []) cx (c_X2_isOutside) gX2_checkUser_X2_isOutside rfl rfl rfl 3 rfl (by decide +kernel) ⟨Nat.le_of_ble_eq_true rfl, Nat.le_of_ble_eq_true rfl⟩ rfl (Nat.le_of_ble_eq_true rfl) dX2_checkUser_4 ⟨Nat.le_of_ble_eq_true rfl, Nat.le_of_ble_eq_true rfl⟩ (pc' := 7) rfl rfl rfl rfl ?_
  refine j_ifb_eq (tgt := 20) cx dX2_checkUser_7 (by decide) (pc' := 10) rfl (fun h2 => ?_) (fun h2 => ?_)
  · exact J.ret _ (j_vret cx hlk hr (Nat.le_of_ble_eq_true rfl) (Nat.le_of_ble_eq_true rfl) dX2_checkUser_20 ⟨h2, rfl, rfl, rfl, rfl⟩)
  · exact j_throwS (ik := 58) (ic := 62) (is := 249) (cls := "java/lang/IllegalArgumentException") (text := "no such user") (names := ["java/lang/RuntimeException", "java/lang/Exception"]) cx hl0 hlk htb rfl (by decide) (by decide) (by decide) (by decide +kernel) (by decide +kernel) (by decide +kernel) (by decide +kernel) (by decide +kernel) dX2_checkUser_10 dX2_checkUser_13 dX2_checkUser_14 dX2_checkUser_16 dX2_checkUser_19 (Nat.le_of_ble_eq_true rfl) (Nat.le_of_ble_eq_true rfl) (Nat.le_of_ble_eq_true rfl) (Nat.le_of_ble_eq_true rfl) (Nat.le_of_ble_eq_true rfl) (Nat.le_of_ble_eq_true rfl) ⟨rfl, h2⟩
set_option maxHeartbeats 4000000 in
set_option maxRecDepth 100000 in
theorem c_X2_checkDepartment {l : Launch} (hl0 : l.stackTraces = false) {Z : yL} {al : yAl} {sh : ySh} {S : yS} {x : Int32} : Cq l yX2_checkDepartment wsX2_checkDepartment ({ frames := 6, cells := 1, slots := 6, locals := 90 }) 1 6 Z [.int x] al sh S (yRp (¬ oR 0 3 x) al sh none S) (fun E => E = xIA ∧ oR 0 3 x) := by
  refine Cq.of (lv := [(0, .int x)]) (by decide) rfl (Nat.le_of_ble_eq_true rfl) rfl ?_
  intro p_ e_ s_ m_ below_ meth_ c_ cx hlk hr htb
  refine j_iload_n (j := 0) cx dX2_checkDepartment_0 rfl rfl (pc' := 1) rfl ?_
  refine j_iconst (v := 0) cx dX2_checkDepartment_1 (by decide) (pc' := 2) rfl ?_
  refine j_iconst (v := 3) cx dX2_checkDepartment_2 (by decide) (pc' := 3) rfl ?_
  refine j_cSR (cells1 := 0) (slots1 := 0) (st1 := [.int (bI (oR 0 3 x))]) (As := [.int x, .int 0, .int 3]) (rest := []) cx (c_X2_isOutside) gX2_checkDepartment_X2_isOutside rfl rfl rfl 3 rfl (by decide +kernel) ⟨Nat.le_of_ble_eq_true rfl, Nat.le_of_ble_eq_true rfl⟩ rfl (Nat.le_of_ble_eq_true rfl) dX2_checkDepartment_3 ⟨Nat.le_of_ble_eq_true rfl, Nat.le_of_ble_eq_true rfl⟩ (pc' := 6) rfl rfl rfl rfl ?_
  refine j_ifb_eq (tgt := 19) cx dX2_checkDepartment_6 (by decide) (pc' := 9) rfl (fun h2 => ?_) (fun h2 => ?_)
  · exact J.ret _ (j_vret cx hlk hr (Nat.le_of_ble_eq_true rfl) (Nat.le_of_ble_eq_true rfl) dX2_checkDepartment_19 ⟨h2, rfl, rfl, rfl, rfl⟩)
  · exact j_throwS (ik := 58) (ic := 62) (is := 251) (cls := "java/lang/IllegalArgumentException") (text := "no such department") (names := ["java/lang/RuntimeException", "java/lang/Exception"]) cx hl0 hlk htb rfl (by decide) (by decide) (by decide) (by decide +kernel) (by decide +kernel) (by decide +kernel) (by decide +kernel) (by decide +kernel) dX2_checkDepartment_9 dX2_checkDepartment_12 dX2_checkDepartment_13 dX2_checkDepartment_15 dX2_checkDepartment_18 (Nat.le_of_ble_eq_true rfl) (Nat.le_of_ble_eq_true rfl) (Nat.le_of_ble_eq_true rfl) (Nat.le_of_ble_eq_true rfl) (Nat.le_of_ble_eq_true rfl) (Nat.le_of_ble_eq_true rfl) ⟨rfl, h2⟩
set_option maxHeartbeats 4000000 in
set_option maxRecDepth 100000 in
theorem c_X2_checkTrade {l : Launch} (hl0 : l.stackTraces = false) {Z : yL} {al : yAl} {sh : ySh} {S : yS} {x : Int32} : Cq l yX2_checkTrade wsX2_checkTrade ({ frames := 6, cells := 1, slots := 6, locals := 90 }) 1 6 Z [.int x] al sh S (yRp (¬ oR 1 5000 x) al sh none S) (fun E => E = xIA ∧ oR 1 5000 x) := by
  refine Cq.of (lv := [(0, .int x)]) (by decide) rfl (Nat.le_of_ble_eq_true rfl) rfl ?_
  intro p_ e_ s_ m_ below_ meth_ c_ cx hlk hr htb
  refine j_iload_n (j := 0) cx dX2_checkTrade_0 rfl rfl (pc' := 1) rfl ?_
  refine j_iconst (v := 1) cx dX2_checkTrade_1 (by decide) (pc' := 2) rfl ?_
  refine j_sipush (v := 5000) cx dX2_checkTrade_2 (by decide) (pc' := 5) rfl ?_
  refine j_cSR (cells1 := 0) (slots1 := 0) (st1 := [.int (bI (oR 1 5000 x))]) (As := [.int x, .int 1, .int 5000]) (rest := []) cx (c_X2_isOutside) gX2_checkTrade_X2_isOutside rfl rfl rfl 3 rfl (by decide +kernel) ⟨Nat.le_of_ble_eq_true rfl, Nat.le_of_ble_eq_true rfl⟩ rfl (Nat.le_of_ble_eq_true rfl) dX2_checkTrade_5 ⟨Nat.le_of_ble_eq_true rfl, Nat.le_of_ble_eq_true rfl⟩ (pc' := 8) rfl rfl rfl rfl ?_
  refine j_ifb_eq (tgt := 21) cx dX2_checkTrade_8 (by decide) (pc' := 11) rfl (fun h2 => ?_) (fun h2 => ?_)
  · exact J.ret _ (j_vret cx hlk hr (Nat.le_of_ble_eq_true rfl) (Nat.le_of_ble_eq_true rfl) dX2_checkTrade_21 ⟨h2, rfl, rfl, rfl, rfl⟩)
  · exact j_throwS (ik := 58) (ic := 62) (is := 255) (cls := "java/lang/IllegalArgumentException") (text := "from 1 to 5000 minutes change hands at once") (names := ["java/lang/RuntimeException", "java/lang/Exception"]) cx hl0 hlk htb rfl (by decide) (by decide) (by decide) (by decide +kernel) (by decide +kernel) (by decide +kernel) (by decide +kernel) (by decide +kernel) dX2_checkTrade_11 dX2_checkTrade_14 dX2_checkTrade_15 dX2_checkTrade_17 dX2_checkTrade_20 (Nat.le_of_ble_eq_true rfl) (Nat.le_of_ble_eq_true rfl) (Nat.le_of_ble_eq_true rfl) (Nat.le_of_ble_eq_true rfl) (Nat.le_of_ble_eq_true rfl) (Nat.le_of_ble_eq_true rfl) ⟨rfl, h2⟩
set_option maxHeartbeats 4000000 in
set_option maxRecDepth 100000 in
theorem c_X2_checkPair {l : Launch} (hl0 : l.stackTraces = false) {Z : yL} {al : yAl} {sh : ySh} {S : yS} {f t : Int32} : Cq l yX2_checkPair wsX2_checkPair ({ frames := 7, cells := 3, slots := 18, locals := 110 }) 3 18 Z [.int f, .int t] al sh S (yRp (¬ (oR 0 3 f ∨ oR 0 3 t ∨ f = t)) al sh none S) (fun E => E = xIA ∧ (oR 0 3 f ∨ oR 0 3 t ∨ f = t)) := by
  refine Cq.of (lv := [(0, .int f), (1, .int t)]) (by decide) rfl (Nat.le_of_ble_eq_true rfl) rfl ?_
  intro p_ e_ s_ m_ below_ meth_ c_ cx hlk hr htb
  refine j_iload_n (j := 0) cx dX2_checkPair_0 rfl rfl (pc' := 1) rfl ?_
  refine j_cSX (cells1 := 1) (slots1 := 6) (st1 := []) (As := [.int f]) (rest := []) cx (c_X2_checkDepartment hl0) gX2_checkPair_X2_checkDepartment rfl rfl rfl 1 rfl (by decide +kernel) ⟨Nat.le_of_ble_eq_true rfl, Nat.le_of_ble_eq_true rfl⟩ rfl (Nat.le_of_ble_eq_true rfl) dX2_checkPair_1 ⟨Nat.le_of_ble_eq_true rfl, Nat.le_of_ble_eq_true rfl⟩ (pc' := 4) rfl rfl rfl rfl (fun E hE => jx_out hlk htb (Nat.le_of_ble_eq_true rfl) (Nat.le_of_ble_eq_true rfl) ⟨hE.1, by have := hE.2; simp [*]⟩) (fun p1 => ?_)
  refine j_iload_n (j := 1) cx dX2_checkPair_4 rfl rfl (pc' := 5) rfl ?_
  refine j_cSX (cells1 := 2) (slots1 := 12) (st1 := []) (As := [.int t]) (rest := []) cx (c_X2_checkDepartment hl0) gX2_checkPair_X2_checkDepartment rfl rfl rfl 1 rfl (by decide +kernel) ⟨Nat.le_of_ble_eq_true rfl, Nat.le_of_ble_eq_true rfl⟩ rfl (Nat.le_of_ble_eq_true rfl) dX2_checkPair_5 ⟨Nat.le_of_ble_eq_true rfl, Nat.le_of_ble_eq_true rfl⟩ (pc' := 8) rfl rfl rfl rfl (fun E hE => jx_out hlk htb (Nat.le_of_ble_eq_true rfl) (Nat.le_of_ble_eq_true rfl) ⟨hE.1, by have := hE.2; simp [*]⟩) (fun p2 => ?_)
  refine j_iload_n (j := 0) cx dX2_checkPair_8 rfl rfl (pc' := 9) rfl ?_
  refine j_iload_n (j := 1) cx dX2_checkPair_9 rfl rfl (pc' := 10) rfl ?_
  refine j_icmp_ne (tgt := 23) cx dX2_checkPair_10 (by decide) (pc' := 13) rfl (fun h3 => ?_) (fun h3 => ?_)
  · exact J.ret _ (j_vret cx hlk hr (Nat.le_of_ble_eq_true rfl) (Nat.le_of_ble_eq_true rfl) dX2_checkPair_23 ⟨by simp [*], rfl, rfl, rfl, rfl⟩)
  · exact j_throwS (ik := 58) (ic := 62) (is := 253) (cls := "java/lang/IllegalArgumentException") (text := "both departments are the same") (names := ["java/lang/RuntimeException", "java/lang/Exception"]) cx hl0 hlk htb rfl (by decide) (by decide) (by decide) (by decide +kernel) (by decide +kernel) (by decide +kernel) (by decide +kernel) (by decide +kernel) dX2_checkPair_13 dX2_checkPair_16 dX2_checkPair_17 dX2_checkPair_19 dX2_checkPair_22 (Nat.le_of_ble_eq_true rfl) (Nat.le_of_ble_eq_true rfl) (Nat.le_of_ble_eq_true rfl) (Nat.le_of_ble_eq_true rfl) (Nat.le_of_ble_eq_true rfl) (Nat.le_of_ble_eq_true rfl) ⟨rfl, by simp [*]⟩
