theorem ix4l {i : Nat} (hi : i < 40) (d : Nat) {D : Int32} (hd : d < 4) (hD : D = nI d) : (4 * nI i + D).toNatClampNeg = 4 * i + d := by
  subst hD
  rw [show (4 : Int32) = nI 4 from rfl, pk_mul, nI_add, nI_clamp (by omega)]
set_option maxHeartbeats 4000000 in
set_option maxRecDepth 100000 in
theorem c_X3_in {l : Launch} {Z : yL} {al : yAl} {sh : ySh} {S : yS} {x a b : Int32} : Ct l yX3_in wsX3_in ({ frames := 0, cells := 0, slots := 0, locals := 0 }) 0 0 Z [.int x, .int a, .int b] al sh S (yR al sh (some (.int (bI (¬ oR a b x)))) S) := by
  refine Ct.of (lv := [(0, .int x), (1, .int a), (2, .int b)]) (by decide) rfl (Nat.le_of_ble_eq_true rfl) rfl ?_
  intro p_ e_ s_ m_ below_ meth_ c_ cx hlk hr hnm9
  refine j_iload_n (j := 0) cx dX3_in_0 rfl rfl (pc' := 1) rfl ?_
  refine j_iload_n (j := 1) cx dX3_in_1 rfl rfl (pc' := 2) rfl ?_
  refine j_icmp_lt (tgt := 14) cx dX3_in_2 (by decide) (pc' := 5) rfl (fun h1 => ?_) (fun h1 => ?_)
  · refine j_iconst (v := 0) cx dX3_in_14 (by decide) (pc' := 15) rfl ?_
    exact j_iret (ty := .boolean) cx hlk hr rfl (Nat.le_of_ble_eq_true rfl) (Nat.le_of_ble_eq_true rfl) dX3_in_15 ⟨congrArg (fun z => some (Value.int z)) (by simp [bI, *]), rfl, rfl, rfl⟩
  · refine j_iload_n (j := 0) cx dX3_in_5 rfl rfl (pc' := 6) rfl ?_
    refine j_iload_n (j := 2) cx dX3_in_6 rfl rfl (pc' := 7) rfl ?_
    refine j_icmp_gt (tgt := 14) cx dX3_in_7 (by decide) (pc' := 10) rfl (fun h2 => ?_) (fun h2 => ?_)
    · refine j_iconst (v := 0) cx dX3_in_14 (by decide) (pc' := 15) rfl ?_
      exact j_iret (ty := .boolean) cx hlk hr rfl (Nat.le_of_ble_eq_true rfl) (Nat.le_of_ble_eq_true rfl) dX3_in_15 ⟨congrArg (fun z => some (Value.int z)) (by simp [bI, *]), rfl, rfl, rfl⟩
    · refine j_iconst (v := 1) cx dX3_in_10 (by decide) (pc' := 11) rfl ?_
      refine j_goto (tgt := 15) cx dX3_in_11 (by decide) ?_
      exact j_iret (ty := .boolean) cx hlk hr rfl (Nat.le_of_ble_eq_true rfl) (Nat.le_of_ble_eq_true rfl) dX3_in_15 ⟨congrArg (fun z => some (Value.int z)) (by simp [bI, *]), rfl, rfl, rfl⟩
set_option maxHeartbeats 4000000 in
set_option maxRecDepth 100000 in
theorem c_X3_goesOn {l : Launch} {Z : yL} {al : yAl} {sh : ySh} {S : yS} {k : Int32} (hX : YM Z sh) : Ct l yX3_goesOn wsX3_goesOn ({ frames := 0, cells := 0, slots := 0, locals := 0 }) 0 0 Z [.ref (al 40 0), .int k] al sh S (yR al sh (some (.int (bI (k = 0)))) (sup S 40 0 0 k)) := by
  refine Ct.of (lv := [(0, .ref (al 40 0)), (1, .int k)]) (by decide) rfl (Nat.le_of_ble_eq_true rfl) rfl ?_
  intro p_ e_ s_ m_ below_ meth_ c_ cx hlk hr hnm9
  refine j_aload_n (j := 0) cx dX3_goesOn_0 rfl rfl (pc' := 1) rfl ?_
  refine j_iload_n (j := 1) cx dX3_goesOn_1 rfl rfl (pc' := 2) rfl ?_
  refine j_puti (fk := 0) (ref := "TerminalYardModel") (ty := .int) cx hX.1 rfl (by decide +kernel) (by decide) (by decide +kernel) (fun _ h => h) tyX3 tyX3_ok nmX3 rfl (by decide +kernel) rfl rfl rfl rfl dX3_goesOn_2 (pc' := 5) rfl ?_
  refine j_iload_n (j := 1) cx dX3_goesOn_5 rfl rfl (pc' := 6) rfl ?_
  refine j_if_ne (tgt := 13) cx dX3_goesOn_6 (by decide) (pc' := 9) rfl (fun h1 => ?_) (fun h1 => ?_)
  · refine j_iconst (v := 0) cx dX3_goesOn_13 (by decide) (pc' := 14) rfl ?_
    exact j_iret (ty := .boolean) cx hlk hr rfl (Nat.le_of_ble_eq_true rfl) (Nat.le_of_ble_eq_true rfl) dX3_goesOn_14 ⟨congrArg (fun z => some (Value.int z)) (by simp [bI, *]), rfl, rfl, rfl⟩
  · refine j_iconst (v := 1) cx dX3_goesOn_9 (by decide) (pc' := 10) rfl ?_
    refine j_goto (tgt := 14) cx dX3_goesOn_10 (by decide) ?_
    exact j_iret (ty := .boolean) cx hlk hr rfl (Nat.le_of_ble_eq_true rfl) (Nat.le_of_ble_eq_true rfl) dX3_goesOn_14 ⟨congrArg (fun z => some (Value.int z)) (by simp [bI, *]), rfl, rfl, rfl⟩
set_option maxHeartbeats 4000000 in
set_option maxRecDepth 100000 in
theorem c_X3_thrown {l : Launch} {Z : yL} {al : yAl} {sh : ySh} {S : yS}  (hX : YM Z sh) : Ct l yX3_thrown wsX3_thrown ({ frames := 0, cells := 0, slots := 0, locals := 0 }) 0 0 Z [.ref (al 40 0)] al sh S (yR al sh (some (.int (S 40 0 0))) S) := by
  refine Ct.of (lv := [(0, .ref (al 40 0))]) (by decide) rfl (Nat.le_of_ble_eq_true rfl) rfl ?_
  intro p_ e_ s_ m_ below_ meth_ c_ cx hlk hr hnm9
  refine j_aload_n (j := 0) cx dX3_thrown_0 rfl rfl (pc' := 1) rfl ?_
  refine j_get (fk := 0) (ref := "TerminalYardModel") (v := .int (S 40 0 0)) cx hX.1 rfl (by decide +kernel) (by decide) (by decide +kernel) (fun _ h => h) (yV_i rfl) rfl dX3_thrown_1 (pc' := 4) rfl ?_
  exact j_iret (ty := .int) cx hlk hr rfl (Nat.le_of_ble_eq_true rfl) (Nat.le_of_ble_eq_true rfl) dX3_thrown_4 ⟨rfl, rfl, rfl, rfl⟩
set_option maxHeartbeats 4000000 in
set_option maxRecDepth 100000 in
theorem c_X3_time {l : Launch} {Z : yL} {al : yAl} {sh : ySh} {S : yS}  (hX : YM Z sh) : Ct l yX3_time wsX3_time ({ frames := 0, cells := 0, slots := 0, locals := 0 }) 0 0 Z [.ref (al 40 0)] al sh S (yR al sh (some (.int (S 40 0 1))) (sup S 40 0 0 0)) := by
  refine Ct.of (lv := [(0, .ref (al 40 0))]) (by decide) rfl (Nat.le_of_ble_eq_true rfl) rfl ?_
  intro p_ e_ s_ m_ below_ meth_ c_ cx hlk hr hnm9
  refine j_aload_n (j := 0) cx dX3_time_0 rfl rfl (pc' := 1) rfl ?_
  refine j_iconst (v := 0) cx dX3_time_1 (by decide) (pc' := 2) rfl ?_
  refine j_puti (fk := 0) (ref := "TerminalYardModel") (ty := .int) cx hX.1 rfl (by decide +kernel) (by decide) (by decide +kernel) (fun _ h => h) tyX3 tyX3_ok nmX3 rfl (by decide +kernel) rfl rfl rfl rfl dX3_time_2 (pc' := 5) rfl ?_
  refine j_aload_n (j := 0) cx dX3_time_5 rfl rfl (pc' := 6) rfl ?_
  refine j_get (fk := 1) (ref := "TerminalYardModel") (v := .int (S 40 0 1)) cx hX.1 rfl (by decide +kernel) (by decide) (by decide +kernel) (fun _ h => h) ((yV_i rfl).trans (congrArg Value.int (by simp [sup, gO, mChg_o, lEmp_o]))) rfl dX3_time_6 (pc' := 9) rfl ?_
  exact j_iret (ty := .int) cx hlk hr rfl (Nat.le_of_ble_eq_true rfl) (Nat.le_of_ble_eq_true rfl) dX3_time_9 ⟨congrArg (fun z => some (Value.int z)) (by simp [sup]), rfl, rfl, rfl⟩
set_option maxHeartbeats 4000000 in
set_option maxRecDepth 100000 in
theorem c_X3_isPool {l : Launch} {Z : yL} {al : yAl} {sh : ySh} {S : yS} {x : Int32} : Ct l yX3_isPool wsX3_isPool ({ frames := 1, cells := 0, slots := 0, locals := 22 }) 0 0 Z [.int x] al sh S (yR al sh (some (.int (bI (¬ oR 0 2 x)))) S) := by
  refine Ct.of (lv := [(0, .int x)]) (by decide) rfl (Nat.le_of_ble_eq_true rfl) rfl ?_
  intro p_ e_ s_ m_ below_ meth_ c_ cx hlk hr hnm9
  refine j_iload_n (j := 0) cx dX3_isPool_0 rfl rfl (pc' := 1) rfl ?_
  refine j_iconst (v := 0) cx dX3_isPool_1 (by decide) (pc' := 2) rfl ?_
  refine j_iconst (v := 2) cx dX3_isPool_2 (by decide) (pc' := 3) rfl ?_
  refine j_cSR (cells1 := 0) (slots1 := 0) (st1 := [.int (bI (¬ oR 0 2 x))]) (As := [.int x, .int 0, .int 2]) (rest := []) cx (c_X3_in) gX3_isPool_X3_in rfl rfl rfl 3 rfl (by decide +kernel) ⟨Nat.le_of_ble_eq_true rfl, Nat.le_of_ble_eq_true rfl⟩ rfl (Nat.le_of_ble_eq_true rfl) dX3_isPool_3 ⟨Nat.le_of_ble_eq_true rfl, Nat.le_of_ble_eq_true rfl⟩ (pc' := 6) rfl rfl rfl rfl ?_
  exact j_iret (ty := .boolean) cx hlk hr bI_z (Nat.le_of_ble_eq_true rfl) (Nat.le_of_ble_eq_true rfl) dX3_isPool_6 ⟨rfl, rfl, rfl, rfl⟩
set_option maxHeartbeats 4000000 in
set_option maxRecDepth 100000 in
theorem c_X3_isDepartment {l : Launch} {Z : yL} {al : yAl} {sh : ySh} {S : yS} {x : Int32} : Ct l yX3_isDepartment wsX3_isDepartment ({ frames := 1, cells := 0, slots := 0, locals := 22 }) 0 0 Z [.int x] al sh S (yR al sh (some (.int (bI (¬ oR 0 3 x)))) S) := by
  refine Ct.of (lv := [(0, .int x)]) (by decide) rfl (Nat.le_of_ble_eq_true rfl) rfl ?_
  intro p_ e_ s_ m_ below_ meth_ c_ cx hlk hr hnm9
  refine j_iload_n (j := 0) cx dX3_isDepartment_0 rfl rfl (pc' := 1) rfl ?_
  refine j_iconst (v := 0) cx dX3_isDepartment_1 (by decide) (pc' := 2) rfl ?_
  refine j_iconst (v := 3) cx dX3_isDepartment_2 (by decide) (pc' := 3) rfl ?_
  refine j_cSR (cells1 := 0) (slots1 := 0) (st1 := [.int (bI (¬ oR 0 3 x))]) (As := [.int x, .int 0, .int 3]) (rest := []) cx (c_X3_in) gX3_isDepartment_X3_in rfl rfl rfl 3 rfl (by decide +kernel) ⟨Nat.le_of_ble_eq_true rfl, Nat.le_of_ble_eq_true rfl⟩ rfl (Nat.le_of_ble_eq_true rfl) dX3_isDepartment_3 ⟨Nat.le_of_ble_eq_true rfl, Nat.le_of_ble_eq_true rfl⟩ (pc' := 6) rfl rfl rfl rfl ?_
  exact j_iret (ty := .boolean) cx hlk hr bI_z (Nat.le_of_ble_eq_true rfl) (Nat.le_of_ble_eq_true rfl) dX3_isDepartment_6 ⟨rfl, rfl, rfl, rfl⟩
set_option maxHeartbeats 4000000 in
set_option maxRecDepth 100000 in
theorem c_X3_isUser {l : Launch} {Z : yL} {al : yAl} {sh : ySh} {S : yS} {x : Int32} : Ct l yX3_isUser wsX3_isUser ({ frames := 1, cells := 0, slots := 0, locals := 22 }) 0 0 Z [.int x] al sh S (yR al sh (some (.int (bI (¬ oR 0 9 x)))) S) := by
  refine Ct.of (lv := [(0, .int x)]) (by decide) rfl (Nat.le_of_ble_eq_true rfl) rfl ?_
  intro p_ e_ s_ m_ below_ meth_ c_ cx hlk hr hnm9
  refine j_iload_n (j := 0) cx dX3_isUser_0 rfl rfl (pc' := 1) rfl ?_
  refine j_iconst (v := 0) cx dX3_isUser_1 (by decide) (pc' := 2) rfl ?_
  refine j_bipush (v := 9) cx dX3_isUser_2 (by decide) (pc' := 4) rfl ?_
  refine j_cSR (cells1 := 0) (slots1 := 0) (st1 := [.int (bI (¬ oR 0 9 x))]) (As := [.int x, .int 0, .int 9]) (rest := []) cx (c_X3_in) gX3_isUser_X3_in rfl rfl rfl 3 rfl (by decide +kernel) ⟨Nat.le_of_ble_eq_true rfl, Nat.le_of_ble_eq_true rfl⟩ rfl (Nat.le_of_ble_eq_true rfl) dX3_isUser_4 ⟨Nat.le_of_ble_eq_true rfl, Nat.le_of_ble_eq_true rfl⟩ (pc' := 7) rfl rfl rfl rfl ?_
  exact j_iret (ty := .boolean) cx hlk hr bI_z (Nat.le_of_ble_eq_true rfl) (Nat.le_of_ble_eq_true rfl) dX3_isUser_7 ⟨rfl, rfl, rfl, rfl⟩
set_option maxHeartbeats 4000000 in
set_option maxRecDepth 100000 in
theorem c_X3_isMachine {l : Launch} {Z : yL} {al : yAl} {sh : ySh} {S : yS} {nm ns : Nat} {x : Int32} (hX : YM Z sh) (hI : XI S nm ns) : Ct l yX3_isMachine wsX3_isMachine ({ frames := 1, cells := 0, slots := 0, locals := 22 }) 0 0 Z [.ref (al 40 0), .int x] al sh S (yR al sh (some (.int (bI (¬ oN nm x)))) S) := by
  obtain ⟨hm, hs, hnm, hns, hus, hde, hmo, hpo, hro, hho, hen⟩ := id hI
  refine Ct.of (lv := [(0, .ref (al 40 0)), (1, .int x)]) (by decide) rfl (Nat.le_of_ble_eq_true rfl) rfl ?_
  intro p_ e_ s_ m_ below_ meth_ c_ cx hlk hr hnm9
  refine j_iload_n (j := 1) cx dX3_isMachine_0 rfl rfl (pc' := 1) rfl ?_
  refine j_iconst (v := 0) cx dX3_isMachine_1 (by decide) (pc' := 2) rfl ?_
  refine j_aload_n (j := 0) cx dX3_isMachine_2 rfl rfl (pc' := 3) rfl ?_
  refine j_get (fk := 4) (ref := "TerminalYardModel") (v := .int (nI nm)) cx hX.1 rfl (by decide +kernel) (by decide) (by decide +kernel) (fun _ h => h) ((yV_i rfl).trans (congrArg Value.int hm)) rfl dX3_isMachine_3 (pc' := 6) rfl ?_
  refine j_iconst (v := 1) cx dX3_isMachine_6 (by decide) (pc' := 7) rfl ?_
  refine j_isub cx dX3_isMachine_7 (pc' := 8) rfl ?_
  refine j_cSR (cells1 := 0) (slots1 := 0) (st1 := [.int (bI (¬ oR 0 ((nI nm) - 1) x))]) (As := [.int x, .int 0, .int ((nI nm) - 1)]) (rest := []) cx (c_X3_in) gX3_isMachine_X3_in rfl rfl rfl 3 rfl (by decide +kernel) ⟨Nat.le_of_ble_eq_true rfl, Nat.le_of_ble_eq_true rfl⟩ rfl (Nat.le_of_ble_eq_true rfl) dX3_isMachine_8 ⟨Nat.le_of_ble_eq_true rfl, Nat.le_of_ble_eq_true rfl⟩ (pc' := 11) rfl rfl rfl rfl ?_
  exact j_iret (ty := .boolean) cx hlk hr bI_z (Nat.le_of_ble_eq_true rfl) (Nat.le_of_ble_eq_true rfl) dX3_isMachine_11 ⟨congrArg (fun z => some (Value.int z)) (bI_c (not_congr (oR_oN (by omega)))), rfl, rfl, rfl⟩
set_option maxHeartbeats 4000000 in
set_option maxRecDepth 100000 in
theorem c_X3_isSession {l : Launch} {Z : yL} {al : yAl} {sh : ySh} {S : yS} {nm ns : Nat} {x : Int32} (hX : YM Z sh) (hI : XI S nm ns) : Ct l yX3_isSession wsX3_isSession ({ frames := 1, cells := 0, slots := 0, locals := 22 }) 0 0 Z [.ref (al 40 0), .int x] al sh S (yR al sh (some (.int (bI (¬ oN ns x)))) S) := by
  obtain ⟨hm, hs, hnm, hns, hus, hde, hmo, hpo, hro, hho, hen⟩ := id hI
  refine Ct.of (lv := [(0, .ref (al 40 0)), (1, .int x)]) (by decide) rfl (Nat.le_of_ble_eq_true rfl) rfl ?_
  intro p_ e_ s_ m_ below_ meth_ c_ cx hlk hr hnm9
  refine j_iload_n (j := 1) cx dX3_isSession_0 rfl rfl (pc' := 1) rfl ?_
  refine j_iconst (v := 0) cx dX3_isSession_1 (by decide) (pc' := 2) rfl ?_
  refine j_aload_n (j := 0) cx dX3_isSession_2 rfl rfl (pc' := 3) rfl ?_
  refine j_get (fk := 12) (ref := "TerminalYardModel") (v := .int (nI ns)) cx hX.1 rfl (by decide +kernel) (by decide) (by decide +kernel) (fun _ h => h) ((yV_i rfl).trans (congrArg Value.int hs)) rfl dX3_isSession_3 (pc' := 6) rfl ?_
  refine j_iconst (v := 1) cx dX3_isSession_6 (by decide) (pc' := 7) rfl ?_
  refine j_isub cx dX3_isSession_7 (pc' := 8) rfl ?_
  refine j_cSR (cells1 := 0) (slots1 := 0) (st1 := [.int (bI (¬ oR 0 ((nI ns) - 1) x))]) (As := [.int x, .int 0, .int ((nI ns) - 1)]) (rest := []) cx (c_X3_in) gX3_isSession_X3_in rfl rfl rfl 3 rfl (by decide +kernel) ⟨Nat.le_of_ble_eq_true rfl, Nat.le_of_ble_eq_true rfl⟩ rfl (Nat.le_of_ble_eq_true rfl) dX3_isSession_8 ⟨Nat.le_of_ble_eq_true rfl, Nat.le_of_ble_eq_true rfl⟩ (pc' := 11) rfl rfl rfl rfl ?_
  exact j_iret (ty := .boolean) cx hlk hr bI_z (Nat.le_of_ble_eq_true rfl) (Nat.le_of_ble_eq_true rfl) dX3_isSession_11 ⟨congrArg (fun z => some (Value.int z)) (bI_c (not_congr (oR_oN (by omega)))), rfl, rfl, rfl⟩
set_option maxHeartbeats 4000000 in
set_option maxRecDepth 100000 in
theorem c_X3_isLive {l : Launch} {Z : yL} {al : yAl} {sh : ySh} {S : yS} {i : Nat} {e : Int32} (hX : YM Z sh) (hi : i < 40) (he : S 59 0 i = e) : Ct l yX3_isLive wsX3_isLive ({ frames := 0, cells := 0, slots := 0, locals := 0 }) 0 0 Z [.ref (al 40 0), .int (nI i)] al sh S (yR al sh (some (.int (bI (e = 0)))) S) := by
  refine Ct.of (lv := [(0, .ref (al 40 0)), (1, .int (nI i))]) (by decide) rfl (Nat.le_of_ble_eq_true rfl) rfl ?_
  intro p_ e_ s_ m_ below_ meth_ c_ cx hlk hr hnm9
  refine j_aload_n (j := 0) cx dX3_isLive_0 rfl rfl (pc' := 1) rfl ?_
  refine j_get (fk := 19) (ref := "TerminalYardModel") (v := .ref (al 59 0)) cx hX.1 rfl (by decide +kernel) (by decide) (by decide +kernel) (fun _ h => h) (yV_r (k := (59, 0)) rfl) rfl dX3_isLive_1 (pc' := 4) rfl ?_
  refine j_iload_n (j := 1) cx dX3_isLive_4 rfl rfl (pc' := 5) rfl ?_
  refine j_cald (v := S 59 0 i) cx hX.2.2.2.2.2.2.2.2.2.2.2.2.2.2.2.2.1 rfl (vp_in_nI (by omega) (by omega)) (by rw [(nI_clamp (by omega))]) rfl dX3_isLive_5 (pc' := 6) rfl ?_
  refine j_if_ne (tgt := 13) cx dX3_isLive_6 (by decide) (pc' := 9) rfl (fun h1 => ?_) (fun h1 => ?_)
  · refine j_iconst (v := 0) cx dX3_isLive_13 (by decide) (pc' := 14) rfl ?_
    exact j_iret (ty := .boolean) cx hlk hr rfl (Nat.le_of_ble_eq_true rfl) (Nat.le_of_ble_eq_true rfl) dX3_isLive_14 ⟨congrArg (fun z => some (Value.int z)) (by simp [bI, ← he, h1]), rfl, rfl, rfl⟩
  · refine j_iconst (v := 1) cx dX3_isLive_9 (by decide) (pc' := 10) rfl ?_
    refine j_goto (tgt := 14) cx dX3_isLive_10 (by decide) ?_
    exact j_iret (ty := .boolean) cx hlk hr rfl (Nat.le_of_ble_eq_true rfl) (Nat.le_of_ble_eq_true rfl) dX3_isLive_14 ⟨congrArg (fun z => some (Value.int z)) (by simp [bI, ← he, h1]), rfl, rfl, rfl⟩
set_option maxHeartbeats 4000000 in
set_option maxRecDepth 100000 in
theorem c_X3_liveOn {l : Launch} {Z : yL} {al : yAl} {sh : ySh} {S : yS} {nm ns : Nat} {m : Int32} {e mo : Nat → Int32} (hX : YM Z sh) (hI : XI S nm ns) (he : e = S 59 0) (hmo9 : mo = S 55 0) : Ct l yX3_liveOn wsX3_liveOn ({ frames := 1, cells := 0, slots := 0, locals := 21 }) 0 0 Z [.ref (al 40 0), .int m] al sh S (yR al sh (some (.int (mOn e mo m 0 0 ns))) S) := by
  obtain ⟨hm, hs, hnm, hns, hus, hde, hmo, hpo, hro, hho, hen⟩ := id hI
  refine Ct.of (lv := [(0, .ref (al 40 0)), (1, .int m)]) (by decide) rfl (Nat.le_of_ble_eq_true rfl) rfl ?_
  intro p_ e_ s_ m_ below_ meth_ c_ cx hlk hr hnm9
  have loop : ∀ (k i : Nat) (a : Int32), i + k = ns → mOn e mo m i a k = mOn e mo m 0 0 ns → J p_ l e_ ({ frames := 1, cells := 0, slots := 0, locals := 21 }) s_ m_ (([.ref (al 40 0), .int m] : List Value).toArray) below_ meth_ c_ 4 Z 0 0 (MQ below_ (Qn Z (yR al sh (some (.int (mOn e mo m 0 0 ns))) S)) (([.ref (al 40 0), .int m] : List Value).toArray) s_ 0 0 (yF Z)) al sh S 4 [(0, .ref (al 40 0)), (1, .int m), (2, .int a), (3, .int (nI i))] [] := by
    intro k
    induction k with
    | zero =>
      intro i a hik hq
      have hik2 : i = ns := by omega
      subst hik2
      refine j_iload_n (j := 3) cx dX3_liveOn_4 rfl rfl (pc' := 5) rfl ?_
      refine j_aload_n (j := 0) cx dX3_liveOn_5 rfl rfl (pc' := 6) rfl ?_
      refine j_get (fk := 12) (ref := "TerminalYardModel") (v := .int (nI i)) cx hX.1 rfl (by decide +kernel) (by decide) (by decide +kernel) (fun _ h => h) ((yV_i rfl).trans (congrArg Value.int hs)) rfl dX3_liveOn_6 (pc' := 9) rfl ?_
      refine j_icmp_ge (tgt := 44) cx dX3_liveOn_9 (by decide) (pc' := 12) rfl (fun _ => ?_) (fun h => by first | exact absurd h nI_gg | exact absurd nI_gg h)
      refine j_iload_n (j := 2) cx dX3_liveOn_44 rfl rfl (pc' := 45) rfl ?_
      exact j_iret (ty := .int) cx hlk hr rfl (Nat.le_of_ble_eq_true rfl) (Nat.le_of_ble_eq_true rfl) dX3_liveOn_45 ⟨congrArg (fun z => some (Value.int z)) hq, rfl, rfl, rfl⟩
    | succ k ih =>
      intro i a hik hq
      have hi : i < ns := by omega
      refine j_iload_n (j := 3) cx dX3_liveOn_4 rfl rfl (pc' := 5) rfl ?_
      refine j_aload_n (j := 0) cx dX3_liveOn_5 rfl rfl (pc' := 6) rfl ?_
      refine j_get (fk := 12) (ref := "TerminalYardModel") (v := .int (nI ns)) cx hX.1 rfl (by decide +kernel) (by decide) (by decide +kernel) (fun _ h => h) ((yV_i rfl).trans (congrArg Value.int hs)) rfl dX3_liveOn_6 (pc' := 9) rfl ?_
      refine j_icmp_ge (tgt := 44) cx dX3_liveOn_9 (by decide) (pc' := 12) rfl (fun h => by first | exact absurd h (nI_ge hi (by omega)) | exact absurd (nI_ge hi (by omega)) h) (fun _ => ?_)
      refine j_iload_n (j := 2) cx dX3_liveOn_12 rfl rfl (pc' := 13) rfl ?_
      refine j_aload_n (j := 0) cx dX3_liveOn_13 rfl rfl (pc' := 14) rfl ?_
      refine j_iload_n (j := 3) cx dX3_liveOn_14 rfl rfl (pc' := 15) rfl ?_
      refine j_cVR (cells1 := 0) (slots1 := 0) (st1 := [.int (bI (S 59 0 i = 0)), .int a]) (As := [.int (nI i)]) (rest := [.int a]) cx (c_X3_isLive (S := S) (i := i) (e := S 59 0 i) hX (by omega) rfl) gX3_liveOn_X3_isLive rfl rfl rfl 1 rfl (by decide +kernel) ⟨Nat.le_of_ble_eq_true rfl, Nat.le_of_ble_eq_true rfl⟩ hX.1 rfl rfl rfl rfl (Nat.le_of_ble_eq_true rfl) dX3_liveOn_15 ⟨Nat.le_of_ble_eq_true rfl, Nat.le_of_ble_eq_true rfl⟩ (pc' := 18) rfl rfl rfl rfl ?_
      refine j_ifb_eq (tgt := 35) cx dX3_liveOn_18 (by decide) (pc' := 21) rfl (fun h3 => ?_) (fun h3 => ?_)
      · refine j_iconst (v := 0) cx dX3_liveOn_35 (by decide) (pc' := 36) rfl ?_
        refine j_iadd cx dX3_liveOn_36 (pc' := 37) rfl ?_
        refine j_istore_n (lv' := [(2, .int (a + 0)), (0, .ref (al 40 0)), (1, .int m), (3, .int (nI i))]) cx dX3_liveOn_37 rfl (by decide) rfl (pc' := 38) rfl ?_
        refine j_iinc (j := 3) (v := nI (i + 1)) (lv' := [(3, .int (nI (i + 1))), (2, .int (a + 0)), (0, .ref (al 40 0)), (1, .int m)]) cx dX3_liveOn_38 rfl (nI_1 i) (by decide) rfl (pc' := 41) rfl ?_
        refine j_goto (tgt := 4) cx dX3_liveOn_41 (by decide) ?_
        exact J.sub [2, 3, 1, 0] rfl (ih (i + 1) _ (by omega) (by rw [← hq]; simp [mOn, he, hmo9, h3]))
      · refine j_aload_n (j := 0) cx dX3_liveOn_21 rfl rfl (pc' := 22) rfl ?_
        refine j_get (fk := 15) (ref := "TerminalYardModel") (v := .ref (al 55 0)) cx hX.1 rfl (by decide +kernel) (by decide) (by decide +kernel) (fun _ h => h) (yV_r (k := (55, 0)) rfl) rfl dX3_liveOn_22 (pc' := 25) rfl ?_
        refine j_iload_n (j := 3) cx dX3_liveOn_25 rfl rfl (pc' := 26) rfl ?_
        refine j_iald (v := S 55 0 i) cx hX.2.2.2.2.2.2.2.2.2.2.2.2.1 rfl (vp_in_nI (by omega) (by omega)) (by rw [(nI_clamp (by omega))]) rfl dX3_liveOn_26 (pc' := 27) rfl ?_
        refine j_iload_n (j := 1) cx dX3_liveOn_27 rfl rfl (pc' := 28) rfl ?_
        refine j_icmp_ne (tgt := 35) cx dX3_liveOn_28 (by decide) (pc' := 31) rfl (fun h4 => ?_) (fun h4 => ?_)
        · refine j_iconst (v := 0) cx dX3_liveOn_35 (by decide) (pc' := 36) rfl ?_
          refine j_iadd cx dX3_liveOn_36 (pc' := 37) rfl ?_
          refine j_istore_n (lv' := [(2, .int (a + 0)), (0, .ref (al 40 0)), (1, .int m), (3, .int (nI i))]) cx dX3_liveOn_37 rfl (by decide) rfl (pc' := 38) rfl ?_
          refine j_iinc (j := 3) (v := nI (i + 1)) (lv' := [(3, .int (nI (i + 1))), (2, .int (a + 0)), (0, .ref (al 40 0)), (1, .int m)]) cx dX3_liveOn_38 rfl (nI_1 i) (by decide) rfl (pc' := 41) rfl ?_
          refine j_goto (tgt := 4) cx dX3_liveOn_41 (by decide) ?_
          exact J.sub [2, 3, 1, 0] rfl (ih (i + 1) _ (by omega) (by rw [← hq]; simp [mOn, he, hmo9, h3, h4]))
        · refine j_iconst (v := 1) cx dX3_liveOn_31 (by decide) (pc' := 32) rfl ?_
          refine j_goto (tgt := 36) cx dX3_liveOn_32 (by decide) ?_
          refine j_iadd cx dX3_liveOn_36 (pc' := 37) rfl ?_
          refine j_istore_n (lv' := [(2, .int (a + 1)), (0, .ref (al 40 0)), (1, .int m), (3, .int (nI i))]) cx dX3_liveOn_37 rfl (by decide) rfl (pc' := 38) rfl ?_
          refine j_iinc (j := 3) (v := nI (i + 1)) (lv' := [(3, .int (nI (i + 1))), (2, .int (a + 1)), (0, .ref (al 40 0)), (1, .int m)]) cx dX3_liveOn_38 rfl (nI_1 i) (by decide) rfl (pc' := 41) rfl ?_
          refine j_goto (tgt := 4) cx dX3_liveOn_41 (by decide) ?_
          exact J.sub [2, 3, 1, 0] rfl (ih (i + 1) _ (by omega) (by rw [← hq]; simp [mOn, he, hmo9, h3, h4]))
  refine j_iconst (v := 0) cx dX3_liveOn_0 (by decide) (pc' := 1) rfl ?_
  refine j_istore_n (lv' := [(2, .int 0), (0, .ref (al 40 0)), (1, .int m)]) cx dX3_liveOn_1 rfl (by decide) rfl (pc' := 2) rfl ?_
  refine j_iconst (v := 0) cx dX3_liveOn_2 (by decide) (pc' := 3) rfl ?_
  refine j_istore_n (lv' := [(3, .int 0), (2, .int 0), (0, .ref (al 40 0)), (1, .int m)]) cx dX3_liveOn_3 rfl (by decide) rfl (pc' := 4) rfl ?_
  exact J.sub [2, 3, 1, 0] rfl (loop ns 0 0 (by omega) rfl)
