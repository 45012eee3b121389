set_option maxHeartbeats 4000000 in
set_option maxRecDepth 100000 in
theorem c_X2_setLimits {l : Launch} (hl0 : l.stackTraces = false) {Z : yL} {al : yAl} {sh : ySh} {S : yS} {nm ns : Nat} {mu : Nat → Nat} {p i h : Int32} (hY : YC Z al sh nm ns mu) : Cq l yX2_setLimits wsX2_setLimits ({ frames := 7, cells := 2, slots := 12, locals := 110 }) 2 12 Z [.ref (al 0 0), .int p, .int i, .int h] al sh S (yRp (kSet p i h = 0) al sh (some (.int (S 1 0 p.toNatClampNeg))) (sup (sup S 1 0 p.toNatClampNeg i) 2 0 p.toNatClampNeg h)) (yx [(1, xIA)] (kSet p i h)) := by
  refine Cq.of (lv := [(0, .ref (al 0 0)), (1, .int p), (2, .int i), (3, .int h)]) (by decide) rfl (Nat.le_of_ble_eq_true rfl) rfl ?_
  intro p_ e_ s_ m_ below_ meth_ c_ cx hlk hr htb
  refine j_iload_n (j := 1) cx dX2_setLimits_0 rfl rfl (pc' := 1) rfl ?_
  refine j_cSX (cells1 := 1) (slots1 := 6) (st1 := []) (As := [.int p]) (rest := []) cx (c_X2_checkPool hl0) gX2_setLimits_X2_checkPool rfl rfl rfl 1 rfl (by decide +kernel) ⟨Nat.le_of_ble_eq_true rfl, Nat.le_of_ble_eq_true rfl⟩ rfl (Nat.le_of_ble_eq_true rfl) dX2_setLimits_1 ⟨Nat.le_of_ble_eq_true rfl, Nat.le_of_ble_eq_true rfl⟩ (pc' := 4) rfl rfl rfl rfl (fun E hE => jx_out hlk htb (Nat.le_of_ble_eq_true rfl) (Nat.le_of_ble_eq_true rfl) ⟨(1, xIA), by simp, hE.1, by have hq := hE.2; simp [kSet, *]⟩) (fun p1 => ?_)
  refine j_iload_n (j := 2) cx dX2_setLimits_4 rfl rfl (pc' := 5) rfl ?_
  refine j_iconst (v := 1) cx dX2_setLimits_5 (by decide) (pc' := 6) rfl ?_
  refine j_sipush (v := 999) cx dX2_setLimits_6 (by decide) (pc' := 9) rfl ?_
  refine j_cSR (cells1 := 1) (slots1 := 6) (st1 := [.int (bI (oR 1 999 i))]) (As := [.int i, .int 1, .int 999]) (rest := []) cx (c_X2_isOutside) gX2_setLimits_X2_isOutside rfl rfl rfl 3 rfl (by decide +kernel) ⟨Nat.le_of_ble_eq_true rfl, Nat.le_of_ble_eq_true rfl⟩ rfl (Nat.le_of_ble_eq_true rfl) dX2_setLimits_9 ⟨Nat.le_of_ble_eq_true rfl, Nat.le_of_ble_eq_true rfl⟩ (pc' := 12) rfl rfl rfl rfl ?_
  refine j_ifb_ne (tgt := 26) cx dX2_setLimits_12 (by decide) (pc' := 15) rfl (fun h3 => ?_) (fun h3 => ?_)
  · exact j_throwS (ik := 58) (ic := 62) (is := 85) (cls := "java/lang/IllegalArgumentException") (text := "a limit is from 1 to 999") (names := ["java/lang/RuntimeException", "java/lang/Exception"]) cx hl0 hlk htb rfl (by decide) (by decide) (by decide) (by decide +kernel) (by decide +kernel) (by decide +kernel) (by decide +kernel) (by decide +kernel) dX2_setLimits_26 dX2_setLimits_29 dX2_setLimits_30 dX2_setLimits_32 dX2_setLimits_35 (Nat.le_of_ble_eq_true rfl) (Nat.le_of_ble_eq_true rfl) (Nat.le_of_ble_eq_true rfl) (Nat.le_of_ble_eq_true rfl) (Nat.le_of_ble_eq_true rfl) (Nat.le_of_ble_eq_true rfl) ⟨(1, xIA), by simp, rfl, by simp [kSet, *]⟩
  · refine j_iload_n (j := 3) cx dX2_setLimits_15 rfl rfl (pc' := 16) rfl ?_
    refine j_iconst (v := 1) cx dX2_setLimits_16 (by decide) (pc' := 17) rfl ?_
    refine j_sipush (v := 999) cx dX2_setLimits_17 (by decide) (pc' := 20) rfl ?_
    refine j_cSR (cells1 := 1) (slots1 := 6) (st1 := [.int (bI (oR 1 999 h))]) (As := [.int h, .int 1, .int 999]) (rest := []) cx (c_X2_isOutside) gX2_setLimits_X2_isOutside rfl rfl rfl 3 rfl (by decide +kernel) ⟨Nat.le_of_ble_eq_true rfl, Nat.le_of_ble_eq_true rfl⟩ rfl (Nat.le_of_ble_eq_true rfl) dX2_setLimits_20 ⟨Nat.le_of_ble_eq_true rfl, Nat.le_of_ble_eq_true rfl⟩ (pc' := 23) rfl rfl rfl rfl ?_
    refine j_ifb_eq (tgt := 36) cx dX2_setLimits_23 (by decide) (pc' := 26) rfl (fun h5 => ?_) (fun h5 => ?_)
    · refine j_aload_n (j := 0) cx dX2_setLimits_36 rfl rfl (pc' := 37) rfl ?_
      refine j_get (fk := 0) (ref := "TerminalYard") (v := .ref (al 1 0)) cx hY.1 rfl (by decide +kernel) (by decide) (by decide +kernel) (fun _ h => h) (yV_r (k := (1, 0)) rfl) rfl dX2_setLimits_37 (pc' := 40) rfl ?_
      refine j_iload_n (j := 1) cx dX2_setLimits_40 rfl rfl (pc' := 41) rfl ?_
      refine j_iald (v := S 1 0 p.toNatClampNeg) cx hY.2.1 rfl (vp_in_out (b := 2) (by decide) p1) rfl rfl dX2_setLimits_41 (pc' := 42) rfl ?_
      refine j_istore (lv' := [(4, .int (S 1 0 p.toNatClampNeg)), (0, .ref (al 0 0)), (1, .int p), (2, .int i), (3, .int h)]) cx dX2_setLimits_42 (by decide) rfl (pc' := 44) rfl ?_
      refine j_aload_n (j := 1) cx dX2_setLimits_44 rfl rfl (pc' := 45) rfl ?_
      refine j_get (fk := 0) (ref := "TerminalYard") (v := .ref (al 1 0)) cx hY.1 rfl (by decide +kernel) (by decide) (by decide +kernel) (fun _ h => h) (yV_r (k := (1, 0)) rfl) rfl dX2_setLimits_45 (pc' := 48) rfl ?_
      refine j_iload_n (j := 2) cx dX2_setLimits_48 rfl rfl (pc' := 49) rfl ?_
      refine j_iload_n (j := 3) cx dX2_setLimits_49 rfl rfl (pc' := 50) rfl ?_
      refine j_iast (jn := p.toNatClampNeg) cx hY.2.1 rfl (vp_in_out (b := 2) (by decide) p1) rfl rfl dX2_setLimits_50 (pc' := 51) rfl ?_
      refine j_aload_n (j := 1) cx dX2_setLimits_51 rfl rfl (pc' := 52) rfl ?_
      refine j_get (fk := 1) (ref := "TerminalYard") (v := .ref (al 2 0)) cx hY.1 rfl (by decide +kernel) (by decide) (by decide +kernel) (fun _ h => h) (yV_r (k := (2, 0)) rfl) rfl dX2_setLimits_52 (pc' := 55) rfl ?_
      refine j_iload_n (j := 2) cx dX2_setLimits_55 rfl rfl (pc' := 56) rfl ?_
      refine j_iload_n (j := 4) cx dX2_setLimits_56 rfl rfl (pc' := 57) rfl ?_
      refine j_iast (jn := p.toNatClampNeg) cx hY.2.2.1 rfl (vp_in_out (b := 2) (by decide) p1) rfl rfl dX2_setLimits_57 (pc' := 58) rfl ?_
      refine j_iload (j := 0) cx dX2_setLimits_58 rfl (pc' := 60) rfl ?_
      exact J.ret _ (j_iret (ty := .int) cx hlk hr rfl (Nat.le_of_ble_eq_true rfl) (Nat.le_of_ble_eq_true rfl) dX2_setLimits_60 ⟨by simp [kSet, *], rfl, rfl, rfl, rfl⟩)
    · exact j_throwS (ik := 58) (ic := 62) (is := 85) (cls := "java/lang/IllegalArgumentException") (text := "a limit is from 1 to 999") (names := ["java/lang/RuntimeException", "java/lang/Exception"]) cx hl0 hlk htb rfl (by decide) (by decide) (by decide) (by decide +kernel) (by decide +kernel) (by decide +kernel) (by decide +kernel) (by decide +kernel) dX2_setLimits_26 dX2_setLimits_29 dX2_setLimits_30 dX2_setLimits_32 dX2_setLimits_35 (Nat.le_of_ble_eq_true rfl) (Nat.le_of_ble_eq_true rfl) (Nat.le_of_ble_eq_true rfl) (Nat.le_of_ble_eq_true rfl) (Nat.le_of_ble_eq_true rfl) (Nat.le_of_ble_eq_true rfl) ⟨(1, xIA), by simp, rfl, by simp [kSet, *]⟩
set_option maxHeartbeats 4000000 in
set_option maxRecDepth 100000 in
theorem c_X2_assign {l : Launch} (hl0 : l.stackTraces = false) {Z : yL} {al : yAl} {sh : ySh} {S : yS} {nm ns : Nat} {mu : Nat → Nat} {u d : Int32} (hY : YC Z al sh nm ns mu) : Cq l yX2_assign wsX2_assign ({ frames := 7, cells := 2, slots := 12, locals := 110 }) 2 12 Z [.ref (al 0 0), .int u, .int d] al sh S (yRp (kAss u d = 0) al sh (some (.int (S 4 0 u.toNatClampNeg))) (sup S 4 0 u.toNatClampNeg d)) (yx [(1, xIA)] (kAss u d)) := by
  refine Cq.of (lv := [(0, .ref (al 0 0)), (1, .int u), (2, .int d)]) (by decide) rfl (Nat.le_of_ble_eq_true rfl) rfl ?_
  intro p_ e_ s_ m_ below_ meth_ c_ cx hlk hr htb
  refine j_iload_n (j := 1) cx dX2_assign_0 rfl rfl (pc' := 1) rfl ?_
  refine j_cSX (cells1 := 1) (slots1 := 6) (st1 := []) (As := [.int u]) (rest := []) cx (c_X2_checkUser hl0) gX2_assign_X2_checkUser rfl rfl rfl 1 rfl (by decide +kernel) ⟨Nat.le_of_ble_eq_true rfl, Nat.le_of_ble_eq_true rfl⟩ rfl (Nat.le_of_ble_eq_true rfl) dX2_assign_1 ⟨Nat.le_of_ble_eq_true rfl, Nat.le_of_ble_eq_true rfl⟩ (pc' := 4) rfl rfl rfl rfl (fun E hE => jx_out hlk htb (Nat.le_of_ble_eq_true rfl) (Nat.le_of_ble_eq_true rfl) ⟨(1, xIA), by simp, hE.1, by have hq := hE.2; simp [kAss, *]⟩) (fun p1 => ?_)
  refine j_iload_n (j := 2) cx dX2_assign_4 rfl rfl (pc' := 5) rfl ?_
  refine j_cSX (cells1 := 2) (slots1 := 12) (st1 := []) (As := [.int d]) (rest := []) cx (c_X2_checkDepartment hl0) gX2_assign_X2_checkDepartment rfl rfl rfl 1 rfl (by decide +kernel) ⟨Nat.le_of_ble_eq_true rfl, Nat.le_of_ble_eq_true rfl⟩ rfl (Nat.le_of_ble_eq_true rfl) dX2_assign_5 ⟨Nat.le_of_ble_eq_true rfl, Nat.le_of_ble_eq_true rfl⟩ (pc' := 8) rfl rfl rfl rfl (fun E hE => jx_out hlk htb (Nat.le_of_ble_eq_true rfl) (Nat.le_of_ble_eq_true rfl) ⟨(1, xIA), by simp, hE.1, by have hq := hE.2; simp [kAss, *]⟩) (fun p2 => ?_)
  refine j_aload_n (j := 0) cx dX2_assign_8 rfl rfl (pc' := 9) rfl ?_
  refine j_get (fk := 3) (ref := "TerminalYard") (v := .ref (al 4 0)) cx hY.1 rfl (by decide +kernel) (by decide) (by decide +kernel) (fun _ h => h) (yV_r (k := (4, 0)) rfl) rfl dX2_assign_9 (pc' := 12) rfl ?_
  refine j_iload_n (j := 1) cx dX2_assign_12 rfl rfl (pc' := 13) rfl ?_
  refine j_iald (v := S 4 0 u.toNatClampNeg) cx hY.2.2.2.2.1 rfl (vp_in_out (b := 9) (by decide) p1) rfl rfl dX2_assign_13 (pc' := 14) rfl ?_
  refine j_istore_n (lv' := [(3, .int (S 4 0 u.toNatClampNeg)), (0, .ref (al 0 0)), (1, .int u), (2, .int d)]) cx dX2_assign_14 rfl (by decide) rfl (pc' := 15) rfl ?_
  refine j_aload_n (j := 1) cx dX2_assign_15 rfl rfl (pc' := 16) rfl ?_
  refine j_get (fk := 3) (ref := "TerminalYard") (v := .ref (al 4 0)) cx hY.1 rfl (by decide +kernel) (by decide) (by decide +kernel) (fun _ h => h) (yV_r (k := (4, 0)) rfl) rfl dX2_assign_16 (pc' := 19) rfl ?_
  refine j_iload_n (j := 2) cx dX2_assign_19 rfl rfl (pc' := 20) rfl ?_
  refine j_iload_n (j := 3) cx dX2_assign_20 rfl rfl (pc' := 21) rfl ?_
  refine j_iast (jn := u.toNatClampNeg) cx hY.2.2.2.2.1 rfl (vp_in_out (b := 9) (by decide) p1) rfl rfl dX2_assign_21 (pc' := 22) rfl ?_
  refine j_iload_n (j := 0) cx dX2_assign_22 rfl rfl (pc' := 23) rfl ?_
  exact J.ret _ (j_iret (ty := .int) cx hlk hr rfl (Nat.le_of_ble_eq_true rfl) (Nat.le_of_ble_eq_true rfl) dX2_assign_23 ⟨by simp [kAss, *], rfl, rfl, rfl, rfl⟩)
set_option maxHeartbeats 4000000 in
set_option maxRecDepth 100000 in
theorem c_X2_minutes {l : Launch} (hl0 : l.stackTraces = false) {Z : yL} {al : yAl} {sh : ySh} {S : yS} {nm ns : Nat} {mu : Nat → Nat} {d : Int32} (hY : YC Z al sh nm ns mu) : Cq l yX2_minutes wsX2_minutes ({ frames := 7, cells := 1, slots := 6, locals := 110 }) 1 6 Z [.ref (al 0 0), .int d] al sh S (yRp (kDep d = 0) al sh (some (.int (S 5 0 d.toNatClampNeg))) S) (yx [(1, xIA)] (kDep d)) := by
  refine Cq.of (lv := [(0, .ref (al 0 0)), (1, .int d)]) (by decide) rfl (Nat.le_of_ble_eq_true rfl) rfl ?_
  intro p_ e_ s_ m_ below_ meth_ c_ cx hlk hr htb
  refine j_iload_n (j := 1) cx dX2_minutes_0 rfl rfl (pc' := 1) rfl ?_
  refine j_cSX (cells1 := 1) (slots1 := 6) (st1 := []) (As := [.int d]) (rest := []) cx (c_X2_checkDepartment hl0) gX2_minutes_X2_checkDepartment rfl rfl rfl 1 rfl (by decide +kernel) ⟨Nat.le_of_ble_eq_true rfl, Nat.le_of_ble_eq_true rfl⟩ rfl (Nat.le_of_ble_eq_true rfl) dX2_minutes_1 ⟨Nat.le_of_ble_eq_true rfl, Nat.le_of_ble_eq_true rfl⟩ (pc' := 4) rfl rfl rfl rfl (fun E hE => jx_out hlk htb (Nat.le_of_ble_eq_true rfl) (Nat.le_of_ble_eq_true rfl) ⟨(1, xIA), by simp, hE.1, by have hq := hE.2; simp [kDep, *]⟩) (fun p1 => ?_)
  refine j_aload_n (j := 0) cx dX2_minutes_4 rfl rfl (pc' := 5) rfl ?_
  refine j_get (fk := 4) (ref := "TerminalYard") (v := .ref (al 5 0)) cx hY.1 rfl (by decide +kernel) (by decide) (by decide +kernel) (fun _ h => h) (yV_r (k := (5, 0)) rfl) rfl dX2_minutes_5 (pc' := 8) rfl ?_
  refine j_iload_n (j := 1) cx dX2_minutes_8 rfl rfl (pc' := 9) rfl ?_
  refine j_iald (v := S 5 0 d.toNatClampNeg) cx hY.2.2.2.2.2.1 rfl (vp_in_out (b := 3) (by decide) p1) rfl rfl dX2_minutes_9 (pc' := 10) rfl ?_
  exact J.ret _ (j_iret (ty := .int) cx hlk hr rfl (Nat.le_of_ble_eq_true rfl) (Nat.le_of_ble_eq_true rfl) dX2_minutes_10 ⟨by simp [kDep, *], rfl, rfl, rfl, rfl⟩)
set_option maxHeartbeats 4000000 in
set_option maxRecDepth 100000 in
theorem c_X2_buy {l : Launch} (hl0 : l.stackTraces = false) {Z : yL} {al : yAl} {sh : ySh} {S : yS} {nm ns : Nat} {mu : Nat → Nat} {d m : Int32} (hY : YC Z al sh nm ns mu) : Cq l yX2_buy wsX2_buy ({ frames := 7, cells := 3, slots := 18, locals := 110 }) 3 18 Z [.ref (al 0 0), .int d, .int m] al sh S (yRp (kBuy d m (S 5 0 d.toNatClampNeg) = 0) al sh (some (.int (S 5 0 d.toNatClampNeg + m))) (sup (sup S 6 0 d.toNatClampNeg (S 6 0 d.toNatClampNeg + m)) 5 0 d.toNatClampNeg (S 5 0 d.toNatClampNeg + m))) (yx [(1, xIA), (2, xIS)] (kBuy d m (S 5 0 d.toNatClampNeg))) := by
  refine Cq.of (lv := [(0, .ref (al 0 0)), (1, .int d), (2, .int m)]) (by decide) rfl (Nat.le_of_ble_eq_true rfl) rfl ?_
  intro p_ e_ s_ m_ below_ meth_ c_ cx hlk hr htb
  refine j_iload_n (j := 1) cx dX2_buy_0 rfl rfl (pc' := 1) rfl ?_
  refine j_cSX (cells1 := 1) (slots1 := 6) (st1 := []) (As := [.int d]) (rest := []) cx (c_X2_checkDepartment hl0) gX2_buy_X2_checkDepartment rfl rfl rfl 1 rfl (by decide +kernel) ⟨Nat.le_of_ble_eq_true rfl, Nat.le_of_ble_eq_true rfl⟩ rfl (Nat.le_of_ble_eq_true rfl) dX2_buy_1 ⟨Nat.le_of_ble_eq_true rfl, Nat.le_of_ble_eq_true rfl⟩ (pc' := 4) rfl rfl rfl rfl (fun E hE => jx_out hlk htb (Nat.le_of_ble_eq_true rfl) (Nat.le_of_ble_eq_true rfl) ⟨(1, xIA), by simp, hE.1, by have hq := hE.2; simp [kBuy, *]⟩) (fun p1 => ?_)
  refine j_iload_n (j := 2) cx dX2_buy_4 rfl rfl (pc' := 5) rfl ?_
  refine j_cSX (cells1 := 2) (slots1 := 12) (st1 := []) (As := [.int m]) (rest := []) cx (c_X2_checkTrade hl0) gX2_buy_X2_checkTrade rfl rfl rfl 1 rfl (by decide +kernel) ⟨Nat.le_of_ble_eq_true rfl, Nat.le_of_ble_eq_true rfl⟩ rfl (Nat.le_of_ble_eq_true rfl) dX2_buy_5 ⟨Nat.le_of_ble_eq_true rfl, Nat.le_of_ble_eq_true rfl⟩ (pc' := 8) rfl rfl rfl rfl (fun E hE => jx_out hlk htb (Nat.le_of_ble_eq_true rfl) (Nat.le_of_ble_eq_true rfl) ⟨(1, xIA), by simp, hE.1, by have hq := hE.2; simp [kBuy, *]⟩) (fun p2 => ?_)
  refine j_aload_n (j := 0) cx dX2_buy_8 rfl rfl (pc' := 9) rfl ?_
  refine j_get (fk := 4) (ref := "TerminalYard") (v := .ref (al 5 0)) cx hY.1 rfl (by decide +kernel) (by decide) (by decide +kernel) (fun _ h => h) (yV_r (k := (5, 0)) rfl) rfl dX2_buy_9 (pc' := 12) rfl ?_
  refine j_iload_n (j := 1) cx dX2_buy_12 rfl rfl (pc' := 13) rfl ?_
  refine j_iald (v := S 5 0 d.toNatClampNeg) cx hY.2.2.2.2.2.1 rfl (vp_in_out (b := 3) (by decide) p1) rfl rfl dX2_buy_13 (pc' := 14) rfl ?_
  refine j_iload_n (j := 2) cx dX2_buy_14 rfl rfl (pc' := 15) rfl ?_
  refine j_iadd cx dX2_buy_15 (pc' := 16) rfl ?_
  refine j_ldc (v := 99999) cx (by decide +kernel) dX2_buy_16 (pc' := 18) rfl ?_
  refine j_icmp_le (tgt := 31) cx dX2_buy_18 (by decide) (pc' := 21) rfl (fun h3 => ?_) (fun h3 => ?_)
  · refine j_aload_n (j := 0) cx dX2_buy_31 rfl rfl (pc' := 32) rfl ?_
    refine j_get (fk := 5) (ref := "TerminalYard") (v := .ref (al 6 0)) cx hY.1 rfl (by decide +kernel) (by decide) (by decide +kernel) (fun _ h => h) (yV_r (k := (6, 0)) rfl) rfl dX2_buy_32 (pc' := 35) rfl ?_
    refine j_iload_n (j := 1) cx dX2_buy_35 rfl rfl (pc' := 36) rfl ?_
    refine j_dup2 cx dX2_buy_36 rfl rfl (pc' := 37) rfl ?_
    refine j_iald (v := S 6 0 d.toNatClampNeg) cx hY.2.2.2.2.2.2.1 rfl (vp_in_out (b := 3) (by decide) p1) rfl rfl dX2_buy_37 (pc' := 38) rfl ?_
    refine j_iload_n (j := 2) cx dX2_buy_38 rfl rfl (pc' := 39) rfl ?_
    refine j_iadd cx dX2_buy_39 (pc' := 40) rfl ?_
    refine j_iast (jn := d.toNatClampNeg) cx hY.2.2.2.2.2.2.1 rfl (vp_in_out (b := 3) (by decide) p1) rfl rfl dX2_buy_40 (pc' := 41) rfl ?_
    refine j_aload_n (j := 0) cx dX2_buy_41 rfl rfl (pc' := 42) rfl ?_
    refine j_get (fk := 4) (ref := "TerminalYard") (v := .ref (al 5 0)) cx hY.1 rfl (by decide +kernel) (by decide) (by decide +kernel) (fun _ h => h) (yV_r (k := (5, 0)) rfl) rfl dX2_buy_42 (pc' := 45) rfl ?_
    refine j_iload_n (j := 1) cx dX2_buy_45 rfl rfl (pc' := 46) rfl ?_
    refine j_dup2 cx dX2_buy_46 rfl rfl (pc' := 47) rfl ?_
    refine j_iald (v := S 5 0 d.toNatClampNeg) cx hY.2.2.2.2.2.1 rfl (vp_in_out (b := 3) (by decide) p1) (by simp [sup]) rfl dX2_buy_47 (pc' := 48) rfl ?_
    refine j_iload_n (j := 2) cx dX2_buy_48 rfl rfl (pc' := 49) rfl ?_
    refine j_iadd cx dX2_buy_49 (pc' := 50) rfl ?_
    refine j_iast (jn := d.toNatClampNeg) cx hY.2.2.2.2.2.1 rfl (vp_in_out (b := 3) (by decide) p1) rfl rfl dX2_buy_50 (pc' := 51) rfl ?_
    refine j_aload_n (j := 0) cx dX2_buy_51 rfl rfl (pc' := 52) rfl ?_
    refine j_get (fk := 4) (ref := "TerminalYard") (v := .ref (al 5 0)) cx hY.1 rfl (by decide +kernel) (by decide) (by decide +kernel) (fun _ h => h) (yV_r (k := (5, 0)) rfl) rfl dX2_buy_52 (pc' := 55) rfl ?_
    refine j_iload_n (j := 1) cx dX2_buy_55 rfl rfl (pc' := 56) rfl ?_
    refine j_iald (v := (S 5 0 d.toNatClampNeg) + m) cx hY.2.2.2.2.2.1 rfl (vp_in_out (b := 3) (by decide) p1) (by simp [sup]) rfl dX2_buy_56 (pc' := 57) rfl ?_
    exact J.ret _ (j_iret (ty := .int) cx hlk hr rfl (Nat.le_of_ble_eq_true rfl) (Nat.le_of_ble_eq_true rfl) dX2_buy_57 ⟨by have hq := Int32.not_lt.mpr h3; simp [kBuy, *], rfl, rfl, rfl, rfl⟩)
  · exact j_throwS (ik := 71) (ic := 75) (is := 132) (cls := "java/lang/IllegalStateException") (text := "a department buys up to 99999 minutes") (names := ["java/lang/RuntimeException", "java/lang/Exception"]) cx hl0 hlk htb rfl (by decide) (by decide) (by decide) (by decide +kernel) (by decide +kernel) (by decide +kernel) (by decide +kernel) (by decide +kernel) dX2_buy_21 dX2_buy_24 dX2_buy_25 dX2_buy_27 dX2_buy_30 (Nat.le_of_ble_eq_true rfl) (Nat.le_of_ble_eq_true rfl) (Nat.le_of_ble_eq_true rfl) (Nat.le_of_ble_eq_true rfl) (Nat.le_of_ble_eq_true rfl) (Nat.le_of_ble_eq_true rfl) ⟨(2, xIS), by simp, rfl, by have hq := Int32.not_le.mp h3; simp [kBuy, *]⟩
set_option maxHeartbeats 4000000 in
set_option maxRecDepth 100000 in
theorem c_X2_move {l : Launch} {Z : yL} {al : yAl} {sh : ySh} {S : yS} {nm ns : Nat} {mu : Nat → Nat} {f t m : Int32} (hY : YC Z al sh nm ns mu) (hf : vp_in f 4) (ht : vp_in t 4) : Ct l yX2_move wsX2_move ({ frames := 0, cells := 0, slots := 0, locals := 0 }) 0 0 Z [.ref (al 0 0), .int f, .int t, .int m] al sh S (yR al sh none (fMove S f.toNatClampNeg t.toNatClampNeg m)) := by
  refine Ct.of (lv := [(0, .ref (al 0 0)), (1, .int f), (2, .int t), (3, .int m)]) (by decide) rfl (Nat.le_of_ble_eq_true rfl) rfl ?_
  intro p_ e_ s_ m_ below_ meth_ c_ cx hlk hr hnm9
  refine j_aload_n (j := 0) cx dX2_move_0 rfl rfl (pc' := 1) rfl ?_
  refine j_get (fk := 4) (ref := "TerminalYard") (v := .ref (al 5 0)) cx hY.1 rfl (by decide +kernel) (by decide) (by decide +kernel) (fun _ h => h) (yV_r (k := (5, 0)) rfl) rfl dX2_move_1 (pc' := 4) rfl ?_
  refine j_iload_n (j := 1) cx dX2_move_4 rfl rfl (pc' := 5) rfl ?_
  refine j_dup2 cx dX2_move_5 rfl rfl (pc' := 6) rfl ?_
  refine j_iald (v := S 5 0 f.toNatClampNeg) cx hY.2.2.2.2.2.1 rfl hf rfl rfl dX2_move_6 (pc' := 7) rfl ?_
  refine j_iload_n (j := 3) cx dX2_move_7 rfl rfl (pc' := 8) rfl ?_
  refine j_isub cx dX2_move_8 (pc' := 9) rfl ?_
  refine j_iast (jn := f.toNatClampNeg) cx hY.2.2.2.2.2.1 rfl hf rfl rfl dX2_move_9 (pc' := 10) rfl ?_
  refine j_aload_n (j := 0) cx dX2_move_10 rfl rfl (pc' := 11) rfl ?_
  refine j_get (fk := 4) (ref := "TerminalYard") (v := .ref (al 5 0)) cx hY.1 rfl (by decide +kernel) (by decide) (by decide +kernel) (fun _ h => h) (yV_r (k := (5, 0)) rfl) rfl dX2_move_11 (pc' := 14) rfl ?_
  refine j_iload_n (j := 2) cx dX2_move_14 rfl rfl (pc' := 15) rfl ?_
  refine j_dup2 cx dX2_move_15 rfl rfl (pc' := 16) rfl ?_
  refine j_iald (v := (sup S 5 0 f.toNatClampNeg ((S 5 0 f.toNatClampNeg) - m)) 5 0 t.toNatClampNeg) cx hY.2.2.2.2.2.1 rfl ht rfl rfl dX2_move_16 (pc' := 17) rfl ?_
  refine j_iload_n (j := 3) cx dX2_move_17 rfl rfl (pc' := 18) rfl ?_
  refine j_iadd cx dX2_move_18 (pc' := 19) rfl ?_
  refine j_iast (jn := t.toNatClampNeg) cx hY.2.2.2.2.2.1 rfl ht rfl rfl dX2_move_19 (pc' := 20) rfl ?_
  exact j_vret cx hlk hr (Nat.le_of_ble_eq_true rfl) (Nat.le_of_ble_eq_true rfl) dX2_move_20 ⟨rfl, rfl, rfl, rfl⟩
theorem pairF {f t : Int32} (h : ¬ (oR 0 3 f ∨ oR 0 3 t ∨ f = t)) : vp_in f 4 := vp_in_out (b := 3) (by decide) (fun q => h (Or.inl q))
theorem pairT {f t : Int32} (h : ¬ (oR 0 3 f ∨ oR 0 3 t ∨ f = t)) : vp_in t 4 := vp_in_out (b := 3) (by decide) (fun q => h (Or.inr (Or.inl q)))
theorem kLend0 {f t m h : Int32} (h1 : ¬ (oR 0 3 f ∨ oR 0 3 t ∨ f = t)) (h2 : ¬ oR 1 5000 m) (h3 : ¬ h < m) : kLend f t m h = 0 := by
  unfold kLend
  rw [if_neg (fun q => by rcases q with q | q | q | q <;> first | exact h1 (Or.inl q) | exact h1 (Or.inr (Or.inl q)) | exact h1 (Or.inr (Or.inr q)) | exact h2 q), if_neg h3]
theorem kLend2 {f t m h : Int32} (h1 : ¬ (oR 0 3 f ∨ oR 0 3 t ∨ f = t)) (h2 : ¬ oR 1 5000 m) (h3 : h < m) : kLend f t m h = 2 := by
  unfold kLend
  rw [if_neg (fun q => by rcases q with q | q | q | q <;> first | exact h1 (Or.inl q) | exact h1 (Or.inr (Or.inl q)) | exact h1 (Or.inr (Or.inr q)) | exact h2 q), if_pos h3]
theorem kGive0 {f t m o h : Int32} (h1 : ¬ (oR 0 3 f ∨ oR 0 3 t ∨ f = t)) (h2 : ¬ oR 1 5000 m) (h4 : ¬ o < m) (h3 : ¬ h < m) : kGive f t m o h = 0 := by
  unfold kGive
  rw [if_neg (fun q => by rcases q with q | q | q | q <;> first | exact h1 (Or.inl q) | exact h1 (Or.inr (Or.inl q)) | exact h1 (Or.inr (Or.inr q)) | exact h2 q), if_neg h4, if_neg h3]
theorem kGive2 {f t m o h : Int32} (h1 : ¬ (oR 0 3 f ∨ oR 0 3 t ∨ f = t)) (h2 : ¬ oR 1 5000 m) (h4 : o < m) : kGive f t m o h = 2 := by
  unfold kGive
  rw [if_neg (fun q => by rcases q with q | q | q | q <;> first | exact h1 (Or.inl q) | exact h1 (Or.inr (Or.inl q)) | exact h1 (Or.inr (Or.inr q)) | exact h2 q), if_pos h4]
theorem kGive3 {f t m o h : Int32} (h1 : ¬ (oR 0 3 f ∨ oR 0 3 t ∨ f = t)) (h2 : ¬ oR 1 5000 m) (h4 : ¬ o < m) (h3 : h < m) : kGive f t m o h = 3 := by
  unfold kGive
  rw [if_neg (fun q => by rcases q with q | q | q | q <;> first | exact h1 (Or.inl q) | exact h1 (Or.inr (Or.inl q)) | exact h1 (Or.inr (Or.inr q)) | exact h2 q), if_neg h4, if_pos h3]

set_option maxHeartbeats 4000000 in
set_option maxRecDepth 100000 in
theorem c_X2_lend {l : Launch} (hl0 : l.stackTraces = false) {Z : yL} {al : yAl} {sh : ySh} {S : yS} {nm ns : Nat} {mu : Nat → Nat} {f t m : Int32} (hY : YC Z al sh nm ns mu) : Cq l yX2_lend wsX2_lend ({ frames := 8, cells := 5, slots := 30, locals := 131 }) 5 30 Z [.ref (al 0 0), .int f, .int t, .int m] al sh S (yRp (kLend f t m (S 5 0 f.toNatClampNeg) = 0) al sh (some (.int ((fMove S f.toNatClampNeg t.toNatClampNeg m) 8 t.toNatClampNeg f.toNatClampNeg + m))) (sup (fMove S f.toNatClampNeg t.toNatClampNeg m) 8 t.toNatClampNeg f.toNatClampNeg ((fMove S f.toNatClampNeg t.toNatClampNeg m) 8 t.toNatClampNeg f.toNatClampNeg + m))) (yx [(1, xIA), (2, xUO)] (kLend f t m (S 5 0 f.toNatClampNeg))) := by
  obtain ⟨fo, y7, y7e⟩ := hY.2.2.2.2.2.2.2.1
  refine Cq.of (lv := [(0, .ref (al 0 0)), (1, .int f), (2, .int t), (3, .int m)]) (by decide) rfl (Nat.le_of_ble_eq_true rfl) rfl ?_
  intro p_ e_ s_ m_ below_ meth_ c_ cx hlk hr htb
  refine j_iload_n (j := 1) cx dX2_lend_0 rfl rfl (pc' := 1) rfl ?_
  refine j_iload_n (j := 2) cx dX2_lend_1 rfl rfl (pc' := 2) rfl ?_
  refine j_cSX (cells1 := 3) (slots1 := 18) (st1 := []) (As := [.int f, .int t]) (rest := []) cx (c_X2_checkPair hl0) gX2_lend_X2_checkPair rfl rfl rfl 2 rfl (by decide +kernel) ⟨Nat.le_of_ble_eq_true rfl, Nat.le_of_ble_eq_true rfl⟩ rfl (Nat.le_of_ble_eq_true rfl) dX2_lend_2 ⟨Nat.le_of_ble_eq_true rfl, Nat.le_of_ble_eq_true rfl⟩ (pc' := 5) rfl rfl rfl rfl (fun E hE => jx_out hlk htb (Nat.le_of_ble_eq_true rfl) (Nat.le_of_ble_eq_true rfl) ⟨(1, xIA), by simp, hE.1, by rcases hE.2 with hq | hq | hq <;> simp [kLend, hq]⟩) (fun p1 => ?_)
  refine j_iload_n (j := 3) cx dX2_lend_5 rfl rfl (pc' := 6) rfl ?_
  refine j_cSX (cells1 := 4) (slots1 := 24) (st1 := []) (As := [.int m]) (rest := []) cx (c_X2_checkTrade hl0) gX2_lend_X2_checkTrade rfl rfl rfl 1 rfl (by decide +kernel) ⟨Nat.le_of_ble_eq_true rfl, Nat.le_of_ble_eq_true rfl⟩ rfl (Nat.le_of_ble_eq_true rfl) dX2_lend_6 ⟨Nat.le_of_ble_eq_true rfl, Nat.le_of_ble_eq_true rfl⟩ (pc' := 9) rfl rfl rfl rfl (fun E hE => jx_out hlk htb (Nat.le_of_ble_eq_true rfl) (Nat.le_of_ble_eq_true rfl) ⟨(1, xIA), by simp, hE.1, by have hq := hE.2; simp [kLend, *]⟩) (fun p2 => ?_)
  refine j_aload_n (j := 0) cx dX2_lend_9 rfl rfl (pc' := 10) rfl ?_
  refine j_iload_n (j := 1) cx dX2_lend_10 rfl rfl (pc' := 11) rfl ?_
  refine j_iload_n (j := 3) cx dX2_lend_11 rfl rfl (pc' := 12) rfl ?_
  refine j_cVX (cells1 := 5) (slots1 := 30) (st1 := []) (As := [.int f, .int m]) (rest := []) cx (c_X2_checkStock hl0 hY (pairF p1)) gX2_lend_X2_checkStock rfl rfl rfl 2 rfl (by decide +kernel) ⟨Nat.le_of_ble_eq_true rfl, Nat.le_of_ble_eq_true rfl⟩ hY.1 rfl rfl rfl rfl (Nat.le_of_ble_eq_true rfl) dX2_lend_12 ⟨Nat.le_of_ble_eq_true rfl, Nat.le_of_ble_eq_true rfl⟩ (pc' := 15) rfl rfl rfl rfl (fun E hE => jx_out hlk htb (Nat.le_of_ble_eq_true rfl) (Nat.le_of_ble_eq_true rfl) ⟨(2, xUO), by simp, hE.1, kLend2 p1 p2 hE.2⟩) (fun p3 => ?_)
  refine j_aload_n (j := 0) cx dX2_lend_15 rfl rfl (pc' := 16) rfl ?_
  refine j_iload_n (j := 1) cx dX2_lend_16 rfl rfl (pc' := 17) rfl ?_
  refine j_iload_n (j := 2) cx dX2_lend_17 rfl rfl (pc' := 18) rfl ?_
  refine j_iload_n (j := 3) cx dX2_lend_18 rfl rfl (pc' := 19) rfl ?_
  refine j_cVR (cells1 := 5) (slots1 := 30) (st1 := []) (As := [.int f, .int t, .int m]) (rest := []) cx (c_X2_move hY (pairF p1) (pairT p1)) gX2_lend_X2_move rfl rfl rfl 3 rfl (by decide +kernel) ⟨Nat.le_of_ble_eq_true rfl, Nat.le_of_ble_eq_true rfl⟩ hY.1 rfl rfl rfl rfl (Nat.le_of_ble_eq_true rfl) dX2_lend_19 ⟨Nat.le_of_ble_eq_true rfl, Nat.le_of_ble_eq_true rfl⟩ (pc' := 22) rfl rfl rfl rfl ?_
  refine j_aload_n (j := 0) cx dX2_lend_22 rfl rfl (pc' := 23) rfl ?_
  refine j_get (fk := 6) (ref := "TerminalYard") (v := .ref (al 7 0)) cx hY.1 rfl (by decide +kernel) (by decide) (by decide +kernel) (fun _ h => h) (yV_r (k := (7, 0)) rfl) rfl dX2_lend_23 (pc' := 26) rfl ?_
  refine j_iload_n (j := 2) cx dX2_lend_26 rfl rfl (pc' := 27) rfl ?_
  refine j_aald (ti := 5) cx y7 rfl rfl (pairT p1) (y7e _ (ix_of (pairT p1))) rfl dX2_lend_27 (pc' := 28) rfl ?_
  refine j_iload_n (j := 1) cx dX2_lend_28 rfl rfl (pc' := 29) rfl ?_
  refine j_dup2 cx dX2_lend_29 rfl rfl (pc' := 30) rfl ?_
  refine j_iald (v := (fMove S f.toNatClampNeg t.toNatClampNeg m) 8 t.toNatClampNeg f.toNatClampNeg) cx (hY.2.2.2.2.2.2.2.2.1 _ (ix_of (pairT p1))) rfl (pairF p1) rfl rfl dX2_lend_30 (pc' := 31) rfl ?_
  refine j_iload_n (j := 3) cx dX2_lend_31 rfl rfl (pc' := 32) rfl ?_
  refine j_iadd cx dX2_lend_32 (pc' := 33) rfl ?_
  refine j_iast (jn := f.toNatClampNeg) cx (hY.2.2.2.2.2.2.2.2.1 _ (ix_of (pairT p1))) rfl (pairF p1) rfl rfl dX2_lend_33 (pc' := 34) rfl ?_
  refine j_aload_n (j := 0) cx dX2_lend_34 rfl rfl (pc' := 35) rfl ?_
  refine j_get (fk := 6) (ref := "TerminalYard") (v := .ref (al 7 0)) cx hY.1 rfl (by decide +kernel) (by decide) (by decide +kernel) (fun _ h => h) (yV_r (k := (7, 0)) rfl) rfl dX2_lend_35 (pc' := 38) rfl ?_
  refine j_iload_n (j := 2) cx dX2_lend_38 rfl rfl (pc' := 39) rfl ?_
  refine j_aald (ti := 5) cx y7 rfl rfl (pairT p1) (y7e _ (ix_of (pairT p1))) rfl dX2_lend_39 (pc' := 40) rfl ?_
  refine j_iload_n (j := 1) cx dX2_lend_40 rfl rfl (pc' := 41) rfl ?_
  refine j_iald (v := ((fMove S f.toNatClampNeg t.toNatClampNeg m) 8 t.toNatClampNeg f.toNatClampNeg) + m) cx (hY.2.2.2.2.2.2.2.2.1 _ (ix_of (pairT p1))) rfl (pairF p1) (by simp [sup]) rfl dX2_lend_41 (pc' := 42) rfl ?_
  exact J.ret _ (j_iret (ty := .int) cx hlk hr rfl (Nat.le_of_ble_eq_true rfl) (Nat.le_of_ble_eq_true rfl) dX2_lend_42 ⟨kLend0 p1 p2 p3, rfl, rfl, rfl, rfl⟩)
set_option maxHeartbeats 4000000 in
set_option maxRecDepth 100000 in
theorem c_X2_giveBack {l : Launch} (hl0 : l.stackTraces = false) {Z : yL} {al : yAl} {sh : ySh} {S : yS} {nm ns : Nat} {mu : Nat → Nat} {f t m : Int32} (hY : YC Z al sh nm ns mu) : Cq l yX2_giveBack wsX2_giveBack ({ frames := 8, cells := 5, slots := 30, locals := 131 }) 5 30 Z [.ref (al 0 0), .int f, .int t, .int m] al sh S (yRp (kGive f t m (S 8 f.toNatClampNeg t.toNatClampNeg) (S 5 0 f.toNatClampNeg) = 0) al sh (some (.int ((fMove S f.toNatClampNeg t.toNatClampNeg m) 8 f.toNatClampNeg t.toNatClampNeg - m))) (sup (fMove S f.toNatClampNeg t.toNatClampNeg m) 8 f.toNatClampNeg t.toNatClampNeg ((fMove S f.toNatClampNeg t.toNatClampNeg m) 8 f.toNatClampNeg t.toNatClampNeg - m))) (yx [(1, xIA), (2, xIS), (3, xUO)] (kGive f t m (S 8 f.toNatClampNeg t.toNatClampNeg) (S 5 0 f.toNatClampNeg))) := by
  obtain ⟨fo, y7, y7e⟩ := hY.2.2.2.2.2.2.2.1
  refine Cq.of (lv := [(0, .ref (al 0 0)), (1, .int f), (2, .int t), (3, .int m)]) (by decide) rfl (Nat.le_of_ble_eq_true rfl) rfl ?_
  intro p_ e_ s_ m_ below_ meth_ c_ cx hlk hr htb
  refine j_iload_n (j := 1) cx dX2_giveBack_0 rfl rfl (pc' := 1) rfl ?_
  refine j_iload_n (j := 2) cx dX2_giveBack_1 rfl rfl (pc' := 2) rfl ?_
  refine j_cSX (cells1 := 3) (slots1 := 18) (st1 := []) (As := [.int f, .int t]) (rest := []) cx (c_X2_checkPair hl0) gX2_giveBack_X2_checkPair rfl rfl rfl 2 rfl (by decide +kernel) ⟨Nat.le_of_ble_eq_true rfl, Nat.le_of_ble_eq_true rfl⟩ rfl (Nat.le_of_ble_eq_true rfl) dX2_giveBack_2 ⟨Nat.le_of_ble_eq_true rfl, Nat.le_of_ble_eq_true rfl⟩ (pc' := 5) rfl rfl rfl rfl (fun E hE => jx_out hlk htb (Nat.le_of_ble_eq_true rfl) (Nat.le_of_ble_eq_true rfl) ⟨(1, xIA), by simp, hE.1, by rcases hE.2 with hq | hq | hq <;> simp [kGive, hq]⟩) (fun p1 => ?_)
  refine j_iload_n (j := 3) cx dX2_giveBack_5 rfl rfl (pc' := 6) rfl ?_
  refine j_cSX (cells1 := 4) (slots1 := 24) (st1 := []) (As := [.int m]) (rest := []) cx (c_X2_checkTrade hl0) gX2_giveBack_X2_checkTrade rfl rfl rfl 1 rfl (by decide +kernel) ⟨Nat.le_of_ble_eq_true rfl, Nat.le_of_ble_eq_true rfl⟩ rfl (Nat.le_of_ble_eq_true rfl) dX2_giveBack_6 ⟨Nat.le_of_ble_eq_true rfl, Nat.le_of_ble_eq_true rfl⟩ (pc' := 9) rfl rfl rfl rfl (fun E hE => jx_out hlk htb (Nat.le_of_ble_eq_true rfl) (Nat.le_of_ble_eq_true rfl) ⟨(1, xIA), by simp, hE.1, by have hq := hE.2; simp [kGive, *]⟩) (fun p2 => ?_)
  refine j_aload_n (j := 0) cx dX2_giveBack_9 rfl rfl (pc' := 10) rfl ?_
  refine j_get (fk := 6) (ref := "TerminalYard") (v := .ref (al 7 0)) cx hY.1 rfl (by decide +kernel) (by decide) (by decide +kernel) (fun _ h => h) (yV_r (k := (7, 0)) rfl) rfl dX2_giveBack_10 (pc' := 13) rfl ?_
  refine j_iload_n (j := 1) cx dX2_giveBack_13 rfl rfl (pc' := 14) rfl ?_
  refine j_aald (ti := 5) cx y7 rfl rfl (pairF p1) (y7e _ (ix_of (pairF p1))) rfl dX2_giveBack_14 (pc' := 15) rfl ?_
  refine j_iload_n (j := 2) cx dX2_giveBack_15 rfl rfl (pc' := 16) rfl ?_
  refine j_iald (v := S 8 f.toNatClampNeg t.toNatClampNeg) cx (hY.2.2.2.2.2.2.2.2.1 _ (ix_of (pairF p1))) rfl (pairT p1) rfl rfl dX2_giveBack_16 (pc' := 17) rfl ?_
  refine j_iload_n (j := 3) cx dX2_giveBack_17 rfl rfl (pc' := 18) rfl ?_
  refine j_icmp_ge (tgt := 31) cx dX2_giveBack_18 (by decide) (pc' := 21) rfl (fun h3 => ?_) (fun h3 => ?_)
  · refine j_aload_n (j := 0) cx dX2_giveBack_31 rfl rfl (pc' := 32) rfl ?_
    refine j_iload_n (j := 1) cx dX2_giveBack_32 rfl rfl (pc' := 33) rfl ?_
    refine j_iload_n (j := 3) cx dX2_giveBack_33 rfl rfl (pc' := 34) rfl ?_
    refine j_cVX (cells1 := 5) (slots1 := 30) (st1 := []) (As := [.int f, .int m]) (rest := []) cx (c_X2_checkStock hl0 hY (pairF p1)) gX2_giveBack_X2_checkStock rfl rfl rfl 2 rfl (by decide +kernel) ⟨Nat.le_of_ble_eq_true rfl, Nat.le_of_ble_eq_true rfl⟩ hY.1 rfl rfl rfl rfl (Nat.le_of_ble_eq_true rfl) dX2_giveBack_34 ⟨Nat.le_of_ble_eq_true rfl, Nat.le_of_ble_eq_true rfl⟩ (pc' := 37) rfl rfl rfl rfl (fun E hE => jx_out hlk htb (Nat.le_of_ble_eq_true rfl) (Nat.le_of_ble_eq_true rfl) ⟨(3, xUO), by simp, hE.1, kGive3 p1 p2 (Int32.not_lt.mpr h3) hE.2⟩) (fun p4 => ?_)
    refine j_aload_n (j := 0) cx dX2_giveBack_37 rfl rfl (pc' := 38) rfl ?_
    refine j_iload_n (j := 1) cx dX2_giveBack_38 rfl rfl (pc' := 39) rfl ?_
    refine j_iload_n (j := 2) cx dX2_giveBack_39 rfl rfl (pc' := 40) rfl ?_
    refine j_iload_n (j := 3) cx dX2_giveBack_40 rfl rfl (pc' := 41) rfl ?_
    refine j_cVR (cells1 := 5) (slots1 := 30) (st1 := []) (As := [.int f, .int t, .int m]) (rest := []) cx (c_X2_move hY (pairF p1) (pairT p1)) gX2_giveBack_X2_move rfl rfl rfl 3 rfl (by decide +kernel) ⟨Nat.le_of_ble_eq_true rfl, Nat.le_of_ble_eq_true rfl⟩ hY.1 rfl rfl rfl rfl (Nat.le_of_ble_eq_true rfl) dX2_giveBack_41 ⟨Nat.le_of_ble_eq_true rfl, Nat.le_of_ble_eq_true rfl⟩ (pc' := 44) rfl rfl rfl rfl ?_
    refine j_aload_n (j := 0) cx dX2_giveBack_44 rfl rfl (pc' := 45) rfl ?_
    refine j_get (fk := 6) (ref := "TerminalYard") (v := .ref (al 7 0)) cx hY.1 rfl (by decide +kernel) (by decide) (by decide +kernel) (fun _ h => h) (yV_r (k := (7, 0)) rfl) rfl dX2_giveBack_45 (pc' := 48) rfl ?_
    refine j_iload_n (j := 1) cx dX2_giveBack_48 rfl rfl (pc' := 49) rfl ?_
    refine j_aald (ti := 5) cx y7 rfl rfl (pairF p1) (y7e _ (ix_of (pairF p1))) rfl dX2_giveBack_49 (pc' := 50) rfl ?_
    refine j_iload_n (j := 2) cx dX2_giveBack_50 rfl rfl (pc' := 51) rfl ?_
    refine j_dup2 cx dX2_giveBack_51 rfl rfl (pc' := 52) rfl ?_
    refine j_iald (v := (fMove S f.toNatClampNeg t.toNatClampNeg m) 8 f.toNatClampNeg t.toNatClampNeg) cx (hY.2.2.2.2.2.2.2.2.1 _ (ix_of (pairF p1))) rfl (pairT p1) rfl rfl dX2_giveBack_52 (pc' := 53) rfl ?_
    refine j_iload_n (j := 3) cx dX2_giveBack_53 rfl rfl (pc' := 54) rfl ?_
    refine j_isub cx dX2_giveBack_54 (pc' := 55) rfl ?_
    refine j_iast (jn := t.toNatClampNeg) cx (hY.2.2.2.2.2.2.2.2.1 _ (ix_of (pairF p1))) rfl (pairT p1) rfl rfl dX2_giveBack_55 (pc' := 56) rfl ?_
    refine j_aload_n (j := 0) cx dX2_giveBack_56 rfl rfl (pc' := 57) rfl ?_
    refine j_get (fk := 6) (ref := "TerminalYard") (v := .ref (al 7 0)) cx hY.1 rfl (by decide +kernel) (by decide) (by decide +kernel) (fun _ h => h) (yV_r (k := (7, 0)) rfl) rfl dX2_giveBack_57 (pc' := 60) rfl ?_
    refine j_iload_n (j := 1) cx dX2_giveBack_60 rfl rfl (pc' := 61) rfl ?_
    refine j_aald (ti := 5) cx y7 rfl rfl (pairF p1) (y7e _ (ix_of (pairF p1))) rfl dX2_giveBack_61 (pc' := 62) rfl ?_
    refine j_iload_n (j := 2) cx dX2_giveBack_62 rfl rfl (pc' := 63) rfl ?_
    refine j_iald (v := ((fMove S f.toNatClampNeg t.toNatClampNeg m) 8 f.toNatClampNeg t.toNatClampNeg) - m) cx (hY.2.2.2.2.2.2.2.2.1 _ (ix_of (pairF p1))) rfl (pairT p1) (by simp [sup]) rfl dX2_giveBack_63 (pc' := 64) rfl ?_
    exact J.ret _ (j_iret (ty := .int) cx hlk hr rfl (Nat.le_of_ble_eq_true rfl) (Nat.le_of_ble_eq_true rfl) dX2_giveBack_64 ⟨kGive0 p1 p2 (Int32.not_lt.mpr h3) p4, rfl, rfl, rfl, rfl⟩)
  · exact j_throwS (ik := 71) (ic := 75) (is := 145) (cls := "java/lang/IllegalStateException") (text := "the department owes fewer minutes") (names := ["java/lang/RuntimeException", "java/lang/Exception"]) cx hl0 hlk htb rfl (by decide) (by decide) (by decide) (by decide +kernel) (by decide +kernel) (by decide +kernel) (by decide +kernel) (by decide +kernel) dX2_giveBack_21 dX2_giveBack_24 dX2_giveBack_25 dX2_giveBack_27 dX2_giveBack_30 (Nat.le_of_ble_eq_true rfl) (Nat.le_of_ble_eq_true rfl) (Nat.le_of_ble_eq_true rfl) (Nat.le_of_ble_eq_true rfl) (Nat.le_of_ble_eq_true rfl) (Nat.le_of_ble_eq_true rfl) ⟨(2, xIS), by simp, rfl, kGive2 p1 p2 (Int32.not_le.mp h3)⟩
