set_option maxHeartbeats 4000000 in
set_option maxRecDepth 100000 in
theorem c_X2_print {l : Launch} (hl0 : l.stackTraces = false) {Z : yL} {al : yAl} {sh : ySh} {S : yS} {nm ns : Nat} {mu : Nat → Nat} {x g : Int32} (hY : YC Z al sh nm ns mu) (hs11 : S 11 0 2 = nI ns) (hcs : ∀ i, i < ns → vp_in (S 21 i 4) 10) (hds : ∀ u, u < 10 → vp_in (S 4 0 u) 4) (hrs : ∀ i, i < nm → vp_in (S 20 i 2) 3) : Cq l yX2_print wsX2_print ({ frames := 7, cells := 4, slots := 24, locals := 112 }) 4 24 Z [.ref (al 0 0), .int x, .int g] al sh S (yRp (kPrint ns x g (S 21 x.toNatClampNeg 6 = 97) (S 5 0 (cDep S x.toNatClampNeg)) = 0) al sh (some (.int (S 3 0 (S 20 (mu x.toNatClampNeg) 2).toNatClampNeg + g))) (fPrint S (mu x.toNatClampNeg) x.toNatClampNeg g)) (yx [(1, xIB), (2, xIA), (3, xIS), (4, xUO)] (kPrint ns x g (S 21 x.toNatClampNeg 6 = 97) (S 5 0 (cDep S x.toNatClampNeg)))) := by
  refine Cq.of (lv := [(0, .ref (al 0 0)), (1, .int x), (2, .int g)]) (by decide) rfl (Nat.le_of_ble_eq_true rfl) rfl ?_
  intro p_ e_ s_ m_ below_ meth_ c_ cx hlk hr htb
  refine j_aload_n (j := 0) cx dX2_print_0 rfl rfl (pc' := 1) rfl ?_
  refine j_iload_n (j := 1) cx dX2_print_1 rfl rfl (pc' := 2) rfl ?_
  refine j_cVX (cells1 := 1) (slots1 := 6) (st1 := [.ref (al 21 x.toNatClampNeg)]) (As := [.int x]) (rest := []) cx (c_X2_sessionAt hl0 hY hs11) gX2_print_X2_sessionAt rfl rfl rfl 1 rfl (by decide +kernel) ⟨Nat.le_of_ble_eq_true rfl, Nat.le_of_ble_eq_true rfl⟩ hY.1 rfl rfl rfl rfl (Nat.le_of_ble_eq_true rfl) dX2_print_2 ⟨Nat.le_of_ble_eq_true rfl, Nat.le_of_ble_eq_true rfl⟩ (pc' := 5) rfl rfl rfl rfl (fun E hE => jx_out hlk htb (Nat.le_of_ble_eq_true rfl) (Nat.le_of_ble_eq_true rfl) ⟨(1, xIB), by simp, hE.1, by simp [kPrint, nvin hE.2]⟩) (fun p1 => ?_)
  refine j_astore_n (lv' := [(3, .ref (al 21 x.toNatClampNeg)), (0, .ref (al 0 0)), (1, .int x), (2, .int g)]) cx dX2_print_5 rfl (by decide) rfl (pc' := 6) rfl ?_
  refine j_iload_n (j := 3) cx dX2_print_6 rfl rfl (pc' := 7) rfl ?_
  refine j_iconst (v := 1) cx dX2_print_7 (by decide) (pc' := 8) rfl ?_
  refine j_bipush (v := 99) cx dX2_print_8 (by decide) (pc' := 10) rfl ?_
  refine j_cSR (cells1 := 1) (slots1 := 6) (st1 := [.int (bI (oR 1 99 g))]) (As := [.int g, .int 1, .int 99]) (rest := []) cx (c_X2_isOutside) gX2_print_X2_isOutside rfl rfl rfl 3 rfl (by decide +kernel) ⟨Nat.le_of_ble_eq_true rfl, Nat.le_of_ble_eq_true rfl⟩ rfl (Nat.le_of_ble_eq_true rfl) dX2_print_10 ⟨Nat.le_of_ble_eq_true rfl, Nat.le_of_ble_eq_true rfl⟩ (pc' := 13) rfl rfl rfl rfl ?_
  refine j_ifb_eq (tgt := 26) cx dX2_print_13 (by decide) (pc' := 16) rfl (fun h3 => ?_) (fun h3 => ?_)
  · refine j_aload_n (j := 0) cx dX2_print_26 rfl rfl (pc' := 27) rfl ?_
    refine j_cSX (cells1 := 2) (slots1 := 12) (st1 := []) (As := [.ref (al 21 x.toNatClampNeg)]) (rest := []) cx (c_X2_checkLive hl0 (hY.2.2.2.2.2.2.2.2.2.2.2.2.1 _ (ix_of p1))) gX2_print_X2_checkLive rfl rfl rfl 1 rfl (by decide +kernel) ⟨Nat.le_of_ble_eq_true rfl, Nat.le_of_ble_eq_true rfl⟩ rfl (Nat.le_of_ble_eq_true rfl) dX2_print_27 ⟨Nat.le_of_ble_eq_true rfl, Nat.le_of_ble_eq_true rfl⟩ (pc' := 30) rfl rfl rfl rfl (fun E hE => jx_out hlk htb (Nat.le_of_ble_eq_true rfl) (Nat.le_of_ble_eq_true rfl) ⟨(3, xIS), by simp, hE.1, by have hq := hE.2; simp [kPrint, vin p1, h3, hq]⟩) (fun p4 => ?_)
    refine j_iload_n (j := 3) cx dX2_print_30 rfl rfl (pc' := 31) rfl ?_
    refine j_iconst (v := 2) cx dX2_print_31 (by decide) (pc' := 32) rfl ?_
    refine j_imul cx dX2_print_32 (pc' := 33) rfl ?_
    refine j_istore (lv' := [(4, .int (g * 2)), (3, .ref (al 21 x.toNatClampNeg)), (0, .ref (al 0 0)), (1, .int x), (2, .int g)]) cx dX2_print_33 (by decide) rfl (pc' := 35) rfl ?_
    refine j_aload_n (j := 2) cx dX2_print_35 rfl rfl (pc' := 36) rfl ?_
    refine j_aload_n (j := 2) cx dX2_print_36 rfl rfl (pc' := 37) rfl ?_
    refine j_get (fk := 3) (ref := "TerminalYard") (v := .ref (al 4 0)) cx hY.1 rfl (by decide +kernel) (by decide) (by decide +kernel) (fun _ h => h) (yV_r (k := (4, 0)) rfl) rfl dX2_print_37 (pc' := 40) rfl ?_
    refine j_aload_n (j := 1) cx dX2_print_40 rfl rfl (pc' := 41) rfl ?_
    refine j_get (fk := 4) (ref := "TerminalYard$Session") (v := .int (S 21 x.toNatClampNeg 4)) cx (hY.2.2.2.2.2.2.2.2.2.2.2.2.1 _ (ix_of p1)) rfl (by decide +kernel) (by decide) (by decide +kernel) (fun _ h => h) (yV_i rfl) rfl dX2_print_41 (pc' := 44) rfl ?_
    refine j_iald (v := S 4 0 ((S 21 x.toNatClampNeg 4).toNatClampNeg)) cx hY.2.2.2.2.1 rfl (hcs _ (ix_of p1)) rfl rfl dX2_print_44 (pc' := 45) rfl ?_
    refine j_iload (j := 0) cx dX2_print_45 rfl (pc' := 47) rfl ?_
    refine j_cVX (cells1 := 3) (slots1 := 18) (st1 := []) (As := [.int (S 4 0 ((S 21 x.toNatClampNeg 4).toNatClampNeg)), .int (g * 2)]) (rest := []) cx (c_X2_checkStock hl0 hY (hds _ (ix_of (hcs _ (ix_of p1))))) gX2_print_X2_checkStock rfl rfl rfl 2 rfl (by decide +kernel) ⟨Nat.le_of_ble_eq_true rfl, Nat.le_of_ble_eq_true rfl⟩ hY.1 rfl rfl rfl rfl (Nat.le_of_ble_eq_true rfl) dX2_print_47 ⟨Nat.le_of_ble_eq_true rfl, Nat.le_of_ble_eq_true rfl⟩ (pc' := 50) rfl rfl rfl rfl (fun E hE => jx_out hlk htb (Nat.le_of_ble_eq_true rfl) (Nat.le_of_ble_eq_true rfl) ⟨(4, xUO), by simp, hE.1, by have hq := hE.2; simp [kPrint, cDep, vin p1, h3, p4, hq]⟩) (fun p5 => ?_)
    refine j_aload_n (j := 2) cx dX2_print_50 rfl rfl (pc' := 51) rfl ?_
    refine j_aload_n (j := 1) cx dX2_print_51 rfl rfl (pc' := 52) rfl ?_
    refine j_iload (j := 0) cx dX2_print_52 rfl (pc' := 54) rfl ?_
    refine j_cVR (cells1 := 3) (slots1 := 18) (st1 := []) (As := [.ref (al 21 x.toNatClampNeg), .int (g * 2)]) (rest := []) cx (c_X2_charge hY (ix_of p1) (hcs _ (ix_of p1)) (hds _ (ix_of (hcs _ (ix_of p1))))) gX2_print_X2_charge rfl rfl rfl 2 rfl (by decide +kernel) ⟨Nat.le_of_ble_eq_true rfl, Nat.le_of_ble_eq_true rfl⟩ hY.1 rfl rfl rfl rfl (Nat.le_of_ble_eq_true rfl) dX2_print_54 ⟨Nat.le_of_ble_eq_true rfl, Nat.le_of_ble_eq_true rfl⟩ (pc' := 57) rfl rfl rfl rfl ?_
    refine j_aload_n (j := 2) cx dX2_print_57 rfl rfl (pc' := 58) rfl ?_
    refine j_dup cx dX2_print_58 rfl (pc' := 59) rfl ?_
    refine j_get (fk := 10) (ref := "TerminalYard") (v := .int (S 0 0 10)) cx hY.1 rfl (by decide +kernel) (by decide) (by decide +kernel) (fun _ h => h) ((yV_i rfl).trans (congrArg Value.int (by simp [sup, fCharge_o, fRep_o, fEnd_o, fTo_o]))) rfl dX2_print_59 (pc' := 62) rfl ?_
    refine j_iload (j := 0) cx dX2_print_62 rfl (pc' := 64) rfl ?_
    refine j_iadd cx dX2_print_64 (pc' := 65) rfl ?_
    refine j_puti (fk := 10) (ref := "TerminalYard") (ty := .int) cx hY.1 rfl (by decide +kernel) (by decide) (by decide +kernel) (fun _ h => h) tyX2 tyX2_ok nmX2 rfl (by decide +kernel) rfl rfl rfl rfl dX2_print_65 (pc' := 68) rfl ?_
    refine j_aload_n (j := 1) cx dX2_print_68 rfl rfl (pc' := 69) rfl ?_
    refine j_aload_n (j := 2) cx dX2_print_69 rfl rfl (pc' := 70) rfl ?_
    refine j_get (fk := 9) (ref := "TerminalYard") (v := .int (S 0 0 9)) cx hY.1 rfl (by decide +kernel) (by decide) (by decide +kernel) (fun _ h => h) ((yV_i rfl).trans (congrArg Value.int (by simp [sup, fCharge_o, fRep_o, fEnd_o, fTo_o]))) rfl dX2_print_70 (pc' := 73) rfl ?_
    refine j_puti (fk := 5) (ref := "TerminalYard$Session") (ty := .int) cx (hY.2.2.2.2.2.2.2.2.2.2.2.2.1 _ (ix_of p1)) rfl (by decide +kernel) (by decide) (by decide +kernel) (fun _ h => h) tyX1 tyX1_ok nmX1 rfl (by decide +kernel) rfl rfl rfl rfl dX2_print_73 (pc' := 76) rfl ?_
    refine j_aload_n (j := 1) cx dX2_print_76 rfl rfl (pc' := 77) rfl ?_
    refine j_get (fk := 1) (ref := "TerminalYard$Session") (v := .ref (al 20 (mu x.toNatClampNeg))) cx (hY.2.2.2.2.2.2.2.2.2.2.2.2.1 _ (ix_of p1)) rfl (by decide +kernel) (by decide) (by decide +kernel) (fun _ h => h) (yV_r (k := (20, mu x.toNatClampNeg)) rfl) rfl dX2_print_77 (pc' := 80) rfl ?_
    refine j_get (fk := 2) (ref := "TerminalYard$Machine") (v := .int (S 20 (mu x.toNatClampNeg) 2)) cx (hY.2.2.2.2.2.2.2.2.2.2.2.1 _ (hY.2.2.2.2.2.2.2.2.2.2.2.2.2.2.1 _ (ix_of p1))) rfl (by decide +kernel) (by decide) (by decide +kernel) (fun _ h => h) ((yV_i rfl).trans (congrArg Value.int (by simp [sup, fCharge_o, fRep_o, fEnd_o, fTo_o]))) rfl dX2_print_80 (pc' := 83) rfl ?_
    refine j_istore (lv' := [(5, .int (S 20 (mu x.toNatClampNeg) 2)), (4, .int (g * 2)), (3, .ref (al 21 x.toNatClampNeg)), (0, .ref (al 0 0)), (1, .int x), (2, .int g)]) cx dX2_print_83 (by decide) rfl (pc' := 85) rfl ?_
    refine j_aload_n (j := 3) cx dX2_print_85 rfl rfl (pc' := 86) rfl ?_
    refine j_get (fk := 2) (ref := "TerminalYard") (v := .ref (al 3 0)) cx hY.1 rfl (by decide +kernel) (by decide) (by decide +kernel) (fun _ h => h) (yV_r (k := (3, 0)) rfl) rfl dX2_print_86 (pc' := 89) rfl ?_
    refine j_iload (j := 0) cx dX2_print_89 rfl (pc' := 91) rfl ?_
    refine j_dup2 cx dX2_print_91 rfl rfl (pc' := 92) rfl ?_
    refine j_iald (v := S 3 0 ((S 20 (mu x.toNatClampNeg) 2).toNatClampNeg)) cx hY.2.2.2.1 rfl (hrs _ (hY.2.2.2.2.2.2.2.2.2.2.2.2.2.2.1 _ (ix_of p1))) (by simp [sup, fCharge_o, fRep_o, fEnd_o, fTo_o]) rfl dX2_print_92 (pc' := 93) rfl ?_
    refine j_iload_n (j := 5) cx dX2_print_93 rfl rfl (pc' := 94) rfl ?_
    refine j_iadd cx dX2_print_94 (pc' := 95) rfl ?_
    refine j_iast (jn := (S 20 (mu x.toNatClampNeg) 2).toNatClampNeg) cx hY.2.2.2.1 rfl (hrs _ (hY.2.2.2.2.2.2.2.2.2.2.2.2.2.2.1 _ (ix_of p1))) rfl rfl dX2_print_95 (pc' := 96) rfl ?_
    refine j_aload_n (j := 3) cx dX2_print_96 rfl rfl (pc' := 97) rfl ?_
    refine j_get (fk := 2) (ref := "TerminalYard") (v := .ref (al 3 0)) cx hY.1 rfl (by decide +kernel) (by decide) (by decide +kernel) (fun _ h => h) (yV_r (k := (3, 0)) rfl) rfl dX2_print_97 (pc' := 100) rfl ?_
    refine j_iload (j := 0) cx dX2_print_100 rfl (pc' := 102) rfl ?_
    refine j_iald (v := (S 3 0 ((S 20 (mu x.toNatClampNeg) 2).toNatClampNeg)) + g) cx hY.2.2.2.1 rfl (hrs _ (hY.2.2.2.2.2.2.2.2.2.2.2.2.2.2.1 _ (ix_of p1))) (by simp [sup, fCharge_o, fRep_o, fEnd_o, fTo_o]) rfl dX2_print_102 (pc' := 103) rfl ?_
    exact J.ret _ (j_iret (ty := .int) cx hlk hr rfl (Nat.le_of_ble_eq_true rfl) (Nat.le_of_ble_eq_true rfl) dX2_print_103 ⟨by simp [kPrint, cDep, vin p1, h3, p4, p5], rfl, rfl, rfl, rfl⟩)
  · exact j_throwS (ik := 58) (ic := 62) (is := 197) (cls := "java/lang/IllegalArgumentException") (text := "pages are printed from 1 to 99 at once") (names := ["java/lang/RuntimeException", "java/lang/Exception"]) cx hl0 hlk htb rfl (by decide) (by decide) (by decide) (by decide +kernel) (by decide +kernel) (by decide +kernel) (by decide +kernel) (by decide +kernel) dX2_print_16 dX2_print_19 dX2_print_20 dX2_print_22 dX2_print_25 (Nat.le_of_ble_eq_true rfl) (Nat.le_of_ble_eq_true rfl) (Nat.le_of_ble_eq_true rfl) (Nat.le_of_ble_eq_true rfl) (Nat.le_of_ble_eq_true rfl) (Nat.le_of_ble_eq_true rfl) ⟨(2, xIA), by simp, rfl, by simp [kPrint, vin p1, h3]⟩
set_option maxHeartbeats 4000000 in
set_option maxRecDepth 100000 in
theorem c_X2_time {l : Launch} {Z : yL} {al : yAl} {sh : ySh} {S : yS} {nm ns : Nat} {mu : Nat → Nat}  (hY : YC Z al sh nm ns mu) : Ct l yX2_time wsX2_time ({ frames := 0, cells := 0, slots := 0, locals := 0 }) 0 0 Z [.ref (al 0 0)] al sh S (yR al sh (some (.int (S 0 0 9))) S) := by
  refine Ct.of (lv := [(0, .ref (al 0 0))]) (by decide) rfl (Nat.le_of_ble_eq_true rfl) rfl ?_
  intro p_ e_ s_ m_ below_ meth_ c_ cx hlk hr hnm9
  refine j_aload_n (j := 0) cx dX2_time_0 rfl rfl (pc' := 1) rfl ?_
  refine j_get (fk := 9) (ref := "TerminalYard") (v := .int (S 0 0 9)) cx hY.1 rfl (by decide +kernel) (by decide) (by decide +kernel) (fun _ h => h) (yV_i rfl) rfl dX2_time_1 (pc' := 4) rfl ?_
  exact j_iret (ty := .int) cx hlk hr rfl (Nat.le_of_ble_eq_true rfl) (Nat.le_of_ble_eq_true rfl) dX2_time_4 ⟨rfl, rfl, rfl, rfl⟩
set_option maxHeartbeats 4000000 in
set_option maxRecDepth 100000 in
theorem c_X2_minutesBySessions {l : Launch} (hl0 : l.stackTraces = false) {Z : yL} {al : yAl} {sh : ySh} {S : yS} {nm ns : Nat} {mu : Nat → Nat} {d : Int32} (hY : YC Z al sh nm ns mu) (hs11 : S 11 0 2 = nI ns) : Cq l yX2_minutesBySessions wsX2_minutesBySessions ({ frames := 7, cells := 1, slots := 6, locals := 110 }) 1 6 Z [.ref (al 0 0), .int d] al sh S (yRp (kDep d = 0) al sh (some (.int (mBy S d.toNatClampNeg ns))) S) (yx [(1, xIA)] (kDep d)) := by
  obtain ⟨tg11, ht11⟩ := YL.obj hY.2.2.2.2.2.2.2.2.2.2.1
  obtain ⟨fo, y7, y7e⟩ := hY.2.2.2.2.2.2.2.1
  refine Cq.of (lv := [(0, .ref (al 0 0)), (1, .int d)]) (by decide) rfl (Nat.le_of_ble_eq_true rfl) rfl ?_
  intro p_ e_ s_ m_ below_ meth_ c_ cx hlk hr htb
  have loop : ∀ (p1 : ¬ oR 0 3 d) (k i : Nat) (a : Int32), i + k = ns → lSub S d.toNatClampNeg i a k = mBy S d.toNatClampNeg ns → J p_ l e_ ({ frames := 7, cells := 1, slots := 6, locals := 110 }) s_ m_ (([.ref (al 0 0), .int d] : List Value).toArray) below_ meth_ c_ 4 Z 1 6 (vx_MQ below_ (Qn Z (yRp (kDep d = 0) al sh (some (.int (mBy S d.toNatClampNeg ns))) S)) (Qx Z (yx [(1, xIA)] (kDep d)) al sh S) (([.ref (al 0 0), .int d] : List Value).toArray) s_ 1 6 (yF Z)) al sh S 46 [(0, .ref (al 0 0)), (1, .int d), (2, .int a), (3, .int (nI i))] [] := by
    intro p1 k
    induction k with
    | zero =>
      intro i a hik he
      have hik2 : i = ns := by omega
      subst hik2
      refine j_iload_n (j := 3) cx dX2_minutesBySessions_46 rfl rfl (pc' := 47) rfl ?_
      refine j_aload_n (j := 0) cx dX2_minutesBySessions_47 rfl rfl (pc' := 48) rfl ?_
      refine j_get (fk := 8) (ref := "TerminalYard") (v := .ref (al 11 0)) cx hY.1 rfl (by decide +kernel) (by decide) (by decide +kernel) (fun _ h => h) (yV_r (k := (11, 0)) rfl) rfl dX2_minutesBySessions_48 (pc' := 51) rfl ?_
      refine j_cVR (cells1 := 1) (slots1 := 6) (st1 := [.int (nI i), .int (nI i)]) (As := []) (rest := [.int (nI i)]) cx (YL.size hY.2.2.2.2.2.2.2.2.2.2.1 hs11) gX2_minutesBySessions_Jx4a65c_size_8abf5 rfl rfl rfl 0 rfl (by decide +kernel) ⟨Nat.le_of_ble_eq_true rfl, Nat.le_of_ble_eq_true rfl⟩ ht11 rfl rfl rfl rfl (Nat.le_of_ble_eq_true rfl) dX2_minutesBySessions_51 ⟨Nat.le_of_ble_eq_true rfl, Nat.le_of_ble_eq_true rfl⟩ (pc' := 54) rfl rfl rfl rfl ?_
      refine j_icmp_ge (tgt := 82) cx dX2_minutesBySessions_54 (by decide) (pc' := 57) rfl (fun _ => ?_) (fun h => by first | exact absurd h nI_gg | exact absurd nI_gg h)
      refine j_iload_n (j := 2) cx dX2_minutesBySessions_82 rfl rfl (pc' := 83) rfl ?_
      exact J.ret _ (j_iret (ty := .int) cx hlk hr rfl (Nat.le_of_ble_eq_true rfl) (Nat.le_of_ble_eq_true rfl) dX2_minutesBySessions_83 ⟨by simp [kDep, p1], congrArg (fun z => some (Value.int z)) he, rfl, rfl, rfl⟩)
    | succ k ih =>
      intro i a hik he
      have hi : i < ns := by omega
      refine j_iload_n (j := 3) cx dX2_minutesBySessions_46 rfl rfl (pc' := 47) rfl ?_
      refine j_aload_n (j := 0) cx dX2_minutesBySessions_47 rfl rfl (pc' := 48) rfl ?_
      refine j_get (fk := 8) (ref := "TerminalYard") (v := .ref (al 11 0)) cx hY.1 rfl (by decide +kernel) (by decide) (by decide +kernel) (fun _ h => h) (yV_r (k := (11, 0)) rfl) rfl dX2_minutesBySessions_48 (pc' := 51) rfl ?_
      refine j_cVR (cells1 := 1) (slots1 := 6) (st1 := [.int (nI ns), .int (nI i)]) (As := []) (rest := [.int (nI i)]) cx (YL.size hY.2.2.2.2.2.2.2.2.2.2.1 hs11) gX2_minutesBySessions_Jx4a65c_size_8abf5 rfl rfl rfl 0 rfl (by decide +kernel) ⟨Nat.le_of_ble_eq_true rfl, Nat.le_of_ble_eq_true rfl⟩ ht11 rfl rfl rfl rfl (Nat.le_of_ble_eq_true rfl) dX2_minutesBySessions_51 ⟨Nat.le_of_ble_eq_true rfl, Nat.le_of_ble_eq_true rfl⟩ (pc' := 54) rfl rfl rfl rfl ?_
      refine j_icmp_ge (tgt := 82) cx dX2_minutesBySessions_54 (by decide) (pc' := 57) rfl (fun h => by first | exact absurd h (nI_ge hi (by have := hY.2.2.2.2.2.2.2.2.2.2.2.2.2.2.2.2.2; omega)) | exact absurd (nI_ge hi (by have := hY.2.2.2.2.2.2.2.2.2.2.2.2.2.2.2.2.2; omega)) h) (fun _ => ?_)
      refine j_iload_n (j := 2) cx dX2_minutesBySessions_57 rfl rfl (pc' := 58) rfl ?_
      refine j_aload_n (j := 0) cx dX2_minutesBySessions_58 rfl rfl (pc' := 59) rfl ?_
      refine j_get (fk := 8) (ref := "TerminalYard") (v := .ref (al 11 0)) cx hY.1 rfl (by decide +kernel) (by decide) (by decide +kernel) (fun _ h => h) (yV_r (k := (11, 0)) rfl) rfl dX2_minutesBySessions_59 (pc' := 62) rfl ?_
      refine j_iload_n (j := 3) cx dX2_minutesBySessions_62 rfl rfl (pc' := 63) rfl ?_
      refine j_cVR (cells1 := 1) (slots1 := 6) (st1 := [.ref (al 21 i), .int a]) (As := [.int (nI i)]) (rest := [.int a]) cx (YL.get hY.2.2.2.2.2.2.2.2.2.2.1 hs11 hi) gX2_minutesBySessions_Jx4a65c_get_915e3 rfl rfl rfl 1 rfl (by decide +kernel) ⟨Nat.le_of_ble_eq_true rfl, Nat.le_of_ble_eq_true rfl⟩ ht11 rfl rfl rfl rfl (Nat.le_of_ble_eq_true rfl) dX2_minutesBySessions_63 ⟨Nat.le_of_ble_eq_true rfl, Nat.le_of_ble_eq_true rfl⟩ (pc' := 66) rfl rfl rfl rfl ?_
      refine j_castS cx (hY.2.2.2.2.2.2.2.2.2.2.2.2.1 _ hi) rfl (by decide +kernel) rfl dX2_minutesBySessions_66 (pc' := 69) rfl ?_
      refine j_get (fk := 3) (ref := "TerminalYard$Session") (v := .ref (al 22 i)) cx (hY.2.2.2.2.2.2.2.2.2.2.2.2.1 _ hi) rfl (by decide +kernel) (by decide) (by decide +kernel) (fun _ h => h) (yV_r (k := (22, i)) rfl) rfl dX2_minutesBySessions_69 (pc' := 72) rfl ?_
      refine j_iload_n (j := 1) cx dX2_minutesBySessions_72 rfl rfl (pc' := 73) rfl ?_
      refine j_iald (v := S 22 i d.toNatClampNeg) cx (hY.2.2.2.2.2.2.2.2.2.2.2.2.2.1 _ hi) rfl (vp_in_out (b := 3) (by decide) p1) rfl rfl dX2_minutesBySessions_73 (pc' := 74) rfl ?_
      refine j_isub cx dX2_minutesBySessions_74 (pc' := 75) rfl ?_
      refine j_istore_n (lv' := [(2, .int (a - (S 22 i d.toNatClampNeg))), (0, .ref (al 0 0)), (1, .int d), (3, .int (nI i))]) cx dX2_minutesBySessions_75 rfl (by decide) rfl (pc' := 76) rfl ?_
      refine j_iinc (j := 3) (v := nI (i + 1)) (lv' := [(3, .int (nI (i + 1))), (2, .int (a - (S 22 i d.toNatClampNeg))), (0, .ref (al 0 0)), (1, .int d)]) cx dX2_minutesBySessions_76 rfl (nI_1 i) (by decide) rfl (pc' := 79) rfl ?_
      refine j_goto (tgt := 46) cx dX2_minutesBySessions_79 (by decide) ?_
      exact J.sub [2, 3, 1, 0] rfl (ih (i + 1) _ (by omega) he)
  refine j_iload_n (j := 1) cx dX2_minutesBySessions_0 rfl rfl (pc' := 1) rfl ?_
  refine j_cSX (cells1 := 1) (slots1 := 6) (st1 := []) (As := [.int d]) (rest := []) cx (c_X2_checkDepartment hl0) gX2_minutesBySessions_X2_checkDepartment rfl rfl rfl 1 rfl (by decide +kernel) ⟨Nat.le_of_ble_eq_true rfl, Nat.le_of_ble_eq_true rfl⟩ rfl (Nat.le_of_ble_eq_true rfl) dX2_minutesBySessions_1 ⟨Nat.le_of_ble_eq_true rfl, Nat.le_of_ble_eq_true rfl⟩ (pc' := 4) rfl rfl rfl rfl (fun E hE => jx_out hlk htb (Nat.le_of_ble_eq_true rfl) (Nat.le_of_ble_eq_true rfl) ⟨(1, xIA), by simp, hE.1, by have hq := hE.2; simp [kDep, *]⟩) (fun p1 => ?_)
  refine j_aload_n (j := 0) cx dX2_minutesBySessions_4 rfl rfl (pc' := 5) rfl ?_
  refine j_get (fk := 5) (ref := "TerminalYard") (v := .ref (al 6 0)) cx hY.1 rfl (by decide +kernel) (by decide) (by decide +kernel) (fun _ h => h) (yV_r (k := (6, 0)) rfl) rfl dX2_minutesBySessions_5 (pc' := 8) rfl ?_
  refine j_iload_n (j := 1) cx dX2_minutesBySessions_8 rfl rfl (pc' := 9) rfl ?_
  refine j_iald (v := S 6 0 d.toNatClampNeg) cx hY.2.2.2.2.2.2.1 rfl (vp_in_out (b := 3) (by decide) p1) rfl rfl dX2_minutesBySessions_9 (pc' := 10) rfl ?_
  refine j_istore_n (lv' := [(2, .int (S 6 0 d.toNatClampNeg)), (0, .ref (al 0 0)), (1, .int d)]) cx dX2_minutesBySessions_10 rfl (by decide) rfl (pc' := 11) rfl ?_
  refine j_iconst (v := 0) cx dX2_minutesBySessions_11 (by decide) (pc' := 12) rfl ?_
  refine j_istore_n (lv' := [(3, .int 0), (2, .int (S 6 0 d.toNatClampNeg)), (0, .ref (al 0 0)), (1, .int d)]) cx dX2_minutesBySessions_12 rfl (by decide) rfl (pc' := 13) rfl ?_
  refine j_iload_n (j := 0) cx dX2_minutesBySessions_13 rfl rfl (pc' := 14) rfl ?_
  refine j_iconst (v := 4) cx dX2_minutesBySessions_14 (by decide) (pc' := 15) rfl ?_
  refine j_icmp_ge (tgt := 44) cx dX2_minutesBySessions_15 (by decide) (pc' := 18) rfl (fun h => absurd h (by decide)) (fun _ => ?_)
  refine j_iload_n (j := 1) cx dX2_minutesBySessions_18 rfl rfl (pc' := 19) rfl ?_
  refine j_aload_n (j := 2) cx dX2_minutesBySessions_19 rfl rfl (pc' := 20) rfl ?_
  refine j_get (fk := 6) (ref := "TerminalYard") (v := .ref (al 7 0)) cx hY.1 rfl (by decide +kernel) (by decide) (by decide +kernel) (fun _ h => h) (yV_r (k := (7, 0)) rfl) rfl dX2_minutesBySessions_20 (pc' := 23) rfl ?_
  refine j_iload_n (j := 3) cx dX2_minutesBySessions_23 rfl rfl (pc' := 24) rfl ?_
  refine j_aald (ti := 5) cx y7 rfl rfl (vp_in_out (b := 3) (by decide) p1) (y7e _ (ix_of (vp_in_out (b := 3) (by decide) p1))) rfl dX2_minutesBySessions_24 (pc' := 25) rfl ?_
  refine j_iload_n (j := 0) cx dX2_minutesBySessions_25 rfl rfl (pc' := 26) rfl ?_
  refine j_iald (v := S 8 d.toNatClampNeg 0) cx (hY.2.2.2.2.2.2.2.2.1 _ (ix_of (vp_in_out (b := 3) (by decide) p1))) rfl (by unfold vp_in; decide) rfl rfl dX2_minutesBySessions_26 (pc' := 27) rfl ?_
  refine j_aload_n (j := 2) cx dX2_minutesBySessions_27 rfl rfl (pc' := 28) rfl ?_
  refine j_get (fk := 6) (ref := "TerminalYard") (v := .ref (al 7 0)) cx hY.1 rfl (by decide +kernel) (by decide) (by decide +kernel) (fun _ h => h) (yV_r (k := (7, 0)) rfl) rfl dX2_minutesBySessions_28 (pc' := 31) rfl ?_
  refine j_iload_n (j := 0) cx dX2_minutesBySessions_31 rfl rfl (pc' := 32) rfl ?_
  refine j_aald (i := 0) (r := al 8 0) (ti := 5) cx y7 rfl rfl (by unfold vp_in; decide) (y7e 0 (by decide)) rfl dX2_minutesBySessions_32 (pc' := 33) rfl ?_
  refine j_iload_n (j := 3) cx dX2_minutesBySessions_33 rfl rfl (pc' := 34) rfl ?_
  refine j_iald (v := S 8 0 d.toNatClampNeg) cx (hY.2.2.2.2.2.2.2.2.1 _ (by decide)) rfl (vp_in_out (b := 3) (by decide) p1) rfl rfl dX2_minutesBySessions_34 (pc' := 35) rfl ?_
  refine j_isub cx dX2_minutesBySessions_35 (pc' := 36) rfl ?_
  refine j_iadd cx dX2_minutesBySessions_36 (pc' := 37) rfl ?_
  refine j_istore_n (lv' := [(2, .int ((S 6 0 d.toNatClampNeg) + ((S 8 d.toNatClampNeg 0) - (S 8 0 d.toNatClampNeg)))), (3, .int 0), (0, .ref (al 0 0)), (1, .int d)]) cx dX2_minutesBySessions_37 rfl (by decide) rfl (pc' := 38) rfl ?_
  refine j_iinc (j := 1) (v := 1) (lv' := [(3, .int 1), (2, .int ((S 6 0 d.toNatClampNeg) + ((S 8 d.toNatClampNeg 0) - (S 8 0 d.toNatClampNeg)))), (0, .ref (al 0 0)), (1, .int d)]) cx dX2_minutesBySessions_38 rfl (by decide) (by decide) rfl (pc' := 41) rfl ?_
  refine j_goto (tgt := 13) cx dX2_minutesBySessions_41 (by decide) ?_
  refine j_iload_n (j := 0) cx dX2_minutesBySessions_13 rfl rfl (pc' := 14) rfl ?_
  refine j_iconst (v := 4) cx dX2_minutesBySessions_14 (by decide) (pc' := 15) rfl ?_
  refine j_icmp_ge (tgt := 44) cx dX2_minutesBySessions_15 (by decide) (pc' := 18) rfl (fun h => absurd h (by decide)) (fun _ => ?_)
  refine j_iload_n (j := 1) cx dX2_minutesBySessions_18 rfl rfl (pc' := 19) rfl ?_
  refine j_aload_n (j := 2) cx dX2_minutesBySessions_19 rfl rfl (pc' := 20) rfl ?_
  refine j_get (fk := 6) (ref := "TerminalYard") (v := .ref (al 7 0)) cx hY.1 rfl (by decide +kernel) (by decide) (by decide +kernel) (fun _ h => h) (yV_r (k := (7, 0)) rfl) rfl dX2_minutesBySessions_20 (pc' := 23) rfl ?_
  refine j_iload_n (j := 3) cx dX2_minutesBySessions_23 rfl rfl (pc' := 24) rfl ?_
  refine j_aald (ti := 5) cx y7 rfl rfl (vp_in_out (b := 3) (by decide) p1) (y7e _ (ix_of (vp_in_out (b := 3) (by decide) p1))) rfl dX2_minutesBySessions_24 (pc' := 25) rfl ?_
  refine j_iload_n (j := 0) cx dX2_minutesBySessions_25 rfl rfl (pc' := 26) rfl ?_
  refine j_iald (v := S 8 d.toNatClampNeg 1) cx (hY.2.2.2.2.2.2.2.2.1 _ (ix_of (vp_in_out (b := 3) (by decide) p1))) rfl (by unfold vp_in; decide) rfl rfl dX2_minutesBySessions_26 (pc' := 27) rfl ?_
  refine j_aload_n (j := 2) cx dX2_minutesBySessions_27 rfl rfl (pc' := 28) rfl ?_
  refine j_get (fk := 6) (ref := "TerminalYard") (v := .ref (al 7 0)) cx hY.1 rfl (by decide +kernel) (by decide) (by decide +kernel) (fun _ h => h) (yV_r (k := (7, 0)) rfl) rfl dX2_minutesBySessions_28 (pc' := 31) rfl ?_
  refine j_iload_n (j := 0) cx dX2_minutesBySessions_31 rfl rfl (pc' := 32) rfl ?_
  refine j_aald (i := 1) (r := al 8 1) (ti := 5) cx y7 rfl rfl (by unfold vp_in; decide) (y7e 1 (by decide)) rfl dX2_minutesBySessions_32 (pc' := 33) rfl ?_
  refine j_iload_n (j := 3) cx dX2_minutesBySessions_33 rfl rfl (pc' := 34) rfl ?_
  refine j_iald (v := S 8 1 d.toNatClampNeg) cx (hY.2.2.2.2.2.2.2.2.1 _ (by decide)) rfl (vp_in_out (b := 3) (by decide) p1) rfl rfl dX2_minutesBySessions_34 (pc' := 35) rfl ?_
  refine j_isub cx dX2_minutesBySessions_35 (pc' := 36) rfl ?_
  refine j_iadd cx dX2_minutesBySessions_36 (pc' := 37) rfl ?_
  refine j_istore_n (lv' := [(2, .int (((S 6 0 d.toNatClampNeg) + ((S 8 d.toNatClampNeg 0) - (S 8 0 d.toNatClampNeg))) + ((S 8 d.toNatClampNeg 1) - (S 8 1 d.toNatClampNeg)))), (3, .int 1), (0, .ref (al 0 0)), (1, .int d)]) cx dX2_minutesBySessions_37 rfl (by decide) rfl (pc' := 38) rfl ?_
  refine j_iinc (j := 1) (v := 2) (lv' := [(3, .int 2), (2, .int (((S 6 0 d.toNatClampNeg) + ((S 8 d.toNatClampNeg 0) - (S 8 0 d.toNatClampNeg))) + ((S 8 d.toNatClampNeg 1) - (S 8 1 d.toNatClampNeg)))), (0, .ref (al 0 0)), (1, .int d)]) cx dX2_minutesBySessions_38 rfl (by decide) (by decide) rfl (pc' := 41) rfl ?_
  refine j_goto (tgt := 13) cx dX2_minutesBySessions_41 (by decide) ?_
  refine j_iload_n (j := 0) cx dX2_minutesBySessions_13 rfl rfl (pc' := 14) rfl ?_
  refine j_iconst (v := 4) cx dX2_minutesBySessions_14 (by decide) (pc' := 15) rfl ?_
  refine j_icmp_ge (tgt := 44) cx dX2_minutesBySessions_15 (by decide) (pc' := 18) rfl (fun h => absurd h (by decide)) (fun _ => ?_)
  refine j_iload_n (j := 1) cx dX2_minutesBySessions_18 rfl rfl (pc' := 19) rfl ?_
  refine j_aload_n (j := 2) cx dX2_minutesBySessions_19 rfl rfl (pc' := 20) rfl ?_
  refine j_get (fk := 6) (ref := "TerminalYard") (v := .ref (al 7 0)) cx hY.1 rfl (by decide +kernel) (by decide) (by decide +kernel) (fun _ h => h) (yV_r (k := (7, 0)) rfl) rfl dX2_minutesBySessions_20 (pc' := 23) rfl ?_
  refine j_iload_n (j := 3) cx dX2_minutesBySessions_23 rfl rfl (pc' := 24) rfl ?_
  refine j_aald (ti := 5) cx y7 rfl rfl (vp_in_out (b := 3) (by decide) p1) (y7e _ (ix_of (vp_in_out (b := 3) (by decide) p1))) rfl dX2_minutesBySessions_24 (pc' := 25) rfl ?_
  refine j_iload_n (j := 0) cx dX2_minutesBySessions_25 rfl rfl (pc' := 26) rfl ?_
  refine j_iald (v := S 8 d.toNatClampNeg 2) cx (hY.2.2.2.2.2.2.2.2.1 _ (ix_of (vp_in_out (b := 3) (by decide) p1))) rfl (by unfold vp_in; decide) rfl rfl dX2_minutesBySessions_26 (pc' := 27) rfl ?_
  refine j_aload_n (j := 2) cx dX2_minutesBySessions_27 rfl rfl (pc' := 28) rfl ?_
  refine j_get (fk := 6) (ref := "TerminalYard") (v := .ref (al 7 0)) cx hY.1 rfl (by decide +kernel) (by decide) (by decide +kernel) (fun _ h => h) (yV_r (k := (7, 0)) rfl) rfl dX2_minutesBySessions_28 (pc' := 31) rfl ?_
  refine j_iload_n (j := 0) cx dX2_minutesBySessions_31 rfl rfl (pc' := 32) rfl ?_
  refine j_aald (i := 2) (r := al 8 2) (ti := 5) cx y7 rfl rfl (by unfold vp_in; decide) (y7e 2 (by decide)) rfl dX2_minutesBySessions_32 (pc' := 33) rfl ?_
  refine j_iload_n (j := 3) cx dX2_minutesBySessions_33 rfl rfl (pc' := 34) rfl ?_
  refine j_iald (v := S 8 2 d.toNatClampNeg) cx (hY.2.2.2.2.2.2.2.2.1 _ (by decide)) rfl (vp_in_out (b := 3) (by decide) p1) rfl rfl dX2_minutesBySessions_34 (pc' := 35) rfl ?_
  refine j_isub cx dX2_minutesBySessions_35 (pc' := 36) rfl ?_
  refine j_iadd cx dX2_minutesBySessions_36 (pc' := 37) rfl ?_
  refine j_istore_n (lv' := [(2, .int ((((S 6 0 d.toNatClampNeg) + ((S 8 d.toNatClampNeg 0) - (S 8 0 d.toNatClampNeg))) + ((S 8 d.toNatClampNeg 1) - (S 8 1 d.toNatClampNeg))) + ((S 8 d.toNatClampNeg 2) - (S 8 2 d.toNatClampNeg)))), (3, .int 2), (0, .ref (al 0 0)), (1, .int d)]) cx dX2_minutesBySessions_37 rfl (by decide) rfl (pc' := 38) rfl ?_
  refine j_iinc (j := 1) (v := 3) (lv' := [(3, .int 3), (2, .int ((((S 6 0 d.toNatClampNeg) + ((S 8 d.toNatClampNeg 0) - (S 8 0 d.toNatClampNeg))) + ((S 8 d.toNatClampNeg 1) - (S 8 1 d.toNatClampNeg))) + ((S 8 d.toNatClampNeg 2) - (S 8 2 d.toNatClampNeg)))), (0, .ref (al 0 0)), (1, .int d)]) cx dX2_minutesBySessions_38 rfl (by decide) (by decide) rfl (pc' := 41) rfl ?_
  refine j_goto (tgt := 13) cx dX2_minutesBySessions_41 (by decide) ?_
  refine j_iload_n (j := 0) cx dX2_minutesBySessions_13 rfl rfl (pc' := 14) rfl ?_
  refine j_iconst (v := 4) cx dX2_minutesBySessions_14 (by decide) (pc' := 15) rfl ?_
  refine j_icmp_ge (tgt := 44) cx dX2_minutesBySessions_15 (by decide) (pc' := 18) rfl (fun h => absurd h (by decide)) (fun _ => ?_)
  refine j_iload_n (j := 1) cx dX2_minutesBySessions_18 rfl rfl (pc' := 19) rfl ?_
  refine j_aload_n (j := 2) cx dX2_minutesBySessions_19 rfl rfl (pc' := 20) rfl ?_
  refine j_get (fk := 6) (ref := "TerminalYard") (v := .ref (al 7 0)) cx hY.1 rfl (by decide +kernel) (by decide) (by decide +kernel) (fun _ h => h) (yV_r (k := (7, 0)) rfl) rfl dX2_minutesBySessions_20 (pc' := 23) rfl ?_
  refine j_iload_n (j := 3) cx dX2_minutesBySessions_23 rfl rfl (pc' := 24) rfl ?_
  refine j_aald (ti := 5) cx y7 rfl rfl (vp_in_out (b := 3) (by decide) p1) (y7e _ (ix_of (vp_in_out (b := 3) (by decide) p1))) rfl dX2_minutesBySessions_24 (pc' := 25) rfl ?_
  refine j_iload_n (j := 0) cx dX2_minutesBySessions_25 rfl rfl (pc' := 26) rfl ?_
  refine j_iald (v := S 8 d.toNatClampNeg 3) cx (hY.2.2.2.2.2.2.2.2.1 _ (ix_of (vp_in_out (b := 3) (by decide) p1))) rfl (by unfold vp_in; decide) rfl rfl dX2_minutesBySessions_26 (pc' := 27) rfl ?_
  refine j_aload_n (j := 2) cx dX2_minutesBySessions_27 rfl rfl (pc' := 28) rfl ?_
  refine j_get (fk := 6) (ref := "TerminalYard") (v := .ref (al 7 0)) cx hY.1 rfl (by decide +kernel) (by decide) (by decide +kernel) (fun _ h => h) (yV_r (k := (7, 0)) rfl) rfl dX2_minutesBySessions_28 (pc' := 31) rfl ?_
  refine j_iload_n (j := 0) cx dX2_minutesBySessions_31 rfl rfl (pc' := 32) rfl ?_
  refine j_aald (i := 3) (r := al 8 3) (ti := 5) cx y7 rfl rfl (by unfold vp_in; decide) (y7e 3 (by decide)) rfl dX2_minutesBySessions_32 (pc' := 33) rfl ?_
  refine j_iload_n (j := 3) cx dX2_minutesBySessions_33 rfl rfl (pc' := 34) rfl ?_
  refine j_iald (v := S 8 3 d.toNatClampNeg) cx (hY.2.2.2.2.2.2.2.2.1 _ (by decide)) rfl (vp_in_out (b := 3) (by decide) p1) rfl rfl dX2_minutesBySessions_34 (pc' := 35) rfl ?_
  refine j_isub cx dX2_minutesBySessions_35 (pc' := 36) rfl ?_
  refine j_iadd cx dX2_minutesBySessions_36 (pc' := 37) rfl ?_
  refine j_istore_n (lv' := [(2, .int (((((S 6 0 d.toNatClampNeg) + ((S 8 d.toNatClampNeg 0) - (S 8 0 d.toNatClampNeg))) + ((S 8 d.toNatClampNeg 1) - (S 8 1 d.toNatClampNeg))) + ((S 8 d.toNatClampNeg 2) - (S 8 2 d.toNatClampNeg))) + ((S 8 d.toNatClampNeg 3) - (S 8 3 d.toNatClampNeg)))), (3, .int 3), (0, .ref (al 0 0)), (1, .int d)]) cx dX2_minutesBySessions_37 rfl (by decide) rfl (pc' := 38) rfl ?_
  refine j_iinc (j := 1) (v := 4) (lv' := [(3, .int 4), (2, .int (((((S 6 0 d.toNatClampNeg) + ((S 8 d.toNatClampNeg 0) - (S 8 0 d.toNatClampNeg))) + ((S 8 d.toNatClampNeg 1) - (S 8 1 d.toNatClampNeg))) + ((S 8 d.toNatClampNeg 2) - (S 8 2 d.toNatClampNeg))) + ((S 8 d.toNatClampNeg 3) - (S 8 3 d.toNatClampNeg)))), (0, .ref (al 0 0)), (1, .int d)]) cx dX2_minutesBySessions_38 rfl (by decide) (by decide) rfl (pc' := 41) rfl ?_
  refine j_goto (tgt := 13) cx dX2_minutesBySessions_41 (by decide) ?_
  refine j_iload_n (j := 0) cx dX2_minutesBySessions_13 rfl rfl (pc' := 14) rfl ?_
  refine j_iconst (v := 4) cx dX2_minutesBySessions_14 (by decide) (pc' := 15) rfl ?_
  refine j_icmp_ge (tgt := 44) cx dX2_minutesBySessions_15 (by decide) (pc' := 18) rfl (fun _ => ?_) (fun h => absurd h (by decide))
  refine j_iconst (v := 0) cx dX2_minutesBySessions_44 (by decide) (pc' := 45) rfl ?_
  refine j_istore_n (lv' := [(3, .int 0), (2, .int (((((S 6 0 d.toNatClampNeg) + ((S 8 d.toNatClampNeg 0) - (S 8 0 d.toNatClampNeg))) + ((S 8 d.toNatClampNeg 1) - (S 8 1 d.toNatClampNeg))) + ((S 8 d.toNatClampNeg 2) - (S 8 2 d.toNatClampNeg))) + ((S 8 d.toNatClampNeg 3) - (S 8 3 d.toNatClampNeg)))), (0, .ref (al 0 0)), (1, .int d)]) cx dX2_minutesBySessions_45 rfl (by decide) rfl (pc' := 46) rfl ?_
  exact J.sub [2, 3, 1, 0] rfl (loop p1 ns 0 _ (by omega) rfl)
set_option maxHeartbeats 4000000 in
set_option maxRecDepth 100000 in
theorem c_X2_chargeLiveSessions {l : Launch} {Z : yL} {al : yAl} {sh : ySh} {S : yS} {nm ns : Nat} {mu : Nat → Nat}  (hY : YC Z al sh nm ns mu) (hci : CI S nm ns) : Ct l yX2_chargeLiveSessions wsX2_chargeLiveSessions ({ frames := 3, cells := 0, slots := 0, locals := 64 }) 0 0 Z [.ref (al 0 0)] al sh S (yR al sh (some (.int (lCnt mu S 0 0 ns))) (lMin mu S 0 ns)) := by
  obtain ⟨tg11, ht11⟩ := YL.obj hY.2.2.2.2.2.2.2.2.2.2.1
  refine Ct.of (lv := [(0, .ref (al 0 0))]) (by decide) rfl (Nat.le_of_ble_eq_true rfl) rfl ?_
  intro p_ e_ s_ m_ below_ meth_ c_ cx hlk hr hnm9
  have loop : ∀ (k i : Nat) (T : yS) (a : Int32), i + k = ns → CI T nm ns → lMin mu T i k = lMin mu S 0 ns → lCnt mu T i a k = lCnt mu S 0 0 ns → J p_ l e_ ({ frames := 3, cells := 0, slots := 0, locals := 64 }) s_ m_ (([.ref (al 0 0)] : List Value).toArray) below_ meth_ c_ 5 Z 0 0 (MQ below_ (Qn Z (yR al sh (some (.int (lCnt mu S 0 0 ns))) (lMin mu S 0 ns))) (([.ref (al 0 0)] : List Value).toArray) s_ 0 0 (yF Z)) al sh T 4 [(0, .ref (al 0 0)), (1, .int a), (2, .int (nI i))] [] := by
    intro k
    induction k with
    | zero =>
      intro i T a hik hci he he2
      have hik2 : i = ns := by omega
      subst hik2
      refine j_iload_n (j := 2) cx dX2_chargeLiveSessions_4 rfl rfl (pc' := 5) rfl ?_
      refine j_aload_n (j := 0) cx dX2_chargeLiveSessions_5 rfl rfl (pc' := 6) rfl ?_
      refine j_get (fk := 8) (ref := "TerminalYard") (v := .ref (al 11 0)) cx hY.1 rfl (by decide +kernel) (by decide) (by decide +kernel) (fun _ h => h) (yV_r (k := (11, 0)) rfl) rfl dX2_chargeLiveSessions_6 (pc' := 9) rfl ?_
      refine j_cVR (cells1 := 0) (slots1 := 0) (st1 := [.int (nI i), .int (nI i)]) (As := []) (rest := [.int (nI i)]) cx (YL.size hY.2.2.2.2.2.2.2.2.2.2.1 hci.2.1) gX2_chargeLiveSessions_Jx4a65c_size_8abf5 rfl rfl rfl 0 rfl (by decide +kernel) ⟨Nat.le_of_ble_eq_true rfl, Nat.le_of_ble_eq_true rfl⟩ ht11 rfl rfl rfl rfl (Nat.le_of_ble_eq_true rfl) dX2_chargeLiveSessions_9 ⟨Nat.le_of_ble_eq_true rfl, Nat.le_of_ble_eq_true rfl⟩ (pc' := 12) rfl rfl rfl rfl ?_
      refine j_icmp_ge (tgt := 64) cx dX2_chargeLiveSessions_12 (by decide) (pc' := 15) rfl (fun _ => ?_) (fun h => by first | exact absurd h nI_gg | exact absurd nI_gg h)
      refine j_iload_n (j := 1) cx dX2_chargeLiveSessions_64 rfl rfl (pc' := 65) rfl ?_
      exact j_iret (ty := .int) cx hlk hr rfl (Nat.le_of_ble_eq_true rfl) (Nat.le_of_ble_eq_true rfl) dX2_chargeLiveSessions_65 ⟨congrArg (fun z => some (Value.int z)) he2, rfl, rfl, he⟩
    | succ k ih =>
      intro i T a hik hci he he2
      have hi : i < ns := by omega
      refine j_iload_n (j := 2) cx dX2_chargeLiveSessions_4 rfl rfl (pc' := 5) rfl ?_
      refine j_aload_n (j := 0) cx dX2_chargeLiveSessions_5 rfl rfl (pc' := 6) rfl ?_
      refine j_get (fk := 8) (ref := "TerminalYard") (v := .ref (al 11 0)) cx hY.1 rfl (by decide +kernel) (by decide) (by decide +kernel) (fun _ h => h) (yV_r (k := (11, 0)) rfl) rfl dX2_chargeLiveSessions_6 (pc' := 9) rfl ?_
      refine j_cVR (cells1 := 0) (slots1 := 0) (st1 := [.int (nI ns), .int (nI i)]) (As := []) (rest := [.int (nI i)]) cx (YL.size hY.2.2.2.2.2.2.2.2.2.2.1 hci.2.1) gX2_chargeLiveSessions_Jx4a65c_size_8abf5 rfl rfl rfl 0 rfl (by decide +kernel) ⟨Nat.le_of_ble_eq_true rfl, Nat.le_of_ble_eq_true rfl⟩ ht11 rfl rfl rfl rfl (Nat.le_of_ble_eq_true rfl) dX2_chargeLiveSessions_9 ⟨Nat.le_of_ble_eq_true rfl, Nat.le_of_ble_eq_true rfl⟩ (pc' := 12) rfl rfl rfl rfl ?_
      refine j_icmp_ge (tgt := 64) cx dX2_chargeLiveSessions_12 (by decide) (pc' := 15) rfl (fun h => by first | exact absurd h (nI_ge hi (by have := hY.2.2.2.2.2.2.2.2.2.2.2.2.2.2.2.2.2; omega)) | exact absurd (nI_ge hi (by have := hY.2.2.2.2.2.2.2.2.2.2.2.2.2.2.2.2.2; omega)) h) (fun _ => ?_)
      refine j_aload_n (j := 0) cx dX2_chargeLiveSessions_15 rfl rfl (pc' := 16) rfl ?_
      refine j_get (fk := 8) (ref := "TerminalYard") (v := .ref (al 11 0)) cx hY.1 rfl (by decide +kernel) (by decide) (by decide +kernel) (fun _ h => h) (yV_r (k := (11, 0)) rfl) rfl dX2_chargeLiveSessions_16 (pc' := 19) rfl ?_
      refine j_iload_n (j := 2) cx dX2_chargeLiveSessions_19 rfl rfl (pc' := 20) rfl ?_
      refine j_cVR (cells1 := 0) (slots1 := 0) (st1 := [.ref (al 21 i)]) (As := [.int (nI i)]) (rest := []) cx (YL.get hY.2.2.2.2.2.2.2.2.2.2.1 hci.2.1 hi) gX2_chargeLiveSessions_Jx4a65c_get_915e3 rfl rfl rfl 1 rfl (by decide +kernel) ⟨Nat.le_of_ble_eq_true rfl, Nat.le_of_ble_eq_true rfl⟩ ht11 rfl rfl rfl rfl (Nat.le_of_ble_eq_true rfl) dX2_chargeLiveSessions_20 ⟨Nat.le_of_ble_eq_true rfl, Nat.le_of_ble_eq_true rfl⟩ (pc' := 23) rfl rfl rfl rfl ?_
      refine j_castS cx (hY.2.2.2.2.2.2.2.2.2.2.2.2.1 _ hi) rfl (by decide +kernel) rfl dX2_chargeLiveSessions_23 (pc' := 26) rfl ?_
      refine j_astore_n (lv' := [(3, .ref (al 21 i)), (0, .ref (al 0 0)), (1, .int a), (2, .int (nI i))]) cx dX2_chargeLiveSessions_26 rfl (by decide) rfl (pc' := 27) rfl ?_
      refine j_aload_n (j := 0) cx dX2_chargeLiveSessions_27 rfl rfl (pc' := 28) rfl ?_
      refine j_cVR (cells1 := 0) (slots1 := 0) (st1 := [.int (bI (T 21 i 6 = 97))]) (As := []) (rest := []) cx (c_X1_isLive (hY.2.2.2.2.2.2.2.2.2.2.2.2.1 _ hi)) gX2_chargeLiveSessions_X1_isLive rfl rfl rfl 0 rfl (by decide +kernel) ⟨Nat.le_of_ble_eq_true rfl, Nat.le_of_ble_eq_true rfl⟩ (hY.2.2.2.2.2.2.2.2.2.2.2.2.1 _ hi) rfl rfl rfl rfl (Nat.le_of_ble_eq_true rfl) dX2_chargeLiveSessions_28 ⟨Nat.le_of_ble_eq_true rfl, Nat.le_of_ble_eq_true rfl⟩ (pc' := 31) rfl rfl rfl rfl ?_
      refine j_ifb_eq (tgt := 58) cx dX2_chargeLiveSessions_31 (by decide) (pc' := 34) rfl (fun h5 => ?_) (fun h5 => ?_)
      · refine j_iinc (j := 3) (v := nI (i + 1)) (lv' := [(2, .int (nI (i + 1))), (3, .ref (al 21 i)), (0, .ref (al 0 0)), (1, .int a)]) cx dX2_chargeLiveSessions_58 rfl (nI_1 i) (by decide) rfl (pc' := 61) rfl ?_
        refine j_goto (tgt := 4) cx dX2_chargeLiveSessions_61 (by decide) ?_
        exact J.sub [2, 3, 0] rfl (ih (i + 1) T _ (by omega) hci (by rw [← he]; simp [lMin, sMin, *]) (by rw [← he2]; simp [lCnt, sMin, eMin, *]))
      · refine j_aload_n (j := 1) cx dX2_chargeLiveSessions_34 rfl rfl (pc' := 35) rfl ?_
        refine j_aload_n (j := 0) cx dX2_chargeLiveSessions_35 rfl rfl (pc' := 36) rfl ?_
        refine j_cVR (cells1 := 0) (slots1 := 0) (st1 := [.int (hMin T (mu i) i)]) (As := [.ref (al 21 i)]) (rest := []) cx (c_X2_afterOneMinute hY hi (hci.2.2.1 _ hi) (hci.2.2.2.1 _ (ix_of (hci.2.2.1 _ hi))) (hci.2.2.2.2 _ (hY.2.2.2.2.2.2.2.2.2.2.2.2.2.2.1 _ hi))) gX2_chargeLiveSessions_X2_afterOneMinute rfl rfl rfl 1 rfl (by decide +kernel) ⟨Nat.le_of_ble_eq_true rfl, Nat.le_of_ble_eq_true rfl⟩ hY.1 rfl rfl rfl rfl (Nat.le_of_ble_eq_true rfl) dX2_chargeLiveSessions_36 ⟨Nat.le_of_ble_eq_true rfl, Nat.le_of_ble_eq_true rfl⟩ (pc' := 39) rfl rfl rfl rfl ?_
        refine j_istore (lv' := [(4, .int (hMin T (mu i) i)), (3, .ref (al 21 i)), (0, .ref (al 0 0)), (1, .int a), (2, .int (nI i))]) cx dX2_chargeLiveSessions_39 (by decide) rfl (pc' := 41) rfl ?_
        refine j_iload (j := 0) cx dX2_chargeLiveSessions_41 rfl (pc' := 43) rfl ?_
        refine j_bipush (v := 97) cx dX2_chargeLiveSessions_43 (by decide) (pc' := 45) rfl ?_
        refine j_icmp_eq (tgt := 58) cx dX2_chargeLiveSessions_45 (by decide) (pc' := 48) rfl (fun h7 => ?_) (fun h7 => ?_)
        · refine j_iinc (j := 4) (v := nI (i + 1)) (lv' := [(2, .int (nI (i + 1))), (4, .int (hMin T (mu i) i)), (3, .ref (al 21 i)), (0, .ref (al 0 0)), (1, .int a)]) cx dX2_chargeLiveSessions_58 rfl (nI_1 i) (by decide) rfl (pc' := 61) rfl ?_
          refine j_goto (tgt := 4) cx dX2_chargeLiveSessions_61 (by decide) ?_
          exact J.sub [3, 4, 0] rfl (ih (i + 1) _ _ (by omega) (by rw [show (fMin T i) = sMin T (mu i) i by simp [sMin, *]]; exact hci.min) (by rw [← he]; simp [lMin, sMin, *]) (by rw [← he2]; simp [lCnt, sMin, eMin, *]))
        · refine j_aload_n (j := 2) cx dX2_chargeLiveSessions_48 rfl rfl (pc' := 49) rfl ?_
          refine j_aload_n (j := 1) cx dX2_chargeLiveSessions_49 rfl rfl (pc' := 50) rfl ?_
          refine j_iload (j := 0) cx dX2_chargeLiveSessions_50 rfl (pc' := 52) rfl ?_
          refine j_cVR (cells1 := 0) (slots1 := 0) (st1 := []) (As := [.ref (al 21 i), .int (hMin T (mu i) i)]) (rest := []) cx (c_X2_end hY hi (hMin_n _ _ _) (hMin_f _ _ _)) gX2_chargeLiveSessions_X2_end rfl rfl rfl 2 rfl (by decide +kernel) ⟨Nat.le_of_ble_eq_true rfl, Nat.le_of_ble_eq_true rfl⟩ hY.1 rfl rfl rfl rfl (Nat.le_of_ble_eq_true rfl) dX2_chargeLiveSessions_52 ⟨Nat.le_of_ble_eq_true rfl, Nat.le_of_ble_eq_true rfl⟩ (pc' := 55) rfl rfl rfl rfl ?_
          refine j_iinc (j := 3) (v := a + 1) (lv' := [(1, .int (a + 1)), (4, .int (hMin T (mu i) i)), (3, .ref (al 21 i)), (0, .ref (al 0 0)), (2, .int (nI i))]) cx dX2_chargeLiveSessions_55 rfl rfl (by decide) rfl (pc' := 58) rfl ?_
          refine j_iinc (j := 4) (v := nI (i + 1)) (lv' := [(2, .int (nI (i + 1))), (1, .int (a + 1)), (4, .int (hMin T (mu i) i)), (3, .ref (al 21 i)), (0, .ref (al 0 0))]) cx dX2_chargeLiveSessions_58 rfl (nI_1 i) (by decide) rfl (pc' := 61) rfl ?_
          refine j_goto (tgt := 4) cx dX2_chargeLiveSessions_61 (by decide) ?_
          exact J.sub [4, 1, 0] rfl (ih (i + 1) _ _ (by omega) (by rw [show (fEnd (fMin T i) (mu i) i (hMin T (mu i) i)) = sMin T (mu i) i by simp [sMin, *]]; exact hci.min) (by rw [← he]; simp [lMin, sMin, *]) (by rw [← he2]; simp [lCnt, sMin, eMin, *]))
  refine j_iconst (v := 0) cx dX2_chargeLiveSessions_0 (by decide) (pc' := 1) rfl ?_
  refine j_istore_n (lv' := [(1, .int 0), (0, .ref (al 0 0))]) cx dX2_chargeLiveSessions_1 rfl (by decide) rfl (pc' := 2) rfl ?_
  refine j_iconst (v := 0) cx dX2_chargeLiveSessions_2 (by decide) (pc' := 3) rfl ?_
  refine j_istore_n (lv' := [(2, .int 0), (1, .int 0), (0, .ref (al 0 0))]) cx dX2_chargeLiveSessions_3 rfl (by decide) rfl (pc' := 4) rfl ?_
  exact J.sub [2, 1, 0] rfl (loop ns 0 S 0 (by omega) hci rfl rfl)
set_option maxHeartbeats 4000000 in
set_option maxRecDepth 100000 in
theorem c_X2_pass {l : Launch} (hl0 : l.stackTraces = false) {Z : yL} {al : yAl} {sh : ySh} {S : yS} {nm ns : Nat} {mu : Nat → Nat} {x : Int32} (hY : YC Z al sh nm ns mu) (hci : CI S nm ns) : Cq l yX2_pass wsX2_pass ({ frames := 6, cells := 1, slots := 6, locals := 90 }) 1 6 Z [.ref (al 0 0), .int x] al sh S (yRp (kPass x (S 0 0 9) = 0) al sh (some (.int (lEnd mu ns S 0 x.toNatClampNeg))) (lPass mu ns S x.toNatClampNeg)) (yx [(1, xIA)] (kPass x (S 0 0 9))) := by
  refine Cq.of (lv := [(0, .ref (al 0 0)), (1, .int x)]) (by decide) rfl (Nat.le_of_ble_eq_true rfl) rfl ?_
  intro p_ e_ s_ m_ below_ meth_ c_ cx hlk hr htb
  by_cases hb : oR 1 60 x
  · refine j_iload_n (j := 1) cx dX2_pass_0 rfl rfl (pc' := 1) rfl ?_
    refine j_iconst (v := 1) cx dX2_pass_1 (by decide) (pc' := 2) rfl ?_
    refine j_bipush (v := 60) cx dX2_pass_2 (by decide) (pc' := 4) rfl ?_
    refine j_cSR (cells1 := 0) (slots1 := 0) (st1 := [.int (bI (oR 1 60 x))]) (As := [.int x, .int 1, .int 60]) (rest := []) cx (c_X2_isOutside) gX2_pass_X2_isOutside rfl rfl rfl 3 rfl (by decide +kernel) ⟨Nat.le_of_ble_eq_true rfl, Nat.le_of_ble_eq_true rfl⟩ rfl (Nat.le_of_ble_eq_true rfl) dX2_pass_4 ⟨Nat.le_of_ble_eq_true rfl, Nat.le_of_ble_eq_true rfl⟩ (pc' := 7) rfl rfl rfl rfl ?_
    refine j_ifb_eq (tgt := 20) cx dX2_pass_7 (by decide) (pc' := 10) rfl (fun h => by first | exact absurd h hb | exact absurd hb h) (fun _ => ?_)
    exact j_throwS (ik := 58) (ic := 62) (is := 230) (cls := "java/lang/IllegalArgumentException") (text := "from 1 to 60 minutes pass at once") (names := ["java/lang/RuntimeException", "java/lang/Exception"]) cx hl0 hlk htb rfl (by decide) (by decide) (by decide) (by decide +kernel) (by decide +kernel) (by decide +kernel) (by decide +kernel) (by decide +kernel) dX2_pass_10 dX2_pass_13 dX2_pass_14 dX2_pass_16 dX2_pass_19 (Nat.le_of_ble_eq_true rfl) (Nat.le_of_ble_eq_true rfl) (Nat.le_of_ble_eq_true rfl) (Nat.le_of_ble_eq_true rfl) (Nat.le_of_ble_eq_true rfl) (Nat.le_of_ble_eq_true rfl) ⟨(1, xIA), by simp, rfl, by simp [kPass, hb]⟩
  obtain ⟨n, hn, rfl⟩ : ∃ n : Nat, n ≤ 60 ∧ x = nI n := nI_of2 (M := 60) (by decide) (fun q => hb (Or.inl (by rw [Int32.lt_iff_toInt_lt] at q ⊢; rw [show (0 : Int32).toInt = 0 by decide] at q; rw [show (1 : Int32).toInt = 1 by decide]; omega))) (Int32.not_lt.mp (fun q => hb (Or.inr q)))
  have hcl : (nI n).toNatClampNeg = n := nI_clamp (by omega)
  have loop : ∀ (hcd : kPass (nI n) (S 0 0 9) = 0) (k i : Nat) (T : yS) (a : Int32), i + k = n → CI T nm ns → lPass mu ns T k = lPass mu ns S n → lEnd mu ns T a k = lEnd mu ns S 0 n → J p_ l e_ ({ frames := 6, cells := 1, slots := 6, locals := 90 }) s_ m_ (([.ref (al 0 0), .int (nI n)] : List Value).toArray) below_ meth_ c_ 4 Z 0 0 (vx_MQ below_ (Qn Z (yRp (kPass (nI n) (S 0 0 9) = 0) al sh (some (.int (lEnd mu ns S 0 (nI n).toNatClampNeg))) (lPass mu ns S (nI n).toNatClampNeg))) (Qx Z (yx [(1, xIA)] (kPass (nI n) (S 0 0 9))) al sh S) (([.ref (al 0 0), .int (nI n)] : List Value).toArray) s_ 1 6 (yF Z)) al sh T 46 [(0, .ref (al 0 0)), (1, .int (nI n)), (2, .int a), (3, .int (nI i))] [] := by
    intro hcd k
    induction k with
    | zero =>
      intro i T a hik hci he he2
      have hik2 : i = n := by omega
      subst hik2
      refine j_iload_n (j := 3) cx dX2_pass_46 rfl rfl (pc' := 47) rfl ?_
      refine j_iload_n (j := 1) cx dX2_pass_47 rfl rfl (pc' := 48) rfl ?_
      refine j_icmp_ge (tgt := 74) cx dX2_pass_48 (by decide) (pc' := 51) rfl (fun _ => ?_) (fun h => by first | exact absurd h nI_gg | exact absurd nI_gg h)
      refine j_iload_n (j := 2) cx dX2_pass_74 rfl rfl (pc' := 75) rfl ?_
      exact J.ret _ (j_iret (ty := .int) cx hlk hr rfl (Nat.le_of_ble_eq_true rfl) (Nat.le_of_ble_eq_true rfl) dX2_pass_75 ⟨hcd, by rw [hcl]; exact congrArg (fun z => some (Value.int z)) he2, rfl, rfl, by rw [hcl]; exact he⟩)
    | succ k ih =>
      intro i T a hik hci he he2
      have hi : i < n := by omega
      refine j_iload_n (j := 3) cx dX2_pass_46 rfl rfl (pc' := 47) rfl ?_
      refine j_iload_n (j := 1) cx dX2_pass_47 rfl rfl (pc' := 48) rfl ?_
      refine j_icmp_ge (tgt := 74) cx dX2_pass_48 (by decide) (pc' := 51) rfl (fun h => by first | exact absurd h (nI_ge hi (by omega)) | exact absurd (nI_ge hi (by omega)) h) (fun _ => ?_)
      refine j_aload_n (j := 0) cx dX2_pass_51 rfl rfl (pc' := 52) rfl ?_
      refine j_dup cx dX2_pass_52 rfl (pc' := 53) rfl ?_
      refine j_get (fk := 9) (ref := "TerminalYard") (v := .int (T 0 0 9)) cx hY.1 rfl (by decide +kernel) (by decide) (by decide +kernel) (fun _ h => h) (yV_i rfl) rfl dX2_pass_53 (pc' := 56) rfl ?_
      refine j_iconst (v := 1) cx dX2_pass_56 (by decide) (pc' := 57) rfl ?_
      refine j_iadd cx dX2_pass_57 (pc' := 58) rfl ?_
      refine j_puti (fk := 9) (ref := "TerminalYard") (ty := .int) cx hY.1 rfl (by decide +kernel) (by decide) (by decide +kernel) (fun _ h => h) tyX2 tyX2_ok nmX2 rfl (by decide +kernel) rfl rfl rfl rfl dX2_pass_58 (pc' := 61) rfl ?_
      refine j_iload_n (j := 2) cx dX2_pass_61 rfl rfl (pc' := 62) rfl ?_
      refine j_aload_n (j := 0) cx dX2_pass_62 rfl rfl (pc' := 63) rfl ?_
      refine j_cVR (cells1 := 0) (slots1 := 0) (st1 := [.int (lCnt mu (sup T 0 0 9 ((T 0 0 9) + 1)) 0 0 ns), .int a]) (As := []) (rest := [.int a]) cx (c_X2_chargeLiveSessions hY hci.tick) gX2_pass_X2_chargeLiveSessions rfl rfl rfl 0 rfl (by decide +kernel) ⟨Nat.le_of_ble_eq_true rfl, Nat.le_of_ble_eq_true rfl⟩ hY.1 rfl rfl rfl rfl (Nat.le_of_ble_eq_true rfl) dX2_pass_63 ⟨Nat.le_of_ble_eq_true rfl, Nat.le_of_ble_eq_true rfl⟩ (pc' := 66) rfl rfl rfl rfl ?_
      refine j_iadd cx dX2_pass_66 (pc' := 67) rfl ?_
      refine j_istore_n (lv' := [(2, .int (a + (lCnt mu (sup T 0 0 9 ((T 0 0 9) + 1)) 0 0 ns))), (0, .ref (al 0 0)), (1, .int (nI n)), (3, .int (nI i))]) cx dX2_pass_67 rfl (by decide) rfl (pc' := 68) rfl ?_
      refine j_iinc (j := 3) (v := nI (i + 1)) (lv' := [(3, .int (nI (i + 1))), (2, .int (a + (lCnt mu (sup T 0 0 9 ((T 0 0 9) + 1)) 0 0 ns))), (0, .ref (al 0 0)), (1, .int (nI n))]) cx dX2_pass_68 rfl (nI_1 i) (by decide) rfl (pc' := 71) rfl ?_
      refine j_goto (tgt := 46) cx dX2_pass_71 (by decide) ?_
      exact J.sub [2, 3, 1, 0] rfl (ih (i + 1) _ _ (by omega) (CI.lmin _ _ (CI.tick hci)) he he2)
  refine j_iload_n (j := 1) cx dX2_pass_0 rfl rfl (pc' := 1) rfl ?_
  refine j_iconst (v := 1) cx dX2_pass_1 (by decide) (pc' := 2) rfl ?_
  refine j_bipush (v := 60) cx dX2_pass_2 (by decide) (pc' := 4) rfl ?_
  refine j_cSR (cells1 := 0) (slots1 := 0) (st1 := [.int (bI (oR 1 60 (nI n)))]) (As := [.int (nI n), .int 1, .int 60]) (rest := []) cx (c_X2_isOutside) gX2_pass_X2_isOutside rfl rfl rfl 3 rfl (by decide +kernel) ⟨Nat.le_of_ble_eq_true rfl, Nat.le_of_ble_eq_true rfl⟩ rfl (Nat.le_of_ble_eq_true rfl) dX2_pass_4 ⟨Nat.le_of_ble_eq_true rfl, Nat.le_of_ble_eq_true rfl⟩ (pc' := 7) rfl rfl rfl rfl ?_
  refine j_ifb_eq (tgt := 20) cx dX2_pass_7 (by decide) (pc' := 10) rfl (fun _ => ?_) (fun h => by first | exact absurd h hb | exact absurd hb h)
  refine j_aload_n (j := 0) cx dX2_pass_20 rfl rfl (pc' := 21) rfl ?_
  refine j_get (fk := 9) (ref := "TerminalYard") (v := .int (S 0 0 9)) cx hY.1 rfl (by decide +kernel) (by decide) (by decide +kernel) (fun _ h => h) (yV_i rfl) rfl dX2_pass_21 (pc' := 24) rfl ?_
  refine j_iload_n (j := 1) cx dX2_pass_24 rfl rfl (pc' := 25) rfl ?_
  refine j_iadd cx dX2_pass_25 (pc' := 26) rfl ?_
  refine j_sipush (v := 5000) cx dX2_pass_26 (by decide) (pc' := 29) rfl ?_
  refine j_icmp_le (tgt := 42) cx dX2_pass_29 (by decide) (pc' := 32) rfl (fun h3 => ?_) (fun h3 => ?_)
  · refine j_iconst (v := 0) cx dX2_pass_42 (by decide) (pc' := 43) rfl ?_
    refine j_istore_n (lv' := [(2, .int 0), (0, .ref (al 0 0)), (1, .int (nI n))]) cx dX2_pass_43 rfl (by decide) rfl (pc' := 44) rfl ?_
    refine j_iconst (v := 0) cx dX2_pass_44 (by decide) (pc' := 45) rfl ?_
    refine j_istore_n (lv' := [(3, .int 0), (2, .int 0), (0, .ref (al 0 0)), (1, .int (nI n))]) cx dX2_pass_45 rfl (by decide) rfl (pc' := 46) rfl ?_
    exact J.sub [2, 3, 1, 0] rfl (loop (by have hq := Int32.not_lt.mpr h3; simp [kPass, hb, hq]) n 0 S 0 (by omega) hci rfl rfl)
  · exact j_throwS (ik := 58) (ic := 62) (is := 232) (cls := "java/lang/IllegalArgumentException") (text := "time is counted up to 5000") (names := ["java/lang/RuntimeException", "java/lang/Exception"]) cx hl0 hlk htb rfl (by decide) (by decide) (by decide) (by decide +kernel) (by decide +kernel) (by decide +kernel) (by decide +kernel) (by decide +kernel) dX2_pass_32 dX2_pass_35 dX2_pass_36 dX2_pass_38 dX2_pass_41 (Nat.le_of_ble_eq_true rfl) (Nat.le_of_ble_eq_true rfl) (Nat.le_of_ble_eq_true rfl) (Nat.le_of_ble_eq_true rfl) (Nat.le_of_ble_eq_true rfl) (Nat.le_of_ble_eq_true rfl) ⟨(1, xIA), by simp, rfl, by have hq := Int32.not_le.mp h3; simp [kPass, hq]⟩
