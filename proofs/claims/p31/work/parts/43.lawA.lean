/-! THE LAW'S METHODS -/
def PQ (al : yAl) (sh : ySh) (ns : Nat) (mu : Nat → Nat) (M T : Nat) : yPost := fun v9 al9 sh9 S9 => v9 = some (.int 1) ∧ al9 = al ∧ sh9 = sh ∧ IN S9 S9 ns mu M T
theorem i32_nlt {x m : Int32} (h : ¬ x < m) : m.toInt ≤ x.toInt := by
  rw [Int32.lt_iff_toInt_lt] at h
  omega
theorem i32_le0 {x : Int32} (h : ¬ x < 1) : ¬ x ≤ 0 := by
  rw [Int32.lt_iff_toInt_lt, show (1 : Int32).toInt = 1 by decide] at h
  rw [Int32.le_iff_toInt_le, show (0 : Int32).toInt = 0 by decide]
  omega
theorem i32_eq0 {x : Int32} (h0 : 0 ≤ x.toInt) (h : x < 1) : x = 0 := by
  rw [Int32.lt_iff_toInt_lt, show (1 : Int32).toInt = 1 by decide] at h
  exact Int32.toInt.inj ((show x.toInt = 0 by omega).trans (by decide))
theorem mul2 {g : Int32} : 2 * g = g * 2 := Int32.mul_comm 2 g
theorem one_cl : (1 : Int32).toNatClampNeg = 1 := by decide
theorem inB_L_lends : ∀ w ∈ u_ws RX3 TX3 14, w ∈ wsL_lends := by decide +kernel
set_option maxHeartbeats 4000000 in
set_option maxRecDepth 100000 in
theorem c_L_lends {l : Launch} (hl0 : l.stackTraces = false) {Z : yL} {al : yAl} {sh : ySh} {S : yS} {ns : Nat} {mu : Nat → Nat} {M T : Nat} (hY : YC Z al sh 3 ns mu) (hK : YK Z al sh) (h : IN S S ns mu M T) {a b : Nat} {m : Int32} (hM : M ≤ 100000) (ha : a < 4) (hb : b < 4) (hab : a ≠ b) (hm : 1 ≤ m.toInt ∧ m.toInt ≤ 60) : Ct l yL_lends wsL_lends ({ frames := 9, cells := 5, slots := 30, locals := 154 }) 5 30 Z [.ref (al 0 0), .ref (al 40 0), .int (nI a), .int (nI b), .int m] al sh S (PQ al sh ns mu M T) := by
  have hn40 := h.ns40
  obtain ⟨fo42, hf42, hg42⟩ := hK.2.2.2.2.2.2.2.2.1
  refine Ct.ofH (lv := [(0, .ref (al 0 0)), (1, .ref (al 40 0)), (2, .int (nI a)), (3, .int (nI b)), (4, .int m)]) (by decide) rfl (Nat.le_of_ble_eq_true rfl) rfl ?_
  intro p_ e_ s_ m_ below_ meth_ c_ cx hlk hr htb
  refine j_aload_n (j := 1) cx dL_lends_0 rfl rfl (pc' := 1) rfl ?_
  refine j_getN (fk := 0) (v := .ref (al 41 0)) cx rfl hK.1 inB_L_lends (by decide) (by decide) rfl (yV_r (k := (41, 0)) rfl) rfl dL_lends_1 (pc' := 4) rfl ?_
  refine j_iload_n (j := 2) cx dL_lends_4 rfl rfl (pc' := 5) rfl ?_
  refine j_iald (v := S 41 0 a) cx hK.2.1 rfl (vp_in_nI ha (by decide)) (by rw [(nI_clamp (by omega))]) rfl dL_lends_5 (pc' := 6) rfl ?_
  refine j_iload (j := 4) cx dL_lends_6 rfl (pc' := 8) rfl ?_
  refine j_icmp_lt (tgt := 15) cx dL_lends_8 (by decide) (pc' := 11) rfl (fun h1 => ?_) (fun h1 => ?_)
  · refine j_iconst (v := 0) cx dL_lends_15 (by decide) (pc' := 16) rfl ?_
    refine j_istore (lv' := [(5, .int 0), (0, .ref (al 0 0)), (1, .ref (al 40 0)), (2, .int (nI a)), (3, .int (nI b)), (4, .int m)]) cx dL_lends_16 (by decide) rfl (pc' := 18) rfl ?_
    refine j_aload_n (j := 1) cx dL_lends_18 rfl rfl (pc' := 19) rfl ?_
    refine j_iload_n (j := 3) cx dL_lends_19 rfl rfl (pc' := 20) rfl ?_
    refine j_iload_n (j := 4) cx dL_lends_20 rfl rfl (pc' := 21) rfl ?_
    refine j_iload (j := 5) cx dL_lends_21 rfl (pc' := 23) rfl ?_
    refine j_cVX (cells1 := 5) (slots1 := 30) (st1 := [.int (S 43 b a + m)]) (As := [.int (nI a), .int (nI b), .int m]) (rest := []) cx (n_lend hl0 hY h ha hb hab hm) gL_lends_X2_lend rfl rfl rfl 3 rfl (by decide +kernel) ⟨Nat.le_of_ble_eq_true rfl, Nat.le_of_ble_eq_true rfl⟩ hY.1 rfl rfl rfl rfl (Nat.le_of_ble_eq_true rfl) dL_lends_23 ⟨(Nat.le_of_ble_eq_true rfl), (Nat.le_of_ble_eq_true rfl)⟩ (pc' := 26) rfl rfl rfl rfl (fun E hE => ?_) (fun p2 => ?_)
    · obtain ⟨e9, -⟩ := hE
      subst e9
      refine jx_catch cx htb [] ⟨18, 86, 87, 95⟩ [] rfl (by decide) (fun z hz => by cases hz) rfl (by decide) (by decide +kernel) (fun q => ?_)
      refine j_astore (lv' := [(6, .ref q), (5, .int 0), (0, .ref (al 0 0)), (1, .ref (al 40 0)), (2, .int (nI a)), (3, .int (nI b)), (4, .int m)]) cx dL_lends_87 (by decide) rfl (pc' := 89) rfl ?_
      refine j_iload (j := 1) cx dL_lends_89 rfl (pc' := 91) rfl ?_
      refine j_if_ne (tgt := 98) cx dL_lends_91 (by decide) (pc' := 94) rfl (fun h => absurd h (by decide)) (fun _ => ?_)
      refine j_iconst (v := 1) cx dL_lends_94 (by decide) (pc' := 95) rfl ?_
      refine j_goto (tgt := 99) cx dL_lends_95 (by decide) ?_
      exact j_iret (ty := .boolean) cx hlk hr rfl (Nat.le_of_ble_eq_true rfl) (Nat.le_of_ble_eq_true rfl) dL_lends_99 ⟨rfl, rfl, rfl, h⟩
    exact absurd h1 p2
  · refine j_iconst (v := 1) cx dL_lends_11 (by decide) (pc' := 12) rfl ?_
    refine j_goto (tgt := 16) cx dL_lends_12 (by decide) ?_
    refine j_istore (lv' := [(5, .int 1), (0, .ref (al 0 0)), (1, .ref (al 40 0)), (2, .int (nI a)), (3, .int (nI b)), (4, .int m)]) cx dL_lends_16 (by decide) rfl (pc' := 18) rfl ?_
    refine j_aload_n (j := 1) cx dL_lends_18 rfl rfl (pc' := 19) rfl ?_
    refine j_iload_n (j := 3) cx dL_lends_19 rfl rfl (pc' := 20) rfl ?_
    refine j_iload_n (j := 4) cx dL_lends_20 rfl rfl (pc' := 21) rfl ?_
    refine j_iload (j := 5) cx dL_lends_21 rfl (pc' := 23) rfl ?_
    refine j_cVX (cells1 := 5) (slots1 := 30) (st1 := [.int (S 43 b a + m)]) (As := [.int (nI a), .int (nI b), .int m]) (rest := []) cx (n_lend hl0 hY h ha hb hab hm) gL_lends_X2_lend rfl rfl rfl 3 rfl (by decide +kernel) ⟨Nat.le_of_ble_eq_true rfl, Nat.le_of_ble_eq_true rfl⟩ hY.1 rfl rfl rfl rfl (Nat.le_of_ble_eq_true rfl) dL_lends_23 ⟨(Nat.le_of_ble_eq_true rfl), (Nat.le_of_ble_eq_true rfl)⟩ (pc' := 26) rfl rfl rfl rfl (fun E hE => ?_) (fun p3 => ?_)
    · exact absurd hE.2 h1
    refine j_istore (lv' := [(6, .int (S 43 b a + m)), (5, .int 1), (0, .ref (al 0 0)), (1, .ref (al 40 0)), (2, .int (nI a)), (3, .int (nI b)), (4, .int m)]) cx dL_lends_26 (by decide) rfl (pc' := 28) rfl ?_
    refine j_aload_n (j := 3) cx dL_lends_28 rfl rfl (pc' := 29) rfl ?_
    refine j_getN (fk := 0) (v := .ref (al 41 0)) cx rfl hK.1 inB_L_lends (by decide) (by decide) rfl (yV_r (k := (41, 0)) rfl) rfl dL_lends_29 (pc' := 32) rfl ?_
    refine j_iload_n (j := 4) cx dL_lends_32 rfl rfl (pc' := 33) rfl ?_
    refine j_dup2 cx dL_lends_33 rfl rfl (pc' := 34) rfl ?_
    refine j_iald (v := S 41 0 a) cx hK.2.1 rfl (vp_in_nI ha (by decide)) (by rw [(nI_clamp (by omega))]; simp [sup, bCharge_o, bSt_o, fTo_o, fCharge_o, fMove, fPrint, fEnd_o]) rfl dL_lends_34 (pc' := 35) rfl ?_
    refine j_iload (j := 6) cx dL_lends_35 rfl (pc' := 37) rfl ?_
    refine j_isub cx dL_lends_37 (pc' := 38) rfl ?_
    refine j_iast (jn := a) cx hK.2.1 rfl (vp_in_nI ha (by decide)) (nI_clamp (by omega)) rfl dL_lends_38 (pc' := 39) rfl ?_
    refine j_aload_n (j := 3) cx dL_lends_39 rfl rfl (pc' := 40) rfl ?_
    refine j_getN (fk := 0) (v := .ref (al 41 0)) cx rfl hK.1 inB_L_lends (by decide) (by decide) rfl (yV_r (k := (41, 0)) rfl) rfl dL_lends_40 (pc' := 43) rfl ?_
    refine j_iload_n (j := 5) cx dL_lends_43 rfl rfl (pc' := 44) rfl ?_
    refine j_dup2 cx dL_lends_44 rfl rfl (pc' := 45) rfl ?_
    refine j_iald (v := (sup (sup (fMove S a b m) 8 b a (S 8 b a + m)) 41 0 a ((S 41 0 a) - m)) 41 0 b) cx hK.2.1 rfl (vp_in_nI hb (by decide)) (by rw [(nI_clamp (by omega))]) rfl dL_lends_45 (pc' := 46) rfl ?_
    refine j_iload (j := 6) cx dL_lends_46 rfl (pc' := 48) rfl ?_
    refine j_iadd cx dL_lends_48 (pc' := 49) rfl ?_
    refine j_iast (jn := b) cx hK.2.1 rfl (vp_in_nI hb (by decide)) (nI_clamp (by omega)) rfl dL_lends_49 (pc' := 50) rfl ?_
    refine j_aload_n (j := 3) cx dL_lends_50 rfl rfl (pc' := 51) rfl ?_
    refine j_getN (fk := 1) (v := .ref (al 42 0)) cx rfl hK.1 inB_L_lends (by decide) (by decide) rfl (yV_r (k := (42, 0)) rfl) rfl dL_lends_51 (pc' := 54) rfl ?_
    refine j_iload_n (j := 5) cx dL_lends_54 rfl rfl (pc' := 55) rfl ?_
    refine j_aald cx hf42 (ti := 5) rfl rfl (vp_in_nI hb (by decide)) (r := al 43 b) ((congrArg _ (nI_clamp (by omega))).trans (hg42 b hb)) rfl dL_lends_55 (pc' := 56) rfl ?_
    refine j_iload_n (j := 4) cx dL_lends_56 rfl rfl (pc' := 57) rfl ?_
    refine j_dup2 cx dL_lends_57 rfl rfl (pc' := 58) rfl ?_
    refine j_iald (v := S 43 b a) cx (hK.2.2.2.2.2.2.2.2.2.1 _ hb) rfl (vp_in_nI ha (by decide)) (by rw [(nI_clamp (by omega))]; simp [sup, bCharge_o, bSt_o, fTo_o, fCharge_o, fMove, fPrint, fEnd_o]) rfl dL_lends_58 (pc' := 59) rfl ?_
    refine j_iload (j := 6) cx dL_lends_59 rfl (pc' := 61) rfl ?_
    refine j_iadd cx dL_lends_61 (pc' := 62) rfl ?_
    refine j_iast (jn := a) cx (hK.2.2.2.2.2.2.2.2.2.1 _ hb) rfl (vp_in_nI ha (by decide)) (nI_clamp (by omega)) rfl dL_lends_62 (pc' := 63) rfl ?_
    refine j_iload (j := 1) cx dL_lends_63 rfl (pc' := 65) rfl ?_
    refine j_if_eq (tgt := 85) cx dL_lends_65 (by decide) (pc' := 68) rfl (fun h => absurd h (by decide)) (fun _ => ?_)
    refine j_iload (j := 0) cx dL_lends_68 rfl (pc' := 70) rfl ?_
    refine j_aload_n (j := 3) cx dL_lends_70 rfl rfl (pc' := 71) rfl ?_
    refine j_getN (fk := 1) (v := .ref (al 42 0)) cx rfl hK.1 inB_L_lends (by decide) (by decide) rfl (yV_r (k := (42, 0)) rfl) rfl dL_lends_71 (pc' := 74) rfl ?_
    refine j_iload_n (j := 5) cx dL_lends_74 rfl rfl (pc' := 75) rfl ?_
    refine j_aald cx hf42 (ti := 5) rfl rfl (vp_in_nI hb (by decide)) (r := al 43 b) ((congrArg _ (nI_clamp (by omega))).trans (hg42 b hb)) rfl dL_lends_75 (pc' := 76) rfl ?_
    refine j_iload_n (j := 4) cx dL_lends_76 rfl rfl (pc' := 77) rfl ?_
    refine j_iald (v := (S 43 b a) + m) cx (hK.2.2.2.2.2.2.2.2.2.1 _ hb) rfl (vp_in_nI ha (by decide)) (by rw [(nI_clamp (by omega))]; simp [sup, bCharge_o, bSt_o, fTo_o, fCharge_o, fMove, fPrint, fEnd_o]) rfl dL_lends_77 (pc' := 78) rfl ?_
    refine j_icmp_ne (tgt := 85) cx dL_lends_78 (by decide) (pc' := 81) rfl (fun hq9 => by first | exact absurd hq9 rfl | exact absurd rfl hq9) (fun _ => ?_)
    refine j_iconst (v := 1) cx dL_lends_81 (by decide) (pc' := 82) rfl ?_
    refine j_goto (tgt := 86) cx dL_lends_82 (by decide) ?_
    exact j_iret (ty := .boolean) cx hlk hr rfl (Nat.le_of_ble_eq_true rfl) (Nat.le_of_ble_eq_true rfl) dL_lends_86 ⟨rfl, rfl, rfl, (by have e := o_lend (m := m) h hM ha hb hab (by omega) (by have q := i32_nlt p3; rw [show S 5 0 a = S 41 0 a from h.2.2.1 a ha]; exact q); unfold IN; simp (disch := decide) only [sup_s, sup_k, fMove, fTo, fPrint, fCharge, bCharge, mul2]; exact e)⟩
theorem inB_L_gives : ∀ w ∈ u_ws RX3 TX3 14, w ∈ wsL_gives := by decide +kernel
set_option maxHeartbeats 4000000 in
set_option maxRecDepth 100000 in
theorem c_L_gives {l : Launch} (hl0 : l.stackTraces = false) {Z : yL} {al : yAl} {sh : ySh} {S : yS} {ns : Nat} {mu : Nat → Nat} {M T : Nat} (hY : YC Z al sh 3 ns mu) (hK : YK Z al sh) (h : IN S S ns mu M T) {a b : Nat} {m : Int32} (hM : M ≤ 100000) (ha : a < 4) (hb : b < 4) (hab : a ≠ b) (hm : 1 ≤ m.toInt ∧ m.toInt ≤ 60) : Ct l yL_gives wsL_gives ({ frames := 9, cells := 5, slots := 30, locals := 154 }) 5 30 Z [.ref (al 0 0), .ref (al 40 0), .int (nI a), .int (nI b), .int m] al sh S (PQ al sh ns mu M T) := by
  have hn40 := h.ns40
  obtain ⟨fo42, hf42, hg42⟩ := hK.2.2.2.2.2.2.2.2.1
  refine Ct.ofH (lv := [(0, .ref (al 0 0)), (1, .ref (al 40 0)), (2, .int (nI a)), (3, .int (nI b)), (4, .int m)]) (by decide) rfl (Nat.le_of_ble_eq_true rfl) rfl ?_
  intro p_ e_ s_ m_ below_ meth_ c_ cx hlk hr htb
  refine j_aload_n (j := 1) cx dL_gives_0 rfl rfl (pc' := 1) rfl ?_
  refine j_getN (fk := 1) (v := .ref (al 42 0)) cx rfl hK.1 inB_L_gives (by decide) (by decide) rfl (yV_r (k := (42, 0)) rfl) rfl dL_gives_1 (pc' := 4) rfl ?_
  refine j_iload_n (j := 2) cx dL_gives_4 rfl rfl (pc' := 5) rfl ?_
  refine j_aald cx hf42 (ti := 5) rfl rfl (vp_in_nI ha (by decide)) (r := al 43 a) ((congrArg _ (nI_clamp (by omega))).trans (hg42 a ha)) rfl dL_gives_5 (pc' := 6) rfl ?_
  refine j_iload_n (j := 3) cx dL_gives_6 rfl rfl (pc' := 7) rfl ?_
  refine j_iald (v := S 43 a b) cx (hK.2.2.2.2.2.2.2.2.2.1 _ ha) rfl (vp_in_nI hb (by decide)) (by rw [(nI_clamp (by omega))]) rfl dL_gives_7 (pc' := 8) rfl ?_
  refine j_iload (j := 4) cx dL_gives_8 rfl (pc' := 10) rfl ?_
  refine j_icmp_lt (tgt := 17) cx dL_gives_10 (by decide) (pc' := 13) rfl (fun h1 => ?_) (fun h1 => ?_)
  · refine j_iconst (v := 0) cx dL_gives_17 (by decide) (pc' := 18) rfl ?_
    refine j_istore (lv' := [(5, .int 0), (0, .ref (al 0 0)), (1, .ref (al 40 0)), (2, .int (nI a)), (3, .int (nI b)), (4, .int m)]) cx dL_gives_18 (by decide) rfl (pc' := 20) rfl ?_
    refine j_aload_n (j := 1) cx dL_gives_20 rfl rfl (pc' := 21) rfl ?_
    refine j_iload_n (j := 3) cx dL_gives_21 rfl rfl (pc' := 22) rfl ?_
    refine j_iload_n (j := 4) cx dL_gives_22 rfl rfl (pc' := 23) rfl ?_
    refine j_iload (j := 5) cx dL_gives_23 rfl (pc' := 25) rfl ?_
    refine j_cVX (cells1 := 5) (slots1 := 30) (st1 := [.int (S 43 a b - m)]) (As := [.int (nI a), .int (nI b), .int m]) (rest := []) cx (n_give hl0 hY h ha hb hab hm) gL_gives_X2_giveBack rfl rfl rfl 3 rfl (by decide +kernel) ⟨Nat.le_of_ble_eq_true rfl, Nat.le_of_ble_eq_true rfl⟩ hY.1 rfl rfl rfl rfl (Nat.le_of_ble_eq_true rfl) dL_gives_25 ⟨(Nat.le_of_ble_eq_true rfl), (Nat.le_of_ble_eq_true rfl)⟩ (pc' := 28) rfl rfl rfl rfl (fun E hE => ?_) (fun p2 => ?_)
    · rcases hE with ⟨e9, -⟩ | ⟨-, z, -⟩
      · subst e9
        refine jx_catch cx htb [] ⟨20, 111, 112, 93⟩ [⟨20, 111, 125, 95⟩] rfl (by decide) (fun z hz => by cases hz) rfl (by decide) (by decide +kernel) (fun q => ?_)
        refine j_astore (lv' := [(6, .ref q), (5, .int 0), (0, .ref (al 0 0)), (1, .ref (al 40 0)), (2, .int (nI a)), (3, .int (nI b)), (4, .int m)]) cx dL_gives_112 (by decide) rfl (pc' := 114) rfl ?_
        refine j_iload (j := 1) cx dL_gives_114 rfl (pc' := 116) rfl ?_
        refine j_if_ne (tgt := 123) cx dL_gives_116 (by decide) (pc' := 119) rfl (fun h => absurd h (by decide)) (fun _ => ?_)
        refine j_iconst (v := 1) cx dL_gives_119 (by decide) (pc' := 120) rfl ?_
        refine j_goto (tgt := 124) cx dL_gives_120 (by decide) ?_
        exact j_iret (ty := .boolean) cx hlk hr rfl (Nat.le_of_ble_eq_true rfl) (Nat.le_of_ble_eq_true rfl) dL_gives_124 ⟨rfl, rfl, rfl, h⟩
      · exact absurd h1 z
    exact absurd h1 p2.1
  · refine j_iconst (v := 1) cx dL_gives_13 (by decide) (pc' := 14) rfl ?_
    refine j_goto (tgt := 18) cx dL_gives_14 (by decide) ?_
    refine j_istore (lv' := [(5, .int 1), (0, .ref (al 0 0)), (1, .ref (al 40 0)), (2, .int (nI a)), (3, .int (nI b)), (4, .int m)]) cx dL_gives_18 (by decide) rfl (pc' := 20) rfl ?_
    refine j_aload_n (j := 1) cx dL_gives_20 rfl rfl (pc' := 21) rfl ?_
    refine j_iload_n (j := 3) cx dL_gives_21 rfl rfl (pc' := 22) rfl ?_
    refine j_iload_n (j := 4) cx dL_gives_22 rfl rfl (pc' := 23) rfl ?_
    refine j_iload (j := 5) cx dL_gives_23 rfl (pc' := 25) rfl ?_
    refine j_cVX (cells1 := 5) (slots1 := 30) (st1 := [.int (S 43 a b - m)]) (As := [.int (nI a), .int (nI b), .int m]) (rest := []) cx (n_give hl0 hY h ha hb hab hm) gL_gives_X2_giveBack rfl rfl rfl 3 rfl (by decide +kernel) ⟨Nat.le_of_ble_eq_true rfl, Nat.le_of_ble_eq_true rfl⟩ hY.1 rfl rfl rfl rfl (Nat.le_of_ble_eq_true rfl) dL_gives_25 ⟨(Nat.le_of_ble_eq_true rfl), (Nat.le_of_ble_eq_true rfl)⟩ (pc' := 28) rfl rfl rfl rfl (fun E hE => ?_) (fun p3 => ?_)
    · rcases hE with ⟨-, z⟩ | ⟨e9, -, z2⟩
      · exact absurd z h1
      · subst e9
        refine jx_catch cx htb [⟨20, 111, 112, 93⟩] ⟨20, 111, 125, 95⟩ [] rfl (by decide) (by intro z hz; simp only [List.mem_cons, List.not_mem_nil, or_false] at hz; rcases hz with rfl; exact ⟨by decide, "java/lang/IllegalStateException", by decide +kernel, by decide, by decide⟩) rfl (by decide) (by decide +kernel) (fun q => ?_)
        refine j_astore (lv' := [(6, .ref q), (5, .int 1), (0, .ref (al 0 0)), (1, .ref (al 40 0)), (2, .int (nI a)), (3, .int (nI b)), (4, .int m)]) cx dL_gives_125 (by decide) rfl (pc' := 127) rfl ?_
        refine j_iload (j := 1) cx dL_gives_127 rfl (pc' := 129) rfl ?_
        refine j_if_eq (tgt := 147) cx dL_gives_129 (by decide) (pc' := 132) rfl (fun h => absurd h (by decide)) (fun _ => ?_)
        refine j_aload_n (j := 3) cx dL_gives_132 rfl rfl (pc' := 133) rfl ?_
        refine j_getN (fk := 0) (v := .ref (al 41 0)) cx rfl hK.1 inB_L_gives (by decide) (by decide) rfl (yV_r (k := (41, 0)) rfl) rfl dL_gives_133 (pc' := 136) rfl ?_
        refine j_iload_n (j := 4) cx dL_gives_136 rfl rfl (pc' := 137) rfl ?_
        refine j_iald (v := S 41 0 a) cx hK.2.1 rfl (vp_in_nI ha (by decide)) (by rw [(nI_clamp (by omega))]) rfl dL_gives_137 (pc' := 138) rfl ?_
        refine j_iload (j := 6) cx dL_gives_138 rfl (pc' := 140) rfl ?_
        refine j_icmp_ge (tgt := 147) cx dL_gives_140 (by decide) (pc' := 143) rfl (fun hq9 => by first | exact absurd hq9 (fun q9 => absurd q9 (by rw [Int32.not_le]; exact z2)) | exact absurd (fun q9 => absurd q9 (by rw [Int32.not_le]; exact z2)) hq9) (fun _ => ?_)
        refine j_iconst (v := 1) cx dL_gives_143 (by decide) (pc' := 144) rfl ?_
        refine j_goto (tgt := 148) cx dL_gives_144 (by decide) ?_
        exact j_iret (ty := .boolean) cx hlk hr rfl (Nat.le_of_ble_eq_true rfl) (Nat.le_of_ble_eq_true rfl) dL_gives_148 ⟨rfl, rfl, rfl, h⟩
    refine j_istore (lv' := [(6, .int (S 43 a b - m)), (5, .int 1), (0, .ref (al 0 0)), (1, .ref (al 40 0)), (2, .int (nI a)), (3, .int (nI b)), (4, .int m)]) cx dL_gives_28 (by decide) rfl (pc' := 30) rfl ?_
    refine j_aload_n (j := 3) cx dL_gives_30 rfl rfl (pc' := 31) rfl ?_
    refine j_getN (fk := 0) (v := .ref (al 41 0)) cx rfl hK.1 inB_L_gives (by decide) (by decide) rfl (yV_r (k := (41, 0)) rfl) rfl dL_gives_31 (pc' := 34) rfl ?_
    refine j_iload_n (j := 4) cx dL_gives_34 rfl rfl (pc' := 35) rfl ?_
    refine j_iald (v := S 41 0 a) cx hK.2.1 rfl (vp_in_nI ha (by decide)) (by rw [(nI_clamp (by omega))]; simp [sup, bCharge_o, bSt_o, fTo_o, fCharge_o, fMove, fPrint, fEnd_o]) rfl dL_gives_35 (pc' := 36) rfl ?_
    refine j_iload (j := 6) cx dL_gives_36 rfl (pc' := 38) rfl ?_
    refine j_icmp_lt (tgt := 45) cx dL_gives_38 (by decide) (pc' := 41) rfl (fun hq9 => by first | exact absurd hq9 p3.2 | exact absurd p3.2 hq9) (fun _ => ?_)
    refine j_iconst (v := 1) cx dL_gives_41 (by decide) (pc' := 42) rfl ?_
    refine j_goto (tgt := 46) cx dL_gives_42 (by decide) ?_
    refine j_istore (lv' := [(7, .int 1), (6, .int (S 43 a b - m)), (5, .int 1), (0, .ref (al 0 0)), (1, .ref (al 40 0)), (2, .int (nI a)), (3, .int (nI b)), (4, .int m)]) cx dL_gives_46 (by decide) rfl (pc' := 48) rfl ?_
    refine j_aload_n (j := 4) cx dL_gives_48 rfl rfl (pc' := 49) rfl ?_
    refine j_getN (fk := 0) (v := .ref (al 41 0)) cx rfl hK.1 inB_L_gives (by decide) (by decide) rfl (yV_r (k := (41, 0)) rfl) rfl dL_gives_49 (pc' := 52) rfl ?_
    refine j_iload_n (j := 5) cx dL_gives_52 rfl rfl (pc' := 53) rfl ?_
    refine j_dup2 cx dL_gives_53 rfl rfl (pc' := 54) rfl ?_
    refine j_iald (v := S 41 0 a) cx hK.2.1 rfl (vp_in_nI ha (by decide)) (by rw [(nI_clamp (by omega))]; simp [sup, bCharge_o, bSt_o, fTo_o, fCharge_o, fMove, fPrint, fEnd_o]) rfl dL_gives_54 (pc' := 55) rfl ?_
    refine j_iload (j := 7) cx dL_gives_55 rfl (pc' := 57) rfl ?_
    refine j_isub cx dL_gives_57 (pc' := 58) rfl ?_
    refine j_iast (jn := a) cx hK.2.1 rfl (vp_in_nI ha (by decide)) (nI_clamp (by omega)) rfl dL_gives_58 (pc' := 59) rfl ?_
    refine j_aload_n (j := 4) cx dL_gives_59 rfl rfl (pc' := 60) rfl ?_
    refine j_getN (fk := 0) (v := .ref (al 41 0)) cx rfl hK.1 inB_L_gives (by decide) (by decide) rfl (yV_r (k := (41, 0)) rfl) rfl dL_gives_60 (pc' := 63) rfl ?_
    refine j_iload_n (j := 6) cx dL_gives_63 rfl rfl (pc' := 64) rfl ?_
    refine j_dup2 cx dL_gives_64 rfl rfl (pc' := 65) rfl ?_
    refine j_iald (v := (sup (sup (fMove S a b m) 8 a b (S 8 a b - m)) 41 0 a ((S 41 0 a) - m)) 41 0 b) cx hK.2.1 rfl (vp_in_nI hb (by decide)) (by rw [(nI_clamp (by omega))]) rfl dL_gives_65 (pc' := 66) rfl ?_
    refine j_iload (j := 7) cx dL_gives_66 rfl (pc' := 68) rfl ?_
    refine j_iadd cx dL_gives_68 (pc' := 69) rfl ?_
    refine j_iast (jn := b) cx hK.2.1 rfl (vp_in_nI hb (by decide)) (nI_clamp (by omega)) rfl dL_gives_69 (pc' := 70) rfl ?_
    refine j_aload_n (j := 4) cx dL_gives_70 rfl rfl (pc' := 71) rfl ?_
    refine j_getN (fk := 1) (v := .ref (al 42 0)) cx rfl hK.1 inB_L_gives (by decide) (by decide) rfl (yV_r (k := (42, 0)) rfl) rfl dL_gives_71 (pc' := 74) rfl ?_
    refine j_iload_n (j := 5) cx dL_gives_74 rfl rfl (pc' := 75) rfl ?_
    refine j_aald cx hf42 (ti := 5) rfl rfl (vp_in_nI ha (by decide)) (r := al 43 a) ((congrArg _ (nI_clamp (by omega))).trans (hg42 a ha)) rfl dL_gives_75 (pc' := 76) rfl ?_
    refine j_iload_n (j := 6) cx dL_gives_76 rfl rfl (pc' := 77) rfl ?_
    refine j_dup2 cx dL_gives_77 rfl rfl (pc' := 78) rfl ?_
    refine j_iald (v := S 43 a b) cx (hK.2.2.2.2.2.2.2.2.2.1 _ ha) rfl (vp_in_nI hb (by decide)) (by rw [(nI_clamp (by omega))]; simp [sup, bCharge_o, bSt_o, fTo_o, fCharge_o, fMove, fPrint, fEnd_o]) rfl dL_gives_78 (pc' := 79) rfl ?_
    refine j_iload (j := 7) cx dL_gives_79 rfl (pc' := 81) rfl ?_
    refine j_isub cx dL_gives_81 (pc' := 82) rfl ?_
    refine j_iast (jn := b) cx (hK.2.2.2.2.2.2.2.2.2.1 _ ha) rfl (vp_in_nI hb (by decide)) (nI_clamp (by omega)) rfl dL_gives_82 (pc' := 83) rfl ?_
    refine j_iload (j := 2) cx dL_gives_83 rfl (pc' := 85) rfl ?_
    refine j_if_eq (tgt := 110) cx dL_gives_85 (by decide) (pc' := 88) rfl (fun h => absurd h (by decide)) (fun _ => ?_)
    refine j_iload (j := 0) cx dL_gives_88 rfl (pc' := 90) rfl ?_
    refine j_if_eq (tgt := 110) cx dL_gives_90 (by decide) (pc' := 93) rfl (fun h => absurd h (by decide)) (fun _ => ?_)
    refine j_iload (j := 1) cx dL_gives_93 rfl (pc' := 95) rfl ?_
    refine j_aload_n (j := 4) cx dL_gives_95 rfl rfl (pc' := 96) rfl ?_
    refine j_getN (fk := 1) (v := .ref (al 42 0)) cx rfl hK.1 inB_L_gives (by decide) (by decide) rfl (yV_r (k := (42, 0)) rfl) rfl dL_gives_96 (pc' := 99) rfl ?_
    refine j_iload_n (j := 5) cx dL_gives_99 rfl rfl (pc' := 100) rfl ?_
    refine j_aald cx hf42 (ti := 5) rfl rfl (vp_in_nI ha (by decide)) (r := al 43 a) ((congrArg _ (nI_clamp (by omega))).trans (hg42 a ha)) rfl dL_gives_100 (pc' := 101) rfl ?_
    refine j_iload_n (j := 6) cx dL_gives_101 rfl rfl (pc' := 102) rfl ?_
    refine j_iald (v := (S 43 a b) - m) cx (hK.2.2.2.2.2.2.2.2.2.1 _ ha) rfl (vp_in_nI hb (by decide)) (by rw [(nI_clamp (by omega))]; simp [sup, bCharge_o, bSt_o, fTo_o, fCharge_o, fMove, fPrint, fEnd_o]) rfl dL_gives_102 (pc' := 103) rfl ?_
    refine j_icmp_ne (tgt := 110) cx dL_gives_103 (by decide) (pc' := 106) rfl (fun hq9 => by first | exact absurd hq9 rfl | exact absurd rfl hq9) (fun _ => ?_)
    refine j_iconst (v := 1) cx dL_gives_106 (by decide) (pc' := 107) rfl ?_
    refine j_goto (tgt := 111) cx dL_gives_107 (by decide) ?_
    exact j_iret (ty := .boolean) cx hlk hr rfl (Nat.le_of_ble_eq_true rfl) (Nat.le_of_ble_eq_true rfl) dL_gives_111 ⟨rfl, rfl, rfl, (by have e := o_give (m := m) h hM ha hb hab (by omega) (by have q := i32_nlt p3.2; rw [show S 5 0 a = S 41 0 a from h.2.2.1 a ha]; exact q); unfold IN; simp (disch := decide) only [sup_s, sup_k, fMove, fTo, fPrint, fCharge, bCharge, mul2]; exact e)⟩
theorem inB_L_takes : ∀ w ∈ u_ws RX3 TX3 14, w ∈ wsL_takes := by decide +kernel
set_option maxHeartbeats 4000000 in
set_option maxRecDepth 100000 in
theorem c_L_takes {l : Launch} (hl0 : l.stackTraces = false) {Z : yL} {al : yAl} {sh : ySh} {S : yS} {ns : Nat} {mu : Nat → Nat} {M T : Nat} (hY : YC Z al sh 3 ns mu) (hK : YK Z al sh) (h : IN S S ns mu M T) {i u : Nat} (hi : i < ns) (hu : u < 10) : Ct l yL_takes wsL_takes ({ frames := 8, cells := 4, slots := 24, locals := 135 }) 4 24 Z [.ref (al 0 0), .ref (al 40 0), .int (nI i), .int (nI u)] al sh S (PQ al sh ns mu M T) := by
  have hn40 := h.ns40
  refine Ct.ofH (lv := [(0, .ref (al 0 0)), (1, .ref (al 40 0)), (2, .int (nI i)), (3, .int (nI u))]) (by decide) rfl (Nat.le_of_ble_eq_true rfl) rfl ?_
  intro p_ e_ s_ m_ below_ meth_ c_ cx hlk hr htb
  refine j_aload_n (j := 1) cx dL_takes_0 rfl rfl (pc' := 1) rfl ?_
  refine j_getN (fk := 5) (v := .ref (al 46 0)) cx rfl hK.1 inB_L_takes (by decide) (by decide) rfl (yV_r (k := (46, 0)) rfl) rfl dL_takes_1 (pc' := 4) rfl ?_
  refine j_iload_n (j := 2) cx dL_takes_4 rfl rfl (pc' := 5) rfl ?_
  refine j_iald (v := S 46 0 i) cx hK.2.2.2.2.1 rfl (vp_in_nI (by omega) (by decide)) (by rw [(nI_clamp (by omega))]) rfl dL_takes_5 (pc' := 6) rfl ?_
  refine j_istore (lv' := [(4, .int (S 46 0 i)), (0, .ref (al 0 0)), (1, .ref (al 40 0)), (2, .int (nI i)), (3, .int (nI u))]) cx dL_takes_6 (by decide) rfl (pc' := 8) rfl ?_
  refine j_aload_n (j := 1) cx dL_takes_8 rfl rfl (pc' := 9) rfl ?_
  refine j_iload_n (j := 3) cx dL_takes_9 rfl rfl (pc' := 10) rfl ?_
  refine j_iload_n (j := 4) cx dL_takes_10 rfl rfl (pc' := 11) rfl ?_
  refine j_cVX (cells1 := 4) (slots1 := 24) (st1 := [.int (S 46 0 i)]) (As := [.int (nI i), .int (nI u)]) (rest := []) cx (n_take hl0 hY h hi hu) gL_takes_X2_takeOver rfl rfl rfl 2 rfl (by decide +kernel) ⟨Nat.le_of_ble_eq_true rfl, Nat.le_of_ble_eq_true rfl⟩ hY.1 rfl rfl rfl rfl (Nat.le_of_ble_eq_true rfl) dL_takes_11 ⟨(Nat.le_of_ble_eq_true rfl), (Nat.le_of_ble_eq_true rfl)⟩ (pc' := 14) rfl rfl rfl rfl (fun E hE => ?_) (fun p1 => ?_)
  · rcases hE with ⟨e9, z⟩ | ⟨e9, z1, z2⟩ | ⟨e9, z1, z2, z3⟩
    · subst e9
      refine jx_catch cx htb [] ⟨8, 85, 86, 100⟩ [⟨8, 85, 100, 93⟩, ⟨8, 85, 122, 95⟩] rfl (by decide) (fun z hz => by cases hz) rfl (by decide) (by decide +kernel) (fun q => ?_)
      refine j_astore (lv' := [(5, .ref q), (4, .int (S 46 0 i)), (0, .ref (al 0 0)), (1, .ref (al 40 0)), (2, .int (nI i)), (3, .int (nI u))]) cx dL_takes_86 (by decide) rfl (pc' := 88) rfl ?_
      refine j_iload_n (j := 5) cx dL_takes_88 rfl rfl (pc' := 89) rfl ?_
      refine j_iload (j := 1) cx dL_takes_89 rfl (pc' := 91) rfl ?_
      refine j_icmp_ne (tgt := 98) cx dL_takes_91 (by decide) (pc' := 94) rfl (fun hq9 => by first | exact absurd hq9 z.symm | exact absurd z.symm hq9) (fun _ => ?_)
      refine j_iconst (v := 1) cx dL_takes_94 (by decide) (pc' := 95) rfl ?_
      refine j_goto (tgt := 99) cx dL_takes_95 (by decide) ?_
      exact j_iret (ty := .boolean) cx hlk hr rfl (Nat.le_of_ble_eq_true rfl) (Nat.le_of_ble_eq_true rfl) dL_takes_99 ⟨rfl, rfl, rfl, h⟩
    · subst e9
      refine jx_catch cx htb [⟨8, 85, 86, 100⟩] ⟨8, 85, 100, 93⟩ [⟨8, 85, 122, 95⟩] rfl (by decide) (by intro z hz; simp only [List.mem_cons, List.not_mem_nil, or_false] at hz; rcases hz with rfl; exact ⟨by decide, "java/lang/IllegalArgumentException", by decide +kernel, by decide, by decide⟩) rfl (by decide) (by decide +kernel) (fun q => ?_)
      refine j_astore (lv' := [(5, .ref q), (4, .int (S 46 0 i)), (0, .ref (al 0 0)), (1, .ref (al 40 0)), (2, .int (nI i)), (3, .int (nI u))]) cx dL_takes_100 (by decide) rfl (pc' := 102) rfl ?_
      refine j_iload_n (j := 5) cx dL_takes_102 rfl rfl (pc' := 103) rfl ?_
      refine j_iload (j := 1) cx dL_takes_103 rfl (pc' := 105) rfl ?_
      refine j_icmp_eq (tgt := 120) cx dL_takes_105 (by decide) (pc' := 108) rfl (fun hq9 => by first | exact absurd hq9 (fun q9 => z1 q9.symm) | exact absurd (fun q9 => z1 q9.symm) hq9) (fun _ => ?_)
      refine j_aload_n (j := 3) cx dL_takes_108 rfl rfl (pc' := 109) rfl ?_
      refine j_iload_n (j := 4) cx dL_takes_109 rfl rfl (pc' := 110) rfl ?_
      refine j_cVR (cells1 := 4) (slots1 := 24) (st1 := [.int (bI (S 49 0 i = 0))]) (As := [.int (nI i)]) (rest := []) cx (c_X3_isLive hK (by omega)) gL_takes_X3_isLive rfl rfl rfl 1 rfl (by decide +kernel) ⟨Nat.le_of_ble_eq_true rfl, Nat.le_of_ble_eq_true rfl⟩ hK.1 rfl rfl rfl rfl (Nat.le_of_ble_eq_true rfl) dL_takes_110 ⟨(Nat.le_of_ble_eq_true rfl), (Nat.le_of_ble_eq_true rfl)⟩ (pc' := 113) rfl rfl rfl rfl ?_
      refine j_ifb_ne (tgt := 120) cx dL_takes_113 (by decide) (pc' := 116) rfl (fun hq9 => by first | exact absurd hq9 z2 | exact absurd z2 hq9) (fun _ => ?_)
      refine j_iconst (v := 1) cx dL_takes_116 (by decide) (pc' := 117) rfl ?_
      refine j_goto (tgt := 121) cx dL_takes_117 (by decide) ?_
      exact j_iret (ty := .boolean) cx hlk hr rfl (Nat.le_of_ble_eq_true rfl) (Nat.le_of_ble_eq_true rfl) dL_takes_121 ⟨rfl, rfl, rfl, h⟩
    · subst e9
      refine jx_catch cx htb [⟨8, 85, 86, 100⟩, ⟨8, 85, 100, 93⟩] ⟨8, 85, 122, 95⟩ [] rfl (by decide) (by intro z hz; simp only [List.mem_cons, List.not_mem_nil, or_false] at hz; rcases hz with rfl | rfl; exact ⟨by decide, "java/lang/IllegalArgumentException", by decide +kernel, by decide, by decide⟩; exact ⟨by decide, "java/lang/IllegalStateException", by decide +kernel, by decide, by decide⟩) rfl (by decide) (by decide +kernel) (fun q => ?_)
      refine j_astore (lv' := [(5, .ref q), (4, .int (S 46 0 i)), (0, .ref (al 0 0)), (1, .ref (al 40 0)), (2, .int (nI i)), (3, .int (nI u))]) cx dL_takes_122 (by decide) rfl (pc' := 124) rfl ?_
      refine j_iload_n (j := 5) cx dL_takes_124 rfl rfl (pc' := 125) rfl ?_
      refine j_iload (j := 1) cx dL_takes_125 rfl (pc' := 127) rfl ?_
      refine j_icmp_eq (tgt := 156) cx dL_takes_127 (by decide) (pc' := 130) rfl (fun hq9 => by first | exact absurd hq9 (fun q9 => z1 q9.symm) | exact absurd (fun q9 => z1 q9.symm) hq9) (fun _ => ?_)
      refine j_aload_n (j := 3) cx dL_takes_130 rfl rfl (pc' := 131) rfl ?_
      refine j_iload_n (j := 4) cx dL_takes_131 rfl rfl (pc' := 132) rfl ?_
      refine j_cVR (cells1 := 4) (slots1 := 24) (st1 := [.int (bI (S 49 0 i = 0))]) (As := [.int (nI i)]) (rest := []) cx (c_X3_isLive hK (by omega)) gL_takes_X3_isLive rfl rfl rfl 1 rfl (by decide +kernel) ⟨Nat.le_of_ble_eq_true rfl, Nat.le_of_ble_eq_true rfl⟩ hK.1 rfl rfl rfl rfl (Nat.le_of_ble_eq_true rfl) dL_takes_132 ⟨(Nat.le_of_ble_eq_true rfl), (Nat.le_of_ble_eq_true rfl)⟩ (pc' := 135) rfl rfl rfl rfl ?_
      refine j_ifb_eq (tgt := 156) cx dL_takes_135 (by decide) (pc' := 138) rfl (fun hq9 => by first | exact absurd hq9 z2 | exact absurd z2 hq9) (fun _ => ?_)
      refine j_aload_n (j := 3) cx dL_takes_138 rfl rfl (pc' := 139) rfl ?_
      refine j_getN (fk := 0) (v := .ref (al 41 0)) cx rfl hK.1 inB_L_takes (by decide) (by decide) rfl (yV_r (k := (41, 0)) rfl) rfl dL_takes_139 (pc' := 142) rfl ?_
      refine j_aload_n (j := 3) cx dL_takes_142 rfl rfl (pc' := 143) rfl ?_
      refine j_getN (fk := 2) (v := .ref (al 44 0)) cx rfl hK.1 inB_L_takes (by decide) (by decide) rfl (yV_r (k := (44, 0)) rfl) rfl dL_takes_143 (pc' := 146) rfl ?_
      refine j_iload_n (j := 5) cx dL_takes_146 rfl rfl (pc' := 147) rfl ?_
      refine j_iald (v := S 44 0 u) cx hK.2.2.1 rfl (vp_in_nI hu (by decide)) (by rw [(nI_clamp (by omega))]) rfl dL_takes_147 (pc' := 148) rfl ?_
      refine j_iald (v := S 41 0 ((S 44 0 u).toNatClampNeg)) cx hK.2.1 rfl (h.bi.2.2.2 u hu) rfl rfl dL_takes_148 (pc' := 149) rfl ?_
      refine j_if_ne (tgt := 156) cx dL_takes_149 (by decide) (pc' := 152) rfl (fun hq9 => by first | exact absurd hq9 (i32_eq0 (by rw [← h.2.2.1 _ (ix_of (h.bi.2.2.2 u hu))]; exact (h.pos (ix_of (h.bi.2.2.2 u hu))).1) z3) | exact absurd (i32_eq0 (by rw [← h.2.2.1 _ (ix_of (h.bi.2.2.2 u hu))]; exact (h.pos (ix_of (h.bi.2.2.2 u hu))).1) z3) hq9) (fun _ => ?_)
      refine j_iconst (v := 1) cx dL_takes_152 (by decide) (pc' := 153) rfl ?_
      refine j_goto (tgt := 157) cx dL_takes_153 (by decide) ?_
      exact j_iret (ty := .boolean) cx hlk hr rfl (Nat.le_of_ble_eq_true rfl) (Nat.le_of_ble_eq_true rfl) dL_takes_157 ⟨rfl, rfl, rfl, h⟩
  refine j_istore (lv' := [(5, .int (S 46 0 i)), (4, .int (S 46 0 i)), (0, .ref (al 0 0)), (1, .ref (al 40 0)), (2, .int (nI i)), (3, .int (nI u))]) cx dL_takes_14 (by decide) rfl (pc' := 16) rfl ?_
  refine j_aload_n (j := 3) cx dL_takes_16 rfl rfl (pc' := 17) rfl ?_
  refine j_iload_n (j := 4) cx dL_takes_17 rfl rfl (pc' := 18) rfl ?_
  refine j_cVR (cells1 := 4) (slots1 := 24) (st1 := [.int (bI ((fTo S i (nI u)) 49 0 i = 0))]) (As := [.int (nI i)]) (rest := []) cx (c_X3_isLive hK (by omega)) gL_takes_X3_isLive rfl rfl rfl 1 rfl (by decide +kernel) ⟨Nat.le_of_ble_eq_true rfl, Nat.le_of_ble_eq_true rfl⟩ hK.1 rfl rfl rfl rfl (Nat.le_of_ble_eq_true rfl) dL_takes_18 ⟨(Nat.le_of_ble_eq_true rfl), (Nat.le_of_ble_eq_true rfl)⟩ (pc' := 21) rfl rfl rfl rfl ?_
  refine j_ifb_eq (tgt := 48) cx dL_takes_21 (by decide) (pc' := 24) rfl (fun hq9 => by first | exact absurd hq9 (by simp (disch := decide) only [fTo, fPrint, fCharge, bCharge, sup_k, sup_s, up1_j]; exact p1.2.1) | exact absurd (by simp (disch := decide) only [fTo, fPrint, fCharge, bCharge, sup_k, sup_s, up1_j]; exact p1.2.1) hq9) (fun _ => ?_)
  refine j_iload_n (j := 5) cx dL_takes_24 rfl rfl (pc' := 25) rfl ?_
  refine j_iload (j := 1) cx dL_takes_25 rfl (pc' := 27) rfl ?_
  refine j_icmp_eq (tgt := 48) cx dL_takes_27 (by decide) (pc' := 30) rfl (fun hq9 => by first | exact absurd hq9 (fun q9 => p1.1 q9.symm) | exact absurd (fun q9 => p1.1 q9.symm) hq9) (fun _ => ?_)
  refine j_aload_n (j := 3) cx dL_takes_30 rfl rfl (pc' := 31) rfl ?_
  refine j_getN (fk := 0) (v := .ref (al 41 0)) cx rfl hK.1 inB_L_takes (by decide) (by decide) rfl (yV_r (k := (41, 0)) rfl) rfl dL_takes_31 (pc' := 34) rfl ?_
  refine j_aload_n (j := 3) cx dL_takes_34 rfl rfl (pc' := 35) rfl ?_
  refine j_getN (fk := 2) (v := .ref (al 44 0)) cx rfl hK.1 inB_L_takes (by decide) (by decide) rfl (yV_r (k := (44, 0)) rfl) rfl dL_takes_35 (pc' := 38) rfl ?_
  refine j_iload_n (j := 5) cx dL_takes_38 rfl rfl (pc' := 39) rfl ?_
  refine j_iald (v := S 44 0 u) cx hK.2.2.1 rfl (vp_in_nI hu (by decide)) (by rw [(nI_clamp (by omega))]; simp [sup, bCharge_o, bSt_o, fTo_o, fCharge_o, fMove, fPrint, fEnd_o]) rfl dL_takes_39 (pc' := 40) rfl ?_
  refine j_iald (v := S 41 0 ((S 44 0 u).toNatClampNeg)) cx hK.2.1 rfl (h.bi.2.2.2 u hu) (by simp [sup, bCharge_o, bSt_o, fTo_o, fCharge_o, fMove, fPrint, fEnd_o]) rfl dL_takes_40 (pc' := 41) rfl ?_
  refine j_if_le (tgt := 48) cx dL_takes_41 (by decide) (pc' := 44) rfl (fun hq9 => by first | exact absurd hq9 (i32_le0 p1.2.2) | exact absurd (i32_le0 p1.2.2) hq9) (fun _ => ?_)
  refine j_iconst (v := 1) cx dL_takes_44 (by decide) (pc' := 45) rfl ?_
  refine j_goto (tgt := 49) cx dL_takes_45 (by decide) ?_
  refine j_istore (lv' := [(6, .int 1), (5, .int (S 46 0 i)), (4, .int (S 46 0 i)), (0, .ref (al 0 0)), (1, .ref (al 40 0)), (2, .int (nI i)), (3, .int (nI u))]) cx dL_takes_49 (by decide) rfl (pc' := 51) rfl ?_
  refine j_aload_n (j := 4) cx dL_takes_51 rfl rfl (pc' := 52) rfl ?_
  refine j_getN (fk := 5) (v := .ref (al 46 0)) cx rfl hK.1 inB_L_takes (by decide) (by decide) rfl (yV_r (k := (46, 0)) rfl) rfl dL_takes_52 (pc' := 55) rfl ?_
  refine j_iload_n (j := 5) cx dL_takes_55 rfl rfl (pc' := 56) rfl ?_
  refine j_iload_n (j := 6) cx dL_takes_56 rfl rfl (pc' := 57) rfl ?_
  refine j_iast (jn := i) cx hK.2.2.2.2.1 rfl (vp_in_nI (by omega) (by decide)) (nI_clamp (by omega)) rfl dL_takes_57 (pc' := 58) rfl ?_
  refine j_aload_n (j := 4) cx dL_takes_58 rfl rfl (pc' := 59) rfl ?_
  refine j_getN (fk := 7) (v := .ref (al 48 0)) cx rfl hK.1 inB_L_takes (by decide) (by decide) rfl (yV_r (k := (48, 0)) rfl) rfl dL_takes_59 (pc' := 62) rfl ?_
  refine j_iload_n (j := 5) cx dL_takes_62 rfl rfl (pc' := 63) rfl ?_
  refine j_aload_n (j := 4) cx dL_takes_63 rfl rfl (pc' := 64) rfl ?_
  refine j_getN (fk := 13) (v := .int (S 40 0 13)) cx rfl hK.1 inB_L_takes (by decide) (by decide) rfl ((yV_i rfl).trans (congrArg Value.int (by simp [sup, bCharge_o, bSt_o, fTo_o, fCharge_o, fMove, fPrint, fEnd_o]))) rfl dL_takes_64 (pc' := 67) rfl ?_
  refine j_iast (jn := i) cx hK.2.2.2.2.2.2.1 rfl (vp_in_nI (by omega) (by decide)) (nI_clamp (by omega)) rfl dL_takes_67 (pc' := 68) rfl ?_
  refine j_iload (j := 0) cx dL_takes_68 rfl (pc' := 70) rfl ?_
  refine j_if_eq (tgt := 84) cx dL_takes_70 (by decide) (pc' := 73) rfl (fun h => absurd h (by decide)) (fun _ => ?_)
  refine j_iload (j := 1) cx dL_takes_73 rfl (pc' := 75) rfl ?_
  refine j_iload (j := 2) cx dL_takes_75 rfl (pc' := 77) rfl ?_
  refine j_icmp_ne (tgt := 84) cx dL_takes_77 (by decide) (pc' := 80) rfl (fun hq9 => by first | exact absurd hq9 rfl | exact absurd rfl hq9) (fun _ => ?_)
  refine j_iconst (v := 1) cx dL_takes_80 (by decide) (pc' := 81) rfl ?_
  refine j_goto (tgt := 85) cx dL_takes_81 (by decide) ?_
  exact j_iret (ty := .boolean) cx hlk hr rfl (Nat.le_of_ble_eq_true rfl) (Nat.le_of_ble_eq_true rfl) dL_takes_85 ⟨rfl, rfl, rfl, (by have e := o_used (i := i) (o_usr (i := i) h (vp_in_nI hu (by decide))); unfold IN; simp (disch := decide) only [sup_s, sup_k, fMove, fTo, fPrint, fCharge, bCharge, mul2]; exact e)⟩
theorem mul2_toInt {g : Int32} (hg : 1 ≤ g.toInt ∧ g.toInt ≤ 9) : (g * 2).toInt = 2 * g.toInt := by
  have e : g * 2 = g + g := by grind
  rw [e, i32_add (by omega) (by omega) (by omega)]
  omega
theorem p_prints {S : yS} {ns : Nat} {mu : Nat → Nat} {M T i : Nat} {g : Int32} (h : IN S S ns mu M T) (hi : i < ns) (hg : 1 ≤ g.toInt ∧ g.toInt ≤ 9) (hm : ¬ S 41 0 ((S 44 0 ((S 46 0 i).toNatClampNeg)).toNatClampNeg) < 2 * g) : IN (sup (sup (sup (bCharge (fPrint S (mu i) i g) i (2 * g)) 40 0 11 ((S 40 0 11) + (2 * g))) 40 0 10 ((S 40 0 10) + g)) 48 0 i (S 40 0 13)) (sup (sup (sup (bCharge (fPrint S (mu i) i g) i (2 * g)) 40 0 11 ((S 40 0 11) + (2 * g))) 40 0 10 ((S 40 0 10) + g)) 48 0 i (S 40 0 13)) ns mu M T := by
  have hdep := h.dep hi
  have hmc := h.mac (h.2.2.2.2.1 i hi).2.2.2.2.1
  have hge : (g * 2).toInt ≤ (S 5 0 (cDep S i)).toInt := by
    have q := i32_nlt hm
    rw [mul2, show S 41 0 ((S 44 0 ((S 46 0 i).toNatClampNeg)).toNatClampNeg) = S 41 0 (bDep S i) from rfl, hdep.1, ← h.2.2.1 _ hdep.2] at q
    exact q
  have e := o_used (i := i) (o_pr (c := g) (o_pg (c := g * 2) (o_chg h hi hdep.2 (by rw [mul2_toInt hg]; omega) hge)))
  simp (disch := decide) only [up1_j] at e
  have hb1 : bDep (fPrint S (mu i) i g) i = bDep S i := by
    unfold bDep
    simp (disch := decide) only [fPrint, fCharge, sup_k]
  unfold IN bCharge
  rw [hb1, hdep.1]
  simp (disch := decide) only [fPrint, fCharge, hmc.2.1, one_cl, mul2, sup_s, sup_k, up1_j]
  exact e
theorem inB_L_prints : ∀ w ∈ u_ws RX3 TX3 14, w ∈ wsL_prints := by decide +kernel
set_option maxHeartbeats 4000000 in
set_option maxRecDepth 100000 in
theorem c_L_prints {l : Launch} (hl0 : l.stackTraces = false) {Z : yL} {al : yAl} {sh : ySh} {S : yS} {ns : Nat} {mu : Nat → Nat} {M T : Nat} (hY : YC Z al sh 3 ns mu) (hK : YK Z al sh) (h : IN S S ns mu M T) {i : Nat} {g : Int32} (hM : M ≤ 100000) (hi : i < ns) (hg : 1 ≤ g.toInt ∧ g.toInt ≤ 9) : Ct l yL_prints wsL_prints ({ frames := 8, cells := 4, slots := 24, locals := 137 }) 4 24 Z [.ref (al 0 0), .ref (al 40 0), .int (nI i), .int g] al sh S (PQ al sh ns mu M T) := by
  have hn40 := h.ns40
  have hdep := h.dep hi
  have hmc := h.mac (h.2.2.2.2.1 i hi).2.2.2.2.1
  refine Ct.ofH (lv := [(0, .ref (al 0 0)), (1, .ref (al 40 0)), (2, .int (nI i)), (3, .int g)]) (by decide) rfl (Nat.le_of_ble_eq_true rfl) rfl ?_
  intro p_ e_ s_ m_ below_ meth_ c_ cx hlk hr htb
  refine j_aload_n (j := 1) cx dL_prints_0 rfl rfl (pc' := 1) rfl ?_
  refine j_iload_n (j := 2) cx dL_prints_1 rfl rfl (pc' := 2) rfl ?_
  refine j_cVR (cells1 := 0) (slots1 := 0) (st1 := [.int (bI (S 49 0 i = 0))]) (As := [.int (nI i)]) (rest := []) cx (c_X3_isLive hK (by omega)) gL_prints_X3_isLive rfl rfl rfl 1 rfl (by decide +kernel) ⟨Nat.le_of_ble_eq_true rfl, Nat.le_of_ble_eq_true rfl⟩ hK.1 rfl rfl rfl rfl (Nat.le_of_ble_eq_true rfl) dL_prints_2 ⟨(Nat.le_of_ble_eq_true rfl), (Nat.le_of_ble_eq_true rfl)⟩ (pc' := 5) rfl rfl rfl rfl ?_
  refine j_ifb_eq (tgt := 34) cx dL_prints_5 (by decide) (pc' := 8) rfl (fun h2 => ?_) (fun h2 => ?_)
  · refine j_iconst (v := 0) cx dL_prints_34 (by decide) (pc' := 35) rfl ?_
    refine j_istore (lv' := [(4, .int 0), (0, .ref (al 0 0)), (1, .ref (al 40 0)), (2, .int (nI i)), (3, .int g)]) cx dL_prints_35 (by decide) rfl (pc' := 37) rfl ?_
    refine j_aload_n (j := 1) cx dL_prints_37 rfl rfl (pc' := 38) rfl ?_
    refine j_iload_n (j := 3) cx dL_prints_38 rfl rfl (pc' := 39) rfl ?_
    refine j_iload_n (j := 4) cx dL_prints_39 rfl rfl (pc' := 40) rfl ?_
    refine j_cVX (cells1 := 4) (slots1 := 24) (st1 := [.int (S 40 0 10 + g)]) (As := [.int (nI i), .int g]) (rest := []) cx (n_print hl0 hY h hi hg) gL_prints_X2_print rfl rfl rfl 2 rfl (by decide +kernel) ⟨Nat.le_of_ble_eq_true rfl, Nat.le_of_ble_eq_true rfl⟩ hY.1 rfl rfl rfl rfl (Nat.le_of_ble_eq_true rfl) dL_prints_40 ⟨(Nat.le_of_ble_eq_true rfl), (Nat.le_of_ble_eq_true rfl)⟩ (pc' := 43) rfl rfl rfl rfl (fun E hE => ?_) (fun p3 => ?_)
    · rcases hE with ⟨e9, -⟩ | ⟨-, z, -⟩
      · subst e9
        refine jx_catch cx htb [] ⟨37, 104, 105, 93⟩ [⟨37, 104, 121, 95⟩] rfl (by decide) (fun z hz => by cases hz) rfl (by decide) (by decide +kernel) (fun q => ?_)
        refine j_astore (lv' := [(5, .ref q), (4, .int 0), (0, .ref (al 0 0)), (1, .ref (al 40 0)), (2, .int (nI i)), (3, .int g)]) cx dL_prints_105 (by decide) rfl (pc' := 107) rfl ?_
        refine j_aload_n (j := 3) cx dL_prints_107 rfl rfl (pc' := 108) rfl ?_
        refine j_iload_n (j := 4) cx dL_prints_108 rfl rfl (pc' := 109) rfl ?_
        refine j_cVR (cells1 := 4) (slots1 := 24) (st1 := [.int (bI (S 49 0 i = 0))]) (As := [.int (nI i)]) (rest := []) cx (c_X3_isLive hK (by omega)) gL_prints_X3_isLive rfl rfl rfl 1 rfl (by decide +kernel) ⟨Nat.le_of_ble_eq_true rfl, Nat.le_of_ble_eq_true rfl⟩ hK.1 rfl rfl rfl rfl (Nat.le_of_ble_eq_true rfl) dL_prints_109 ⟨(Nat.le_of_ble_eq_true rfl), (Nat.le_of_ble_eq_true rfl)⟩ (pc' := 112) rfl rfl rfl rfl ?_
        refine j_ifb_ne (tgt := 119) cx dL_prints_112 (by decide) (pc' := 115) rfl (fun hq9 => by first | exact absurd hq9 h2 | exact absurd h2 hq9) (fun _ => ?_)
        refine j_iconst (v := 1) cx dL_prints_115 (by decide) (pc' := 116) rfl ?_
        refine j_goto (tgt := 120) cx dL_prints_116 (by decide) ?_
        exact j_iret (ty := .boolean) cx hlk hr rfl (Nat.le_of_ble_eq_true rfl) (Nat.le_of_ble_eq_true rfl) dL_prints_120 ⟨rfl, rfl, rfl, h⟩
      · exact absurd z h2
    exact absurd p3.1 h2
  · refine j_aload_n (j := 1) cx dL_prints_8 rfl rfl (pc' := 9) rfl ?_
    refine j_getN (fk := 0) (v := .ref (al 41 0)) cx rfl hK.1 inB_L_prints (by decide) (by decide) rfl (yV_r (k := (41, 0)) rfl) rfl dL_prints_9 (pc' := 12) rfl ?_
    refine j_aload_n (j := 1) cx dL_prints_12 rfl rfl (pc' := 13) rfl ?_
    refine j_getN (fk := 2) (v := .ref (al 44 0)) cx rfl hK.1 inB_L_prints (by decide) (by decide) rfl (yV_r (k := (44, 0)) rfl) rfl dL_prints_13 (pc' := 16) rfl ?_
    refine j_aload_n (j := 1) cx dL_prints_16 rfl rfl (pc' := 17) rfl ?_
    refine j_getN (fk := 5) (v := .ref (al 46 0)) cx rfl hK.1 inB_L_prints (by decide) (by decide) rfl (yV_r (k := (46, 0)) rfl) rfl dL_prints_17 (pc' := 20) rfl ?_
    refine j_iload_n (j := 2) cx dL_prints_20 rfl rfl (pc' := 21) rfl ?_
    refine j_iald (v := S 46 0 i) cx hK.2.2.2.2.1 rfl (vp_in_nI (by omega) (by decide)) (by rw [(nI_clamp (by omega))]) rfl dL_prints_21 (pc' := 22) rfl ?_
    refine j_iald (v := S 44 0 ((S 46 0 i).toNatClampNeg)) cx hK.2.2.1 rfl (h.bi.2.2.1 i hi) rfl rfl dL_prints_22 (pc' := 23) rfl ?_
    refine j_iald (v := S 41 0 ((S 44 0 ((S 46 0 i).toNatClampNeg)).toNatClampNeg)) cx hK.2.1 rfl (h.bi.2.2.2 _ (ix_of (h.bi.2.2.1 i hi))) rfl rfl dL_prints_23 (pc' := 24) rfl ?_
    refine j_iconst (v := 2) cx dL_prints_24 (by decide) (pc' := 25) rfl ?_
    refine j_iload_n (j := 3) cx dL_prints_25 rfl rfl (pc' := 26) rfl ?_
    refine j_imul cx dL_prints_26 (pc' := 27) rfl ?_
    refine j_icmp_lt (tgt := 34) cx dL_prints_27 (by decide) (pc' := 30) rfl (fun h6 => ?_) (fun h6 => ?_)
    · refine j_iconst (v := 0) cx dL_prints_34 (by decide) (pc' := 35) rfl ?_
      refine j_istore (lv' := [(4, .int 0), (0, .ref (al 0 0)), (1, .ref (al 40 0)), (2, .int (nI i)), (3, .int g)]) cx dL_prints_35 (by decide) rfl (pc' := 37) rfl ?_
      refine j_aload_n (j := 1) cx dL_prints_37 rfl rfl (pc' := 38) rfl ?_
      refine j_iload_n (j := 3) cx dL_prints_38 rfl rfl (pc' := 39) rfl ?_
      refine j_iload_n (j := 4) cx dL_prints_39 rfl rfl (pc' := 40) rfl ?_
      refine j_cVX (cells1 := 4) (slots1 := 24) (st1 := [.int (S 40 0 10 + g)]) (As := [.int (nI i), .int g]) (rest := []) cx (n_print hl0 hY h hi hg) gL_prints_X2_print rfl rfl rfl 2 rfl (by decide +kernel) ⟨Nat.le_of_ble_eq_true rfl, Nat.le_of_ble_eq_true rfl⟩ hY.1 rfl rfl rfl rfl (Nat.le_of_ble_eq_true rfl) dL_prints_40 ⟨(Nat.le_of_ble_eq_true rfl), (Nat.le_of_ble_eq_true rfl)⟩ (pc' := 43) rfl rfl rfl rfl (fun E hE => ?_) (fun p7 => ?_)
      · rcases hE with ⟨-, z⟩ | ⟨e9, -, -⟩
        · exact absurd h2 z
        · subst e9
          refine jx_catch cx htb [⟨37, 104, 105, 93⟩] ⟨37, 104, 121, 95⟩ [] rfl (by decide) (by intro z hz; simp only [List.mem_cons, List.not_mem_nil, or_false] at hz; rcases hz with rfl; exact ⟨by decide, "java/lang/IllegalStateException", by decide +kernel, by decide, by decide⟩) rfl (by decide) (by decide +kernel) (fun q => ?_)
          refine j_astore (lv' := [(5, .ref q), (4, .int 0), (0, .ref (al 0 0)), (1, .ref (al 40 0)), (2, .int (nI i)), (3, .int g)]) cx dL_prints_121 (by decide) rfl (pc' := 123) rfl ?_
          refine j_aload_n (j := 3) cx dL_prints_123 rfl rfl (pc' := 124) rfl ?_
          refine j_iload_n (j := 4) cx dL_prints_124 rfl rfl (pc' := 125) rfl ?_
          refine j_cVR (cells1 := 4) (slots1 := 24) (st1 := [.int (bI (S 49 0 i = 0))]) (As := [.int (nI i)]) (rest := []) cx (c_X3_isLive hK (by omega)) gL_prints_X3_isLive rfl rfl rfl 1 rfl (by decide +kernel) ⟨Nat.le_of_ble_eq_true rfl, Nat.le_of_ble_eq_true rfl⟩ hK.1 rfl rfl rfl rfl (Nat.le_of_ble_eq_true rfl) dL_prints_125 ⟨(Nat.le_of_ble_eq_true rfl), (Nat.le_of_ble_eq_true rfl)⟩ (pc' := 128) rfl rfl rfl rfl ?_
          refine j_ifb_eq (tgt := 140) cx dL_prints_128 (by decide) (pc' := 131) rfl (fun hq9 => by first | exact absurd hq9 h2 | exact absurd h2 hq9) (fun _ => ?_)
          refine j_iload (j := 1) cx dL_prints_131 rfl (pc' := 133) rfl ?_
          refine j_if_ne (tgt := 140) cx dL_prints_133 (by decide) (pc' := 136) rfl (fun h => absurd h (by decide)) (fun _ => ?_)
          refine j_iconst (v := 1) cx dL_prints_136 (by decide) (pc' := 137) rfl ?_
          refine j_goto (tgt := 141) cx dL_prints_137 (by decide) ?_
          exact j_iret (ty := .boolean) cx hlk hr rfl (Nat.le_of_ble_eq_true rfl) (Nat.le_of_ble_eq_true rfl) dL_prints_141 ⟨rfl, rfl, rfl, h⟩
      exact absurd (show S 41 0 ((S 44 0 ((S 46 0 i).toNatClampNeg)).toNatClampNeg) < g * 2 by rw [← mul2]; exact h6) p7.2
    · refine j_iconst (v := 1) cx dL_prints_30 (by decide) (pc' := 31) rfl ?_
      refine j_goto (tgt := 35) cx dL_prints_31 (by decide) ?_
      refine j_istore (lv' := [(4, .int 1), (0, .ref (al 0 0)), (1, .ref (al 40 0)), (2, .int (nI i)), (3, .int g)]) cx dL_prints_35 (by decide) rfl (pc' := 37) rfl ?_
      refine j_aload_n (j := 1) cx dL_prints_37 rfl rfl (pc' := 38) rfl ?_
      refine j_iload_n (j := 3) cx dL_prints_38 rfl rfl (pc' := 39) rfl ?_
      refine j_iload_n (j := 4) cx dL_prints_39 rfl rfl (pc' := 40) rfl ?_
      refine j_cVX (cells1 := 4) (slots1 := 24) (st1 := [.int (S 40 0 10 + g)]) (As := [.int (nI i), .int g]) (rest := []) cx (n_print hl0 hY h hi hg) gL_prints_X2_print rfl rfl rfl 2 rfl (by decide +kernel) ⟨Nat.le_of_ble_eq_true rfl, Nat.le_of_ble_eq_true rfl⟩ hY.1 rfl rfl rfl rfl (Nat.le_of_ble_eq_true rfl) dL_prints_40 ⟨(Nat.le_of_ble_eq_true rfl), (Nat.le_of_ble_eq_true rfl)⟩ (pc' := 43) rfl rfl rfl rfl (fun E hE => ?_) (fun p10 => ?_)
      · rcases hE with ⟨-, z⟩ | ⟨-, -, z⟩
        · exact absurd h2 z
        · exact absurd (show S 41 0 ((S 44 0 ((S 46 0 i).toNatClampNeg)).toNatClampNeg) < 2 * g by rw [mul2]; exact z) h6
      refine j_istore (lv' := [(5, .int (S 40 0 10 + g)), (4, .int 1), (0, .ref (al 0 0)), (1, .ref (al 40 0)), (2, .int (nI i)), (3, .int g)]) cx dL_prints_43 (by decide) rfl (pc' := 45) rfl ?_
      refine j_aload_n (j := 3) cx dL_prints_45 rfl rfl (pc' := 46) rfl ?_
      refine j_iload_n (j := 4) cx dL_prints_46 rfl rfl (pc' := 47) rfl ?_
      refine j_iconst (v := 2) cx dL_prints_47 (by decide) (pc' := 48) rfl ?_
      refine j_iload_n (j := 5) cx dL_prints_48 rfl rfl (pc' := 49) rfl ?_
      refine j_imul cx dL_prints_49 (pc' := 50) rfl ?_
      refine j_cVR (cells1 := 4) (slots1 := 24) (st1 := []) (As := [.int (nI i), .int (2 * g)]) (rest := []) cx (c_X3_charge hK (by omega) ((show BI (fPrint S (mu i) i g) ns from h.bi.of (by simp (disch := decide) only [fPrint, fCharge, sup_k]) (fun _ => by simp (disch := decide) only [fPrint, fCharge, sup_k]) (fun _ => by simp (disch := decide) only [fPrint, fCharge, sup_k])).2.2.1 i hi) ((show BI (fPrint S (mu i) i g) ns from h.bi.of (by simp (disch := decide) only [fPrint, fCharge, sup_k]) (fun _ => by simp (disch := decide) only [fPrint, fCharge, sup_k]) (fun _ => by simp (disch := decide) only [fPrint, fCharge, sup_k])).2.2.2 _ (ix_of ((show BI (fPrint S (mu i) i g) ns from h.bi.of (by simp (disch := decide) only [fPrint, fCharge, sup_k]) (fun _ => by simp (disch := decide) only [fPrint, fCharge, sup_k]) (fun _ => by simp (disch := decide) only [fPrint, fCharge, sup_k])).2.2.1 i hi)))) gL_prints_X3_charge rfl rfl rfl 2 rfl (by decide +kernel) ⟨Nat.le_of_ble_eq_true rfl, Nat.le_of_ble_eq_true rfl⟩ hK.1 rfl rfl rfl rfl (Nat.le_of_ble_eq_true rfl) dL_prints_50 ⟨(Nat.le_of_ble_eq_true rfl), (Nat.le_of_ble_eq_true rfl)⟩ (pc' := 53) rfl rfl rfl rfl ?_
      refine j_aload_n (j := 3) cx dL_prints_53 rfl rfl (pc' := 54) rfl ?_
      refine j_dup cx dL_prints_54 rfl (pc' := 55) rfl ?_
      refine j_getN (fk := 11) (v := .int (S 40 0 11)) cx rfl hK.1 inB_L_prints (by decide) (by decide) rfl ((yV_i rfl).trans (congrArg Value.int (by simp [sup, bCharge_o, bSt_o, fTo_o, fCharge_o, fMove, fPrint, fEnd_o]))) rfl dL_prints_55 (pc' := 58) rfl ?_
      refine j_iconst (v := 2) cx dL_prints_58 (by decide) (pc' := 59) rfl ?_
      refine j_iload_n (j := 5) cx dL_prints_59 rfl rfl (pc' := 60) rfl ?_
      refine j_imul cx dL_prints_60 (pc' := 61) rfl ?_
      refine j_iadd cx dL_prints_61 (pc' := 62) rfl ?_
      refine j_putiN (fk := 11) cx rfl hK.1 inB_L_prints (by decide) (by decide) rfl rfl (by decide +kernel) rfl rfl dL_prints_62 (pc' := 65) rfl ?_
      refine j_aload_n (j := 3) cx dL_prints_65 rfl rfl (pc' := 66) rfl ?_
      refine j_dup cx dL_prints_66 rfl (pc' := 67) rfl ?_
      refine j_getN (fk := 10) (v := .int (S 40 0 10)) cx rfl hK.1 inB_L_prints (by decide) (by decide) rfl ((yV_i rfl).trans (congrArg Value.int (by simp [sup, bCharge_o, bSt_o, fTo_o, fCharge_o, fMove, fPrint, fEnd_o]))) rfl dL_prints_67 (pc' := 70) rfl ?_
      refine j_iload_n (j := 5) cx dL_prints_70 rfl rfl (pc' := 71) rfl ?_
      refine j_iadd cx dL_prints_71 (pc' := 72) rfl ?_
      refine j_putiN (fk := 10) cx rfl hK.1 inB_L_prints (by decide) (by decide) rfl rfl (by decide +kernel) rfl rfl dL_prints_72 (pc' := 75) rfl ?_
      refine j_aload_n (j := 3) cx dL_prints_75 rfl rfl (pc' := 76) rfl ?_
      refine j_getN (fk := 7) (v := .ref (al 48 0)) cx rfl hK.1 inB_L_prints (by decide) (by decide) rfl (yV_r (k := (48, 0)) rfl) rfl dL_prints_76 (pc' := 79) rfl ?_
      refine j_iload_n (j := 4) cx dL_prints_79 rfl rfl (pc' := 80) rfl ?_
      refine j_aload_n (j := 3) cx dL_prints_80 rfl rfl (pc' := 81) rfl ?_
      refine j_getN (fk := 13) (v := .int (S 40 0 13)) cx rfl hK.1 inB_L_prints (by decide) (by decide) rfl ((yV_i rfl).trans (congrArg Value.int (by simp [sup, bCharge_o, bSt_o, fTo_o, fCharge_o, fMove, fPrint, fEnd_o]))) rfl dL_prints_81 (pc' := 84) rfl ?_
      refine j_iast (jn := i) cx hK.2.2.2.2.2.2.1 rfl (vp_in_nI (by omega) (by decide)) (nI_clamp (by omega)) rfl dL_prints_84 (pc' := 85) rfl ?_
      refine j_iload (j := 1) cx dL_prints_85 rfl (pc' := 87) rfl ?_
      refine j_if_eq (tgt := 103) cx dL_prints_87 (by decide) (pc' := 90) rfl (fun h => absurd h (by decide)) (fun _ => ?_)
      refine j_iload (j := 0) cx dL_prints_90 rfl (pc' := 92) rfl ?_
      refine j_aload_n (j := 3) cx dL_prints_92 rfl rfl (pc' := 93) rfl ?_
      refine j_getN (fk := 10) (v := .int ((S 40 0 10) + g)) cx rfl hK.1 inB_L_prints (by decide) (by decide) rfl ((yV_i rfl).trans (congrArg Value.int (by simp [sup, bCharge_o, bSt_o, fTo_o, fCharge_o, fMove, fPrint, fEnd_o]))) rfl dL_prints_93 (pc' := 96) rfl ?_
      refine j_icmp_ne (tgt := 103) cx dL_prints_96 (by decide) (pc' := 99) rfl (fun hq9 => by first | exact absurd hq9 rfl | exact absurd rfl hq9) (fun _ => ?_)
      refine j_iconst (v := 1) cx dL_prints_99 (by decide) (pc' := 100) rfl ?_
      refine j_goto (tgt := 104) cx dL_prints_100 (by decide) ?_
      exact j_iret (ty := .boolean) cx hlk hr rfl (Nat.le_of_ble_eq_true rfl) (Nat.le_of_ble_eq_true rfl) dL_prints_104 ⟨rfl, rfl, rfl, p_prints h hi hg h6⟩
theorem inB_L_ends : ∀ w ∈ u_ws RX3 TX3 14, w ∈ wsL_ends := by decide +kernel
set_option maxHeartbeats 4000000 in
set_option maxRecDepth 100000 in
theorem c_L_ends {l : Launch} (hl0 : l.stackTraces = false) {Z : yL} {al : yAl} {sh : ySh} {S : yS} {ns : Nat} {mu : Nat → Nat} {M T : Nat} (hY : YC Z al sh 3 ns mu) (hK : YK Z al sh) (h : IN S S ns mu M T) {i : Nat} {b9 : Int32} (hi : i < ns) : Ct l yL_ends wsL_ends ({ frames := 9, cells := 3, slots := 18, locals := 155 }) 3 18 Z [.ref (al 0 0), .ref (al 40 0), .int (nI i), .int b9] al sh S (PQ al sh ns mu M T) := by
  have hn40 := h.ns40
  have hmc := h.mac (h.2.2.2.2.1 i hi).2.2.2.2.1
  obtain ⟨fo50, hf50, hg50⟩ := hK.2.2.2.2.2.2.2.2.2.2.1
  refine Ct.of (lv := [(0, .ref (al 0 0)), (1, .ref (al 40 0)), (2, .int (nI i)), (3, .int b9)]) (by decide) rfl (Nat.le_of_ble_eq_true rfl) rfl ?_
  intro p_ e_ s_ m_ below_ meth_ c_ cx hlk hr hnm9
  refine j_aload_n (j := 1) cx dL_ends_0 rfl rfl (pc' := 1) rfl ?_
  refine j_iload_n (j := 2) cx dL_ends_1 rfl rfl (pc' := 2) rfl ?_
  refine j_cVR (cells1 := 0) (slots1 := 0) (st1 := [.int (bI (S 49 0 i = 0))]) (As := [.int (nI i)]) (rest := []) cx (c_X3_isLive hK (by omega)) gL_ends_X3_isLive rfl rfl rfl 1 rfl (by decide +kernel) ⟨Nat.le_of_ble_eq_true rfl, Nat.le_of_ble_eq_true rfl⟩ hK.1 rfl rfl rfl rfl (Nat.le_of_ble_eq_true rfl) dL_ends_2 ⟨(Nat.le_of_ble_eq_true rfl), (Nat.le_of_ble_eq_true rfl)⟩ (pc' := 5) rfl rfl rfl rfl ?_
  refine j_ifb_ne (tgt := 28) cx dL_ends_5 (by decide) (pc' := 8) rfl (fun h2 => ?_) (fun h2 => ?_)
  · refine j_iload_n (j := 3) cx dL_ends_28 rfl rfl (pc' := 29) rfl ?_
    refine j_if_eq (tgt := 93) cx dL_ends_29 (by decide) (pc' := 32) rfl (fun h3 => ?_) (fun h3 => ?_)
    · refine j_aload_n (j := 1) cx dL_ends_93 rfl rfl (pc' := 94) rfl ?_
      refine j_getN (fk := 8) (v := .ref (al 49 0)) cx rfl hK.1 inB_L_ends (by decide) (by decide) rfl (yV_r (k := (49, 0)) rfl) rfl dL_ends_94 (pc' := 97) rfl ?_
      refine j_iload_n (j := 2) cx dL_ends_97 rfl rfl (pc' := 98) rfl ?_
      refine j_bipush (v := 108) cx dL_ends_98 (by decide) (pc' := 100) rfl ?_
      refine j_cast (jn := i) cx hK.2.2.2.2.2.2.2.1 rfl (vp_in_nI (by omega) (by decide)) rfl (nI_clamp (by omega)) rfl dL_ends_100 (pc' := 101) rfl ?_
      refine j_aload_n (j := 0) cx dL_ends_101 rfl rfl (pc' := 102) rfl ?_
      refine j_iload_n (j := 2) cx dL_ends_102 rfl rfl (pc' := 103) rfl ?_
      refine j_cVR (cells1 := 2) (slots1 := 12) (st1 := [.int ((((S 51 i 0) + (S 51 i 1)) + (S 51 i 2)) + (S 51 i 3))]) (As := [.int (nI i)]) (rest := []) cx (n_out hl0 hY (S := (sup S 49 0 i 108)) (B := S) (by unfold IN; simp (disch := decide) only [sup_k]; exact h) hi h2) gL_ends_X2_logOut rfl rfl rfl 1 rfl (by decide +kernel) ⟨Nat.le_of_ble_eq_true rfl, Nat.le_of_ble_eq_true rfl⟩ hY.1 rfl rfl rfl rfl (Nat.le_of_ble_eq_true rfl) dL_ends_103 ⟨(Nat.le_of_ble_eq_true rfl), (Nat.le_of_ble_eq_true rfl)⟩ (pc' := 106) rfl rfl rfl rfl ?_
      refine j_aload_n (j := 1) cx dL_ends_106 rfl rfl (pc' := 107) rfl ?_
      refine j_getN (fk := 9) (v := .ref (al 50 0)) cx rfl hK.1 inB_L_ends (by decide) (by decide) rfl (yV_r (k := (50, 0)) rfl) rfl dL_ends_107 (pc' := 110) rfl ?_
      refine j_iload_n (j := 2) cx dL_ends_110 rfl rfl (pc' := 111) rfl ?_
      refine j_aald cx hf50 (ti := 5) rfl rfl (vp_in_nI (by omega) (by decide)) (r := al 51 i) ((congrArg _ (nI_clamp (by omega))).trans (hg50 i (by omega))) rfl dL_ends_111 (pc' := 112) rfl ?_
      refine j_iconst (v := 0) cx dL_ends_112 (by decide) (pc' := 113) rfl ?_
      refine j_iald (v := S 51 i 0) cx (hK.2.2.2.2.2.2.2.2.2.2.2 _ (by omega)) rfl (by unfold vp_in; decide) (by simp [sup, bCharge_o, bSt_o, fTo_o, fCharge_o, fMove, fPrint, fEnd_o]) rfl dL_ends_113 (pc' := 114) rfl ?_
      refine j_aload_n (j := 1) cx dL_ends_114 rfl rfl (pc' := 115) rfl ?_
      refine j_getN (fk := 9) (v := .ref (al 50 0)) cx rfl hK.1 inB_L_ends (by decide) (by decide) rfl (yV_r (k := (50, 0)) rfl) rfl dL_ends_115 (pc' := 118) rfl ?_
      refine j_iload_n (j := 2) cx dL_ends_118 rfl rfl (pc' := 119) rfl ?_
      refine j_aald cx hf50 (ti := 5) rfl rfl (vp_in_nI (by omega) (by decide)) (r := al 51 i) ((congrArg _ (nI_clamp (by omega))).trans (hg50 i (by omega))) rfl dL_ends_119 (pc' := 120) rfl ?_
      refine j_iconst (v := 1) cx dL_ends_120 (by decide) (pc' := 121) rfl ?_
      refine j_iald (v := S 51 i 1) cx (hK.2.2.2.2.2.2.2.2.2.2.2 _ (by omega)) rfl (by unfold vp_in; decide) (by simp [sup, bCharge_o, bSt_o, fTo_o, fCharge_o, fMove, fPrint, fEnd_o]) rfl dL_ends_121 (pc' := 122) rfl ?_
      refine j_iadd cx dL_ends_122 (pc' := 123) rfl ?_
      refine j_aload_n (j := 1) cx dL_ends_123 rfl rfl (pc' := 124) rfl ?_
      refine j_getN (fk := 9) (v := .ref (al 50 0)) cx rfl hK.1 inB_L_ends (by decide) (by decide) rfl (yV_r (k := (50, 0)) rfl) rfl dL_ends_124 (pc' := 127) rfl ?_
      refine j_iload_n (j := 2) cx dL_ends_127 rfl rfl (pc' := 128) rfl ?_
      refine j_aald cx hf50 (ti := 5) rfl rfl (vp_in_nI (by omega) (by decide)) (r := al 51 i) ((congrArg _ (nI_clamp (by omega))).trans (hg50 i (by omega))) rfl dL_ends_128 (pc' := 129) rfl ?_
      refine j_iconst (v := 2) cx dL_ends_129 (by decide) (pc' := 130) rfl ?_
      refine j_iald (v := S 51 i 2) cx (hK.2.2.2.2.2.2.2.2.2.2.2 _ (by omega)) rfl (by unfold vp_in; decide) (by simp [sup, bCharge_o, bSt_o, fTo_o, fCharge_o, fMove, fPrint, fEnd_o]) rfl dL_ends_130 (pc' := 131) rfl ?_
      refine j_iadd cx dL_ends_131 (pc' := 132) rfl ?_
      refine j_aload_n (j := 1) cx dL_ends_132 rfl rfl (pc' := 133) rfl ?_
      refine j_getN (fk := 9) (v := .ref (al 50 0)) cx rfl hK.1 inB_L_ends (by decide) (by decide) rfl (yV_r (k := (50, 0)) rfl) rfl dL_ends_133 (pc' := 136) rfl ?_
      refine j_iload_n (j := 2) cx dL_ends_136 rfl rfl (pc' := 137) rfl ?_
      refine j_aald cx hf50 (ti := 5) rfl rfl (vp_in_nI (by omega) (by decide)) (r := al 51 i) ((congrArg _ (nI_clamp (by omega))).trans (hg50 i (by omega))) rfl dL_ends_137 (pc' := 138) rfl ?_
      refine j_iconst (v := 3) cx dL_ends_138 (by decide) (pc' := 139) rfl ?_
      refine j_iald (v := S 51 i 3) cx (hK.2.2.2.2.2.2.2.2.2.2.2 _ (by omega)) rfl (by unfold vp_in; decide) (by simp [sup, bCharge_o, bSt_o, fTo_o, fCharge_o, fMove, fPrint, fEnd_o]) rfl dL_ends_139 (pc' := 140) rfl ?_
      refine j_iadd cx dL_ends_140 (pc' := 141) rfl ?_
      refine j_icmp_ne (tgt := 148) cx dL_ends_141 (by decide) (pc' := 144) rfl (fun hq9 => by first | exact absurd hq9 rfl | exact absurd rfl hq9) (fun _ => ?_)
      refine j_iconst (v := 1) cx dL_ends_144 (by decide) (pc' := 145) rfl ?_
      refine j_goto (tgt := 149) cx dL_ends_145 (by decide) ?_
      exact j_iret (ty := .boolean) cx hlk hr rfl (Nat.le_of_ble_eq_true rfl) (Nat.le_of_ble_eq_true rfl) dL_ends_149 ⟨rfl, rfl, rfl, (by have e := o_end h hi ((h.live hi).mpr h2) (how := 108) (by decide) (by decide) rfl; rw [fEnd_117 (by rw [sup_k (by decide)]; exact hmc.2.2.2.1)]; unfold IN; simp (disch := decide) only [sup_s, sup_k]; exact e)⟩
    · refine j_aload_n (j := 1) cx dL_ends_32 rfl rfl (pc' := 33) rfl ?_
      refine j_getN (fk := 5) (v := .ref (al 46 0)) cx rfl hK.1 inB_L_ends (by decide) (by decide) rfl (yV_r (k := (46, 0)) rfl) rfl dL_ends_33 (pc' := 36) rfl ?_
      refine j_iload_n (j := 2) cx dL_ends_36 rfl rfl (pc' := 37) rfl ?_
      refine j_iald (v := S 46 0 i) cx hK.2.2.2.2.1 rfl (vp_in_nI (by omega) (by decide)) (by rw [(nI_clamp (by omega))]) rfl dL_ends_37 (pc' := 38) rfl ?_
      refine j_aload_n (j := 1) cx dL_ends_38 rfl rfl (pc' := 39) rfl ?_
      refine j_getN (fk := 4) (v := .ref (al 45 0)) cx rfl hK.1 inB_L_ends (by decide) (by decide) rfl (yV_r (k := (45, 0)) rfl) rfl dL_ends_39 (pc' := 42) rfl ?_
      refine j_iload_n (j := 2) cx dL_ends_42 rfl rfl (pc' := 43) rfl ?_
      refine j_iald (v := S 45 0 i) cx hK.2.2.2.1 rfl (vp_in_nI (by omega) (by decide)) (by rw [(nI_clamp (by omega))]) rfl dL_ends_43 (pc' := 44) rfl ?_
      refine j_icmp_eq (tgt := 93) cx dL_ends_44 (by decide) (pc' := 47) rfl (fun h6 => ?_) (fun h6 => ?_)
      · refine j_aload_n (j := 1) cx dL_ends_93 rfl rfl (pc' := 94) rfl ?_
        refine j_getN (fk := 8) (v := .ref (al 49 0)) cx rfl hK.1 inB_L_ends (by decide) (by decide) rfl (yV_r (k := (49, 0)) rfl) rfl dL_ends_94 (pc' := 97) rfl ?_
        refine j_iload_n (j := 2) cx dL_ends_97 rfl rfl (pc' := 98) rfl ?_
        refine j_bipush (v := 108) cx dL_ends_98 (by decide) (pc' := 100) rfl ?_
        refine j_cast (jn := i) cx hK.2.2.2.2.2.2.2.1 rfl (vp_in_nI (by omega) (by decide)) rfl (nI_clamp (by omega)) rfl dL_ends_100 (pc' := 101) rfl ?_
        refine j_aload_n (j := 0) cx dL_ends_101 rfl rfl (pc' := 102) rfl ?_
        refine j_iload_n (j := 2) cx dL_ends_102 rfl rfl (pc' := 103) rfl ?_
        refine j_cVR (cells1 := 2) (slots1 := 12) (st1 := [.int ((((S 51 i 0) + (S 51 i 1)) + (S 51 i 2)) + (S 51 i 3))]) (As := [.int (nI i)]) (rest := []) cx (n_out hl0 hY (S := (sup S 49 0 i 108)) (B := S) (by unfold IN; simp (disch := decide) only [sup_k]; exact h) hi h2) gL_ends_X2_logOut rfl rfl rfl 1 rfl (by decide +kernel) ⟨Nat.le_of_ble_eq_true rfl, Nat.le_of_ble_eq_true rfl⟩ hY.1 rfl rfl rfl rfl (Nat.le_of_ble_eq_true rfl) dL_ends_103 ⟨(Nat.le_of_ble_eq_true rfl), (Nat.le_of_ble_eq_true rfl)⟩ (pc' := 106) rfl rfl rfl rfl ?_
        refine j_aload_n (j := 1) cx dL_ends_106 rfl rfl (pc' := 107) rfl ?_
        refine j_getN (fk := 9) (v := .ref (al 50 0)) cx rfl hK.1 inB_L_ends (by decide) (by decide) rfl (yV_r (k := (50, 0)) rfl) rfl dL_ends_107 (pc' := 110) rfl ?_
        refine j_iload_n (j := 2) cx dL_ends_110 rfl rfl (pc' := 111) rfl ?_
        refine j_aald cx hf50 (ti := 5) rfl rfl (vp_in_nI (by omega) (by decide)) (r := al 51 i) ((congrArg _ (nI_clamp (by omega))).trans (hg50 i (by omega))) rfl dL_ends_111 (pc' := 112) rfl ?_
        refine j_iconst (v := 0) cx dL_ends_112 (by decide) (pc' := 113) rfl ?_
        refine j_iald (v := S 51 i 0) cx (hK.2.2.2.2.2.2.2.2.2.2.2 _ (by omega)) rfl (by unfold vp_in; decide) (by simp [sup, bCharge_o, bSt_o, fTo_o, fCharge_o, fMove, fPrint, fEnd_o]) rfl dL_ends_113 (pc' := 114) rfl ?_
        refine j_aload_n (j := 1) cx dL_ends_114 rfl rfl (pc' := 115) rfl ?_
        refine j_getN (fk := 9) (v := .ref (al 50 0)) cx rfl hK.1 inB_L_ends (by decide) (by decide) rfl (yV_r (k := (50, 0)) rfl) rfl dL_ends_115 (pc' := 118) rfl ?_
        refine j_iload_n (j := 2) cx dL_ends_118 rfl rfl (pc' := 119) rfl ?_
        refine j_aald cx hf50 (ti := 5) rfl rfl (vp_in_nI (by omega) (by decide)) (r := al 51 i) ((congrArg _ (nI_clamp (by omega))).trans (hg50 i (by omega))) rfl dL_ends_119 (pc' := 120) rfl ?_
        refine j_iconst (v := 1) cx dL_ends_120 (by decide) (pc' := 121) rfl ?_
        refine j_iald (v := S 51 i 1) cx (hK.2.2.2.2.2.2.2.2.2.2.2 _ (by omega)) rfl (by unfold vp_in; decide) (by simp [sup, bCharge_o, bSt_o, fTo_o, fCharge_o, fMove, fPrint, fEnd_o]) rfl dL_ends_121 (pc' := 122) rfl ?_
        refine j_iadd cx dL_ends_122 (pc' := 123) rfl ?_
        refine j_aload_n (j := 1) cx dL_ends_123 rfl rfl (pc' := 124) rfl ?_
        refine j_getN (fk := 9) (v := .ref (al 50 0)) cx rfl hK.1 inB_L_ends (by decide) (by decide) rfl (yV_r (k := (50, 0)) rfl) rfl dL_ends_124 (pc' := 127) rfl ?_
        refine j_iload_n (j := 2) cx dL_ends_127 rfl rfl (pc' := 128) rfl ?_
        refine j_aald cx hf50 (ti := 5) rfl rfl (vp_in_nI (by omega) (by decide)) (r := al 51 i) ((congrArg _ (nI_clamp (by omega))).trans (hg50 i (by omega))) rfl dL_ends_128 (pc' := 129) rfl ?_
        refine j_iconst (v := 2) cx dL_ends_129 (by decide) (pc' := 130) rfl ?_
        refine j_iald (v := S 51 i 2) cx (hK.2.2.2.2.2.2.2.2.2.2.2 _ (by omega)) rfl (by unfold vp_in; decide) (by simp [sup, bCharge_o, bSt_o, fTo_o, fCharge_o, fMove, fPrint, fEnd_o]) rfl dL_ends_130 (pc' := 131) rfl ?_
        refine j_iadd cx dL_ends_131 (pc' := 132) rfl ?_
        refine j_aload_n (j := 1) cx dL_ends_132 rfl rfl (pc' := 133) rfl ?_
        refine j_getN (fk := 9) (v := .ref (al 50 0)) cx rfl hK.1 inB_L_ends (by decide) (by decide) rfl (yV_r (k := (50, 0)) rfl) rfl dL_ends_133 (pc' := 136) rfl ?_
        refine j_iload_n (j := 2) cx dL_ends_136 rfl rfl (pc' := 137) rfl ?_
        refine j_aald cx hf50 (ti := 5) rfl rfl (vp_in_nI (by omega) (by decide)) (r := al 51 i) ((congrArg _ (nI_clamp (by omega))).trans (hg50 i (by omega))) rfl dL_ends_137 (pc' := 138) rfl ?_
        refine j_iconst (v := 3) cx dL_ends_138 (by decide) (pc' := 139) rfl ?_
        refine j_iald (v := S 51 i 3) cx (hK.2.2.2.2.2.2.2.2.2.2.2 _ (by omega)) rfl (by unfold vp_in; decide) (by simp [sup, bCharge_o, bSt_o, fTo_o, fCharge_o, fMove, fPrint, fEnd_o]) rfl dL_ends_139 (pc' := 140) rfl ?_
        refine j_iadd cx dL_ends_140 (pc' := 141) rfl ?_
        refine j_icmp_ne (tgt := 148) cx dL_ends_141 (by decide) (pc' := 144) rfl (fun hq9 => by first | exact absurd hq9 rfl | exact absurd rfl hq9) (fun _ => ?_)
        refine j_iconst (v := 1) cx dL_ends_144 (by decide) (pc' := 145) rfl ?_
        refine j_goto (tgt := 149) cx dL_ends_145 (by decide) ?_
        exact j_iret (ty := .boolean) cx hlk hr rfl (Nat.le_of_ble_eq_true rfl) (Nat.le_of_ble_eq_true rfl) dL_ends_149 ⟨rfl, rfl, rfl, (by have e := o_end h hi ((h.live hi).mpr h2) (how := 108) (by decide) (by decide) rfl; rw [fEnd_117 (by rw [sup_k (by decide)]; exact hmc.2.2.2.1)]; unfold IN; simp (disch := decide) only [sup_s, sup_k]; exact e)⟩
      · refine j_aload_n (j := 1) cx dL_ends_47 rfl rfl (pc' := 48) rfl ?_
        refine j_getN (fk := 5) (v := .ref (al 46 0)) cx rfl hK.1 inB_L_ends (by decide) (by decide) rfl (yV_r (k := (46, 0)) rfl) rfl dL_ends_48 (pc' := 51) rfl ?_
        refine j_iload_n (j := 2) cx dL_ends_51 rfl rfl (pc' := 52) rfl ?_
        refine j_iald (v := S 46 0 i) cx hK.2.2.2.2.1 rfl (vp_in_nI (by omega) (by decide)) (by rw [(nI_clamp (by omega))]) rfl dL_ends_52 (pc' := 53) rfl ?_
        refine j_istore (lv' := [(4, .int (S 46 0 i)), (0, .ref (al 0 0)), (1, .ref (al 40 0)), (2, .int (nI i)), (3, .int b9)]) cx dL_ends_53 (by decide) rfl (pc' := 55) rfl ?_
        refine j_aload_n (j := 2) cx dL_ends_55 rfl rfl (pc' := 56) rfl ?_
        refine j_getN (fk := 5) (v := .ref (al 46 0)) cx rfl hK.1 inB_L_ends (by decide) (by decide) rfl (yV_r (k := (46, 0)) rfl) rfl dL_ends_56 (pc' := 59) rfl ?_
        refine j_iload_n (j := 3) cx dL_ends_59 rfl rfl (pc' := 60) rfl ?_
        refine j_aload_n (j := 2) cx dL_ends_60 rfl rfl (pc' := 61) rfl ?_
        refine j_getN (fk := 4) (v := .ref (al 45 0)) cx rfl hK.1 inB_L_ends (by decide) (by decide) rfl (yV_r (k := (45, 0)) rfl) rfl dL_ends_61 (pc' := 64) rfl ?_
        refine j_iload_n (j := 3) cx dL_ends_64 rfl rfl (pc' := 65) rfl ?_
        refine j_iald (v := S 45 0 i) cx hK.2.2.2.1 rfl (vp_in_nI (by omega) (by decide)) (by rw [(nI_clamp (by omega))]) rfl dL_ends_65 (pc' := 66) rfl ?_
        refine j_iast (jn := i) cx hK.2.2.2.2.1 rfl (vp_in_nI (by omega) (by decide)) (nI_clamp (by omega)) rfl dL_ends_66 (pc' := 67) rfl ?_
        refine j_aload_n (j := 2) cx dL_ends_67 rfl rfl (pc' := 68) rfl ?_
        refine j_getN (fk := 7) (v := .ref (al 48 0)) cx rfl hK.1 inB_L_ends (by decide) (by decide) rfl (yV_r (k := (48, 0)) rfl) rfl dL_ends_68 (pc' := 71) rfl ?_
        refine j_iload_n (j := 3) cx dL_ends_71 rfl rfl (pc' := 72) rfl ?_
        refine j_aload_n (j := 2) cx dL_ends_72 rfl rfl (pc' := 73) rfl ?_
        refine j_getN (fk := 13) (v := .int (S 40 0 13)) cx rfl hK.1 inB_L_ends (by decide) (by decide) rfl ((yV_i rfl).trans (congrArg Value.int (by simp [sup, bCharge_o, bSt_o, fTo_o, fCharge_o, fMove, fPrint, fEnd_o]))) rfl dL_ends_73 (pc' := 76) rfl ?_
        refine j_iast (jn := i) cx hK.2.2.2.2.2.2.1 rfl (vp_in_nI (by omega) (by decide)) (nI_clamp (by omega)) rfl dL_ends_76 (pc' := 77) rfl ?_
        refine j_aload_n (j := 1) cx dL_ends_77 rfl rfl (pc' := 78) rfl ?_
        refine j_iload_n (j := 3) cx dL_ends_78 rfl rfl (pc' := 79) rfl ?_
        refine j_cVR (cells1 := 3) (slots1 := 18) (st1 := [.int (S 46 0 i)]) (As := [.int (nI i)]) (rest := []) cx (n_hand hl0 hY (S := (sup (sup S 46 0 i (S 45 0 i)) 48 0 i (S 40 0 13))) (B := S) (by unfold IN; simp (disch := decide) only [sup_k]; exact h) hi h2 h6) gL_ends_X2_handBack rfl rfl rfl 1 rfl (by decide +kernel) ⟨Nat.le_of_ble_eq_true rfl, Nat.le_of_ble_eq_true rfl⟩ hY.1 rfl rfl rfl rfl (Nat.le_of_ble_eq_true rfl) dL_ends_79 ⟨(Nat.le_of_ble_eq_true rfl), (Nat.le_of_ble_eq_true rfl)⟩ (pc' := 82) rfl rfl rfl rfl ?_
        refine j_iload (j := 0) cx dL_ends_82 rfl (pc' := 84) rfl ?_
        refine j_icmp_ne (tgt := 91) cx dL_ends_84 (by decide) (pc' := 87) rfl (fun hq9 => by first | exact absurd hq9 rfl | exact absurd rfl hq9) (fun _ => ?_)
        refine j_iconst (v := 1) cx dL_ends_87 (by decide) (pc' := 88) rfl ?_
        refine j_goto (tgt := 92) cx dL_ends_88 (by decide) ?_
        exact j_iret (ty := .boolean) cx hlk hr rfl (Nat.le_of_ble_eq_true rfl) (Nat.le_of_ble_eq_true rfl) dL_ends_92 ⟨rfl, rfl, rfl, (by have e0 : S 21 i 0 = S 45 0 i := (h.2.2.2.2.1 i hi).1; have e := o_used (i := i) (o_usr (i := i) h (show vp_in (S 45 0 i) 10 from e0 ▸ (h.2.2.2.2.1 i hi).2.2.2.2.2.1)); unfold IN; simp (disch := decide) only [fTo, sup_s, sup_k, e0]; exact e)⟩
  · refine j_aload_n (j := 0) cx dL_ends_8 rfl rfl (pc' := 9) rfl ?_
    refine j_iload_n (j := 2) cx dL_ends_9 rfl rfl (pc' := 10) rfl ?_
    refine j_cVR (cells1 := 1) (slots1 := 6) (st1 := [.int (if S 49 0 i = 0 then (if S 46 0 i = S 45 0 i then 97 else 116) else S 49 0 i)]) (As := [.int (nI i)]) (rest := []) cx (n_sta hl0 hY h hi) gL_ends_X2_state rfl rfl rfl 1 rfl (by decide +kernel) ⟨Nat.le_of_ble_eq_true rfl, Nat.le_of_ble_eq_true rfl⟩ hY.1 rfl rfl rfl rfl (Nat.le_of_ble_eq_true rfl) dL_ends_10 ⟨(Nat.le_of_ble_eq_true rfl), (Nat.le_of_ble_eq_true rfl)⟩ (pc' := 13) rfl rfl rfl rfl ?_
    refine j_aload_n (j := 1) cx dL_ends_13 rfl rfl (pc' := 14) rfl ?_
    refine j_getN (fk := 8) (v := .ref (al 49 0)) cx rfl hK.1 inB_L_ends (by decide) (by decide) rfl (yV_r (k := (49, 0)) rfl) rfl dL_ends_14 (pc' := 17) rfl ?_
    refine j_iload_n (j := 2) cx dL_ends_17 rfl rfl (pc' := 18) rfl ?_
    refine j_cald (v := S 49 0 i) cx hK.2.2.2.2.2.2.2.1 rfl (vp_in_nI (by omega) (by decide)) (by rw [(nI_clamp (by omega))]) rfl dL_ends_18 (pc' := 19) rfl ?_
    refine j_icmp_ne (tgt := 26) cx dL_ends_19 (by decide) (pc' := 22) rfl (fun hq9 => by first | exact absurd hq9 (if_neg h2) | exact absurd (if_neg h2) hq9) (fun _ => ?_)
    refine j_iconst (v := 1) cx dL_ends_22 (by decide) (pc' := 23) rfl ?_
    refine j_goto (tgt := 27) cx dL_ends_23 (by decide) ?_
    exact j_iret (ty := .boolean) cx hlk hr rfl (Nat.le_of_ble_eq_true rfl) (Nat.le_of_ble_eq_true rfl) dL_ends_27 ⟨rfl, rfl, rfl, h⟩
