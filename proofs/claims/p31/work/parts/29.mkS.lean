/-- what a new session leaves -/
def lPost (Z : yL) (al : yAl) (sh : ySh) (S : yS) (nm ns : Nat) (mu : Nat → Nat) (u p : Int32) : yPost := fun v9 al9 sh9 S9 => ∃ m, lBest S p 0 none nm = some m ∧ m < nm ∧ kIn u p (lOwns S u 0 ns = true) ns (S 5 0 (S 4 0 u.toNatClampNeg).toNatClampNeg) (lBest S p 0 none nm) = 0 ∧ v9 = some (.int (nI ns)) ∧ YC Z al9 sh9 nm (ns + 1) (fun i => if i = ns then m else mu i) ∧ yFree sh9 nm (ns + 1) ∧ (∀ a b, 40 ≤ a → al9 a b = al a b ∧ sh9 a b = sh a b) ∧ al9 0 0 = al 0 0 ∧ S9 11 0 2 = nI (ns + 1) ∧ S9 20 m 5 = S 20 m 5 + 1 ∧ (∀ j, S9 21 ns j = fSes (szero S 21 ns) ns u (S 0 0 9) 21 ns j) ∧ (∀ j, S9 22 ns j = 0) ∧ ∀ a b j, a ≠ 11 → a ≠ 12 → ¬ ((a = 21 ∨ a = 22) ∧ b = ns) → ¬ (a = 20 ∧ b = m ∧ j = 5) → S9 a b j = S a b j
theorem fSes_o {S : yS} {i : Nat} {o t : Int32} {a b j : Nat} (h : ¬ (a = 21 ∧ b = i)) : fSes S i o t a b j = S a b j := by
  unfold fSes
  rw [sup_off _ _ h, sup_off _ _ h, sup_off _ _ h, sup_off _ _ h, sup_off _ _ h]
theorem fSes_c {S T : yS} {i : Nat} {o t : Int32} (h : ∀ j, S 21 i j = T 21 i j) (j : Nat) : fSes S i o t 21 i j = fSes T i o t 21 i j := by
  unfold fSes sup
  simp only [h]
theorem szero_i {S : yS} {a b j : Nat} : szero S a b a b j = 0 := by unfold szero; rw [if_pos ⟨rfl, rfl⟩]
set_option maxHeartbeats 4000000 in
set_option maxRecDepth 100000 in
theorem c_X2_logIn {l : Launch} (hl0 : l.stackTraces = false) {Z : yL} {al : yAl} {sh : ySh} {S : yS} {nm ns : Nat} {mu : Nat → Nat} {u p : Int32} (hY : YC Z al sh nm ns mu) (hs9 : S 9 0 2 = nI nm) (hs11 : S 11 0 2 = nI ns) (hFr : yFree sh nm ns) (hds : ∀ u, u < 10 → vp_in (S 4 0 u) 4) : Cq l yX2_logIn wsX2_logIn ({ frames := 7, cells := 7, slots := 100, locals := 171 }) 7 100 Z [.ref (al 0 0), .int u, .int p] al sh S (lPost Z al sh S nm ns mu u p) (yx [(1, xIA), (2, xIS), (3, xUO), (4, xNS)] (kIn u p (lOwns S u 0 ns = true) ns (S 5 0 (S 4 0 u.toNatClampNeg).toNatClampNeg) (lBest S p 0 none nm))) := by
  obtain ⟨tg11, ht11⟩ := YL.obj hY.2.2.2.2.2.2.2.2.2.2.1
  refine Cq.of (lv := [(0, .ref (al 0 0)), (1, .int u), (2, .int p)]) (by decide) rfl (Nat.le_of_ble_eq_true rfl) rfl ?_
  intro p_ e_ s_ m_ below_ meth_ c_ cx hlk hr htb
  by_cases hns6 : ns = 40
  · refine j_iload_n (j := 1) cx dX2_logIn_0 rfl rfl (pc' := 1) rfl ?_
    refine j_cSX (cells1 := 1) (slots1 := 6) (st1 := []) (As := [.int u]) (rest := []) cx (c_X2_checkUser hl0) gX2_logIn_X2_checkUser rfl rfl rfl 1 rfl (by decide +kernel) ⟨Nat.le_of_ble_eq_true rfl, Nat.le_of_ble_eq_true rfl⟩ rfl (Nat.le_of_ble_eq_true rfl) dX2_logIn_1 ⟨Nat.le_of_ble_eq_true rfl, Nat.le_of_ble_eq_true rfl⟩ (pc' := 4) rfl rfl rfl rfl (fun E hE => jx_out hlk htb (Nat.le_of_ble_eq_true rfl) (Nat.le_of_ble_eq_true rfl) ⟨(1, xIA), by simp, hE.1, by have hq := hE.2; simp [kIn, *]⟩) (fun p1 => ?_)
    refine j_iload_n (j := 2) cx dX2_logIn_4 rfl rfl (pc' := 5) rfl ?_
    refine j_cSX (cells1 := 2) (slots1 := 12) (st1 := []) (As := [.int p]) (rest := []) cx (c_X2_checkPool hl0) gX2_logIn_X2_checkPool rfl rfl rfl 1 rfl (by decide +kernel) ⟨Nat.le_of_ble_eq_true rfl, Nat.le_of_ble_eq_true rfl⟩ rfl (Nat.le_of_ble_eq_true rfl) dX2_logIn_5 ⟨Nat.le_of_ble_eq_true rfl, Nat.le_of_ble_eq_true rfl⟩ (pc' := 8) rfl rfl rfl rfl (fun E hE => jx_out hlk htb (Nat.le_of_ble_eq_true rfl) (Nat.le_of_ble_eq_true rfl) ⟨(1, xIA), by simp, hE.1, by have hq := hE.2; simp [kIn, *]⟩) (fun p2 => ?_)
    refine j_aload_n (j := 0) cx dX2_logIn_8 rfl rfl (pc' := 9) rfl ?_
    refine j_iload_n (j := 1) cx dX2_logIn_9 rfl rfl (pc' := 10) rfl ?_
    refine j_cVR (cells1 := 2) (slots1 := 12) (st1 := [.int (bI (lOwns S u 0 ns = true))]) (As := [.int u]) (rest := []) cx (c_X2_ownsLiveSession hY hs11) gX2_logIn_X2_ownsLiveSession rfl rfl rfl 1 rfl (by decide +kernel) ⟨Nat.le_of_ble_eq_true rfl, Nat.le_of_ble_eq_true rfl⟩ hY.1 rfl rfl rfl rfl (Nat.le_of_ble_eq_true rfl) dX2_logIn_10 ⟨Nat.le_of_ble_eq_true rfl, Nat.le_of_ble_eq_true rfl⟩ (pc' := 13) rfl rfl rfl rfl ?_
    refine j_ifb_eq (tgt := 26) cx dX2_logIn_13 (by decide) (pc' := 16) rfl (fun h4 => ?_) (fun h4 => ?_)
    · refine j_aload_n (j := 0) cx dX2_logIn_26 rfl rfl (pc' := 27) rfl ?_
      refine j_get (fk := 8) (ref := "TerminalYard") (v := .ref (al 11 0)) cx hY.1 rfl (by decide +kernel) (by decide) (by decide +kernel) (fun _ h => h) (yV_r (k := (11, 0)) rfl) rfl dX2_logIn_27 (pc' := 30) rfl ?_
      refine j_cVR (cells1 := 2) (slots1 := 12) (st1 := [.int (nI ns)]) (As := []) (rest := []) cx (YL.size hY.2.2.2.2.2.2.2.2.2.2.1 hs11) gX2_logIn_Jx4a65c_size_8abf5 rfl rfl rfl 0 rfl (by decide +kernel) ⟨Nat.le_of_ble_eq_true rfl, Nat.le_of_ble_eq_true rfl⟩ ht11 rfl rfl rfl rfl (Nat.le_of_ble_eq_true rfl) dX2_logIn_30 ⟨Nat.le_of_ble_eq_true rfl, Nat.le_of_ble_eq_true rfl⟩ (pc' := 33) rfl rfl rfl rfl ?_
      refine j_istore_n (lv' := [(3, .int (nI ns)), (0, .ref (al 0 0)), (1, .int u), (2, .int p)]) cx dX2_logIn_33 rfl (by decide) rfl (pc' := 34) rfl ?_
      refine j_iload_n (j := 0) cx dX2_logIn_34 rfl rfl (pc' := 35) rfl ?_
      refine j_bipush (v := 40) cx dX2_logIn_35 (by decide) (pc' := 37) rfl ?_
      refine j_icmp_lt (tgt := 50) cx dX2_logIn_37 (by decide) (pc' := 40) rfl (fun h => by first | exact absurd h (fun q : nI ns < 40 => by rw [hns6] at q; revert q; decide) | exact absurd (fun q : nI ns < 40 => by rw [hns6] at q; revert q; decide) h) (fun _ => ?_)
      exact j_throwS (ik := 71) (ic := 75) (is := 157) (cls := "java/lang/IllegalStateException") (text := "there were 40 sessions") (names := ["java/lang/RuntimeException", "java/lang/Exception"]) cx hl0 hlk htb rfl (by decide) (by decide) (by decide) (by decide +kernel) (by decide +kernel) (by decide +kernel) (by decide +kernel) (by decide +kernel) dX2_logIn_40 dX2_logIn_43 dX2_logIn_44 dX2_logIn_46 dX2_logIn_49 (Nat.le_of_ble_eq_true rfl) (Nat.le_of_ble_eq_true rfl) (Nat.le_of_ble_eq_true rfl) (Nat.le_of_ble_eq_true rfl) (Nat.le_of_ble_eq_true rfl) (Nat.le_of_ble_eq_true rfl) ⟨(2, xIS), by simp, rfl, by simp [kIn, p1, p2, h4, hns6]⟩
    · exact j_throwS (ik := 71) (ic := 75) (is := 155) (cls := "java/lang/IllegalStateException") (text := "the user owns a live session") (names := ["java/lang/RuntimeException", "java/lang/Exception"]) cx hl0 hlk htb rfl (by decide) (by decide) (by decide) (by decide +kernel) (by decide +kernel) (by decide +kernel) (by decide +kernel) (by decide +kernel) dX2_logIn_16 dX2_logIn_19 dX2_logIn_20 dX2_logIn_22 dX2_logIn_25 (Nat.le_of_ble_eq_true rfl) (Nat.le_of_ble_eq_true rfl) (Nat.le_of_ble_eq_true rfl) (Nat.le_of_ble_eq_true rfl) (Nat.le_of_ble_eq_true rfl) (Nat.le_of_ble_eq_true rfl) ⟨(2, xIS), by simp, rfl, by simp [kIn, p1, p2, h4]⟩
  have hns5 : ns < 40 := by have := hY.2.2.2.2.2.2.2.2.2.2.2.2.2.2.2.2.2; omega
  have hns7 : ¬ 40 ≤ ns := by omega
  refine j_iload_n (j := 1) cx dX2_logIn_0 rfl rfl (pc' := 1) rfl ?_
  refine j_cSX (cells1 := 1) (slots1 := 6) (st1 := []) (As := [.int u]) (rest := []) cx (c_X2_checkUser hl0) gX2_logIn_X2_checkUser rfl rfl rfl 1 rfl (by decide +kernel) ⟨Nat.le_of_ble_eq_true rfl, Nat.le_of_ble_eq_true rfl⟩ rfl (Nat.le_of_ble_eq_true rfl) dX2_logIn_1 ⟨Nat.le_of_ble_eq_true rfl, Nat.le_of_ble_eq_true rfl⟩ (pc' := 4) rfl rfl rfl rfl (fun E hE => jx_out hlk htb (Nat.le_of_ble_eq_true rfl) (Nat.le_of_ble_eq_true rfl) ⟨(1, xIA), by simp, hE.1, by have hq := hE.2; simp [kIn, *]⟩) (fun p1 => ?_)
  refine j_iload_n (j := 2) cx dX2_logIn_4 rfl rfl (pc' := 5) rfl ?_
  refine j_cSX (cells1 := 2) (slots1 := 12) (st1 := []) (As := [.int p]) (rest := []) cx (c_X2_checkPool hl0) gX2_logIn_X2_checkPool rfl rfl rfl 1 rfl (by decide +kernel) ⟨Nat.le_of_ble_eq_true rfl, Nat.le_of_ble_eq_true rfl⟩ rfl (Nat.le_of_ble_eq_true rfl) dX2_logIn_5 ⟨Nat.le_of_ble_eq_true rfl, Nat.le_of_ble_eq_true rfl⟩ (pc' := 8) rfl rfl rfl rfl (fun E hE => jx_out hlk htb (Nat.le_of_ble_eq_true rfl) (Nat.le_of_ble_eq_true rfl) ⟨(1, xIA), by simp, hE.1, by have hq := hE.2; simp [kIn, *]⟩) (fun p2 => ?_)
  refine j_aload_n (j := 0) cx dX2_logIn_8 rfl rfl (pc' := 9) rfl ?_
  refine j_iload_n (j := 1) cx dX2_logIn_9 rfl rfl (pc' := 10) rfl ?_
  refine j_cVR (cells1 := 2) (slots1 := 12) (st1 := [.int (bI (lOwns S u 0 ns = true))]) (As := [.int u]) (rest := []) cx (c_X2_ownsLiveSession hY hs11) gX2_logIn_X2_ownsLiveSession rfl rfl rfl 1 rfl (by decide +kernel) ⟨Nat.le_of_ble_eq_true rfl, Nat.le_of_ble_eq_true rfl⟩ hY.1 rfl rfl rfl rfl (Nat.le_of_ble_eq_true rfl) dX2_logIn_10 ⟨Nat.le_of_ble_eq_true rfl, Nat.le_of_ble_eq_true rfl⟩ (pc' := 13) rfl rfl rfl rfl ?_
  refine j_ifb_eq (tgt := 26) cx dX2_logIn_13 (by decide) (pc' := 16) rfl (fun h4 => ?_) (fun h4 => ?_)
  · refine j_aload_n (j := 0) cx dX2_logIn_26 rfl rfl (pc' := 27) rfl ?_
    refine j_get (fk := 8) (ref := "TerminalYard") (v := .ref (al 11 0)) cx hY.1 rfl (by decide +kernel) (by decide) (by decide +kernel) (fun _ h => h) (yV_r (k := (11, 0)) rfl) rfl dX2_logIn_27 (pc' := 30) rfl ?_
    refine j_cVR (cells1 := 2) (slots1 := 12) (st1 := [.int (nI ns)]) (As := []) (rest := []) cx (YL.size hY.2.2.2.2.2.2.2.2.2.2.1 hs11) gX2_logIn_Jx4a65c_size_8abf5 rfl rfl rfl 0 rfl (by decide +kernel) ⟨Nat.le_of_ble_eq_true rfl, Nat.le_of_ble_eq_true rfl⟩ ht11 rfl rfl rfl rfl (Nat.le_of_ble_eq_true rfl) dX2_logIn_30 ⟨Nat.le_of_ble_eq_true rfl, Nat.le_of_ble_eq_true rfl⟩ (pc' := 33) rfl rfl rfl rfl ?_
    refine j_istore_n (lv' := [(3, .int (nI ns)), (0, .ref (al 0 0)), (1, .int u), (2, .int p)]) cx dX2_logIn_33 rfl (by decide) rfl (pc' := 34) rfl ?_
    refine j_iload_n (j := 0) cx dX2_logIn_34 rfl rfl (pc' := 35) rfl ?_
    refine j_bipush (v := 40) cx dX2_logIn_35 (by decide) (pc' := 37) rfl ?_
    refine j_icmp_lt (tgt := 50) cx dX2_logIn_37 (by decide) (pc' := 40) rfl (fun _ => ?_) (fun h => by first | exact absurd h (nI_lt (b := 40) (by omega) (by omega) : nI ns < nI 40) | exact absurd (nI_lt (b := 40) (by omega) (by omega) : nI ns < nI 40) h)
    refine j_aload_n (j := 1) cx dX2_logIn_50 rfl rfl (pc' := 51) rfl ?_
    refine j_aload_n (j := 1) cx dX2_logIn_51 rfl rfl (pc' := 52) rfl ?_
    refine j_get (fk := 3) (ref := "TerminalYard") (v := .ref (al 4 0)) cx hY.1 rfl (by decide +kernel) (by decide) (by decide +kernel) (fun _ h => h) (yV_r (k := (4, 0)) rfl) rfl dX2_logIn_52 (pc' := 55) rfl ?_
    refine j_iload_n (j := 2) cx dX2_logIn_55 rfl rfl (pc' := 56) rfl ?_
    refine j_iald (v := S 4 0 u.toNatClampNeg) cx hY.2.2.2.2.1 rfl (vp_in_out (b := 9) (by decide) p1) rfl rfl dX2_logIn_56 (pc' := 57) rfl ?_
    refine j_iconst (v := 1) cx dX2_logIn_57 (by decide) (pc' := 58) rfl ?_
    refine j_cVX (cells1 := 3) (slots1 := 18) (st1 := []) (As := [.int (S 4 0 u.toNatClampNeg), .int 1]) (rest := []) cx (c_X2_checkStock hl0 hY (hds _ (ix_of (vp_in_out (b := 9) (by decide) p1)))) gX2_logIn_X2_checkStock rfl rfl rfl 2 rfl (by decide +kernel) ⟨Nat.le_of_ble_eq_true rfl, Nat.le_of_ble_eq_true rfl⟩ hY.1 rfl rfl rfl rfl (Nat.le_of_ble_eq_true rfl) dX2_logIn_58 ⟨Nat.le_of_ble_eq_true rfl, Nat.le_of_ble_eq_true rfl⟩ (pc' := 61) rfl rfl rfl rfl (fun E hE => jx_out hlk htb (Nat.le_of_ble_eq_true rfl) (Nat.le_of_ble_eq_true rfl) ⟨(3, xUO), by simp, hE.1, by have hq := hE.2; simp [kIn, p1, p2, h4, hns7, hq]⟩) (fun p7 => ?_)
    refine j_aload_n (j := 1) cx dX2_logIn_61 rfl rfl (pc' := 62) rfl ?_
    refine j_iload_n (j := 3) cx dX2_logIn_62 rfl rfl (pc' := 63) rfl ?_
    refine j_cVXP (cells1 := 4) (slots1 := 24) (As := [.int p]) (rest := []) cx (c_X2_emptiestMachine hl0 hY hs9) gX2_logIn_X2_emptiestMachine rfl rfl rfl 1 rfl (by decide +kernel) ⟨Nat.le_of_ble_eq_true rfl, Nat.le_of_ble_eq_true rfl⟩ hY.1 rfl rfl rfl rfl (Nat.le_of_ble_eq_true rfl) dX2_logIn_63 ⟨Nat.le_of_ble_eq_true rfl, Nat.le_of_ble_eq_true rfl⟩ (pc' := 66) rfl rfl rfl (fun E hE => jx_out hlk htb (Nat.le_of_ble_eq_true rfl) (Nat.le_of_ble_eq_true rfl) ⟨(4, xNS), by simp, hE.1, by have hq := hE.2; simp [kIn, p1, p2, h4, p7, hns7, hq]⟩) (fun v9 al9 sh9 S9 h9 => ?_)
    obtain ⟨b, hbe, hb, e1, e2, e3, e4⟩ := h9
    subst v9 al9 sh9 S9
    refine J.stk (st2 := [.ref (al 20 b)]) rfl ?_
    refine j_astore (lv' := [(4, .ref (al 20 b)), (3, .int (nI ns)), (0, .ref (al 0 0)), (1, .int u), (2, .int p)]) cx dX2_logIn_66 (by decide) rfl (pc' := 68) rfl ?_
    refine j_aload (j := 0) cx dX2_logIn_68 rfl (pc' := 70) rfl ?_
    refine j_dup cx dX2_logIn_70 rfl (pc' := 71) rfl ?_
    refine j_get (fk := 5) (ref := "TerminalYard$Machine") (v := .int (S 20 b 5)) cx (hY.2.2.2.2.2.2.2.2.2.2.2.1 _ hb) rfl (by decide +kernel) (by decide) (by decide +kernel) (fun _ h => h) (yV_i rfl) rfl dX2_logIn_71 (pc' := 74) rfl ?_
    refine j_iconst (v := 1) cx dX2_logIn_74 (by decide) (pc' := 75) rfl ?_
    refine j_iadd cx dX2_logIn_75 (pc' := 76) rfl ?_
    refine j_puti (fk := 5) (ref := "TerminalYard$Machine") (ty := .int) cx (hY.2.2.2.2.2.2.2.2.2.2.2.1 _ hb) rfl (by decide +kernel) (by decide) (by decide +kernel) (fun _ h => h) tyX0 tyX0_ok nmX0 rfl (by decide +kernel) rfl rfl rfl rfl dX2_logIn_76 (pc' := 79) rfl ?_
    refine j_aload_n (j := 2) cx dX2_logIn_79 rfl rfl (pc' := 80) rfl ?_
    refine j_get (fk := 8) (ref := "TerminalYard") (v := .ref (al 11 0)) cx hY.1 rfl (by decide +kernel) (by decide) (by decide +kernel) (fun _ h => h) (yV_r (k := (11, 0)) rfl) rfl dX2_logIn_80 (pc' := 83) rfl ?_
    have hfr0 : sh 21 ns = none := (hFr.2 _ (Nat.le_refl _)).1
    refine j_new (C := "TerminalYard$Session") (T := TX1) (N := 7) (ci := 4) cx 21 ns hfr0 (by decide) rfl (by decide +kernel) tyX1 tyX1_ok (by decide +kernel) (by decide +kernel) (by decide +kernel) (tg := tgS0) (by decide) (fun j k => by unfold tgS0; split <;> simp) (by decide) (Nat.le_of_ble_eq_true rfl) (Nat.le_of_ble_eq_true rfl) dX2_logIn_83 (pc' := 86) rfl (fun q => ?_)
    have hv1 : (shp sh 21 ns (.inl (4, tgS0))) 21 ns = some (.inl (4, tgS0)) := shp_self _ _ _ _
    have hfr1 : (shp sh 21 ns (.inl (4, tgS0))) 22 ns = none := (shp_ne _ _ (by omega)).trans (hFr.2 _ (Nat.le_refl _)).2
    have hb1 : (shp sh 21 ns (.inl (4, tgS0))) 20 b = some (.inl (3, tgM)) := (shp_ne _ _ (by omega)).trans (hY.2.2.2.2.2.2.2.2.2.2.2.1 b hb)
    have hY1 : (shp sh 21 ns (.inl (4, tgS0))) 0 0 = some (.inl (5, tgY)) := (shp_ne _ _ (by omega)).trans hY.1
    refine j_dup cx dX2_logIn_86 rfl (pc' := 87) rfl ?_
    refine j_iload_n (j := 3) cx dX2_logIn_87 rfl rfl (pc' := 88) rfl ?_
    refine j_aload (j := 0) cx dX2_logIn_88 rfl (pc' := 90) rfl ?_
    refine j_aload_n (j := 2) cx dX2_logIn_90 rfl rfl (pc' := 91) rfl ?_
    refine j_get (fk := 9) (ref := "TerminalYard") (v := .int (S 0 0 9)) cx hY1 rfl (by decide +kernel) (by decide) (by decide +kernel) (fun _ h => h) ((yV_i rfl).trans (congrArg Value.int (by simp [sup, szero, shp, alp]))) rfl dX2_logIn_91 (pc' := 94) rfl ?_
    refine j_cIP (al := (alp al 21 ns q)) (sh := (shp sh 21 ns (.inl (4, tgS0)))) (S := (szero (sup S 20 b 5 (S 20 b 5 + 1)) 21 ns)) (cells1 := 6) (slots1 := 35) (As := [.int u, .ref ((alp al 21 ns q) 20 b), .int (S 0 0 9)]) (rest := [.ref q, .ref (al 11 0)]) cx (c_X1_init (mi := b) hv1 hfr1 hb1 (alp_self _ _ _ _).symm) gX2_logIn_X1_init rfl rfl rfl 3 rfl (by decide +kernel) (by decide +kernel) (by decide +kernel) rfl (by decide +kernel) ⟨(Nat.le_of_ble_eq_true rfl), (Nat.le_of_ble_eq_true rfl)⟩ rfl (Nat.le_of_ble_eq_true rfl) dX2_logIn_94 ⟨(Nat.le_of_ble_eq_true rfl), (Nat.le_of_ble_eq_true rfl)⟩ (pc' := 97) rfl rfl rfl (fun v9 al9 sh9 S9 h9 => ?_)
    obtain ⟨q2, e1, e2, e3, e4⟩ := h9
    subst v9 al9 sh9 S9
    refine J.stk (st2 := [.ref q, .ref (al 11 0)]) rfl ?_
    have hk8 : ∀ a9 b9, ¬ ((a9 = 21 ∨ a9 = 22) ∧ b9 = ns) → (alp (alp al 21 ns q) 22 ns q2) a9 b9 = al a9 b9 ∧ (shp (shp (shp sh 21 ns (.inl (4, tgS0))) 22 ns (.inr (.inl (Z.2.1 0, 4)))) 21 ns (.inl (4, tgS b ns))) a9 b9 = sh a9 b9 := fun a9 b9 h => ⟨(alp_ne _ _ (fun q => h ⟨Or.inr q.1, q.2⟩)).trans (alp_ne _ _ (fun q => h ⟨Or.inl q.1, q.2⟩)), (shp_ne _ _ (fun q => h ⟨Or.inl q.1, q.2⟩)).trans ((shp_ne _ _ (fun q => h ⟨Or.inr q.1, q.2⟩)).trans (shp_ne _ _ (fun q => h ⟨Or.inl q.1, q.2⟩)))⟩
    have hL1 : YL Z (alp (alp al 21 ns q) 22 ns q2) (shp (shp (shp sh 21 ns (.inl (4, tgS0))) 22 ns (.inr (.inl (Z.2.1 0, 4)))) 21 ns (.inl (4, tgS b ns))) 11 21 ns := YL.to hY.2.2.2.2.2.2.2.2.2.2.1 (hk8 11 0 (by omega)).2 (fun b => (hk8 12 b (by omega)).2) (fun i hi => (hk8 21 i (by omega)).1)
    have hE1 : (alp (alp al 21 ns q) 22 ns q2) 99 0 = Z.2.2.2.1 := (hk8 _ _ (by omega)).1.trans hY.2.2.2.2.2.2.2.2.2.2.2.2.2.2.2.1
    have hv2 : (shp (shp (shp sh 21 ns (.inl (4, tgS0))) 22 ns (.inr (.inl (Z.2.1 0, 4)))) 21 ns (.inl (4, tgS b ns))) 21 ns = some (.inl (4, tgS b ns)) := shp_self _ _ _ _
    have hel1 : ∀ i, i < ns → ∃ (tg : yTg) (r : vw_C), (shp (shp (shp sh 21 ns (.inl (4, tgS0))) 22 ns (.inr (.inl (Z.2.1 0, 4)))) 21 ns (.inl (4, tgS b ns))) 21 i = some (.inl (4, tg)) ∧ vwCl[4]? = some r ∧ r.1 = "TerminalYard$Session" := fun i hi => ⟨tgS (mu i) i, _, (hk8 _ _ (by omega)).2.trans (hY.2.2.2.2.2.2.2.2.2.2.2.2.1 i hi), rfl, rfl⟩
    have hsz1 : (fSes (szero (szero (sup S 20 b 5 (S 20 b 5 + 1)) 21 ns) 22 ns) ns u (S 0 0 9)) 11 0 2 = nI ns := (fSes_o (by omega)).trans ((szero_o (by omega)).trans ((szero_o (by omega)).trans ((sup_off _ _ (by omega)).trans hs11)))
    obtain ⟨tgq, htq⟩ := YL.obj hL1
    refine j_cVP (cells1 := 7) (slots1 := 95) (As := [.ref q]) (rest := []) cx (c_add_11 hL1 hsz1 (by omega) hE1 hel1 hv2 (show q = (alp (alp al 21 ns q) 22 ns q2) 21 ns from ((alp_ne _ _ (by omega)).trans (alp_self _ _ _ _)).symm)) gX2_logIn_Jx4a65c_add_9ea2d rfl rfl rfl 1 rfl (by decide +kernel) ⟨Nat.le_of_ble_eq_true rfl, Nat.le_of_ble_eq_true rfl⟩ htq rfl rfl rfl rfl (Nat.le_of_ble_eq_true rfl) dX2_logIn_97 ⟨Nat.le_of_ble_eq_true rfl, Nat.le_of_ble_eq_true rfl⟩ (pc' := 100) rfl rfl rfl (fun v9 al9 sh9 S9 h9 => ?_)
    obtain ⟨e1, hL9, hk1, hk2, hk3, hk4, hk5⟩ := h9
    subst v9
    refine J.stk (st2 := [.int 1]) rfl ?_
    refine j_pop cx dX2_logIn_100 rfl (pc' := 101) rfl ?_
    refine j_iload_n (j := 1) cx dX2_logIn_101 rfl rfl (pc' := 102) rfl ?_
    exact J.ret _ (j_iret (ty := .int) cx hlk hr rfl (Nat.le_of_ble_eq_true rfl) (Nat.le_of_ble_eq_true rfl) dX2_logIn_102 ⟨b, hbe, hb, by simp [kIn, p1, p2, h4, p7, hns7, hbe], rfl, YC.addS hY hL9 (fun a b h1 h2 h3 => ⟨(hk1 a b h1 h2).1.trans (hk8 a b h3).1, (hk1 a b h1 h2).2.trans (hk8 a b h3).2⟩) ((hk1 21 ns (by omega) (by omega)).2.trans hv2) ((hk1 22 ns (by omega) (by omega)).2.trans ((shp_ne _ _ (by omega)).trans (shp_self _ _ _ _))) hb hns5, ⟨fun b hb => ((hk1 20 b (by omega) (by omega)).2.trans (hk8 20 b (by omega)).2).trans (hFr.1 b hb), fun b hb => ⟨((hk1 21 b (by omega) (by omega)).2.trans (hk8 21 b (by omega)).2).trans (hFr.2 b (by omega)).1, ((hk1 22 b (by omega) (by omega)).2.trans (hk8 22 b (by omega)).2).trans (hFr.2 b (by omega)).2⟩⟩, fun a b h => ⟨(hk1 a b (by omega) (by omega)).1.trans (hk8 a b (by omega)).1, (hk1 a b (by omega) (by omega)).2.trans (hk8 a b (by omega)).2⟩, (hk1 0 0 (by omega) (by omega)).1.trans (hk8 0 0 (by omega)).1, hk2, (hk3 20 b 5 (by omega) (by omega)).trans ((fSes_o (by omega)).trans ((szero_o (by omega)).trans ((szero_o (by omega)).trans (sup_self _ _ _ _ _)))), fun j => (hk3 21 ns j (by omega) (by omega)).trans (fSes_c (fun j => (szero_o (by omega)).trans (szero_i.trans szero_i.symm)) j), fun j => (hk3 22 ns j (by omega) (by omega)).trans ((fSes_o (by omega)).trans szero_i), fun a b j h1 h2 h3 h4 => (hk3 a b j h1 h2).trans ((fSes_o (fun q => h3 ⟨Or.inl q.1, q.2⟩)).trans ((szero_o (fun q => h3 ⟨Or.inr q.1, q.2⟩)).trans ((szero_o (fun q => h3 ⟨Or.inl q.1, q.2⟩)).trans (sup_ne _ _ h4))))⟩)
  · exact j_throwS (ik := 71) (ic := 75) (is := 155) (cls := "java/lang/IllegalStateException") (text := "the user owns a live session") (names := ["java/lang/RuntimeException", "java/lang/Exception"]) cx hl0 hlk htb rfl (by decide) (by decide) (by decide) (by decide +kernel) (by decide +kernel) (by decide +kernel) (by decide +kernel) (by decide +kernel) dX2_logIn_16 dX2_logIn_19 dX2_logIn_20 dX2_logIn_22 dX2_logIn_25 (Nat.le_of_ble_eq_true rfl) (Nat.le_of_ble_eq_true rfl) (Nat.le_of_ble_eq_true rfl) (Nat.le_of_ble_eq_true rfl) (Nat.le_of_ble_eq_true rfl) (Nat.le_of_ble_eq_true rfl) ⟨(2, xIS), by simp, rfl, by simp [kIn, p1, p2, h4]⟩
