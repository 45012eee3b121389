/-- the keys that are free -/
def yFree (sh : ySh) (nm ns : Nat) : Prop := (∀ b, nm ≤ b → sh 20 b = none) ∧ ∀ b, ns ≤ b → sh 21 b = none ∧ sh 22 b = none
theorem YL.to {Z : yL} {al al' : yAl} {sh sh' : ySh} {k kd n : Nat} (h : YL Z al sh k kd n) (h0 : sh' k 0 = sh k 0) (h1 : ∀ b, sh' (k + 1) b = sh (k + 1) b) (h2 : ∀ i, i < n → al' kd i = al kd i) : YL Z al' sh' k kd n := by
  obtain ⟨tg, a1, a2, a3, a4⟩ := h
  refine ⟨tg, h0.trans a1, a2, a3, ?_⟩
  rcases a4 with ⟨b1, b2, b3⟩ | ⟨c, f, b1, b2, b3, b4, b5, b6, b7⟩
  · exact Or.inl ⟨b1, b2, fun c => (h1 c).trans (b3 c)⟩
  · exact Or.inr ⟨c, f, b1, b2, b3, b4, (h1 c).trans b5, fun i hi => (b6 i hi).trans (congrArg some (h2 i hi).symm), fun c' hc => (h1 c').trans (b7 c' hc)⟩
/-- the class's world, one that grew in one list -/
theorem YC.addM {Z : yL} {al al' : yAl} {sh sh' : ySh} {nm ns : Nat} {mu : Nat → Nat} (h : YC Z al sh nm ns mu) (hL : YL Z al' sh' 9 20 (nm + 1)) (hk : ∀ a b, a ≠ 9 → a ≠ 10 → ¬ (a = 20 ∧ b = nm) → al' a b = al a b ∧ sh' a b = sh a b) (hn : sh' 20 nm = some (.inl (3, tgM))) (hm : nm < 6) : YC Z al' sh' (nm + 1) ns mu := by
  obtain ⟨a1, a2, a3, a4, a5, a6, a7, ⟨f, a8, a8'⟩, a9, -, a11, a12, a13, a14, a15, a16, -, a18⟩ := h
  have g : ∀ a b, a ≠ 9 → a ≠ 10 → a ≠ 20 → sh' a b = sh a b := fun a b h1 h2 h3 => (hk a b h1 h2 (fun q => h3 q.1)).2
  have ga : ∀ a b, a ≠ 9 → a ≠ 10 → a ≠ 20 → al' a b = al a b := fun a b h1 h2 h3 => (hk a b h1 h2 (fun q => h3 q.1)).1
  refine ⟨by rw [g _ _ (by omega) (by omega) (by omega)]; exact a1, by rw [g _ _ (by omega) (by omega) (by omega)]; exact a2, by rw [g _ _ (by omega) (by omega) (by omega)]; exact a3, by rw [g _ _ (by omega) (by omega) (by omega)]; exact a4, by rw [g _ _ (by omega) (by omega) (by omega)]; exact a5, by rw [g _ _ (by omega) (by omega) (by omega)]; exact a6, by rw [g _ _ (by omega) (by omega) (by omega)]; exact a7, ⟨f, by rw [g _ _ (by omega) (by omega) (by omega)]; exact a8, fun d hd => by rw [ga _ _ (by omega) (by omega) (by omega)]; exact a8' d hd⟩, fun d hd => by rw [g _ _ (by omega) (by omega) (by omega)]; exact a9 d hd, hL, a11.to (g _ _ (by omega) (by omega) (by omega)) (fun b => g _ _ (by omega) (by omega) (by omega)) (fun i _ => ga _ _ (by omega) (by omega) (by omega)), fun i hi => ?_, fun i hi => by rw [g _ _ (by omega) (by omega) (by omega)]; exact a13 i hi, fun i hi => by rw [g _ _ (by omega) (by omega) (by omega)]; exact a14 i hi, fun i hi => Nat.lt_succ_of_lt (a15 i hi), by rw [ga _ _ (by omega) (by omega) (by omega)]; exact a16, by omega, a18⟩
  by_cases e : i = nm
  · subst e; exact hn
  · rw [(hk 20 i (by omega) (by omega) (fun q => e q.2)).2]
    exact a12 i (by omega)
theorem YC.addS {Z : yL} {al al' : yAl} {sh sh' : ySh} {nm ns m : Nat} {mu : Nat → Nat} (h : YC Z al sh nm ns mu) (hL : YL Z al' sh' 11 21 (ns + 1)) (hk : ∀ a b, a ≠ 11 → a ≠ 12 → ¬ ((a = 21 ∨ a = 22) ∧ b = ns) → al' a b = al a b ∧ sh' a b = sh a b) (hn : sh' 21 ns = some (.inl (4, tgS m ns))) (hn2 : sh' 22 ns = yI Z 4) (hm : m < nm) (hs : ns < 40) : YC Z al' sh' nm (ns + 1) (fun i => if i = ns then m else mu i) := by
  obtain ⟨a1, a2, a3, a4, a5, a6, a7, ⟨f, a8, a8'⟩, a9, a10, -, a12, a13, a14, a15, a16, a17, -⟩ := h
  have g : ∀ a b, a ≠ 11 → a ≠ 12 → a ≠ 21 → a ≠ 22 → sh' a b = sh a b := fun a b h1 h2 h3 h4 => (hk a b h1 h2 (fun q => q.1.elim h3 h4)).2
  have ga : ∀ a b, a ≠ 11 → a ≠ 12 → a ≠ 21 → a ≠ 22 → al' a b = al a b := fun a b h1 h2 h3 h4 => (hk a b h1 h2 (fun q => q.1.elim h3 h4)).1
  refine ⟨by rw [g _ _ (by omega) (by omega) (by omega) (by omega)]; exact a1, by rw [g _ _ (by omega) (by omega) (by omega) (by omega)]; exact a2, by rw [g _ _ (by omega) (by omega) (by omega) (by omega)]; exact a3, by rw [g _ _ (by omega) (by omega) (by omega) (by omega)]; exact a4, by rw [g _ _ (by omega) (by omega) (by omega) (by omega)]; exact a5, by rw [g _ _ (by omega) (by omega) (by omega) (by omega)]; exact a6, by rw [g _ _ (by omega) (by omega) (by omega) (by omega)]; exact a7, ⟨f, by rw [g _ _ (by omega) (by omega) (by omega) (by omega)]; exact a8, fun d hd => by rw [ga _ _ (by omega) (by omega) (by omega) (by omega)]; exact a8' d hd⟩, fun d hd => by rw [g _ _ (by omega) (by omega) (by omega) (by omega)]; exact a9 d hd, a10.to (g _ _ (by omega) (by omega) (by omega) (by omega)) (fun b => g _ _ (by omega) (by omega) (by omega) (by omega)) (fun i _ => ga _ _ (by omega) (by omega) (by omega) (by omega)), hL, fun i hi => by rw [g _ _ (by omega) (by omega) (by omega) (by omega)]; exact a12 i hi, fun i hi => ?_, fun i hi => ?_, fun i hi => ?_, by rw [ga _ _ (by omega) (by omega) (by omega) (by omega)]; exact a16, a17, by omega⟩
  · by_cases e : i = ns
    · subst e
      show sh' 21 i = some (.inl (4, tgS (if i = i then m else mu i) i))
      rw [if_pos rfl]; exact hn
    · show sh' 21 i = some (.inl (4, tgS (if i = ns then m else mu i) i))
      rw [if_neg e, (hk 21 i (by omega) (by omega) (fun q => e q.2)).2]
      exact a13 i (by omega)
  · by_cases e : i = ns
    · subst e; exact hn2
    · rw [(hk 22 i (by omega) (by omega) (fun q => e q.2)).2]
      exact a14 i (by omega)
  · by_cases e : i = ns
    · show (if i = ns then m else mu i) < nm
      rw [if_pos e]; exact hm
    · show (if i = ns then m else mu i) < nm
      rw [if_neg e]; exact a15 i (by omega)
/-- what a new machine leaves -/
def aPost (Z : yL) (al : yAl) (sh : ySh) (S : yS) (nm ns : Nat) (mu : Nat → Nat) (p r s : Int32) : yPost := fun v9 al9 sh9 S9 => kAdd p r s nm = 0 ∧ v9 = some (.int (nI nm)) ∧ YC Z al9 sh9 (nm + 1) ns mu ∧ yFree sh9 (nm + 1) ns ∧ (∀ a b, 40 ≤ a → al9 a b = al a b ∧ sh9 a b = sh a b) ∧ al9 0 0 = al 0 0 ∧ S9 9 0 2 = nI (nm + 1) ∧ (∀ j, S9 20 nm j = fMac (szero S 20 nm) nm (nI nm) p r s 20 nm j) ∧ ∀ a b j, a ≠ 9 → a ≠ 10 → ¬ (a = 20 ∧ b = nm) → S9 a b j = S a b j
theorem fMac_o {S : yS} {i : Nat} {n p r s : Int32} {a b j : Nat} (h : ¬ (a = 20 ∧ b = i)) : fMac S i n p r s a b j = S a b j := by
  unfold fMac
  rw [sup_off _ _ h, sup_off _ _ h, sup_off _ _ h, sup_off _ _ h, sup_off _ _ h, sup_off _ _ h]
theorem szero_o {S : yS} {a b a' b' j : Nat} (h : ¬ (a' = a ∧ b' = b)) : szero S a b a' b' j = S a' b' j := by
  unfold szero; rw [if_neg h]
set_option maxHeartbeats 4000000 in
set_option maxRecDepth 100000 in
theorem c_X2_addMachine {l : Launch} (hl0 : l.stackTraces = false) {Z : yL} {al : yAl} {sh : ySh} {S : yS} {nm ns : Nat} {mu : Nat → Nat} {p r s : Int32} (hY : YC Z al sh nm ns mu) (hs9 : S 9 0 2 = nI nm) (hFr : yFree sh nm ns) : Cq l yX2_addMachine wsX2_addMachine ({ frames := 7, cells := 3, slots := 78, locals := 171 }) 3 78 Z [.ref (al 0 0), .int p, .int r, .int s] al sh S (aPost Z al sh S nm ns mu p r s) (yx [(1, xIA), (2, xIS)] (kAdd p r s nm)) := by
  obtain ⟨tg9, ht9⟩ := YL.obj hY.2.2.2.2.2.2.2.2.2.1
  refine Cq.of (lv := [(0, .ref (al 0 0)), (1, .int p), (2, .int r), (3, .int s)]) (by decide) rfl (Nat.le_of_ble_eq_true rfl) rfl ?_
  intro p_ e_ s_ m_ below_ meth_ c_ cx hlk hr htb
  by_cases hnm6 : nm = 6
  · refine j_iload_n (j := 1) cx dX2_addMachine_0 rfl rfl (pc' := 1) rfl ?_
    refine j_cSX (cells1 := 1) (slots1 := 6) (st1 := []) (As := [.int p]) (rest := []) cx (c_X2_checkPool hl0) gX2_addMachine_X2_checkPool rfl rfl rfl 1 rfl (by decide +kernel) ⟨Nat.le_of_ble_eq_true rfl, Nat.le_of_ble_eq_true rfl⟩ rfl (Nat.le_of_ble_eq_true rfl) dX2_addMachine_1 ⟨Nat.le_of_ble_eq_true rfl, Nat.le_of_ble_eq_true rfl⟩ (pc' := 4) rfl rfl rfl rfl (fun E hE => jx_out hlk htb (Nat.le_of_ble_eq_true rfl) (Nat.le_of_ble_eq_true rfl) ⟨(1, xIA), by simp, hE.1, by have hq := hE.2; simp [kAdd, *]⟩) (fun p1 => ?_)
    refine j_iload_n (j := 2) cx dX2_addMachine_4 rfl rfl (pc' := 5) rfl ?_
    refine j_iconst (v := 0) cx dX2_addMachine_5 (by decide) (pc' := 6) rfl ?_
    refine j_iconst (v := 2) cx dX2_addMachine_6 (by decide) (pc' := 7) rfl ?_
    refine j_cSR (cells1 := 1) (slots1 := 6) (st1 := [.int (bI (oR 0 2 r))]) (As := [.int r, .int 0, .int 2]) (rest := []) cx (c_X2_isOutside) gX2_addMachine_X2_isOutside rfl rfl rfl 3 rfl (by decide +kernel) ⟨Nat.le_of_ble_eq_true rfl, Nat.le_of_ble_eq_true rfl⟩ rfl (Nat.le_of_ble_eq_true rfl) dX2_addMachine_7 ⟨Nat.le_of_ble_eq_true rfl, Nat.le_of_ble_eq_true rfl⟩ (pc' := 10) rfl rfl rfl rfl ?_
    refine j_ifb_eq (tgt := 23) cx dX2_addMachine_10 (by decide) (pc' := 13) rfl (fun h3 => ?_) (fun h3 => ?_)
    · refine j_iload_n (j := 3) cx dX2_addMachine_23 rfl rfl (pc' := 24) rfl ?_
      refine j_iconst (v := 1) cx dX2_addMachine_24 (by decide) (pc' := 25) rfl ?_
      refine j_iconst (v := 4) cx dX2_addMachine_25 (by decide) (pc' := 26) rfl ?_
      refine j_cSR (cells1 := 1) (slots1 := 6) (st1 := [.int (bI (oR 1 4 s))]) (As := [.int s, .int 1, .int 4]) (rest := []) cx (c_X2_isOutside) gX2_addMachine_X2_isOutside rfl rfl rfl 3 rfl (by decide +kernel) ⟨Nat.le_of_ble_eq_true rfl, Nat.le_of_ble_eq_true rfl⟩ rfl (Nat.le_of_ble_eq_true rfl) dX2_addMachine_26 ⟨Nat.le_of_ble_eq_true rfl, Nat.le_of_ble_eq_true rfl⟩ (pc' := 29) rfl rfl rfl rfl ?_
      refine j_ifb_eq (tgt := 42) cx dX2_addMachine_29 (by decide) (pc' := 32) rfl (fun h5 => ?_) (fun h5 => ?_)
      · refine j_aload_n (j := 0) cx dX2_addMachine_42 rfl rfl (pc' := 43) rfl ?_
        refine j_get (fk := 7) (ref := "TerminalYard") (v := .ref (al 9 0)) cx hY.1 rfl (by decide +kernel) (by decide) (by decide +kernel) (fun _ h => h) (yV_r (k := (9, 0)) rfl) rfl dX2_addMachine_43 (pc' := 46) rfl ?_
        refine j_cVR (cells1 := 1) (slots1 := 6) (st1 := [.int (nI nm)]) (As := []) (rest := []) cx (YL.size hY.2.2.2.2.2.2.2.2.2.1 hs9) gX2_addMachine_Jx4a65c_size_8abf5 rfl rfl rfl 0 rfl (by decide +kernel) ⟨Nat.le_of_ble_eq_true rfl, Nat.le_of_ble_eq_true rfl⟩ ht9 rfl rfl rfl rfl (Nat.le_of_ble_eq_true rfl) dX2_addMachine_46 ⟨Nat.le_of_ble_eq_true rfl, Nat.le_of_ble_eq_true rfl⟩ (pc' := 49) rfl rfl rfl rfl ?_
        refine j_istore (lv' := [(4, .int (nI nm)), (0, .ref (al 0 0)), (1, .int p), (2, .int r), (3, .int s)]) cx dX2_addMachine_49 (by decide) rfl (pc' := 51) rfl ?_
        refine j_iload (j := 0) cx dX2_addMachine_51 rfl (pc' := 53) rfl ?_
        refine j_bipush (v := 6) cx dX2_addMachine_53 (by decide) (pc' := 55) rfl ?_
        refine j_icmp_lt (tgt := 68) cx dX2_addMachine_55 (by decide) (pc' := 58) rfl (fun h => by first | exact absurd h (fun q : nI nm < 6 => by rw [hnm6] at q; revert q; decide) | exact absurd (fun q : nI nm < 6 => by rw [hnm6] at q; revert q; decide) h) (fun _ => ?_)
        exact j_throwS (ik := 71) (ic := 75) (is := 73) (cls := "java/lang/IllegalStateException") (text := "there are 6 machines") (names := ["java/lang/RuntimeException", "java/lang/Exception"]) cx hl0 hlk htb rfl (by decide) (by decide) (by decide) (by decide +kernel) (by decide +kernel) (by decide +kernel) (by decide +kernel) (by decide +kernel) dX2_addMachine_58 dX2_addMachine_61 dX2_addMachine_62 dX2_addMachine_64 dX2_addMachine_67 (Nat.le_of_ble_eq_true rfl) (Nat.le_of_ble_eq_true rfl) (Nat.le_of_ble_eq_true rfl) (Nat.le_of_ble_eq_true rfl) (Nat.le_of_ble_eq_true rfl) (Nat.le_of_ble_eq_true rfl) ⟨(2, xIS), by simp, rfl, by simp [kAdd, *]⟩
      · exact j_throwS (ik := 58) (ic := 62) (is := 65) (cls := "java/lang/IllegalArgumentException") (text := "a machine has from 1 to 4 seats") (names := ["java/lang/RuntimeException", "java/lang/Exception"]) cx hl0 hlk htb rfl (by decide) (by decide) (by decide) (by decide +kernel) (by decide +kernel) (by decide +kernel) (by decide +kernel) (by decide +kernel) dX2_addMachine_32 dX2_addMachine_35 dX2_addMachine_36 dX2_addMachine_38 dX2_addMachine_41 (Nat.le_of_ble_eq_true rfl) (Nat.le_of_ble_eq_true rfl) (Nat.le_of_ble_eq_true rfl) (Nat.le_of_ble_eq_true rfl) (Nat.le_of_ble_eq_true rfl) (Nat.le_of_ble_eq_true rfl) ⟨(1, xIA), by simp, rfl, by simp [kAdd, *]⟩
    · exact j_throwS (ik := 58) (ic := 62) (is := 60) (cls := "java/lang/IllegalArgumentException") (text := "no such room") (names := ["java/lang/RuntimeException", "java/lang/Exception"]) cx hl0 hlk htb rfl (by decide) (by decide) (by decide) (by decide +kernel) (by decide +kernel) (by decide +kernel) (by decide +kernel) (by decide +kernel) dX2_addMachine_13 dX2_addMachine_16 dX2_addMachine_17 dX2_addMachine_19 dX2_addMachine_22 (Nat.le_of_ble_eq_true rfl) (Nat.le_of_ble_eq_true rfl) (Nat.le_of_ble_eq_true rfl) (Nat.le_of_ble_eq_true rfl) (Nat.le_of_ble_eq_true rfl) (Nat.le_of_ble_eq_true rfl) ⟨(1, xIA), by simp, rfl, by simp [kAdd, *]⟩
  have hnm5 : nm < 6 := by have := hY.2.2.2.2.2.2.2.2.2.2.2.2.2.2.2.2.1; omega
  refine j_iload_n (j := 1) cx dX2_addMachine_0 rfl rfl (pc' := 1) rfl ?_
  refine j_cSX (cells1 := 1) (slots1 := 6) (st1 := []) (As := [.int p]) (rest := []) cx (c_X2_checkPool hl0) gX2_addMachine_X2_checkPool rfl rfl rfl 1 rfl (by decide +kernel) ⟨Nat.le_of_ble_eq_true rfl, Nat.le_of_ble_eq_true rfl⟩ rfl (Nat.le_of_ble_eq_true rfl) dX2_addMachine_1 ⟨Nat.le_of_ble_eq_true rfl, Nat.le_of_ble_eq_true rfl⟩ (pc' := 4) rfl rfl rfl rfl (fun E hE => jx_out hlk htb (Nat.le_of_ble_eq_true rfl) (Nat.le_of_ble_eq_true rfl) ⟨(1, xIA), by simp, hE.1, by have hq := hE.2; simp [kAdd, *]⟩) (fun p1 => ?_)
  refine j_iload_n (j := 2) cx dX2_addMachine_4 rfl rfl (pc' := 5) rfl ?_
  refine j_iconst (v := 0) cx dX2_addMachine_5 (by decide) (pc' := 6) rfl ?_
  refine j_iconst (v := 2) cx dX2_addMachine_6 (by decide) (pc' := 7) rfl ?_
  refine j_cSR (cells1 := 1) (slots1 := 6) (st1 := [.int (bI (oR 0 2 r))]) (As := [.int r, .int 0, .int 2]) (rest := []) cx (c_X2_isOutside) gX2_addMachine_X2_isOutside rfl rfl rfl 3 rfl (by decide +kernel) ⟨Nat.le_of_ble_eq_true rfl, Nat.le_of_ble_eq_true rfl⟩ rfl (Nat.le_of_ble_eq_true rfl) dX2_addMachine_7 ⟨Nat.le_of_ble_eq_true rfl, Nat.le_of_ble_eq_true rfl⟩ (pc' := 10) rfl rfl rfl rfl ?_
  refine j_ifb_eq (tgt := 23) cx dX2_addMachine_10 (by decide) (pc' := 13) rfl (fun h3 => ?_) (fun h3 => ?_)
  · refine j_iload_n (j := 3) cx dX2_addMachine_23 rfl rfl (pc' := 24) rfl ?_
    refine j_iconst (v := 1) cx dX2_addMachine_24 (by decide) (pc' := 25) rfl ?_
    refine j_iconst (v := 4) cx dX2_addMachine_25 (by decide) (pc' := 26) rfl ?_
    refine j_cSR (cells1 := 1) (slots1 := 6) (st1 := [.int (bI (oR 1 4 s))]) (As := [.int s, .int 1, .int 4]) (rest := []) cx (c_X2_isOutside) gX2_addMachine_X2_isOutside rfl rfl rfl 3 rfl (by decide +kernel) ⟨Nat.le_of_ble_eq_true rfl, Nat.le_of_ble_eq_true rfl⟩ rfl (Nat.le_of_ble_eq_true rfl) dX2_addMachine_26 ⟨Nat.le_of_ble_eq_true rfl, Nat.le_of_ble_eq_true rfl⟩ (pc' := 29) rfl rfl rfl rfl ?_
    refine j_ifb_eq (tgt := 42) cx dX2_addMachine_29 (by decide) (pc' := 32) rfl (fun h5 => ?_) (fun h5 => ?_)
    · refine j_aload_n (j := 0) cx dX2_addMachine_42 rfl rfl (pc' := 43) rfl ?_
      refine j_get (fk := 7) (ref := "TerminalYard") (v := .ref (al 9 0)) cx hY.1 rfl (by decide +kernel) (by decide) (by decide +kernel) (fun _ h => h) (yV_r (k := (9, 0)) rfl) rfl dX2_addMachine_43 (pc' := 46) rfl ?_
      refine j_cVR (cells1 := 1) (slots1 := 6) (st1 := [.int (nI nm)]) (As := []) (rest := []) cx (YL.size hY.2.2.2.2.2.2.2.2.2.1 hs9) gX2_addMachine_Jx4a65c_size_8abf5 rfl rfl rfl 0 rfl (by decide +kernel) ⟨Nat.le_of_ble_eq_true rfl, Nat.le_of_ble_eq_true rfl⟩ ht9 rfl rfl rfl rfl (Nat.le_of_ble_eq_true rfl) dX2_addMachine_46 ⟨Nat.le_of_ble_eq_true rfl, Nat.le_of_ble_eq_true rfl⟩ (pc' := 49) rfl rfl rfl rfl ?_
      refine j_istore (lv' := [(4, .int (nI nm)), (0, .ref (al 0 0)), (1, .int p), (2, .int r), (3, .int s)]) cx dX2_addMachine_49 (by decide) rfl (pc' := 51) rfl ?_
      refine j_iload (j := 0) cx dX2_addMachine_51 rfl (pc' := 53) rfl ?_
      refine j_bipush (v := 6) cx dX2_addMachine_53 (by decide) (pc' := 55) rfl ?_
      refine j_icmp_lt (tgt := 68) cx dX2_addMachine_55 (by decide) (pc' := 58) rfl (fun _ => ?_) (fun h => by first | exact absurd h (nI_lt (b := 6) (by omega) (by omega) : nI nm < nI 6) | exact absurd (nI_lt (b := 6) (by omega) (by omega) : nI nm < nI 6) h)
      refine j_aload_n (j := 1) cx dX2_addMachine_68 rfl rfl (pc' := 69) rfl ?_
      refine j_get (fk := 7) (ref := "TerminalYard") (v := .ref (al 9 0)) cx hY.1 rfl (by decide +kernel) (by decide) (by decide +kernel) (fun _ h => h) (yV_r (k := (9, 0)) rfl) rfl dX2_addMachine_69 (pc' := 72) rfl ?_
      have hfr0 : sh 20 nm = none := hFr.1 _ (Nat.le_refl _)
      refine j_new (C := "TerminalYard$Machine") (T := TX0) (N := 6) (ci := 3) cx 20 nm hfr0 (by decide) rfl (by decide +kernel) tyX0 tyX0_ok (by decide +kernel) (by decide +kernel) (by decide +kernel) (tg := tgM) (by decide) (fun j k => by simp [tgM]) (by decide) (Nat.le_of_ble_eq_true rfl) (Nat.le_of_ble_eq_true rfl) dX2_addMachine_72 (pc' := 75) rfl (fun q => ?_)
      have hL1 : YL Z (alp al 20 nm q) (shp sh 20 nm (.inl (3, tgM))) 9 20 nm := YL.to hY.2.2.2.2.2.2.2.2.2.1 (shp_ne _ _ (by omega)) (fun b => shp_ne _ _ (by omega)) (fun i hi => alp_ne _ _ (by omega))
      have hE1 : (alp al 20 nm q) 99 0 = Z.2.2.2.1 := (alp_ne _ _ (by omega)).trans hY.2.2.2.2.2.2.2.2.2.2.2.2.2.2.2.1
      have hv1 : (shp sh 20 nm (.inl (3, tgM))) 20 nm = some (.inl (3, tgM)) := shp_self _ _ _ _
      have hel1 : ∀ i, i < nm → ∃ (tg : yTg) (r : vw_C), (shp sh 20 nm (.inl (3, tgM))) 20 i = some (.inl (3, tg)) ∧ vwCl[3]? = some r ∧ r.1 = "TerminalYard$Machine" := fun i hi => ⟨tgM, _, (shp_ne _ _ (by omega)).trans (hY.2.2.2.2.2.2.2.2.2.2.2.1 i hi), rfl, rfl⟩
      have hsz1 : (fMac (szero S 20 nm) nm (nI nm) p r s) 9 0 2 = nI nm := (fMac_o (by omega)).trans ((szero_o (by omega)).trans hs9)
      obtain ⟨tgq, htq⟩ := YL.obj hL1
      refine j_dup cx dX2_addMachine_75 rfl (pc' := 76) rfl ?_
      refine j_iload (j := 0) cx dX2_addMachine_76 rfl (pc' := 78) rfl ?_
      refine j_iload_n (j := 2) cx dX2_addMachine_78 rfl rfl (pc' := 79) rfl ?_
      refine j_iload_n (j := 3) cx dX2_addMachine_79 rfl rfl (pc' := 80) rfl ?_
      refine j_iload_n (j := 4) cx dX2_addMachine_80 rfl rfl (pc' := 81) rfl ?_
      refine j_cIP (cells1 := 2) (slots1 := 12) (As := [.int (nI nm), .int p, .int r, .int s]) (rest := [.ref q, .ref ((alp al 20 nm q) 9 0)]) cx (c_X0_init hv1 (alp_self _ _ _ _).symm) gX2_addMachine_X0_init rfl rfl rfl 4 rfl (by decide +kernel) (by decide +kernel) (by decide +kernel) rfl (by decide +kernel) ⟨(Nat.le_of_ble_eq_true rfl), (Nat.le_of_ble_eq_true rfl)⟩ rfl (Nat.le_of_ble_eq_true rfl) dX2_addMachine_81 ⟨(Nat.le_of_ble_eq_true rfl), (Nat.le_of_ble_eq_true rfl)⟩ (pc' := 84) rfl rfl rfl (fun v9 al9 sh9 S9 h9 => ?_)
      obtain ⟨e1, e2, e3, e4⟩ := h9
      subst v9 al9 sh9 S9
      refine J.stk (st2 := [.ref q, .ref ((alp al 20 nm q) 9 0)]) rfl ?_
      refine j_cVP (cells1 := 3) (slots1 := 72) (As := [.ref q]) (rest := []) cx (c_add_9 hL1 hsz1 (by omega) hE1 hel1 hv1 (alp_self _ _ _ _).symm) gX2_addMachine_Jx4a65c_add_9ea2d rfl rfl rfl 1 rfl (by decide +kernel) ⟨Nat.le_of_ble_eq_true rfl, Nat.le_of_ble_eq_true rfl⟩ htq rfl rfl rfl rfl (Nat.le_of_ble_eq_true rfl) dX2_addMachine_84 ⟨Nat.le_of_ble_eq_true rfl, Nat.le_of_ble_eq_true rfl⟩ (pc' := 87) rfl rfl rfl (fun v9 al9 sh9 S9 h9 => ?_)
      obtain ⟨e1, hL9, hk1, hk2, hk3, hk4, hk5⟩ := h9
      subst v9
      refine J.stk (st2 := [.int 1]) rfl ?_
      refine j_pop cx dX2_addMachine_87 rfl (pc' := 88) rfl ?_
      refine j_iload (j := 0) cx dX2_addMachine_88 rfl (pc' := 90) rfl ?_
      exact J.ret _ (j_iret (ty := .int) cx hlk hr rfl (Nat.le_of_ble_eq_true rfl) (Nat.le_of_ble_eq_true rfl) dX2_addMachine_90 ⟨by simp [kAdd, p1, h3, h5]; omega, rfl, YC.addM hY hL9 (fun a b h1 h2 h3 => ⟨(hk1 a b h1 h2).1.trans (alp_ne _ _ h3), (hk1 a b h1 h2).2.trans (shp_ne _ _ h3)⟩) ((hk1 20 nm (by omega) (by omega)).2.trans hv1) (by omega), ⟨fun b hb => ((hk1 20 b (by omega) (by omega)).2.trans (shp_ne _ _ (by omega))).trans (hFr.1 b (by omega)), fun b hb => ⟨((hk1 21 b (by omega) (by omega)).2.trans (shp_ne _ _ (by omega))).trans (hFr.2 b hb).1, ((hk1 22 b (by omega) (by omega)).2.trans (shp_ne _ _ (by omega))).trans (hFr.2 b hb).2⟩⟩, fun a b h => ⟨(hk1 a b (by omega) (by omega)).1.trans (alp_ne _ _ (by omega)), (hk1 a b (by omega) (by omega)).2.trans (shp_ne _ _ (by omega))⟩, (hk1 0 0 (by omega) (by omega)).1.trans (alp_ne _ _ (by omega)), hk2, fun j => hk3 20 nm j (by omega) (by omega), fun a b j h1 h2 h3 => (hk3 a b j h1 h2).trans ((fMac_o h3).trans (szero_o h3))⟩)
    · exact j_throwS (ik := 58) (ic := 62) (is := 65) (cls := "java/lang/IllegalArgumentException") (text := "a machine has from 1 to 4 seats") (names := ["java/lang/RuntimeException", "java/lang/Exception"]) cx hl0 hlk htb rfl (by decide) (by decide) (by decide) (by decide +kernel) (by decide +kernel) (by decide +kernel) (by decide +kernel) (by decide +kernel) dX2_addMachine_32 dX2_addMachine_35 dX2_addMachine_36 dX2_addMachine_38 dX2_addMachine_41 (Nat.le_of_ble_eq_true rfl) (Nat.le_of_ble_eq_true rfl) (Nat.le_of_ble_eq_true rfl) (Nat.le_of_ble_eq_true rfl) (Nat.le_of_ble_eq_true rfl) (Nat.le_of_ble_eq_true rfl) ⟨(1, xIA), by simp, rfl, by simp [kAdd, *]⟩
  · exact j_throwS (ik := 58) (ic := 62) (is := 60) (cls := "java/lang/IllegalArgumentException") (text := "no such room") (names := ["java/lang/RuntimeException", "java/lang/Exception"]) cx hl0 hlk htb rfl (by decide) (by decide) (by decide) (by decide +kernel) (by decide +kernel) (by decide +kernel) (by decide +kernel) (by decide +kernel) dX2_addMachine_13 dX2_addMachine_16 dX2_addMachine_17 dX2_addMachine_19 dX2_addMachine_22 (Nat.le_of_ble_eq_true rfl) (Nat.le_of_ble_eq_true rfl) (Nat.le_of_ble_eq_true rfl) (Nat.le_of_ble_eq_true rfl) (Nat.le_of_ble_eq_true rfl) (Nat.le_of_ble_eq_true rfl) ⟨(1, xIA), by simp, rfl, by simp [kAdd, *]⟩
